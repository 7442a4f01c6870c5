/-! printed by wip/whole/gen/lawwords.py -/
theorem goodIn_cons9 {big a : List Cond} {c : Cond} (ha : GoodIn big [c]) (hb : GoodIn big a) : GoodIn big (c :: a) := fun w h => (List.mem_cons.mp h).elim (fun e => ha w (by rw [e]; exact List.mem_singleton.mpr rfl)) (hb w)
set_option maxRecDepth 20000 in
theorem gF_wsX9_init_r1 : GoodIn lw_tbl wsX9_init_r1 := (goodIn_r _ [83, 84, 85, 86, 87, 60, 386, 116, 117, 63, 387, 147, 148, 64, 388, 181, 182, 65, 389, 216, 217, 66, 390, 276] (by decide +kernel) (by decide +kernel))
set_option maxRecDepth 20000 in
theorem gF_wsX9_init_r2 : GoodIn lw_tbl wsX9_init_r2 := (goodIn_r _ [277, 67, 391, 297, 298, 68, 392, 353, 354, 69, 393, 384, 93, 61, 394, 395, 396, 89, 90, 91, 92, 106, 94, 95] (by decide +kernel) (by decide +kernel))
set_option maxRecDepth 20000 in
theorem gF_wsX9_init_r3 : GoodIn lw_tbl wsX9_init_r3 := (goodIn_r _ [96, 97, 98, 99, 62, 100, 105, 101, 119, 120, 121, 122, 124, 123, 150, 151, 152, 153, 155, 157, 158, 159, 160, 161] (by decide +kernel) (by decide +kernel))
set_option maxRecDepth 20000 in
theorem gF_wsX9_init_r4 : GoodIn lw_tbl wsX9_init_r4 := (goodIn_r _ [162, 163, 154, 184, 185, 186, 187, 191, 193, 195, 197, 199, 200, 188, 219, 220, 221, 222, 226, 228, 230, 232, 234, 236] (by decide +kernel) (by decide +kernel))
set_option maxRecDepth 20000 in
theorem gF_wsX9_init_r5 : GoodIn lw_tbl wsX9_init_r5 := (goodIn_r _ [238, 240, 242, 244, 246, 248, 223, 279, 280, 281, 282, 286, 288, 283, 300, 301, 302, 303, 307, 309, 311, 313, 315, 317] (by decide +kernel) (by decide +kernel))
set_option maxRecDepth 20000 in
theorem gF_wsX9_init_r6 : GoodIn lw_tbl wsX9_init_r6 := (goodIn_r _ [319, 321, 323, 325, 327, 304, 356, 357, 358, 385] (by decide +kernel) (by decide +kernel))
set_option maxRecDepth 20000 in
theorem gF_wsX10 : GoodIn lw_tbl wsX10 := goodIn_sub (by decide +kernel) (by decide +kernel)
set_option maxRecDepth 20000 in
theorem gF_wsX90 : GoodIn lw_tbl wsX90 := goodIn_sub (by decide +kernel) (by decide +kernel)
set_option maxRecDepth 20000 in
theorem gF_wsX00 : GoodIn lw_tbl wsX00 := goodIn_sub (by decide +kernel) (by decide +kernel)
set_option maxRecDepth 20000 in
theorem gF_wsX60 : GoodIn lw_tbl wsX60 := goodIn_sub (by decide +kernel) (by decide +kernel)
set_option maxRecDepth 20000 in
theorem gF_wsX30 : GoodIn lw_tbl wsX30 := goodIn_sub (by decide +kernel) (by decide +kernel)
set_option maxRecDepth 20000 in
theorem gF_wsX40 : GoodIn lw_tbl wsX40 := goodIn_sub (by decide +kernel) (by decide +kernel)
set_option maxRecDepth 20000 in
theorem gF_wsX70 : GoodIn lw_tbl wsX70 := goodIn_sub (by decide +kernel) (by decide +kernel)
set_option maxRecDepth 20000 in
theorem gF_wsX20 : GoodIn lw_tbl wsX20 := goodIn_sub (by decide +kernel) (by decide +kernel)
set_option maxRecDepth 20000 in
theorem gF_wsX80 : GoodIn lw_tbl wsX80 := goodIn_sub (by decide +kernel) (by decide +kernel)
set_option maxRecDepth 20000 in
theorem gF_wsX50 : GoodIn lw_tbl wsX50 := goodIn_sub (by decide +kernel) (by decide +kernel)
set_option maxRecDepth 20000 in
theorem gF_wsX9_init : GoodIn lw_tbl wsX9_init := goodIn_cons9 (goodIn_r _ [82] (by decide +kernel) (by decide +kernel)) (goodIn_app (goodIn_app (goodIn_app (goodIn_app (goodIn_app (goodIn_app (goodIn_app (goodIn_app (goodIn_app (goodIn_app (goodIn_app gF_wsX9_init_r1 (goodIn_app gF_wsX9_init_r2 (goodIn_app gF_wsX9_init_r3 (goodIn_app gF_wsX9_init_r4 (goodIn_app gF_wsX9_init_r5 gF_wsX9_init_r6))))) gF_wsX10) gF_wsX90) gF_wsX00) gF_wsX60) gF_wsX30) gF_wsX40) gF_wsX70) gF_wsX20) gF_wsX80) gF_wsX50)
set_option maxRecDepth 20000 in
theorem gF_wsX10_init_r1 : GoodIn lw_tbl wsX10_init_r1 := (goodIn_r _ [1026, 84, 85, 105, 1029, 1030, 1032, 1033, 1151, 1034, 1035, 1036, 1037, 1039, 1040, 1041, 1042, 1043, 1045, 1046, 1047, 1048, 1049, 1050] (by decide +kernel) (by decide +kernel))
set_option maxRecDepth 20000 in
theorem gF_wsX10_init_r2 : GoodIn lw_tbl wsX10_init_r2 := (goodIn_r _ [1051, 1052, 1053, 1055, 1056, 1058, 1059, 1060, 1061, 1062, 1063, 1064, 1065, 1066, 1067] (by decide +kernel) (by decide +kernel))
set_option maxRecDepth 20000 in
theorem gF_wsX100 : GoodIn lw_tbl wsX100 := goodIn_sub (by decide +kernel) (by decide +kernel)
set_option maxRecDepth 20000 in
theorem gF_wsX10_init : GoodIn lw_tbl wsX10_init := goodIn_cons9 (goodIn_r _ [1025] (by decide +kernel) (by decide +kernel)) (goodIn_app (goodIn_app gF_wsX10_init_r1 gF_wsX10_init_r2) gF_wsX100)
set_option maxRecDepth 20000 in
theorem gF_wsL_pupil_r1 : GoodIn lw_tbl wsL_pupil_r1 := (goodIn_r _ [508, 509, 510, 511, 512, 59, 513, 514, 74, 577, 75, 389, 190, 592, 593, 594, 65, 595, 189, 191, 199, 193, 197, 596] (by decide +kernel) (by decide +kernel))
set_option maxRecDepth 20000 in
theorem gF_wsL_pupil_r2 : GoodIn lw_tbl wsL_pupil_r2 := (goodIn_r _ [597, 598, 61, 599, 101, 600, 601, 602, 603] (by decide +kernel) (by decide +kernel))
set_option maxRecDepth 20000 in
theorem gF_x83 : GoodIn lw_tbl ((vx_at0 RX9 83 (exN 1) exS).filter goodWord) := goodIn_sub (by decide +kernel) (by decide +kernel)
set_option maxRecDepth 20000 in
theorem gF_x89 : GoodIn lw_tbl ((vx_at0 RX9 89 (exN 2) exS).filter goodWord) := goodIn_sub (by decide +kernel) (by decide +kernel)
set_option maxRecDepth 20000 in
theorem gF_wsL_pupil : GoodIn lw_tbl wsL_pupil := goodIn_cons9 (goodIn_r _ [507] (by decide +kernel) (by decide +kernel)) (goodIn_app (goodIn_app (goodIn_app (goodIn_app (goodIn_app (goodIn_app gF_wsL_pupil_r1 gF_wsL_pupil_r2) gF_wsX90) gF_wsX30) gF_wsX50) gF_x83) gF_x89)
set_option maxRecDepth 20000 in
theorem gT_L_pupil : GoodIn lw_tbl (va_wsS RL 102 yL_pupil wsL_pupil) := goodIn_app (goodIn_r _ [505, 506, 58] (by decide +kernel) (by decide +kernel)) gF_wsL_pupil
set_option maxRecDepth 20000 in
theorem gF_wsX10_pupil : GoodIn lw_tbl wsX10_pupil := goodIn_cons9 (goodIn_r _ [1159] (by decide +kernel) (by decide +kernel)) (goodIn_app (goodIn_r _ [1031, 1032, 1033, 1034, 1160, 1161, 70, 1162, 1163, 1165, 32, 1166, 1027] (by decide +kernel) (by decide +kernel)) gF_wsX100)
set_option maxRecDepth 20000 in
theorem gT_X10_pupil : GoodIn lw_tbl (wsV RL 107 RX10 yX10_pupil wsX10_pupil) := goodIn_app (goodIn_r _ [1156, 1157, 1158, 70] (by decide +kernel) (by decide +kernel)) gF_wsX10_pupil
set_option maxRecDepth 20000 in
theorem gF_wsX10_thrown : GoodIn lw_tbl wsX10_thrown := goodIn_cons9 (goodIn_r _ [1155] (by decide +kernel) (by decide +kernel)) (goodIn_app (goodIn_r _ [1027] (by decide +kernel) (by decide +kernel)) gF_wsX100)
set_option maxRecDepth 20000 in
theorem gT_X10_thrown : GoodIn lw_tbl (wsV RL 108 RX10 yX10_thrown wsX10_thrown) := goodIn_app (goodIn_r _ [1152, 1153, 1154, 70] (by decide +kernel) (by decide +kernel)) gF_wsX10_thrown
set_option maxRecDepth 20000 in
theorem gF_wsL_gift_r1 : GoodIn lw_tbl wsL_gift_r1 := (goodIn_r _ [607, 508, 608, 609, 610, 59, 611, 616, 76, 514, 74, 389, 196, 612, 613, 614, 65, 615, 189, 436, 437, 438, 61, 439] (by decide +kernel) (by decide +kernel))
set_option maxRecDepth 20000 in
theorem gF_wsL_gift_r2 : GoodIn lw_tbl wsL_gift_r2 := (goodIn_r _ [101, 631, 597, 598, 599] (by decide +kernel) (by decide +kernel))
set_option maxRecDepth 20000 in
theorem gF_x100 : GoodIn lw_tbl ((vx_at0 RX9 100 (exN 3) exS).filter goodWord) := goodIn_sub (by decide +kernel) (by decide +kernel)
set_option maxRecDepth 20000 in
theorem gF_wsL_gift : GoodIn lw_tbl wsL_gift := goodIn_cons9 (goodIn_r _ [606] (by decide +kernel) (by decide +kernel)) (goodIn_app (goodIn_app (goodIn_app (goodIn_app (goodIn_app (goodIn_app gF_wsL_gift_r1 gF_wsL_gift_r2) gF_wsX90) gF_wsX30) gF_wsX50) gF_x100) gF_x83)
set_option maxRecDepth 20000 in
theorem gT_L_gift : GoodIn lw_tbl (va_wsS RL 111 yL_gift wsL_gift) := goodIn_app (goodIn_r _ [604, 605, 58] (by decide +kernel) (by decide +kernel)) gF_wsL_gift
set_option maxRecDepth 20000 in
theorem gF_wsX10_gift : GoodIn lw_tbl wsX10_gift := goodIn_cons9 (goodIn_r _ [1170] (by decide +kernel) (by decide +kernel)) (goodIn_app (goodIn_r _ [1035, 1171, 1173, 33, 70, 1174, 1031, 1160, 1161, 1162, 1163, 1165, 32, 1166, 1027] (by decide +kernel) (by decide +kernel)) gF_wsX100)
set_option maxRecDepth 20000 in
theorem gT_X10_gift : GoodIn lw_tbl (wsV RL 114 RX10 yX10_gift wsX10_gift) := goodIn_app (goodIn_r _ [1167, 1168, 1169, 70] (by decide +kernel) (by decide +kernel)) gF_wsX10_gift
set_option maxRecDepth 20000 in
theorem gF_wsL_type_r1 : GoodIn lw_tbl wsL_type_r1 := (goodIn_r _ [508, 509, 635, 636, 637, 59, 638, 514, 74, 577, 75, 386, 110, 639, 640, 641, 60, 642, 108, 106, 643, 597, 598, 61] (by decide +kernel) (by decide +kernel))
set_option maxRecDepth 20000 in
theorem gF_wsL_type_r2 : GoodIn lw_tbl wsL_type_r2 := (goodIn_r _ [599, 101] (by decide +kernel) (by decide +kernel))
set_option maxRecDepth 20000 in
theorem gF_wsL_type : GoodIn lw_tbl wsL_type := goodIn_cons9 (goodIn_r _ [634] (by decide +kernel) (by decide +kernel)) (goodIn_app (goodIn_app (goodIn_app (goodIn_app (goodIn_app (goodIn_app gF_wsL_type_r1 gF_wsL_type_r2) gF_wsX90) gF_wsX10) gF_wsX50) gF_x83) gF_x89)
set_option maxRecDepth 20000 in
theorem gT_L_type : GoodIn lw_tbl (va_wsS RL 115 yL_type wsL_type) := goodIn_app (goodIn_r _ [632, 633, 58] (by decide +kernel) (by decide +kernel)) gF_wsL_type
set_option maxRecDepth 20000 in
theorem gF_wsX10_type : GoodIn lw_tbl wsX10_type := goodIn_cons9 (goodIn_r _ [1178] (by decide +kernel) (by decide +kernel)) (goodIn_app (goodIn_r _ [1028, 1029, 1160, 1161, 70, 1162, 1163, 1165, 32, 1166, 1027] (by decide +kernel) (by decide +kernel)) gF_wsX100)
set_option maxRecDepth 20000 in
theorem gT_X10_type : GoodIn lw_tbl (wsV RL 118 RX10 yX10_type wsX10_type) := goodIn_app (goodIn_r _ [1175, 1176, 1177, 70] (by decide +kernel) (by decide +kernel)) gF_wsX10_type
set_option maxRecDepth 20000 in
theorem gF_wsL_scheme_r1 : GoodIn lw_tbl wsL_scheme_r1 := (goodIn_r _ [607, 509, 647, 648, 649, 59, 650, 616, 76, 577, 75, 388, 156, 387, 386, 651, 652, 653, 436, 437, 438, 61, 439, 101] (by decide +kernel) (by decide +kernel))
set_option maxRecDepth 20000 in
theorem gF_wsL_scheme_r2 : GoodIn lw_tbl wsL_scheme_r2 := (goodIn_r _ [654, 655, 656, 63, 657, 109, 107, 133, 132, 658, 660, 6, 661, 126, 128, 130, 662, 663, 665, 7, 666, 667, 669, 8] (by decide +kernel) (by decide +kernel))
set_option maxRecDepth 20000 in
theorem gF_wsL_scheme_r3 : GoodIn lw_tbl wsL_scheme_r3 := (goodIn_r _ [670, 124, 671, 597, 598, 599, 672, 674, 9, 675, 676, 678, 10, 679, 680, 682, 11, 683, 684, 686, 12, 687, 688, 690] (by decide +kernel) (by decide +kernel))
set_option maxRecDepth 20000 in
theorem gF_wsL_scheme_r4 : GoodIn lw_tbl wsL_scheme_r4 := (goodIn_r _ [13, 691, 692, 693, 694, 60, 695, 108, 696, 697, 698, 64, 699, 155, 127, 157, 125, 158, 159, 129, 160, 131, 700, 701] (by decide +kernel) (by decide +kernel))
set_option maxRecDepth 20000 in
theorem gF_wsL_scheme_r5 : GoodIn lw_tbl wsL_scheme_r5 := (goodIn_r _ [702, 703, 704, 705, 706, 708, 14, 709, 392, 306, 308, 320, 312, 710, 712, 15, 713, 316, 314, 468, 469, 470, 471, 714] (by decide +kernel) (by decide +kernel))
set_option maxRecDepth 20000 in
theorem gF_wsL_scheme_r6 : GoodIn lw_tbl wsL_scheme_r6 := (goodIn_r _ [715, 716, 717, 718, 719, 720, 721, 722, 723, 724, 725, 161, 163, 162, 735, 736, 62, 737, 726, 728, 16, 729, 730, 732] (by decide +kernel) (by decide +kernel))
set_option maxRecDepth 20000 in
theorem gF_wsL_scheme_r7 : GoodIn lw_tbl wsL_scheme_r7 := (goodIn_r _ [17, 733, 734, 99, 100, 631] (by decide +kernel) (by decide +kernel))
set_option maxRecDepth 20000 in
theorem gF_wsL_scheme : GoodIn lw_tbl wsL_scheme := goodIn_cons9 (goodIn_r _ [646] (by decide +kernel) (by decide +kernel)) (goodIn_app (goodIn_app (goodIn_app (goodIn_app (goodIn_app (goodIn_app (goodIn_app (goodIn_app (goodIn_app gF_wsL_scheme_r1 (goodIn_app gF_wsL_scheme_r2 (goodIn_app gF_wsL_scheme_r3 (goodIn_app gF_wsL_scheme_r4 (goodIn_app gF_wsL_scheme_r5 (goodIn_app gF_wsL_scheme_r6 gF_wsL_scheme_r7)))))) gF_wsX90) gF_wsX60) gF_wsX50) gF_wsX10) gF_wsX00) gF_wsX20) gF_x100) gF_x89)
set_option maxRecDepth 20000 in
theorem gT_L_scheme : GoodIn lw_tbl (va_wsS RL 119 yL_scheme wsL_scheme) := goodIn_app (goodIn_r _ [644, 645, 58] (by decide +kernel) (by decide +kernel)) gF_wsL_scheme
set_option maxRecDepth 20000 in
theorem gF_wsX10_scheme : GoodIn lw_tbl wsX10_scheme := goodIn_cons9 (goodIn_r _ [1182] (by decide +kernel) (by decide +kernel)) (goodIn_app (goodIn_r _ [1040, 1028, 1042, 1067, 1041, 1183, 1184, 70, 1185, 1160, 1161, 1162, 1163, 1165, 32, 1166, 1027, 1186, 1188, 34, 1189, 1029] (by decide +kernel) (by decide +kernel)) gF_wsX100)
set_option maxRecDepth 20000 in
theorem gT_X10_scheme : GoodIn lw_tbl (wsV RL 121 RX10 yX10_scheme wsX10_scheme) := goodIn_app (goodIn_r _ [1179, 1180, 1181, 70] (by decide +kernel) (by decide +kernel)) gF_wsX10_scheme
set_option maxRecDepth 20000 in
theorem gF_wsL_twice : GoodIn lw_tbl wsL_twice := goodIn_cons9 (goodIn_r _ [740] (by decide +kernel) (by decide +kernel)) (goodIn_app (goodIn_app (goodIn_app (goodIn_r _ [607, 741, 742, 743, 59, 744, 616, 76, 394, 651, 652, 653, 468, 469, 470, 61, 471, 101, 745, 601, 602, 603] (by decide +kernel) (by decide +kernel)) gF_wsX90) gF_wsX50) gF_x100)
set_option maxRecDepth 20000 in
theorem gT_L_twice : GoodIn lw_tbl (va_wsS RL 122 yL_twice wsL_twice) := goodIn_app (goodIn_r _ [738, 739, 58] (by decide +kernel) (by decide +kernel)) gF_wsL_twice
set_option maxRecDepth 20000 in
theorem gF_wsX10_twice : GoodIn lw_tbl wsX10_twice := goodIn_cons9 (goodIn_r _ [1193] (by decide +kernel) (by decide +kernel)) (goodIn_app (goodIn_r _ [1043, 1183, 1184, 70, 1185, 1160, 1161, 1162, 1194, 1196, 35, 1197, 1027] (by decide +kernel) (by decide +kernel)) gF_wsX100)
set_option maxRecDepth 20000 in
theorem gT_X10_twice : GoodIn lw_tbl (wsV RL 125 RX10 yX10_twice wsX10_twice) := goodIn_app (goodIn_r _ [1190, 1191, 1192, 70] (by decide +kernel) (by decide +kernel)) gF_wsX10_twice
set_option maxRecDepth 20000 in
theorem gF_wsL_tolerance : GoodIn lw_tbl wsL_tolerance := goodIn_cons9 (goodIn_r _ [748] (by decide +kernel) (by decide +kernel)) (goodIn_app (goodIn_app (goodIn_r _ [508, 749, 750, 751, 59, 752, 514, 74, 396] (by decide +kernel) (by decide +kernel)) gF_wsX90) gF_x83)
set_option maxRecDepth 20000 in
theorem gT_L_tolerance : GoodIn lw_tbl (va_wsS RL 126 yL_tolerance wsL_tolerance) := goodIn_app (goodIn_r _ [746, 747, 58] (by decide +kernel) (by decide +kernel)) gF_wsL_tolerance
set_option maxRecDepth 20000 in
theorem gF_wsX10_tolerance : GoodIn lw_tbl wsX10_tolerance := goodIn_cons9 (goodIn_r _ [1201] (by decide +kernel) (by decide +kernel)) (goodIn_app (goodIn_r _ [1030, 1160, 1161, 70, 1162, 1194, 1196, 35, 1197, 1027] (by decide +kernel) (by decide +kernel)) gF_wsX100)
set_option maxRecDepth 20000 in
theorem gT_X10_tolerance : GoodIn lw_tbl (wsV RL 128 RX10 yX10_tolerance wsX10_tolerance) := goodIn_app (goodIn_r _ [1198, 1199, 1200, 70] (by decide +kernel) (by decide +kernel)) gF_wsX10_tolerance
set_option maxRecDepth 20000 in
theorem gF_wsL_reader_r1 : GoodIn lw_tbl wsL_reader_r1 := (goodIn_r _ [508, 509, 756, 757, 758, 59, 759, 514, 74, 577, 75, 390, 225, 760, 761, 762, 66, 763, 224, 226, 248, 228, 232, 764] (by decide +kernel) (by decide +kernel))
set_option maxRecDepth 20000 in
theorem gF_wsL_reader_r2 : GoodIn lw_tbl wsL_reader_r2 := (goodIn_r _ [597, 598, 61, 599, 101, 765, 601, 602, 603] (by decide +kernel) (by decide +kernel))
set_option maxRecDepth 20000 in
theorem gF_wsL_reader : GoodIn lw_tbl wsL_reader := goodIn_cons9 (goodIn_r _ [755] (by decide +kernel) (by decide +kernel)) (goodIn_app (goodIn_app (goodIn_app (goodIn_app (goodIn_app (goodIn_app gF_wsL_reader_r1 gF_wsL_reader_r2) gF_wsX90) gF_wsX40) gF_wsX50) gF_x83) gF_x89)
set_option maxRecDepth 20000 in
theorem gT_L_reader : GoodIn lw_tbl (va_wsS RL 129 yL_reader wsL_reader) := goodIn_app (goodIn_r _ [753, 754, 58] (by decide +kernel) (by decide +kernel)) gF_wsL_reader
set_option maxRecDepth 20000 in
theorem gF_wsX10_reader : GoodIn lw_tbl wsX10_reader := goodIn_cons9 (goodIn_r _ [1205] (by decide +kernel) (by decide +kernel)) (goodIn_app (goodIn_r _ [1044, 1045, 1046, 1047, 1049, 1160, 1161, 70, 1162, 1163, 1165, 32, 1166, 1027] (by decide +kernel) (by decide +kernel)) gF_wsX100)
set_option maxRecDepth 20000 in
theorem gT_X10_reader : GoodIn lw_tbl (wsV RL 131 RX10 yX10_reader wsX10_reader) := goodIn_app (goodIn_r _ [1202, 1203, 1204, 70] (by decide +kernel) (by decide +kernel)) gF_wsX10_reader
set_option maxRecDepth 20000 in
theorem gF_wsL_seed_r1 : GoodIn lw_tbl wsL_seed_r1 := (goodIn_r _ [607, 508, 509, 769, 770, 771, 59, 772, 616, 76, 514, 74, 577, 75, 391, 285, 388, 651, 652, 653, 773, 774, 775, 776] (by decide +kernel) (by decide +kernel))
set_option maxRecDepth 20000 in
theorem gF_wsL_seed_r2 : GoodIn lw_tbl wsL_seed_r2 := (goodIn_r _ [777, 778, 64, 779, 155, 700, 437, 438, 61, 439, 101, 780, 781, 782, 67, 783, 284, 286, 288, 784, 597, 598, 599] (by decide +kernel) (by decide +kernel))
set_option maxRecDepth 20000 in
theorem gF_wsL_seed : GoodIn lw_tbl wsL_seed := goodIn_cons9 (goodIn_r _ [768] (by decide +kernel) (by decide +kernel)) (goodIn_app (goodIn_app (goodIn_app (goodIn_app (goodIn_app (goodIn_app (goodIn_app (goodIn_app gF_wsL_seed_r1 gF_wsL_seed_r2) gF_wsX90) gF_wsX70) gF_wsX60) gF_wsX50) gF_x100) gF_x83) gF_x89)
set_option maxRecDepth 20000 in
theorem gT_L_seed : GoodIn lw_tbl (va_wsS RL 132 yL_seed wsL_seed) := goodIn_app (goodIn_r _ [766, 767, 58] (by decide +kernel) (by decide +kernel)) gF_wsL_seed
set_option maxRecDepth 20000 in
theorem gF_wsX10_seed : GoodIn lw_tbl wsX10_seed := goodIn_cons9 (goodIn_r _ [1209] (by decide +kernel) (by decide +kernel)) (goodIn_app (goodIn_r _ [1054, 1040, 1055, 1056, 1183, 1184, 70, 1185, 1160, 1161, 1162, 1210, 1212, 36, 1213, 1027] (by decide +kernel) (by decide +kernel)) gF_wsX100)
set_option maxRecDepth 20000 in
theorem gT_X10_seed : GoodIn lw_tbl (wsV RL 134 RX10 yX10_seed wsX10_seed) := goodIn_app (goodIn_r _ [1206, 1207, 1208, 70] (by decide +kernel) (by decide +kernel)) gF_wsX10_seed
set_option maxRecDepth 20000 in
theorem gF_wsL_next_r1 : GoodIn lw_tbl wsL_next_r1 := (goodIn_r _ [607, 509, 788, 789, 790, 59, 791, 616, 76, 577, 75, 390, 231, 233, 792, 793, 794, 66, 795, 224, 468, 469, 470, 61] (by decide +kernel) (by decide +kernel))
set_option maxRecDepth 20000 in
theorem gF_wsL_next_r2 : GoodIn lw_tbl wsL_next_r2 := (goodIn_r _ [471, 101, 436, 437, 438, 439, 796, 798, 18, 799, 391, 287, 800, 802, 19, 803, 243, 285, 247, 804, 805, 806, 807, 248] (by decide +kernel) (by decide +kernel))
set_option maxRecDepth 20000 in
theorem gF_wsL_next_r3 : GoodIn lw_tbl wsL_next_r3 := (goodIn_r _ [808, 809, 810, 811, 812, 232, 234, 246, 764, 597, 598, 599, 813, 815, 20, 816, 389, 190, 194, 393, 394, 396, 817, 819] (by decide +kernel) (by decide +kernel))
set_option maxRecDepth 20000 in
theorem gF_wsL_next_r4 : GoodIn lw_tbl wsL_next_r4 := (goodIn_r _ [21, 820, 192, 227, 388, 229, 452, 453, 454, 65, 455, 199, 456, 776, 777, 778, 64, 779, 155, 700, 465, 466, 467, 821] (by decide +kernel) (by decide +kernel))
set_option maxRecDepth 20000 in
theorem gF_wsL_next_r5 : GoodIn lw_tbl wsL_next_r5 := (goodIn_r _ [823, 22, 824, 392, 326, 324, 310, 320, 322, 496, 498, 4, 499, 364, 457, 459, 3, 460, 318, 461, 462, 463, 69, 464] (by decide +kernel) (by decide +kernel))
set_option maxRecDepth 20000 in
theorem gF_wsL_next_r6 : GoodIn lw_tbl wsL_next_r6 := (goodIn_r _ [359, 361, 365, 366, 367, 368, 363, 472, 473, 474, 475, 500, 481, 482, 483, 484, 485, 486, 487, 489, 490, 501, 502, 503] (by decide +kernel) (by decide +kernel))
set_option maxRecDepth 20000 in
theorem gF_wsL_next_r7 : GoodIn lw_tbl wsL_next_r7 := (goodIn_r _ [504, 200, 825, 826, 827, 828, 829, 830, 831, 832, 833, 834, 835, 836, 236, 765, 601, 602, 603] (by decide +kernel) (by decide +kernel))
set_option maxRecDepth 20000 in
theorem gF_wsL_next : GoodIn lw_tbl wsL_next := goodIn_cons9 (goodIn_r _ [787] (by decide +kernel) (by decide +kernel)) (goodIn_app (goodIn_app (goodIn_app (goodIn_app (goodIn_app (goodIn_app (goodIn_app (goodIn_app (goodIn_app (goodIn_app (goodIn_app gF_wsL_next_r1 (goodIn_app gF_wsL_next_r2 (goodIn_app gF_wsL_next_r3 (goodIn_app gF_wsL_next_r4 (goodIn_app gF_wsL_next_r5 (goodIn_app gF_wsL_next_r6 gF_wsL_next_r7)))))) gF_wsX90) gF_wsX40) gF_wsX50) gF_wsX70) gF_wsX30) gF_wsX60) gF_wsX20) gF_wsX80) gF_x100) gF_x89)
set_option maxRecDepth 20000 in
theorem gT_L_next : GoodIn lw_tbl (va_wsS RL 135 yL_next wsL_next) := goodIn_app (goodIn_r _ [785, 786, 58] (by decide +kernel) (by decide +kernel)) gF_wsL_next
set_option maxRecDepth 20000 in
theorem gF_wsX10_next_r1 : GoodIn lw_tbl wsX10_next_r1 := (goodIn_r _ [1048, 1054, 1049, 1051, 1053, 1046, 1055, 1031, 1034, 1050, 1218, 1220, 37, 70, 1221, 1044, 1160, 1161, 1162, 1163, 1165, 32, 1166, 1027] (by decide +kernel) (by decide +kernel))
set_option maxRecDepth 20000 in
theorem gF_wsX10_next_r2 : GoodIn lw_tbl wsX10_next_r2 := (goodIn_r _ [1222, 1224, 38, 1225, 1032, 1045, 1040, 1057, 1058, 1059, 1047, 1226, 1228, 39, 1229, 1033, 1230, 1232, 40, 1233, 1062, 1042, 1061, 1234] (by decide +kernel) (by decide +kernel))
set_option maxRecDepth 20000 in
theorem gF_wsX10_next_r3 : GoodIn lw_tbl wsX10_next_r3 := (goodIn_r _ [1236, 41, 1237, 1238, 1240, 42, 1241, 1036, 1242, 1244, 43, 1245, 1043, 1246, 1248, 44, 1249, 1063, 1250, 1252, 45, 1253, 1030, 1254] (by decide +kernel) (by decide +kernel))
set_option maxRecDepth 20000 in
theorem gF_wsX10_next_r4 : GoodIn lw_tbl wsX10_next_r4 := (goodIn_r _ [1256, 46, 1257, 1060, 1258, 1260, 47, 1261, 1064, 1041, 1066, 1065, 1262, 1263, 1264, 1265, 1267, 48, 1268, 1269, 1271, 49, 1272, 1273] (by decide +kernel) (by decide +kernel))
set_option maxRecDepth 20000 in
theorem gF_wsX10_next_r5 : GoodIn lw_tbl wsX10_next_r5 := (goodIn_r _ [1275, 50, 1276, 1277, 1279, 51, 1280] (by decide +kernel) (by decide +kernel))
set_option maxRecDepth 20000 in
theorem gF_wsX10_next : GoodIn lw_tbl wsX10_next := goodIn_cons9 (goodIn_r _ [1217] (by decide +kernel) (by decide +kernel)) (goodIn_app (goodIn_app gF_wsX10_next_r1 (goodIn_app gF_wsX10_next_r2 (goodIn_app gF_wsX10_next_r3 (goodIn_app gF_wsX10_next_r4 gF_wsX10_next_r5)))) gF_wsX100)
set_option maxRecDepth 20000 in
theorem gT_X10_next : GoodIn lw_tbl (wsV RL 137 RX10 yX10_next wsX10_next) := goodIn_app (goodIn_r _ [1214, 1215, 1216, 70] (by decide +kernel) (by decide +kernel)) gF_wsX10_next
set_option maxRecDepth 20000 in
theorem gF_wsL_read_r1 : GoodIn lw_tbl wsL_read_r1 := (goodIn_r _ [607, 508, 509, 840, 841, 842, 59, 843, 616, 76, 514, 74, 577, 75, 390, 233, 392, 306, 792, 793, 794, 66, 795, 224] (by decide +kernel) (by decide +kernel))
set_option maxRecDepth 20000 in
theorem gF_wsL_read_r2 : GoodIn lw_tbl wsL_read_r2 := (goodIn_r _ [773, 774, 775, 436, 437, 438, 61, 439, 101, 844, 846, 23, 847, 235, 391, 287, 388, 289, 396, 718, 719, 720, 64, 721] (by decide +kernel) (by decide +kernel))
set_option maxRecDepth 20000 in
theorem gF_wsL_read_r3 : GoodIn lw_tbl wsL_read_r3 := (goodIn_r _ [155, 700, 722, 723, 724, 725, 158, 157, 161, 163, 162, 160, 735, 736, 62, 737, 726, 728, 16, 729, 701, 597, 598, 599] (by decide +kernel) (by decide +kernel))
set_option maxRecDepth 20000 in
theorem gF_wsL_read_r4 : GoodIn lw_tbl wsL_read_r4 := (goodIn_r _ [702, 703, 704, 705, 730, 732, 17, 733, 734, 99, 100, 848, 489, 490, 849, 851, 24, 852, 231, 245, 310, 316, 320, 241] (by decide +kernel) (by decide +kernel))
set_option maxRecDepth 20000 in
theorem gF_wsL_read_r5 : GoodIn lw_tbl wsL_read_r5 := (goodIn_r _ [745, 601, 602, 603, 631, 853, 854, 855, 856, 857, 232, 764, 858, 859, 860, 861, 242, 244, 862, 864, 25, 865, 312, 314] (by decide +kernel) (by decide +kernel))
set_option maxRecDepth 20000 in
theorem gF_wsL_read_r6 : GoodIn lw_tbl wsL_read_r6 := (goodIn_r _ [318, 237, 239, 243, 714, 715, 716, 717, 159, 465, 466, 467, 866, 867, 868, 68, 869, 305, 307, 309, 325, 323, 321, 327] (by decide +kernel) (by decide +kernel))
set_option maxRecDepth 20000 in
theorem gF_wsL_read_r7 : GoodIn lw_tbl wsL_read_r7 := (goodIn_r _ [870, 871, 872, 468, 469, 470, 471] (by decide +kernel) (by decide +kernel))
set_option maxRecDepth 20000 in
theorem gF_wsL_read : GoodIn lw_tbl wsL_read := goodIn_cons9 (goodIn_r _ [839] (by decide +kernel) (by decide +kernel)) (goodIn_app (goodIn_app (goodIn_app (goodIn_app (goodIn_app (goodIn_app (goodIn_app (goodIn_app (goodIn_app (goodIn_app gF_wsL_read_r1 (goodIn_app gF_wsL_read_r2 (goodIn_app gF_wsL_read_r3 (goodIn_app gF_wsL_read_r4 (goodIn_app gF_wsL_read_r5 (goodIn_app gF_wsL_read_r6 gF_wsL_read_r7)))))) gF_wsX90) gF_wsX40) gF_wsX20) gF_wsX50) gF_wsX70) gF_wsX60) gF_x100) gF_x83) gF_x89)
set_option maxRecDepth 20000 in
theorem gT_L_read : GoodIn lw_tbl (va_wsS RL 138 yL_read wsL_read) := goodIn_app (goodIn_r _ [837, 838, 58] (by decide +kernel) (by decide +kernel)) gF_wsL_read
set_option maxRecDepth 20000 in
theorem gF_wsX10_read_r1 : GoodIn lw_tbl wsX10_read_r1 := (goodIn_r _ [1049, 1057, 1055, 1051, 1056, 1030, 1052, 1048, 1062, 1059, 1058, 1060, 1042, 1061, 1063, 1050, 1218, 1220, 37, 70, 1221, 1044, 1160, 1161] (by decide +kernel) (by decide +kernel))
set_option maxRecDepth 20000 in
theorem gF_wsX10_read_r2 : GoodIn lw_tbl wsX10_read_r2 := (goodIn_r _ [1162, 1210, 1212, 36, 1213, 1027, 1234, 1236, 41, 1237, 1040, 1258, 1260, 47, 1261, 1064, 1041, 1066, 1065, 1262, 1263, 1264] (by decide +kernel) (by decide +kernel))
set_option maxRecDepth 20000 in
theorem gF_wsX10_read : GoodIn lw_tbl wsX10_read := goodIn_cons9 (goodIn_r _ [1284] (by decide +kernel) (by decide +kernel)) (goodIn_app (goodIn_app gF_wsX10_read_r1 gF_wsX10_read_r2) gF_wsX100)
set_option maxRecDepth 20000 in
theorem gT_X10_read : GoodIn lw_tbl (wsV RL 140 RX10 yX10_read wsX10_read) := goodIn_app (goodIn_r _ [1281, 1282, 1283, 70] (by decide +kernel) (by decide +kernel)) gF_wsX10_read
set_option maxRecDepth 20000 in
theorem gF_wsL_goOn_r1 : GoodIn lw_tbl wsL_goOn_r1 := (goodIn_r _ [607, 509, 876, 877, 878, 59, 879, 616, 76, 577, 75, 390, 231, 392, 306, 241, 792, 793, 794, 66, 795, 224, 468, 469] (by decide +kernel) (by decide +kernel))
set_option maxRecDepth 20000 in
theorem gF_wsL_goOn_r2 : GoodIn lw_tbl wsL_goOn_r2 := (goodIn_r _ [470, 61, 471, 101, 745, 601, 602, 603, 858, 859, 860, 861, 242, 244, 764, 597, 598, 599, 436, 437, 438, 439] (by decide +kernel) (by decide +kernel))
set_option maxRecDepth 20000 in
theorem gF_wsL_goOn : GoodIn lw_tbl wsL_goOn := goodIn_cons9 (goodIn_r _ [875] (by decide +kernel) (by decide +kernel)) (goodIn_app (goodIn_app (goodIn_app (goodIn_app (goodIn_app (goodIn_app (goodIn_app gF_wsL_goOn_r1 gF_wsL_goOn_r2) gF_wsX90) gF_wsX40) gF_wsX20) gF_wsX50) gF_x100) gF_x89)
set_option maxRecDepth 20000 in
theorem gT_L_goOn : GoodIn lw_tbl (va_wsS RL 141 yL_goOn wsL_goOn) := goodIn_app (goodIn_r _ [873, 874, 58] (by decide +kernel) (by decide +kernel)) gF_wsL_goOn
set_option maxRecDepth 20000 in
theorem gF_wsX10_goOn : GoodIn lw_tbl wsX10_goOn := goodIn_cons9 (goodIn_r _ [1288] (by decide +kernel) (by decide +kernel)) (goodIn_app (goodIn_r _ [1048, 1051, 1052, 1057, 1218, 1220, 37, 70, 1221, 1044, 1160, 1161, 1162, 1163, 1165, 32, 1166, 1027, 1289, 1291, 52, 1292, 1059, 1062] (by decide +kernel) (by decide +kernel)) gF_wsX100)
set_option maxRecDepth 20000 in
theorem gT_X10_goOn : GoodIn lw_tbl (wsV RL 143 RX10 yX10_goOn wsX10_goOn) := goodIn_app (goodIn_r _ [1285, 1286, 1287, 70] (by decide +kernel) (by decide +kernel)) gF_wsX10_goOn
set_option maxRecDepth 20000 in
theorem gF_wsL_lines_r1 : GoodIn lw_tbl wsL_lines_r1 := (goodIn_r _ [508, 509, 883, 884, 885, 59, 886, 514, 74, 577, 75, 400, 397, 398, 399, 887, 889, 26, 890, 389, 190, 395, 444, 446] (by decide +kernel) (by decide +kernel))
set_option maxRecDepth 20000 in
theorem gF_wsL_lines_r2 : GoodIn lw_tbl wsL_lines_r2 := (goodIn_r _ [1, 447, 491, 99, 62, 100, 196, 448, 450, 2, 451, 393, 394, 396, 452, 453, 454, 65, 455, 199, 456, 437, 438, 61] (by decide +kernel) (by decide +kernel))
set_option maxRecDepth 20000 in
theorem gF_wsL_lines_r3 : GoodIn lw_tbl wsL_lines_r3 := (goodIn_r _ [439, 101, 457, 459, 3, 460, 392, 326, 324, 320, 390, 229, 310, 318, 322, 461, 462, 463, 69, 464, 359, 361, 365, 366] (by decide +kernel) (by decide +kernel))
set_option maxRecDepth 20000 in
theorem gF_wsL_lines_r4 : GoodIn lw_tbl wsL_lines_r4 := (goodIn_r _ [367, 368, 363, 465, 466, 467, 436, 468, 469, 470, 471, 472, 473, 474, 475, 476, 477, 478, 479, 480, 481, 482, 483, 484] (by decide +kernel) (by decide +kernel))
set_option maxRecDepth 20000 in
theorem gF_wsL_lines_r5 : GoodIn lw_tbl wsL_lines_r5 := (goodIn_r _ [485, 486, 487, 489, 490, 631, 597, 598, 599, 891, 893, 27, 894] (by decide +kernel) (by decide +kernel))
set_option maxRecDepth 20000 in
theorem gF_wsL_lines : GoodIn lw_tbl wsL_lines := goodIn_cons9 (goodIn_r _ [882] (by decide +kernel) (by decide +kernel)) (goodIn_app (goodIn_app (goodIn_app (goodIn_app (goodIn_app (goodIn_app (goodIn_app (goodIn_app (goodIn_app gF_wsL_lines_r1 (goodIn_app gF_wsL_lines_r2 (goodIn_app gF_wsL_lines_r3 (goodIn_app gF_wsL_lines_r4 gF_wsL_lines_r5)))) gF_wsX90) gF_wsX30) gF_wsX50) gF_wsX20) gF_wsX40) gF_wsX80) gF_x83) gF_x89)
set_option maxRecDepth 20000 in
theorem gT_L_lines : GoodIn lw_tbl (va_wsS RL 144 yL_lines wsL_lines) := goodIn_app (goodIn_r _ [880, 881, 58] (by decide +kernel) (by decide +kernel)) gF_wsL_lines
set_option maxRecDepth 20000 in
theorem gF_wsX10_lines_r1 : GoodIn lw_tbl wsX10_lines_r1 := (goodIn_r _ [1038, 1039, 1031, 1160, 1161, 70, 1162, 1163, 1165, 32, 1166, 1027, 1297, 1299, 53, 1300, 1301, 1303, 54, 1304, 1035, 1305, 1307, 55] (by decide +kernel) (by decide +kernel))
set_option maxRecDepth 20000 in
theorem gF_wsX10_lines_r2 : GoodIn lw_tbl wsX10_lines_r2 := (goodIn_r _ [1308, 1036, 1030, 1309, 1311, 56, 1312, 1043, 1226, 1228, 39, 1229, 1033, 1242, 1244, 43, 1245, 1246, 1248, 44, 1249, 1057, 1058, 1063] (by decide +kernel) (by decide +kernel))
set_option maxRecDepth 20000 in
theorem gF_wsX10_lines_r3 : GoodIn lw_tbl wsX10_lines_r3 := (goodIn_r _ [1230, 1232, 40, 1233, 1062, 1042, 1061, 1234, 1236, 41, 1237, 1040, 1250, 1252, 45, 1253, 1254, 1256, 46, 1257, 1060, 1258, 1260, 47] (by decide +kernel) (by decide +kernel))
set_option maxRecDepth 20000 in
theorem gF_wsX10_lines_r4 : GoodIn lw_tbl wsX10_lines_r4 := (goodIn_r _ [1261, 1064, 1041, 1066, 1065, 1262, 1263, 1264, 1265, 1267, 48, 1268, 1047, 1059] (by decide +kernel) (by decide +kernel))
set_option maxRecDepth 20000 in
theorem gF_wsX10_lines : GoodIn lw_tbl wsX10_lines := goodIn_cons9 (goodIn_r _ [1296] (by decide +kernel) (by decide +kernel)) (goodIn_app (goodIn_app gF_wsX10_lines_r1 (goodIn_app gF_wsX10_lines_r2 (goodIn_app gF_wsX10_lines_r3 gF_wsX10_lines_r4))) gF_wsX100)
set_option maxRecDepth 20000 in
theorem gT_X10_lines : GoodIn lw_tbl (wsV RL 147 RX10 yX10_lines wsX10_lines) := goodIn_app (goodIn_r _ [1293, 1294, 1295, 70] (by decide +kernel) (by decide +kernel)) gF_wsX10_lines
set_option maxRecDepth 20000 in
theorem gF_wsL_release_r1 : GoodIn lw_tbl wsL_release_r1 := (goodIn_r _ [509, 898, 899, 900, 59, 901, 577, 75, 400, 389, 190, 198, 887, 889, 26, 890, 395, 444, 446, 1, 447, 491, 99, 62] (by decide +kernel) (by decide +kernel))
set_option maxRecDepth 20000 in
theorem gF_wsL_release_r2 : GoodIn lw_tbl wsL_release_r2 := (goodIn_r _ [100, 196, 448, 450, 2, 451, 393, 394, 396, 452, 453, 454, 65, 455, 199, 456, 437, 438, 61, 439, 101, 457, 459, 3] (by decide +kernel) (by decide +kernel))
set_option maxRecDepth 20000 in
theorem gF_wsL_release_r3 : GoodIn lw_tbl wsL_release_r3 := (goodIn_r _ [460, 392, 326, 324, 320, 390, 229, 310, 318, 322, 461, 462, 463, 69, 464, 359, 361, 365, 366, 367, 368, 363, 465, 466] (by decide +kernel) (by decide +kernel))
set_option maxRecDepth 20000 in
theorem gF_wsL_release_r4 : GoodIn lw_tbl wsL_release_r4 := (goodIn_r _ [467, 436, 468, 469, 470, 471, 472, 473, 474, 475, 476, 477, 478, 479, 480, 481, 482, 483, 484, 485, 486, 487, 489, 490] (by decide +kernel) (by decide +kernel))
set_option maxRecDepth 20000 in
theorem gF_wsL_release_r5 : GoodIn lw_tbl wsL_release_r5 := (goodIn_r _ [631, 597, 598, 599, 440, 442, 0, 443, 397, 398, 399] (by decide +kernel) (by decide +kernel))
set_option maxRecDepth 20000 in
theorem gF_wsL_release : GoodIn lw_tbl wsL_release := goodIn_cons9 (goodIn_r _ [897] (by decide +kernel) (by decide +kernel)) (goodIn_app (goodIn_app (goodIn_app (goodIn_app (goodIn_app (goodIn_app (goodIn_app (goodIn_app gF_wsL_release_r1 (goodIn_app gF_wsL_release_r2 (goodIn_app gF_wsL_release_r3 (goodIn_app gF_wsL_release_r4 gF_wsL_release_r5)))) gF_wsX90) gF_wsX30) gF_wsX50) gF_wsX20) gF_wsX40) gF_wsX80) gF_x89)
set_option maxRecDepth 20000 in
theorem gT_L_release : GoodIn lw_tbl (va_wsS RL 148 yL_release wsL_release) := goodIn_app (goodIn_r _ [895, 896, 58] (by decide +kernel) (by decide +kernel)) gF_wsL_release
set_option maxRecDepth 20000 in
theorem gF_wsX10_release_r1 : GoodIn lw_tbl wsX10_release_r1 := (goodIn_r _ [1038, 1031, 1037, 1301, 1303, 54, 70, 1304, 1035, 1305, 1307, 55, 1308, 1036, 1030, 1309, 1311, 56, 1312, 1043, 1226, 1228, 39, 1229] (by decide +kernel) (by decide +kernel))
set_option maxRecDepth 20000 in
theorem gF_wsX10_release_r2 : GoodIn lw_tbl wsX10_release_r2 := (goodIn_r _ [1033, 1242, 1244, 43, 1245, 1246, 1248, 44, 1249, 1057, 1058, 1063, 1230, 1232, 40, 1233, 1062, 1042, 1061, 1234, 1236, 41, 1237, 1040] (by decide +kernel) (by decide +kernel))
set_option maxRecDepth 20000 in
theorem gF_wsX10_release_r3 : GoodIn lw_tbl wsX10_release_r3 := (goodIn_r _ [1250, 1252, 45, 1253, 1254, 1256, 46, 1257, 1060, 1258, 1260, 47, 1261, 1064, 1041, 1066, 1065, 1160, 1161, 1162, 1262, 1263, 1264, 1265] (by decide +kernel) (by decide +kernel))
set_option maxRecDepth 20000 in
theorem gF_wsX10_release_r4 : GoodIn lw_tbl wsX10_release_r4 := (goodIn_r _ [1267, 48, 1268, 1047, 1059, 1194, 1196, 35, 1197, 1027, 1297, 1299, 53, 1300, 1039] (by decide +kernel) (by decide +kernel))
set_option maxRecDepth 20000 in
theorem gF_wsX10_release : GoodIn lw_tbl wsX10_release := goodIn_cons9 (goodIn_r _ [1316] (by decide +kernel) (by decide +kernel)) (goodIn_app (goodIn_app gF_wsX10_release_r1 (goodIn_app gF_wsX10_release_r2 (goodIn_app gF_wsX10_release_r3 gF_wsX10_release_r4))) gF_wsX100)
set_option maxRecDepth 20000 in
theorem gT_X10_release : GoodIn lw_tbl (wsV RL 151 RX10 yX10_release wsX10_release) := goodIn_app (goodIn_r _ [1313, 1314, 1315, 70] (by decide +kernel) (by decide +kernel)) gF_wsX10_release
set_option maxRecDepth 20000 in
theorem gF_wsL_appeal_r1 : GoodIn lw_tbl wsL_appeal_r1 := (goodIn_r _ [607, 509, 905, 906, 907, 59, 908, 616, 76, 577, 75, 389, 400, 612, 613, 614, 65, 615, 189, 651, 652, 653, 452, 453] (by decide +kernel) (by decide +kernel))
set_option maxRecDepth 20000 in
theorem gF_wsL_appeal_r2 : GoodIn lw_tbl wsL_appeal_r2 := (goodIn_r _ [454, 455, 199, 456, 437, 438, 61, 439, 101, 448, 450, 2, 451, 393, 394, 396, 457, 459, 3, 460, 392, 326, 324, 320] (by decide +kernel) (by decide +kernel))
set_option maxRecDepth 20000 in
theorem gF_wsL_appeal_r3 : GoodIn lw_tbl wsL_appeal_r3 := (goodIn_r _ [390, 229, 310, 318, 322, 461, 462, 463, 69, 464, 359, 361, 365, 366, 367, 368, 363, 465, 466, 467, 436, 468, 469, 470] (by decide +kernel) (by decide +kernel))
set_option maxRecDepth 20000 in
theorem gF_wsL_appeal_r4 : GoodIn lw_tbl wsL_appeal_r4 := (goodIn_r _ [471, 472, 473, 474, 475, 476, 477, 478, 479, 480, 481, 482, 483, 484, 485, 486, 487, 489, 490, 501, 502, 503, 504, 200] (by decide +kernel) (by decide +kernel))
set_option maxRecDepth 20000 in
theorem gF_wsL_appeal_r5 : GoodIn lw_tbl wsL_appeal_r5 := (goodIn_r _ [909, 910, 911, 912, 596, 597, 598, 599] (by decide +kernel) (by decide +kernel))
set_option maxRecDepth 20000 in
theorem gF_wsL_appeal : GoodIn lw_tbl wsL_appeal := goodIn_cons9 (goodIn_r _ [904] (by decide +kernel) (by decide +kernel)) (goodIn_app (goodIn_app (goodIn_app (goodIn_app (goodIn_app (goodIn_app (goodIn_app (goodIn_app (goodIn_app gF_wsL_appeal_r1 (goodIn_app gF_wsL_appeal_r2 (goodIn_app gF_wsL_appeal_r3 (goodIn_app gF_wsL_appeal_r4 gF_wsL_appeal_r5)))) gF_wsX90) gF_wsX30) gF_wsX50) gF_wsX20) gF_wsX40) gF_wsX80) gF_x100) gF_x89)
set_option maxRecDepth 20000 in
theorem gT_L_appeal : GoodIn lw_tbl (va_wsS RL 152 yL_appeal wsL_appeal) := goodIn_app (goodIn_r _ [902, 903, 58] (by decide +kernel) (by decide +kernel)) gF_wsL_appeal
set_option maxRecDepth 20000 in
theorem gF_wsX10_appeal_r1 : GoodIn lw_tbl wsX10_appeal_r1 := (goodIn_r _ [1038, 1036, 1171, 1173, 33, 70, 1174, 1031, 1160, 1161, 1162, 1183, 1184, 1185, 1226, 1228, 39, 1229, 1033, 1305, 1307, 55, 1308, 1030] (by decide +kernel) (by decide +kernel))
set_option maxRecDepth 20000 in
theorem gF_wsX10_appeal_r2 : GoodIn lw_tbl wsX10_appeal_r2 := (goodIn_r _ [1309, 1311, 56, 1312, 1043, 1242, 1244, 43, 1245, 1246, 1248, 44, 1249, 1057, 1058, 1063, 1230, 1232, 40, 1233, 1062, 1042, 1061, 1234] (by decide +kernel) (by decide +kernel))
set_option maxRecDepth 20000 in
theorem gF_wsX10_appeal_r3 : GoodIn lw_tbl wsX10_appeal_r3 := (goodIn_r _ [1236, 41, 1237, 1040, 1250, 1252, 45, 1253, 1254, 1256, 46, 1257, 1060, 1258, 1260, 47, 1261, 1064, 1041, 1066, 1065, 1262, 1263, 1264] (by decide +kernel) (by decide +kernel))
set_option maxRecDepth 20000 in
theorem gF_wsX10_appeal_r4 : GoodIn lw_tbl wsX10_appeal_r4 := (goodIn_r _ [1265, 1267, 48, 1268, 1047, 1059, 1163, 1165, 32, 1166, 1027] (by decide +kernel) (by decide +kernel))
set_option maxRecDepth 20000 in
theorem gF_wsX10_appeal : GoodIn lw_tbl wsX10_appeal := goodIn_cons9 (goodIn_r _ [1320] (by decide +kernel) (by decide +kernel)) (goodIn_app (goodIn_app gF_wsX10_appeal_r1 (goodIn_app gF_wsX10_appeal_r2 (goodIn_app gF_wsX10_appeal_r3 gF_wsX10_appeal_r4))) gF_wsX100)
set_option maxRecDepth 20000 in
theorem gT_X10_appeal : GoodIn lw_tbl (wsV RL 154 RX10 yX10_appeal wsX10_appeal) := goodIn_app (goodIn_r _ [1317, 1318, 1319, 70] (by decide +kernel) (by decide +kernel)) gF_wsX10_appeal
set_option maxRecDepth 20000 in
theorem gF_wsL_versions : GoodIn lw_tbl wsL_versions := goodIn_cons9 (goodIn_r _ [915] (by decide +kernel) (by decide +kernel)) (goodIn_app (goodIn_app (goodIn_app (goodIn_app (goodIn_r _ [607, 916, 917, 918, 59, 919, 616, 76, 388, 156, 651, 652, 653, 436, 437, 438, 61, 439, 101] (by decide +kernel) (by decide +kernel)) gF_wsX90) gF_wsX60) gF_wsX50) gF_x100)
set_option maxRecDepth 20000 in
theorem gT_L_versions : GoodIn lw_tbl (va_wsS RL 155 yL_versions wsL_versions) := goodIn_app (goodIn_r _ [913, 914, 58] (by decide +kernel) (by decide +kernel)) gF_wsL_versions
set_option maxRecDepth 20000 in
theorem gF_wsX10_versions : GoodIn lw_tbl wsX10_versions := goodIn_cons9 (goodIn_r _ [1324] (by decide +kernel) (by decide +kernel)) (goodIn_app (goodIn_r _ [1040, 1183, 1184, 70, 1185, 1160, 1161, 1162, 1194, 1196, 35, 1197, 1027] (by decide +kernel) (by decide +kernel)) gF_wsX100)
set_option maxRecDepth 20000 in
theorem gT_X10_versions : GoodIn lw_tbl (wsV RL 157 RX10 yX10_versions wsX10_versions) := goodIn_app (goodIn_r _ [1321, 1322, 1323, 70] (by decide +kernel) (by decide +kernel)) gF_wsX10_versions
set_option maxRecDepth 20000 in
theorem gF_wsL_markOf_r1 : GoodIn lw_tbl wsL_markOf_r1 := (goodIn_r _ [607, 508, 923, 924, 925, 59, 926, 616, 76, 514, 74, 388, 651, 652, 653, 927, 928, 929, 64, 930, 155, 700, 437, 438] (by decide +kernel) (by decide +kernel))
set_option maxRecDepth 20000 in
theorem gF_wsL_markOf_r2 : GoodIn lw_tbl wsL_markOf_r2 := (goodIn_r _ [61, 439, 101, 773, 774, 775, 931, 723, 724, 725, 158, 157, 161, 163, 162, 160, 735, 736, 62, 737, 726, 728, 16, 729] (by decide +kernel) (by decide +kernel))
set_option maxRecDepth 20000 in
theorem gF_wsL_markOf_r3 : GoodIn lw_tbl wsL_markOf_r3 := (goodIn_r _ [701, 597, 598, 599, 702, 703, 704, 705, 730, 732, 17, 733, 734, 99, 100] (by decide +kernel) (by decide +kernel))
set_option maxRecDepth 20000 in
theorem gF_wsL_markOf : GoodIn lw_tbl wsL_markOf := goodIn_cons9 (goodIn_r _ [922] (by decide +kernel) (by decide +kernel)) (goodIn_app (goodIn_app (goodIn_app (goodIn_app (goodIn_app (goodIn_app gF_wsL_markOf_r1 (goodIn_app gF_wsL_markOf_r2 gF_wsL_markOf_r3)) gF_wsX90) gF_wsX60) gF_wsX50) gF_x100) gF_x83)
set_option maxRecDepth 20000 in
theorem gT_L_markOf : GoodIn lw_tbl (va_wsS RL 158 yL_markOf wsL_markOf) := goodIn_app (goodIn_r _ [920, 921, 58] (by decide +kernel) (by decide +kernel)) gF_wsL_markOf
set_option maxRecDepth 20000 in
theorem gF_wsX10_markOf : GoodIn lw_tbl wsX10_markOf := goodIn_cons9 (goodIn_r _ [1328] (by decide +kernel) (by decide +kernel)) (goodIn_app (goodIn_r _ [1040, 1183, 1184, 70, 1185, 1160, 1161, 1162, 1163, 1165, 32, 1166, 1027, 1258, 1260, 47, 1261, 1064, 1041, 1066, 1065] (by decide +kernel) (by decide +kernel)) gF_wsX100)
set_option maxRecDepth 20000 in
theorem gT_X10_markOf : GoodIn lw_tbl (wsV RL 160 RX10 yX10_markOf wsX10_markOf) := goodIn_app (goodIn_r _ [1325, 1326, 1327, 70] (by decide +kernel) (by decide +kernel)) gF_wsX10_markOf
set_option maxRecDepth 20000 in
theorem gF_wsL_written_r1 : GoodIn lw_tbl wsL_written_r1 := (goodIn_r _ [607, 935, 936, 937, 59, 938, 616, 76, 388, 651, 652, 653, 927, 928, 929, 64, 930, 155, 700, 437, 438, 61, 439, 101] (by decide +kernel) (by decide +kernel))
set_option maxRecDepth 20000 in
theorem gF_wsL_written_r2 : GoodIn lw_tbl wsL_written_r2 := (goodIn_r _ [939, 940, 941, 942, 158, 157] (by decide +kernel) (by decide +kernel))
set_option maxRecDepth 20000 in
theorem gF_wsL_written : GoodIn lw_tbl wsL_written := goodIn_cons9 (goodIn_r _ [934] (by decide +kernel) (by decide +kernel)) (goodIn_app (goodIn_app (goodIn_app (goodIn_app (goodIn_app gF_wsL_written_r1 gF_wsL_written_r2) gF_wsX90) gF_wsX60) gF_wsX50) gF_x100)
set_option maxRecDepth 20000 in
theorem gT_L_written : GoodIn lw_tbl (va_wsS RL 161 yL_written wsL_written) := goodIn_app (goodIn_r _ [932, 933, 58] (by decide +kernel) (by decide +kernel)) gF_wsL_written
set_option maxRecDepth 20000 in
theorem gF_wsX10_written : GoodIn lw_tbl wsX10_written := goodIn_cons9 (goodIn_r _ [1332] (by decide +kernel) (by decide +kernel)) (goodIn_app (goodIn_r _ [1040, 1041, 1183, 1184, 70, 1185, 1160, 1161, 1162, 1194, 1196, 35, 1197, 1027] (by decide +kernel) (by decide +kernel)) gF_wsX100)
set_option maxRecDepth 20000 in
theorem gT_X10_written : GoodIn lw_tbl (wsV RL 163 RX10 yX10_written wsX10_written) := goodIn_app (goodIn_r _ [1329, 1330, 1331, 70] (by decide +kernel) (by decide +kernel)) gF_wsX10_written
set_option maxRecDepth 20000 in
theorem gF_wsL_mark_r1 : GoodIn lw_tbl wsL_mark_r1 := (goodIn_r _ [607, 946, 947, 948, 59, 949, 616, 76, 389, 612, 613, 614, 65, 615, 189, 651, 652, 653, 448, 450, 2, 451, 393, 394] (by decide +kernel) (by decide +kernel))
set_option maxRecDepth 20000 in
theorem gF_wsL_mark_r2 : GoodIn lw_tbl wsL_mark_r2 := (goodIn_r _ [396, 452, 453, 454, 455, 199, 456, 437, 438, 61, 439, 101, 457, 459, 3, 460, 392, 326, 324, 320, 390, 229, 310, 318] (by decide +kernel) (by decide +kernel))
set_option maxRecDepth 20000 in
theorem gF_wsL_mark_r3 : GoodIn lw_tbl wsL_mark_r3 := (goodIn_r _ [322, 461, 462, 463, 69, 464, 359, 361, 365, 366, 367, 368, 363, 465, 466, 467, 436, 468, 469, 470, 471, 472, 473, 474] (by decide +kernel) (by decide +kernel))
set_option maxRecDepth 20000 in
theorem gF_wsL_mark_r4 : GoodIn lw_tbl wsL_mark_r4 := (goodIn_r _ [475, 476, 477, 478, 479, 480, 481, 482, 483, 484, 485, 486, 487, 489, 490] (by decide +kernel) (by decide +kernel))
set_option maxRecDepth 20000 in
theorem gF_wsL_mark : GoodIn lw_tbl wsL_mark := goodIn_cons9 (goodIn_r _ [945] (by decide +kernel) (by decide +kernel)) (goodIn_app (goodIn_app (goodIn_app (goodIn_app (goodIn_app (goodIn_app (goodIn_app (goodIn_app gF_wsL_mark_r1 (goodIn_app gF_wsL_mark_r2 (goodIn_app gF_wsL_mark_r3 gF_wsL_mark_r4))) gF_wsX90) gF_wsX30) gF_wsX50) gF_wsX20) gF_wsX40) gF_wsX80) gF_x100)
set_option maxRecDepth 20000 in
theorem gT_L_mark : GoodIn lw_tbl (va_wsS RL 164 yL_mark wsL_mark) := goodIn_app (goodIn_r _ [943, 944, 58] (by decide +kernel) (by decide +kernel)) gF_wsL_mark
set_option maxRecDepth 20000 in
theorem gF_wsX10_mark_r1 : GoodIn lw_tbl wsX10_mark_r1 := (goodIn_r _ [1171, 1173, 33, 70, 1174, 1031, 1160, 1161, 1162, 1183, 1184, 1185, 1194, 1196, 35, 1197, 1027, 1305, 1307, 55, 1308, 1036, 1030, 1309] (by decide +kernel) (by decide +kernel))
set_option maxRecDepth 20000 in
theorem gF_wsX10_mark_r2 : GoodIn lw_tbl wsX10_mark_r2 := (goodIn_r _ [1311, 56, 1312, 1043, 1226, 1228, 39, 1229, 1033, 1242, 1244, 43, 1245, 1246, 1248, 44, 1249, 1057, 1058, 1063, 1230, 1232, 40, 1233] (by decide +kernel) (by decide +kernel))
set_option maxRecDepth 20000 in
theorem gF_wsX10_mark_r3 : GoodIn lw_tbl wsX10_mark_r3 := (goodIn_r _ [1062, 1042, 1061, 1234, 1236, 41, 1237, 1040, 1250, 1252, 45, 1253, 1254, 1256, 46, 1257, 1060, 1258, 1260, 47, 1261, 1064, 1041, 1066] (by decide +kernel) (by decide +kernel))
set_option maxRecDepth 20000 in
theorem gF_wsX10_mark_r4 : GoodIn lw_tbl wsX10_mark_r4 := (goodIn_r _ [1065, 1262, 1263, 1264, 1265, 1267, 48, 1268, 1047, 1059] (by decide +kernel) (by decide +kernel))
set_option maxRecDepth 20000 in
theorem gF_wsX10_mark : GoodIn lw_tbl wsX10_mark := goodIn_cons9 (goodIn_r _ [1336] (by decide +kernel) (by decide +kernel)) (goodIn_app (goodIn_app gF_wsX10_mark_r1 (goodIn_app gF_wsX10_mark_r2 (goodIn_app gF_wsX10_mark_r3 gF_wsX10_mark_r4))) gF_wsX100)
set_option maxRecDepth 20000 in
theorem gT_X10_mark : GoodIn lw_tbl (wsV RL 166 RX10 yX10_mark wsX10_mark) := goodIn_app (goodIn_r _ [1333, 1334, 1335, 70] (by decide +kernel) (by decide +kernel)) gF_wsX10_mark
set_option maxRecDepth 20000 in
theorem gF_wsL_markAnew_r1 : GoodIn lw_tbl wsL_markAnew_r1 := (goodIn_r _ [607, 953, 954, 955, 59, 956, 616, 76, 389, 394, 396, 612, 613, 614, 65, 615, 189, 651, 652, 653, 452, 453, 454, 455] (by decide +kernel) (by decide +kernel))
set_option maxRecDepth 20000 in
theorem gF_wsL_markAnew_r2 : GoodIn lw_tbl wsL_markAnew_r2 := (goodIn_r _ [199, 456, 437, 438, 61, 439, 101, 465, 466, 467, 468, 469, 470, 471, 957, 959, 28, 960, 961, 963, 29, 964, 392, 306] (by decide +kernel) (by decide +kernel))
set_option maxRecDepth 20000 in
theorem gF_wsL_markAnew_r3 : GoodIn lw_tbl wsL_markAnew_r3 := (goodIn_r _ [308, 318, 390, 229, 310, 436, 710, 712, 15, 713, 316, 388, 314, 714, 715, 716, 64, 717, 159, 155, 700, 965, 967, 30] (by decide +kernel) (by decide +kernel))
set_option maxRecDepth 20000 in
theorem gF_wsL_markAnew_r4 : GoodIn lw_tbl wsL_markAnew_r4 := (goodIn_r _ [968, 312, 718, 719, 720, 721, 722, 723, 724, 725, 158, 157, 161, 163, 162, 160, 735, 736, 62, 737, 726, 728, 16, 729] (by decide +kernel) (by decide +kernel))
set_option maxRecDepth 20000 in
theorem gF_wsL_markAnew_r5 : GoodIn lw_tbl wsL_markAnew_r5 := (goodIn_r _ [701, 597, 598, 599, 702, 703, 704, 705, 730, 732, 17, 733, 734, 99, 100, 848, 489, 490] (by decide +kernel) (by decide +kernel))
set_option maxRecDepth 20000 in
theorem gF_wsL_markAnew : GoodIn lw_tbl wsL_markAnew := goodIn_cons9 (goodIn_r _ [952] (by decide +kernel) (by decide +kernel)) (goodIn_app (goodIn_app (goodIn_app (goodIn_app (goodIn_app (goodIn_app (goodIn_app (goodIn_app gF_wsL_markAnew_r1 (goodIn_app gF_wsL_markAnew_r2 (goodIn_app gF_wsL_markAnew_r3 (goodIn_app gF_wsL_markAnew_r4 gF_wsL_markAnew_r5)))) gF_wsX90) gF_wsX30) gF_wsX50) gF_wsX20) gF_wsX40) gF_wsX60) gF_x100)
set_option maxRecDepth 20000 in
theorem gT_L_markAnew : GoodIn lw_tbl (va_wsS RL 167 yL_markAnew wsL_markAnew) := goodIn_app (goodIn_r _ [950, 951, 58] (by decide +kernel) (by decide +kernel)) gF_wsL_markAnew
set_option maxRecDepth 20000 in
theorem gF_wsX10_markAnew_r1 : GoodIn lw_tbl wsX10_markAnew_r1 := (goodIn_r _ [1171, 1173, 33, 70, 1174, 1031, 1160, 1161, 1162, 1183, 1184, 1185, 1194, 1196, 35, 1197, 1027, 1305, 1307, 55, 1308, 1036, 1030, 1309] (by decide +kernel) (by decide +kernel))
set_option maxRecDepth 20000 in
theorem gF_wsX10_markAnew_r2 : GoodIn lw_tbl wsX10_markAnew_r2 := (goodIn_r _ [1311, 56, 1312, 1043, 1226, 1228, 39, 1229, 1033, 1242, 1244, 43, 1245, 1246, 1248, 44, 1249, 1057, 1058, 1063, 1230, 1232, 40, 1233] (by decide +kernel) (by decide +kernel))
set_option maxRecDepth 20000 in
theorem gF_wsX10_markAnew_r3 : GoodIn lw_tbl wsX10_markAnew_r3 := (goodIn_r _ [1062, 1042, 1061, 1234, 1236, 41, 1237, 1040, 1250, 1252, 45, 1253, 1254, 1256, 46, 1257, 1060, 1258, 1260, 47, 1261, 1064, 1041, 1066] (by decide +kernel) (by decide +kernel))
set_option maxRecDepth 20000 in
theorem gF_wsX10_markAnew_r4 : GoodIn lw_tbl wsX10_markAnew_r4 := (goodIn_r _ [1065, 1262, 1263, 1264, 1265, 1267, 48, 1268, 1047, 1059] (by decide +kernel) (by decide +kernel))
set_option maxRecDepth 20000 in
theorem gF_wsX10_markAnew : GoodIn lw_tbl wsX10_markAnew := goodIn_cons9 (goodIn_r _ [1340] (by decide +kernel) (by decide +kernel)) (goodIn_app (goodIn_app gF_wsX10_markAnew_r1 (goodIn_app gF_wsX10_markAnew_r2 (goodIn_app gF_wsX10_markAnew_r3 gF_wsX10_markAnew_r4))) gF_wsX100)
set_option maxRecDepth 20000 in
theorem gT_X10_markAnew : GoodIn lw_tbl (wsV RL 169 RX10 yX10_markAnew wsX10_markAnew) := goodIn_app (goodIn_r _ [1337, 1338, 1339, 70] (by decide +kernel) (by decide +kernel)) gF_wsX10_markAnew
set_option maxRecDepth 20000 in
theorem gF_wsL_answer_r1 : GoodIn lw_tbl wsL_answer_r1 := (goodIn_r _ [607, 508, 972, 973, 974, 59, 975, 616, 76, 514, 74, 389, 393, 362, 360, 612, 613, 614, 65, 615, 189, 651, 652, 653] (by decide +kernel) (by decide +kernel))
set_option maxRecDepth 20000 in
theorem gF_wsL_answer_r2 : GoodIn lw_tbl wsL_answer_r2 := (goodIn_r _ [496, 498, 4, 499, 394, 396, 364, 452, 453, 454, 455, 199, 456, 437, 438, 61, 439, 101, 457, 459, 3, 460, 392, 326] (by decide +kernel) (by decide +kernel))
set_option maxRecDepth 20000 in
theorem gF_wsL_answer_r3 : GoodIn lw_tbl wsL_answer_r3 := (goodIn_r _ [324, 320, 390, 229, 310, 318, 322, 461, 462, 463, 69, 464, 359, 361, 365, 366, 367, 368, 363, 465, 466, 467, 436, 468] (by decide +kernel) (by decide +kernel))
set_option maxRecDepth 20000 in
theorem gF_wsL_answer_r4 : GoodIn lw_tbl wsL_answer_r4 := (goodIn_r _ [469, 470, 471, 472, 473, 474, 475, 500, 481, 482, 483, 484, 485, 486, 487, 489, 490, 501, 502, 503, 504, 200] (by decide +kernel) (by decide +kernel))
set_option maxRecDepth 20000 in
theorem gF_wsL_answer : GoodIn lw_tbl wsL_answer := goodIn_cons9 (goodIn_r _ [971] (by decide +kernel) (by decide +kernel)) (goodIn_app (goodIn_app (goodIn_app (goodIn_app (goodIn_app (goodIn_app (goodIn_app (goodIn_app (goodIn_app gF_wsL_answer_r1 (goodIn_app gF_wsL_answer_r2 (goodIn_app gF_wsL_answer_r3 gF_wsL_answer_r4))) gF_wsX90) gF_wsX80) gF_wsX30) gF_wsX50) gF_wsX20) gF_wsX40) gF_x100) gF_x83)
set_option maxRecDepth 20000 in
theorem gT_L_answer : GoodIn lw_tbl (va_wsS RL 170 yL_answer wsL_answer) := goodIn_app (goodIn_r _ [969, 970, 58] (by decide +kernel) (by decide +kernel)) gF_wsL_answer
set_option maxRecDepth 20000 in
theorem gF_wsX10_answer_r1 : GoodIn lw_tbl wsX10_answer_r1 := (goodIn_r _ [1057, 1058, 1036, 1171, 1173, 33, 70, 1174, 1031, 1160, 1161, 1162, 1183, 1184, 1185, 1163, 1165, 32, 1166, 1027, 1230, 1232, 40, 1233] (by decide +kernel) (by decide +kernel))
set_option maxRecDepth 20000 in
theorem gF_wsX10_answer_r2 : GoodIn lw_tbl wsX10_answer_r2 := (goodIn_r _ [1062, 1042, 1061, 1234, 1236, 41, 1237, 1040, 1238, 1240, 42, 1241, 1226, 1228, 39, 1229, 1033, 1242, 1244, 43, 1245, 1043, 1246, 1248] (by decide +kernel) (by decide +kernel))
set_option maxRecDepth 20000 in
theorem gF_wsX10_answer_r3 : GoodIn lw_tbl wsX10_answer_r3 := (goodIn_r _ [44, 1249, 1063, 1250, 1252, 45, 1253, 1030, 1254, 1256, 46, 1257, 1060, 1258, 1260, 47, 1261, 1064, 1041, 1066, 1065, 1262, 1263, 1264] (by decide +kernel) (by decide +kernel))
set_option maxRecDepth 20000 in
theorem gF_wsX10_answer_r4 : GoodIn lw_tbl wsX10_answer_r4 := (goodIn_r _ [1265, 1267, 48, 1268, 1047, 1059] (by decide +kernel) (by decide +kernel))
set_option maxRecDepth 20000 in
theorem gF_wsX10_answer : GoodIn lw_tbl wsX10_answer := goodIn_cons9 (goodIn_r _ [1344] (by decide +kernel) (by decide +kernel)) (goodIn_app (goodIn_app gF_wsX10_answer_r1 (goodIn_app gF_wsX10_answer_r2 (goodIn_app gF_wsX10_answer_r3 gF_wsX10_answer_r4))) gF_wsX100)
set_option maxRecDepth 20000 in
theorem gT_X10_answer : GoodIn lw_tbl (wsV RL 172 RX10 yX10_answer wsX10_answer) := goodIn_app (goodIn_r _ [1341, 1342, 1343, 70] (by decide +kernel) (by decide +kernel)) gF_wsX10_answer
set_option maxRecDepth 20000 in
theorem gF_wsL_total_r1 : GoodIn lw_tbl wsL_total_r1 := (goodIn_r _ [607, 979, 980, 981, 59, 982, 616, 76, 389, 612, 613, 614, 65, 615, 189, 444, 446, 1, 447, 491, 99, 62, 100, 196] (by decide +kernel) (by decide +kernel))
set_option maxRecDepth 20000 in
theorem gF_wsL_total_r2 : GoodIn lw_tbl wsL_total_r2 := (goodIn_r _ [448, 450, 2, 451, 393, 394, 396, 452, 453, 454, 455, 199, 456, 437, 438, 61, 439, 101, 457, 459, 3, 460, 392, 326] (by decide +kernel) (by decide +kernel))
set_option maxRecDepth 20000 in
theorem gF_wsL_total_r3 : GoodIn lw_tbl wsL_total_r3 := (goodIn_r _ [324, 320, 390, 229, 310, 318, 322, 461, 462, 463, 69, 464, 359, 361, 365, 366, 367, 368, 363, 465, 466, 467, 436, 468] (by decide +kernel) (by decide +kernel))
set_option maxRecDepth 20000 in
theorem gF_wsL_total_r4 : GoodIn lw_tbl wsL_total_r4 := (goodIn_r _ [469, 470, 471, 472, 473, 474, 475, 476, 477, 478, 479, 480, 481, 482, 483, 484, 485, 486, 487, 489, 490] (by decide +kernel) (by decide +kernel))
set_option maxRecDepth 20000 in
theorem gF_wsL_total : GoodIn lw_tbl wsL_total := goodIn_cons9 (goodIn_r _ [978] (by decide +kernel) (by decide +kernel)) (goodIn_app (goodIn_app (goodIn_app (goodIn_app (goodIn_app (goodIn_app (goodIn_app (goodIn_app gF_wsL_total_r1 (goodIn_app gF_wsL_total_r2 (goodIn_app gF_wsL_total_r3 gF_wsL_total_r4))) gF_wsX90) gF_wsX30) gF_wsX50) gF_wsX20) gF_wsX40) gF_wsX80) gF_x100)
set_option maxRecDepth 20000 in
theorem gT_L_total : GoodIn lw_tbl (va_wsS RL 173 yL_total wsL_total) := goodIn_app (goodIn_r _ [976, 977, 58] (by decide +kernel) (by decide +kernel)) gF_wsL_total
set_option maxRecDepth 20000 in
theorem gF_wsX10_total_r1 : GoodIn lw_tbl wsX10_total_r1 := (goodIn_r _ [1171, 1173, 33, 70, 1174, 1031, 1160, 1161, 1162, 1194, 1196, 35, 1197, 1027, 1301, 1303, 54, 1304, 1035, 1305, 1307, 55, 1308, 1036] (by decide +kernel) (by decide +kernel))
set_option maxRecDepth 20000 in
theorem gF_wsX10_total_r2 : GoodIn lw_tbl wsX10_total_r2 := (goodIn_r _ [1030, 1309, 1311, 56, 1312, 1043, 1226, 1228, 39, 1229, 1033, 1242, 1244, 43, 1245, 1246, 1248, 44, 1249, 1057, 1058, 1063, 1230, 1232] (by decide +kernel) (by decide +kernel))
set_option maxRecDepth 20000 in
theorem gF_wsX10_total_r3 : GoodIn lw_tbl wsX10_total_r3 := (goodIn_r _ [40, 1233, 1062, 1042, 1061, 1234, 1236, 41, 1237, 1040, 1250, 1252, 45, 1253, 1254, 1256, 46, 1257, 1060, 1258, 1260, 47, 1261, 1064] (by decide +kernel) (by decide +kernel))
set_option maxRecDepth 20000 in
theorem gF_wsX10_total_r4 : GoodIn lw_tbl wsX10_total_r4 := (goodIn_r _ [1041, 1066, 1065, 1262, 1263, 1264, 1265, 1267, 48, 1268, 1047, 1059] (by decide +kernel) (by decide +kernel))
set_option maxRecDepth 20000 in
theorem gF_wsX10_total : GoodIn lw_tbl wsX10_total := goodIn_cons9 (goodIn_r _ [1348] (by decide +kernel) (by decide +kernel)) (goodIn_app (goodIn_app gF_wsX10_total_r1 (goodIn_app gF_wsX10_total_r2 (goodIn_app gF_wsX10_total_r3 gF_wsX10_total_r4))) gF_wsX100)
set_option maxRecDepth 20000 in
theorem gT_X10_total : GoodIn lw_tbl (wsV RL 175 RX10 yX10_total wsX10_total) := goodIn_app (goodIn_r _ [1345, 1346, 1347, 70] (by decide +kernel) (by decide +kernel)) gF_wsX10_total
set_option maxRecDepth 20000 in
theorem gF_wsL_grade_r1 : GoodIn lw_tbl wsL_grade_r1 := (goodIn_r _ [607, 986, 987, 988, 59, 989, 616, 76, 389, 198, 612, 613, 614, 65, 615, 189, 436, 437, 438, 61, 439, 101, 440, 442] (by decide +kernel) (by decide +kernel))
set_option maxRecDepth 20000 in
theorem gF_wsL_grade_r2 : GoodIn lw_tbl wsL_grade_r2 := (goodIn_r _ [0, 443, 397, 398, 399, 444, 446, 1, 447, 491, 99, 62, 100, 196, 448, 450, 2, 451, 393, 394, 396, 452, 453, 454] (by decide +kernel) (by decide +kernel))
set_option maxRecDepth 20000 in
theorem gF_wsL_grade_r3 : GoodIn lw_tbl wsL_grade_r3 := (goodIn_r _ [455, 199, 456, 457, 459, 3, 460, 392, 326, 324, 320, 390, 229, 310, 318, 322, 461, 462, 463, 69, 464, 359, 361, 365] (by decide +kernel) (by decide +kernel))
set_option maxRecDepth 20000 in
theorem gF_wsL_grade_r4 : GoodIn lw_tbl wsL_grade_r4 := (goodIn_r _ [366, 367, 368, 363, 465, 466, 467, 468, 469, 470, 471, 472, 473, 474, 475, 476, 477, 478, 479, 480, 481, 482, 483, 484] (by decide +kernel) (by decide +kernel))
set_option maxRecDepth 20000 in
theorem gF_wsL_grade_r5 : GoodIn lw_tbl wsL_grade_r5 := (goodIn_r _ [485, 486, 487, 489, 490] (by decide +kernel) (by decide +kernel))
set_option maxRecDepth 20000 in
theorem gF_wsL_grade : GoodIn lw_tbl wsL_grade := goodIn_cons9 (goodIn_r _ [985] (by decide +kernel) (by decide +kernel)) (goodIn_app (goodIn_app (goodIn_app (goodIn_app (goodIn_app (goodIn_app (goodIn_app (goodIn_app gF_wsL_grade_r1 (goodIn_app gF_wsL_grade_r2 (goodIn_app gF_wsL_grade_r3 (goodIn_app gF_wsL_grade_r4 gF_wsL_grade_r5)))) gF_wsX90) gF_wsX30) gF_wsX50) gF_wsX20) gF_wsX40) gF_wsX80) gF_x100)
set_option maxRecDepth 20000 in
theorem gT_L_grade : GoodIn lw_tbl (va_wsS RL 176 yL_grade wsL_grade) := goodIn_app (goodIn_r _ [983, 984, 58] (by decide +kernel) (by decide +kernel)) gF_wsL_grade
set_option maxRecDepth 20000 in
theorem gF_wsX10_grade_r1 : GoodIn lw_tbl wsX10_grade_r1 := (goodIn_r _ [1037, 1171, 1173, 33, 70, 1174, 1031, 1160, 1161, 1162, 1194, 1196, 35, 1197, 1027, 1297, 1299, 53, 1300, 1039, 1301, 1303, 54, 1304] (by decide +kernel) (by decide +kernel))
set_option maxRecDepth 20000 in
theorem gF_wsX10_grade_r2 : GoodIn lw_tbl wsX10_grade_r2 := (goodIn_r _ [1035, 1305, 1307, 55, 1308, 1036, 1030, 1309, 1311, 56, 1312, 1043, 1226, 1228, 39, 1229, 1033, 1242, 1244, 43, 1245, 1246, 1248, 44] (by decide +kernel) (by decide +kernel))
set_option maxRecDepth 20000 in
theorem gF_wsX10_grade_r3 : GoodIn lw_tbl wsX10_grade_r3 := (goodIn_r _ [1249, 1057, 1058, 1063, 1230, 1232, 40, 1233, 1062, 1042, 1061, 1234, 1236, 41, 1237, 1040, 1250, 1252, 45, 1253, 1254, 1256, 46, 1257] (by decide +kernel) (by decide +kernel))
set_option maxRecDepth 20000 in
theorem gF_wsX10_grade_r4 : GoodIn lw_tbl wsX10_grade_r4 := (goodIn_r _ [1060, 1258, 1260, 47, 1261, 1064, 1041, 1066, 1065, 1262, 1263, 1264, 1265, 1267, 48, 1268, 1047, 1059] (by decide +kernel) (by decide +kernel))
set_option maxRecDepth 20000 in
theorem gF_wsX10_grade : GoodIn lw_tbl wsX10_grade := goodIn_cons9 (goodIn_r _ [1352] (by decide +kernel) (by decide +kernel)) (goodIn_app (goodIn_app gF_wsX10_grade_r1 (goodIn_app gF_wsX10_grade_r2 (goodIn_app gF_wsX10_grade_r3 gF_wsX10_grade_r4))) gF_wsX100)
set_option maxRecDepth 20000 in
theorem gT_X10_grade : GoodIn lw_tbl (wsV RL 178 RX10 yX10_grade wsX10_grade) := goodIn_app (goodIn_r _ [1349, 1350, 1351, 70] (by decide +kernel) (by decide +kernel)) gF_wsX10_grade
set_option maxRecDepth 20000 in
theorem gF_wsX9_changed_r1 : GoodIn lw_tbl wsX9_changed_r1 := (goodIn_r _ [389, 190, 198, 436, 437, 438, 61, 439, 101, 440, 442, 0, 59, 443, 397, 398, 399, 444, 446, 1, 447, 491, 99, 62] (by decide +kernel) (by decide +kernel))
set_option maxRecDepth 20000 in
theorem gF_wsX9_changed_r2 : GoodIn lw_tbl wsX9_changed_r2 := (goodIn_r _ [100, 196, 448, 450, 2, 451, 393, 394, 396, 452, 453, 454, 65, 455, 199, 456, 457, 459, 3, 460, 392, 326, 324, 320] (by decide +kernel) (by decide +kernel))
set_option maxRecDepth 20000 in
theorem gF_wsX9_changed_r3 : GoodIn lw_tbl wsX9_changed_r3 := (goodIn_r _ [390, 229, 310, 318, 322, 461, 462, 463, 69, 464, 359, 361, 365, 366, 367, 368, 363, 465, 466, 467, 468, 469, 470, 471] (by decide +kernel) (by decide +kernel))
set_option maxRecDepth 20000 in
theorem gF_wsX9_changed_r4 : GoodIn lw_tbl wsX9_changed_r4 := (goodIn_r _ [472, 473, 474, 475, 476, 477, 478, 479, 480, 481, 482, 483, 484, 485, 486, 487, 489, 490] (by decide +kernel) (by decide +kernel))
set_option maxRecDepth 20000 in
theorem gF_wsX9_changed : GoodIn lw_tbl wsX9_changed := goodIn_cons9 (goodIn_r _ [435] (by decide +kernel) (by decide +kernel)) (goodIn_app (goodIn_app (goodIn_app (goodIn_app (goodIn_app (goodIn_app (goodIn_app gF_wsX9_changed_r1 (goodIn_app gF_wsX9_changed_r2 (goodIn_app gF_wsX9_changed_r3 gF_wsX9_changed_r4))) gF_wsX90) gF_wsX30) gF_wsX50) gF_wsX20) gF_wsX40) gF_wsX80)
set_option maxRecDepth 20000 in
theorem gT_X9_changed : GoodIn lw_tbl (wsV RL 179 RX9 yX9_changed wsX9_changed) := goodIn_app (goodIn_r _ [432, 433, 434, 59] (by decide +kernel) (by decide +kernel)) gF_wsX9_changed
set_option maxRecDepth 20000 in
theorem gF_wsX10_changed_r1 : GoodIn lw_tbl wsX10_changed_r1 := (goodIn_r _ [1027, 1031, 1037, 1297, 1299, 53, 70, 1300, 1039, 1301, 1303, 54, 1304, 1035, 1305, 1307, 55, 1308, 1036, 1030, 1309, 1311, 56, 1312] (by decide +kernel) (by decide +kernel))
set_option maxRecDepth 20000 in
theorem gF_wsX10_changed_r2 : GoodIn lw_tbl wsX10_changed_r2 := (goodIn_r _ [1043, 1226, 1228, 39, 1229, 1033, 1242, 1244, 43, 1245, 1246, 1248, 44, 1249, 1057, 1058, 1063, 1230, 1232, 40, 1233, 1062, 1042, 1061] (by decide +kernel) (by decide +kernel))
set_option maxRecDepth 20000 in
theorem gF_wsX10_changed_r3 : GoodIn lw_tbl wsX10_changed_r3 := (goodIn_r _ [1234, 1236, 41, 1237, 1040, 1250, 1252, 45, 1253, 1254, 1256, 46, 1257, 1060, 1258, 1260, 47, 1261, 1064, 1041, 1066, 1065, 1160, 1161] (by decide +kernel) (by decide +kernel))
set_option maxRecDepth 20000 in
theorem gF_wsX10_changed_r4 : GoodIn lw_tbl wsX10_changed_r4 := (goodIn_r _ [1162, 1262, 1263, 1264, 1265, 1267, 48, 1268, 1047, 1059] (by decide +kernel) (by decide +kernel))
set_option maxRecDepth 20000 in
theorem gF_wsX10_changed : GoodIn lw_tbl wsX10_changed := goodIn_cons9 (goodIn_r _ [1356] (by decide +kernel) (by decide +kernel)) (goodIn_app (goodIn_app gF_wsX10_changed_r1 (goodIn_app gF_wsX10_changed_r2 (goodIn_app gF_wsX10_changed_r3 gF_wsX10_changed_r4))) gF_wsX100)
set_option maxRecDepth 20000 in
theorem gT_X10_changed : GoodIn lw_tbl (wsV RL 182 RX10 yX10_changed wsX10_changed) := goodIn_app (goodIn_r _ [1353, 1354, 1355, 70] (by decide +kernel) (by decide +kernel)) gF_wsX10_changed
set_option maxRecDepth 20000 in
theorem gF_wsL_lineOf_r1 : GoodIn lw_tbl wsL_lineOf_r1 := (goodIn_r _ [508, 993, 994, 995, 59, 996, 514, 74, 395, 887, 889, 26, 890, 389, 190, 444, 446, 1, 447, 491, 99, 62, 100, 196] (by decide +kernel) (by decide +kernel))
set_option maxRecDepth 20000 in
theorem gF_wsL_lineOf_r2 : GoodIn lw_tbl wsL_lineOf_r2 := (goodIn_r _ [448, 450, 2, 451, 393, 394, 396, 452, 453, 454, 65, 455, 199, 456, 437, 438, 61, 439, 101, 457, 459, 3, 460, 392] (by decide +kernel) (by decide +kernel))
set_option maxRecDepth 20000 in
theorem gF_wsL_lineOf_r3 : GoodIn lw_tbl wsL_lineOf_r3 := (goodIn_r _ [326, 324, 320, 390, 229, 310, 318, 322, 461, 462, 463, 69, 464, 359, 361, 365, 366, 367, 368, 363, 465, 466, 467, 436] (by decide +kernel) (by decide +kernel))
set_option maxRecDepth 20000 in
theorem gF_wsL_lineOf_r4 : GoodIn lw_tbl wsL_lineOf_r4 := (goodIn_r _ [468, 469, 470, 471, 472, 473, 474, 475, 476, 477, 478, 479, 480, 481, 482, 483, 484, 485, 486, 487, 489, 490, 631, 597] (by decide +kernel) (by decide +kernel))
set_option maxRecDepth 20000 in
theorem gF_wsL_lineOf_r5 : GoodIn lw_tbl wsL_lineOf_r5 := (goodIn_r _ [598, 599, 997, 999, 31, 1000, 891, 893, 27, 894] (by decide +kernel) (by decide +kernel))
set_option maxRecDepth 20000 in
theorem gF_wsL_lineOf : GoodIn lw_tbl wsL_lineOf := goodIn_cons9 (goodIn_r _ [992] (by decide +kernel) (by decide +kernel)) (goodIn_app (goodIn_app (goodIn_app (goodIn_app (goodIn_app (goodIn_app (goodIn_app (goodIn_app gF_wsL_lineOf_r1 (goodIn_app gF_wsL_lineOf_r2 (goodIn_app gF_wsL_lineOf_r3 (goodIn_app gF_wsL_lineOf_r4 gF_wsL_lineOf_r5)))) gF_wsX90) gF_wsX30) gF_wsX50) gF_wsX20) gF_wsX40) gF_wsX80) gF_x83)
set_option maxRecDepth 20000 in
theorem gT_L_lineOf : GoodIn lw_tbl (va_wsS RL 183 yL_lineOf wsL_lineOf) := goodIn_app (goodIn_r _ [990, 991, 58] (by decide +kernel) (by decide +kernel)) gF_wsL_lineOf
set_option maxRecDepth 20000 in
theorem gF_wsX10_lineOf_r1 : GoodIn lw_tbl wsX10_lineOf_r1 := (goodIn_r _ [1160, 1161, 70, 1162, 1194, 1196, 35, 1197, 1027, 1361, 1363, 57, 1364, 1031, 1301, 1303, 54, 1304, 1035, 1305, 1307, 55, 1308, 1036] (by decide +kernel) (by decide +kernel))
set_option maxRecDepth 20000 in
theorem gF_wsX10_lineOf_r2 : GoodIn lw_tbl wsX10_lineOf_r2 := (goodIn_r _ [1030, 1309, 1311, 56, 1312, 1043, 1226, 1228, 39, 1229, 1033, 1242, 1244, 43, 1245, 1246, 1248, 44, 1249, 1057, 1058, 1063, 1230, 1232] (by decide +kernel) (by decide +kernel))
set_option maxRecDepth 20000 in
theorem gF_wsX10_lineOf_r3 : GoodIn lw_tbl wsX10_lineOf_r3 := (goodIn_r _ [40, 1233, 1062, 1042, 1061, 1234, 1236, 41, 1237, 1040, 1250, 1252, 45, 1253, 1254, 1256, 46, 1257, 1060, 1258, 1260, 47, 1261, 1064] (by decide +kernel) (by decide +kernel))
set_option maxRecDepth 20000 in
theorem gF_wsX10_lineOf_r4 : GoodIn lw_tbl wsX10_lineOf_r4 := (goodIn_r _ [1041, 1066, 1065, 1262, 1263, 1264, 1265, 1267, 48, 1268, 1047, 1059] (by decide +kernel) (by decide +kernel))
set_option maxRecDepth 20000 in
theorem gF_wsX10_lineOf : GoodIn lw_tbl wsX10_lineOf := goodIn_cons9 (goodIn_r _ [1360] (by decide +kernel) (by decide +kernel)) (goodIn_app (goodIn_app gF_wsX10_lineOf_r1 (goodIn_app gF_wsX10_lineOf_r2 (goodIn_app gF_wsX10_lineOf_r3 gF_wsX10_lineOf_r4))) gF_wsX100)
set_option maxRecDepth 20000 in
theorem gT_X10_lineOf : GoodIn lw_tbl (wsV RL 185 RX10 yX10_lineOf wsX10_lineOf) := goodIn_app (goodIn_r _ [1357, 1358, 1359, 70] (by decide +kernel) (by decide +kernel)) gF_wsX10_lineOf
set_option maxRecDepth 20000 in
theorem gF_wsL_lineAnew_r1 : GoodIn lw_tbl wsL_lineAnew_r1 := (goodIn_r _ [508, 1004, 1005, 1006, 59, 1007, 514, 74, 887, 889, 26, 890, 389, 190, 395, 444, 446, 1, 447, 491, 99, 62, 100, 196] (by decide +kernel) (by decide +kernel))
set_option maxRecDepth 20000 in
theorem gF_wsL_lineAnew_r2 : GoodIn lw_tbl wsL_lineAnew_r2 := (goodIn_r _ [448, 450, 2, 451, 393, 394, 396, 452, 453, 454, 65, 455, 199, 456, 437, 438, 61, 439, 101, 457, 459, 3, 460, 392] (by decide +kernel) (by decide +kernel))
set_option maxRecDepth 20000 in
theorem gF_wsL_lineAnew_r3 : GoodIn lw_tbl wsL_lineAnew_r3 := (goodIn_r _ [326, 324, 320, 390, 229, 310, 318, 322, 461, 462, 463, 69, 464, 359, 361, 365, 366, 367, 368, 363, 465, 466, 467, 436] (by decide +kernel) (by decide +kernel))
set_option maxRecDepth 20000 in
theorem gF_wsL_lineAnew_r4 : GoodIn lw_tbl wsL_lineAnew_r4 := (goodIn_r _ [468, 469, 470, 471, 472, 473, 474, 475, 476, 477, 478, 479, 480, 481, 482, 483, 484, 485, 486, 487, 489, 490, 631, 597] (by decide +kernel) (by decide +kernel))
set_option maxRecDepth 20000 in
theorem gF_wsL_lineAnew_r5 : GoodIn lw_tbl wsL_lineAnew_r5 := (goodIn_r _ [598, 599, 997, 999, 31, 1000, 891, 893, 27, 894] (by decide +kernel) (by decide +kernel))
set_option maxRecDepth 20000 in
theorem gF_wsL_lineAnew : GoodIn lw_tbl wsL_lineAnew := goodIn_cons9 (goodIn_r _ [1003] (by decide +kernel) (by decide +kernel)) (goodIn_app (goodIn_app (goodIn_app (goodIn_app (goodIn_app (goodIn_app (goodIn_app (goodIn_app gF_wsL_lineAnew_r1 (goodIn_app gF_wsL_lineAnew_r2 (goodIn_app gF_wsL_lineAnew_r3 (goodIn_app gF_wsL_lineAnew_r4 gF_wsL_lineAnew_r5)))) gF_wsX90) gF_wsX30) gF_wsX50) gF_wsX20) gF_wsX40) gF_wsX80) gF_x83)
set_option maxRecDepth 20000 in
theorem gT_L_lineAnew : GoodIn lw_tbl (va_wsS RL 186 yL_lineAnew wsL_lineAnew) := goodIn_app (goodIn_r _ [1001, 1002, 58] (by decide +kernel) (by decide +kernel)) gF_wsL_lineAnew
set_option maxRecDepth 20000 in
theorem gF_wsX10_lineAnew_r1 : GoodIn lw_tbl wsX10_lineAnew_r1 := (goodIn_r _ [1160, 1161, 70, 1162, 1194, 1196, 35, 1197, 1027, 1361, 1363, 57, 1364, 1031, 1301, 1303, 54, 1304, 1035, 1305, 1307, 55, 1308, 1036] (by decide +kernel) (by decide +kernel))
set_option maxRecDepth 20000 in
theorem gF_wsX10_lineAnew_r2 : GoodIn lw_tbl wsX10_lineAnew_r2 := (goodIn_r _ [1030, 1309, 1311, 56, 1312, 1043, 1226, 1228, 39, 1229, 1033, 1242, 1244, 43, 1245, 1246, 1248, 44, 1249, 1057, 1058, 1063, 1230, 1232] (by decide +kernel) (by decide +kernel))
set_option maxRecDepth 20000 in
theorem gF_wsX10_lineAnew_r3 : GoodIn lw_tbl wsX10_lineAnew_r3 := (goodIn_r _ [40, 1233, 1062, 1042, 1061, 1234, 1236, 41, 1237, 1040, 1250, 1252, 45, 1253, 1254, 1256, 46, 1257, 1060, 1258, 1260, 47, 1261, 1064] (by decide +kernel) (by decide +kernel))
set_option maxRecDepth 20000 in
theorem gF_wsX10_lineAnew_r4 : GoodIn lw_tbl wsX10_lineAnew_r4 := (goodIn_r _ [1041, 1066, 1065, 1262, 1263, 1264, 1265, 1267, 48, 1268, 1047, 1059] (by decide +kernel) (by decide +kernel))
set_option maxRecDepth 20000 in
theorem gF_wsX10_lineAnew : GoodIn lw_tbl wsX10_lineAnew := goodIn_cons9 (goodIn_r _ [1368] (by decide +kernel) (by decide +kernel)) (goodIn_app (goodIn_app gF_wsX10_lineAnew_r1 (goodIn_app gF_wsX10_lineAnew_r2 (goodIn_app gF_wsX10_lineAnew_r3 gF_wsX10_lineAnew_r4))) gF_wsX100)
set_option maxRecDepth 20000 in
theorem gT_X10_lineAnew : GoodIn lw_tbl (wsV RL 188 RX10 yX10_lineAnew wsX10_lineAnew) := goodIn_app (goodIn_r _ [1365, 1366, 1367, 70] (by decide +kernel) (by decide +kernel)) gF_wsX10_lineAnew
set_option maxRecDepth 20000 in
theorem gF_wsL_ofReader_r1 : GoodIn lw_tbl wsL_ofReader_r1 := (goodIn_r _ [607, 508, 1011, 1012, 1013, 59, 1014, 616, 76, 514, 74, 390, 231, 233, 239, 241, 243, 247, 792, 793, 794, 66, 795, 224] (by decide +kernel) (by decide +kernel))
set_option maxRecDepth 20000 in
theorem gF_wsL_ofReader_r2 : GoodIn lw_tbl wsL_ofReader_r2 := (goodIn_r _ [436, 437, 438, 61, 439, 101, 1015, 1016, 77, 1017, 1018, 1019, 1020] (by decide +kernel) (by decide +kernel))
set_option maxRecDepth 20000 in
theorem gF_wsL_ofReader : GoodIn lw_tbl wsL_ofReader := goodIn_cons9 (goodIn_r _ [1010] (by decide +kernel) (by decide +kernel)) (goodIn_app (goodIn_app (goodIn_app (goodIn_app (goodIn_app (goodIn_app gF_wsL_ofReader_r1 gF_wsL_ofReader_r2) gF_wsX90) gF_wsX40) gF_wsX50) gF_x100) gF_x83)
set_option maxRecDepth 20000 in
theorem gT_L_ofReader : GoodIn lw_tbl (va_wsS RL 189 yL_ofReader wsL_ofReader) := goodIn_app (goodIn_r _ [1008, 1009, 58] (by decide +kernel) (by decide +kernel)) gF_wsL_ofReader
set_option maxRecDepth 20000 in
theorem gF_wsX10_ofReader_r1 : GoodIn lw_tbl wsX10_ofReader_r1 := (goodIn_r _ [1057, 1059, 1053, 1048, 1051, 1218, 1220, 37, 70, 1221, 1044, 1160, 1161, 1162, 1163, 1165, 32, 1166, 1027, 1277, 1279, 51, 1280, 1049] (by decide +kernel) (by decide +kernel))
set_option maxRecDepth 20000 in
theorem gF_wsX10_ofReader_r2 : GoodIn lw_tbl wsX10_ofReader_r2 := (goodIn_r _ [1055, 1289, 1291, 52, 1292, 1062] (by decide +kernel) (by decide +kernel))
set_option maxRecDepth 20000 in
theorem gF_wsX10_ofReader : GoodIn lw_tbl wsX10_ofReader := goodIn_cons9 (goodIn_r _ [1372] (by decide +kernel) (by decide +kernel)) (goodIn_app (goodIn_app gF_wsX10_ofReader_r1 gF_wsX10_ofReader_r2) gF_wsX100)
set_option maxRecDepth 20000 in
theorem gT_X10_ofReader : GoodIn lw_tbl (wsV RL 191 RX10 yX10_ofReader wsX10_ofReader) := goodIn_app (goodIn_r _ [1369, 1370, 1371, 70] (by decide +kernel) (by decide +kernel)) gF_wsX10_ofReader
set_option maxRecDepth 20000 in
theorem gF_wsX9_wanted_r1 : GoodIn lw_tbl wsX9_wanted_r1 := (goodIn_r _ [389, 190, 496, 498, 4, 59, 499, 393, 394, 396, 364, 452, 453, 454, 65, 455, 199, 456, 437, 438, 61, 439, 101, 457] (by decide +kernel) (by decide +kernel))
set_option maxRecDepth 20000 in
theorem gF_wsX9_wanted_r2 : GoodIn lw_tbl wsX9_wanted_r2 := (goodIn_r _ [459, 3, 460, 392, 326, 324, 320, 390, 229, 310, 318, 322, 461, 462, 463, 69, 464, 359, 361, 365, 366, 367, 368, 363] (by decide +kernel) (by decide +kernel))
set_option maxRecDepth 20000 in
theorem gF_wsX9_wanted_r3 : GoodIn lw_tbl wsX9_wanted_r3 := (goodIn_r _ [465, 466, 467, 436, 468, 469, 470, 471, 472, 473, 474, 475, 500, 481, 482, 483, 484, 485, 486, 487, 489, 490, 501, 502] (by decide +kernel) (by decide +kernel))
set_option maxRecDepth 20000 in
theorem gF_wsX9_wanted_r4 : GoodIn lw_tbl wsX9_wanted_r4 := (goodIn_r _ [503, 504, 200] (by decide +kernel) (by decide +kernel))
set_option maxRecDepth 20000 in
theorem gF_wsX9_wanted : GoodIn lw_tbl wsX9_wanted := goodIn_cons9 (goodIn_r _ [495] (by decide +kernel) (by decide +kernel)) (goodIn_app (goodIn_app (goodIn_app (goodIn_app (goodIn_app (goodIn_app (goodIn_app gF_wsX9_wanted_r1 (goodIn_app gF_wsX9_wanted_r2 (goodIn_app gF_wsX9_wanted_r3 gF_wsX9_wanted_r4))) gF_wsX90) gF_wsX30) gF_wsX80) gF_wsX50) gF_wsX20) gF_wsX40)
set_option maxRecDepth 20000 in
theorem gT_X9_wanted : GoodIn lw_tbl (wsV RL 192 RX9 yX9_wanted wsX9_wanted) := goodIn_app (goodIn_r _ [492, 493, 494, 59] (by decide +kernel) (by decide +kernel)) gF_wsX9_wanted
set_option maxRecDepth 20000 in
theorem gF_wsX10_wanted_r1 : GoodIn lw_tbl wsX10_wanted_r1 := (goodIn_r _ [1027, 1031, 1238, 1240, 42, 70, 1241, 1036, 1226, 1228, 39, 1229, 1033, 1242, 1244, 43, 1245, 1043, 1246, 1248, 44, 1249, 1057, 1058] (by decide +kernel) (by decide +kernel))
set_option maxRecDepth 20000 in
theorem gF_wsX10_wanted_r2 : GoodIn lw_tbl wsX10_wanted_r2 := (goodIn_r _ [1063, 1230, 1232, 40, 1233, 1062, 1042, 1061, 1234, 1236, 41, 1237, 1040, 1250, 1252, 45, 1253, 1030, 1254, 1256, 46, 1257, 1060, 1258] (by decide +kernel) (by decide +kernel))
set_option maxRecDepth 20000 in
theorem gF_wsX10_wanted_r3 : GoodIn lw_tbl wsX10_wanted_r3 := (goodIn_r _ [1260, 47, 1261, 1064, 1041, 1066, 1065, 1160, 1161, 1162, 1262, 1263, 1264, 1265, 1267, 48, 1268, 1047, 1059] (by decide +kernel) (by decide +kernel))
set_option maxRecDepth 20000 in
theorem gF_wsX10_wanted : GoodIn lw_tbl wsX10_wanted := goodIn_cons9 (goodIn_r _ [1376] (by decide +kernel) (by decide +kernel)) (goodIn_app (goodIn_app gF_wsX10_wanted_r1 (goodIn_app gF_wsX10_wanted_r2 gF_wsX10_wanted_r3)) gF_wsX100)
set_option maxRecDepth 20000 in
theorem gT_X10_wanted : GoodIn lw_tbl (wsV RL 195 RX10 yX10_wanted wsX10_wanted) := goodIn_app (goodIn_r _ [1373, 1374, 1375, 70] (by decide +kernel) (by decide +kernel)) gF_wsX10_wanted
