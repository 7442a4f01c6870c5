/-! printed by wip/whole/gen/lawwords.py -/
theorem goodIn_cons9 {big a : List Cond} {c : Cond} (ha : GoodIn big [c]) (hb : GoodIn big a) : GoodIn big (c :: a) := fun w h => (List.mem_cons.mp h).elim (fun e => ha w (by rw [e]; exact List.mem_singleton.mpr rfl)) (hb w)
set_option maxRecDepth 20000 in
theorem gF_wsX9_init_r1 : GoodIn lw_tbl wsX9_init_r1 := (goodIn_r _ [84, 85, 86, 87, 88, 61, 387, 117, 118, 64, 388, 148, 149, 65, 389, 182, 183, 66, 390, 217, 218, 67, 391, 277] (by decide +kernel) (by decide +kernel))
set_option maxRecDepth 20000 in
theorem gF_wsX9_init_r2 : GoodIn lw_tbl wsX9_init_r2 := (goodIn_r _ [278, 68, 392, 298, 299, 69, 393, 354, 355, 70, 394, 385, 94, 62, 395, 396, 397, 90, 91, 92, 93, 107, 95, 96] (by decide +kernel) (by decide +kernel))
set_option maxRecDepth 20000 in
theorem gF_wsX9_init_r3 : GoodIn lw_tbl wsX9_init_r3 := (goodIn_r _ [97, 98, 99, 100, 63, 101, 106, 102, 120, 121, 122, 123, 125, 124, 151, 152, 153, 154, 156, 158, 159, 160, 161, 162] (by decide +kernel) (by decide +kernel))
set_option maxRecDepth 20000 in
theorem gF_wsX9_init_r4 : GoodIn lw_tbl wsX9_init_r4 := (goodIn_r _ [163, 164, 155, 185, 186, 187, 188, 192, 194, 196, 198, 200, 201, 189, 220, 221, 222, 223, 227, 229, 231, 233, 235, 237] (by decide +kernel) (by decide +kernel))
set_option maxRecDepth 20000 in
theorem gF_wsX9_init_r5 : GoodIn lw_tbl wsX9_init_r5 := (goodIn_r _ [239, 241, 243, 245, 247, 249, 224, 280, 281, 282, 283, 287, 289, 284, 301, 302, 303, 304, 308, 310, 312, 314, 316, 318] (by decide +kernel) (by decide +kernel))
set_option maxRecDepth 20000 in
theorem gF_wsX9_init_r6 : GoodIn lw_tbl wsX9_init_r6 := (goodIn_r _ [320, 322, 324, 326, 328, 305, 357, 358, 359, 386] (by decide +kernel) (by decide +kernel))
set_option maxRecDepth 20000 in
theorem gF_wsX10 : GoodIn lw_tbl wsX10 := goodIn_sub (by decide +kernel) (by decide +kernel)
set_option maxRecDepth 20000 in
theorem gF_wsX90 : GoodIn lw_tbl wsX90 := goodIn_sub (by decide +kernel) (by decide +kernel)
set_option maxRecDepth 20000 in
theorem gF_wsX00 : GoodIn lw_tbl wsX00 := goodIn_sub (by decide +kernel) (by decide +kernel)
set_option maxRecDepth 20000 in
theorem gF_wsX60 : GoodIn lw_tbl wsX60 := goodIn_sub (by decide +kernel) (by decide +kernel)
set_option maxRecDepth 20000 in
theorem gF_wsX30 : GoodIn lw_tbl wsX30 := goodIn_sub (by decide +kernel) (by decide +kernel)
set_option maxRecDepth 20000 in
theorem gF_wsX40 : GoodIn lw_tbl wsX40 := goodIn_sub (by decide +kernel) (by decide +kernel)
set_option maxRecDepth 20000 in
theorem gF_wsX70 : GoodIn lw_tbl wsX70 := goodIn_sub (by decide +kernel) (by decide +kernel)
set_option maxRecDepth 20000 in
theorem gF_wsX20 : GoodIn lw_tbl wsX20 := goodIn_sub (by decide +kernel) (by decide +kernel)
set_option maxRecDepth 20000 in
theorem gF_wsX80 : GoodIn lw_tbl wsX80 := goodIn_sub (by decide +kernel) (by decide +kernel)
set_option maxRecDepth 20000 in
theorem gF_wsX50 : GoodIn lw_tbl wsX50 := goodIn_sub (by decide +kernel) (by decide +kernel)
set_option maxRecDepth 20000 in
theorem gF_wsX9_init : GoodIn lw_tbl wsX9_init := goodIn_cons9 (goodIn_r _ [83] (by decide +kernel) (by decide +kernel)) (goodIn_app (goodIn_app (goodIn_app (goodIn_app (goodIn_app (goodIn_app (goodIn_app (goodIn_app (goodIn_app (goodIn_app (goodIn_app gF_wsX9_init_r1 (goodIn_app gF_wsX9_init_r2 (goodIn_app gF_wsX9_init_r3 (goodIn_app gF_wsX9_init_r4 (goodIn_app gF_wsX9_init_r5 gF_wsX9_init_r6))))) gF_wsX10) gF_wsX90) gF_wsX00) gF_wsX60) gF_wsX30) gF_wsX40) gF_wsX70) gF_wsX20) gF_wsX80) gF_wsX50)
set_option maxRecDepth 20000 in
theorem gF_wsX10_init_r1 : GoodIn lw_tbl wsX10_init_r1 := (goodIn_r _ [1031, 85, 86, 106, 1034, 1035, 1037, 1038, 1156, 1039, 1040, 1041, 1042, 1044, 1045, 1046, 1047, 1048, 1050, 1051, 1052, 1053, 1054, 1055] (by decide +kernel) (by decide +kernel))
set_option maxRecDepth 20000 in
theorem gF_wsX10_init_r2 : GoodIn lw_tbl wsX10_init_r2 := (goodIn_r _ [1056, 1057, 1058, 1060, 1061, 1063, 1064, 1065, 1066, 1067, 1068, 1069, 1070, 1071, 1072] (by decide +kernel) (by decide +kernel))
set_option maxRecDepth 20000 in
theorem gF_wsX100 : GoodIn lw_tbl wsX100 := goodIn_sub (by decide +kernel) (by decide +kernel)
set_option maxRecDepth 20000 in
theorem gF_wsX10_init : GoodIn lw_tbl wsX10_init := goodIn_cons9 (goodIn_r _ [1030] (by decide +kernel) (by decide +kernel)) (goodIn_app (goodIn_app gF_wsX10_init_r1 gF_wsX10_init_r2) gF_wsX100)
set_option maxRecDepth 20000 in
theorem gF_wsL_pupil_r1 : GoodIn lw_tbl wsL_pupil_r1 := (goodIn_r _ [509, 510, 511, 512, 513, 60, 514, 515, 75, 578, 76, 390, 191, 593, 594, 595, 66, 596, 190, 192, 200, 194, 198, 597] (by decide +kernel) (by decide +kernel))
set_option maxRecDepth 20000 in
theorem gF_wsL_pupil_r2 : GoodIn lw_tbl wsL_pupil_r2 := (goodIn_r _ [598, 599, 62, 600, 102, 601, 602, 603, 604] (by decide +kernel) (by decide +kernel))
set_option maxRecDepth 20000 in
theorem gF_x83 : GoodIn lw_tbl ((vx_at0 RX9 83 (exN 1) exS).filter goodWord) := goodIn_sub (by decide +kernel) (by decide +kernel)
set_option maxRecDepth 20000 in
theorem gF_x89 : GoodIn lw_tbl ((vx_at0 RX9 89 (exN 2) exS).filter goodWord) := goodIn_sub (by decide +kernel) (by decide +kernel)
set_option maxRecDepth 20000 in
theorem gF_wsL_pupil : GoodIn lw_tbl wsL_pupil := goodIn_cons9 (goodIn_r _ [508] (by decide +kernel) (by decide +kernel)) (goodIn_app (goodIn_app (goodIn_app (goodIn_app (goodIn_app (goodIn_app gF_wsL_pupil_r1 gF_wsL_pupil_r2) gF_wsX90) gF_wsX30) gF_wsX50) gF_x83) gF_x89)
set_option maxRecDepth 20000 in
theorem gT_L_pupil : GoodIn lw_tbl (va_wsS RL 102 yL_pupil wsL_pupil) := goodIn_app (goodIn_r _ [506, 507, 59] (by decide +kernel) (by decide +kernel)) gF_wsL_pupil
set_option maxRecDepth 20000 in
theorem gF_wsX10_pupil : GoodIn lw_tbl wsX10_pupil := goodIn_cons9 (goodIn_r _ [1164] (by decide +kernel) (by decide +kernel)) (goodIn_app (goodIn_r _ [1036, 1037, 1038, 1039, 1165, 1166, 71, 1167, 1168, 1170, 33, 1171, 1032] (by decide +kernel) (by decide +kernel)) gF_wsX100)
set_option maxRecDepth 20000 in
theorem gT_X10_pupil : GoodIn lw_tbl (wsV RL 107 RX10 yX10_pupil wsX10_pupil) := goodIn_app (goodIn_r _ [1161, 1162, 1163, 71] (by decide +kernel) (by decide +kernel)) gF_wsX10_pupil
set_option maxRecDepth 20000 in
theorem gF_wsX10_thrown : GoodIn lw_tbl wsX10_thrown := goodIn_cons9 (goodIn_r _ [1160] (by decide +kernel) (by decide +kernel)) (goodIn_app (goodIn_r _ [1032] (by decide +kernel) (by decide +kernel)) gF_wsX100)
set_option maxRecDepth 20000 in
theorem gT_X10_thrown : GoodIn lw_tbl (wsV RL 108 RX10 yX10_thrown wsX10_thrown) := goodIn_app (goodIn_r _ [1157, 1158, 1159, 71] (by decide +kernel) (by decide +kernel)) gF_wsX10_thrown
set_option maxRecDepth 20000 in
theorem gF_wsL_gift_r1 : GoodIn lw_tbl wsL_gift_r1 := (goodIn_r _ [608, 509, 609, 610, 611, 60, 612, 617, 77, 515, 75, 390, 197, 613, 614, 615, 66, 616, 190, 437, 438, 439, 62, 440] (by decide +kernel) (by decide +kernel))
set_option maxRecDepth 20000 in
theorem gF_wsL_gift_r2 : GoodIn lw_tbl wsL_gift_r2 := (goodIn_r _ [102, 632, 598, 599, 600] (by decide +kernel) (by decide +kernel))
set_option maxRecDepth 20000 in
theorem gF_x100 : GoodIn lw_tbl ((vx_at0 RX9 100 (exN 3) exS).filter goodWord) := goodIn_sub (by decide +kernel) (by decide +kernel)
set_option maxRecDepth 20000 in
theorem gF_wsL_gift : GoodIn lw_tbl wsL_gift := goodIn_cons9 (goodIn_r _ [607] (by decide +kernel) (by decide +kernel)) (goodIn_app (goodIn_app (goodIn_app (goodIn_app (goodIn_app (goodIn_app gF_wsL_gift_r1 gF_wsL_gift_r2) gF_wsX90) gF_wsX30) gF_wsX50) gF_x100) gF_x83)
set_option maxRecDepth 20000 in
theorem gT_L_gift : GoodIn lw_tbl (va_wsS RL 111 yL_gift wsL_gift) := goodIn_app (goodIn_r _ [605, 606, 59] (by decide +kernel) (by decide +kernel)) gF_wsL_gift
set_option maxRecDepth 20000 in
theorem gF_wsX10_gift : GoodIn lw_tbl wsX10_gift := goodIn_cons9 (goodIn_r _ [1175] (by decide +kernel) (by decide +kernel)) (goodIn_app (goodIn_r _ [1040, 1176, 1178, 34, 71, 1179, 1036, 1165, 1166, 1167, 1168, 1170, 33, 1171, 1032] (by decide +kernel) (by decide +kernel)) gF_wsX100)
set_option maxRecDepth 20000 in
theorem gT_X10_gift : GoodIn lw_tbl (wsV RL 114 RX10 yX10_gift wsX10_gift) := goodIn_app (goodIn_r _ [1172, 1173, 1174, 71] (by decide +kernel) (by decide +kernel)) gF_wsX10_gift
set_option maxRecDepth 20000 in
theorem gF_wsL_type_r1 : GoodIn lw_tbl wsL_type_r1 := (goodIn_r _ [509, 510, 636, 637, 638, 60, 639, 515, 75, 578, 76, 387, 111, 640, 641, 642, 61, 643, 109, 107, 644, 598, 599, 62] (by decide +kernel) (by decide +kernel))
set_option maxRecDepth 20000 in
theorem gF_wsL_type_r2 : GoodIn lw_tbl wsL_type_r2 := (goodIn_r _ [600, 102] (by decide +kernel) (by decide +kernel))
set_option maxRecDepth 20000 in
theorem gF_wsL_type : GoodIn lw_tbl wsL_type := goodIn_cons9 (goodIn_r _ [635] (by decide +kernel) (by decide +kernel)) (goodIn_app (goodIn_app (goodIn_app (goodIn_app (goodIn_app (goodIn_app gF_wsL_type_r1 gF_wsL_type_r2) gF_wsX90) gF_wsX10) gF_wsX50) gF_x83) gF_x89)
set_option maxRecDepth 20000 in
theorem gT_L_type : GoodIn lw_tbl (va_wsS RL 115 yL_type wsL_type) := goodIn_app (goodIn_r _ [633, 634, 59] (by decide +kernel) (by decide +kernel)) gF_wsL_type
set_option maxRecDepth 20000 in
theorem gF_wsX10_type : GoodIn lw_tbl wsX10_type := goodIn_cons9 (goodIn_r _ [1183] (by decide +kernel) (by decide +kernel)) (goodIn_app (goodIn_r _ [1033, 1034, 1165, 1166, 71, 1167, 1168, 1170, 33, 1171, 1032] (by decide +kernel) (by decide +kernel)) gF_wsX100)
set_option maxRecDepth 20000 in
theorem gT_X10_type : GoodIn lw_tbl (wsV RL 118 RX10 yX10_type wsX10_type) := goodIn_app (goodIn_r _ [1180, 1181, 1182, 71] (by decide +kernel) (by decide +kernel)) gF_wsX10_type
set_option maxRecDepth 20000 in
theorem gF_wsL_scheme_r1 : GoodIn lw_tbl wsL_scheme_r1 := (goodIn_r _ [608, 510, 648, 649, 650, 60, 651, 617, 77, 578, 76, 389, 157, 388, 387, 652, 653, 654, 437, 438, 439, 62, 440, 102] (by decide +kernel) (by decide +kernel))
set_option maxRecDepth 20000 in
theorem gF_wsL_scheme_r2 : GoodIn lw_tbl wsL_scheme_r2 := (goodIn_r _ [655, 656, 657, 64, 658, 110, 108, 134, 133, 659, 661, 6, 662, 127, 129, 131, 663, 664, 666, 7, 667, 668, 670, 8] (by decide +kernel) (by decide +kernel))
set_option maxRecDepth 20000 in
theorem gF_wsL_scheme_r3 : GoodIn lw_tbl wsL_scheme_r3 := (goodIn_r _ [671, 125, 672, 598, 599, 600, 673, 675, 9, 676, 677, 679, 10, 680, 681, 683, 11, 684, 685, 687, 12, 688, 689, 691] (by decide +kernel) (by decide +kernel))
set_option maxRecDepth 20000 in
theorem gF_wsL_scheme_r4 : GoodIn lw_tbl wsL_scheme_r4 := (goodIn_r _ [13, 692, 693, 694, 695, 61, 696, 109, 697, 698, 699, 65, 700, 156, 128, 158, 126, 159, 160, 130, 161, 132, 701, 702] (by decide +kernel) (by decide +kernel))
set_option maxRecDepth 20000 in
theorem gF_wsL_scheme_r5 : GoodIn lw_tbl wsL_scheme_r5 := (goodIn_r _ [703, 704, 705, 706, 707, 709, 14, 710, 393, 307, 309, 321, 313, 711, 713, 15, 714, 317, 315, 469, 470, 471, 472, 715] (by decide +kernel) (by decide +kernel))
set_option maxRecDepth 20000 in
theorem gF_wsL_scheme_r6 : GoodIn lw_tbl wsL_scheme_r6 := (goodIn_r _ [716, 717, 718, 719, 720, 721, 722, 723, 724, 725, 726, 162, 164, 163, 736, 737, 63, 738, 727, 729, 16, 730, 731, 733] (by decide +kernel) (by decide +kernel))
set_option maxRecDepth 20000 in
theorem gF_wsL_scheme_r7 : GoodIn lw_tbl wsL_scheme_r7 := (goodIn_r _ [17, 734, 735, 100, 101, 632] (by decide +kernel) (by decide +kernel))
set_option maxRecDepth 20000 in
theorem gF_wsL_scheme : GoodIn lw_tbl wsL_scheme := goodIn_cons9 (goodIn_r _ [647] (by decide +kernel) (by decide +kernel)) (goodIn_app (goodIn_app (goodIn_app (goodIn_app (goodIn_app (goodIn_app (goodIn_app (goodIn_app (goodIn_app gF_wsL_scheme_r1 (goodIn_app gF_wsL_scheme_r2 (goodIn_app gF_wsL_scheme_r3 (goodIn_app gF_wsL_scheme_r4 (goodIn_app gF_wsL_scheme_r5 (goodIn_app gF_wsL_scheme_r6 gF_wsL_scheme_r7)))))) gF_wsX90) gF_wsX60) gF_wsX50) gF_wsX10) gF_wsX00) gF_wsX20) gF_x100) gF_x89)
set_option maxRecDepth 20000 in
theorem gT_L_scheme : GoodIn lw_tbl (va_wsS RL 119 yL_scheme wsL_scheme) := goodIn_app (goodIn_r _ [645, 646, 59] (by decide +kernel) (by decide +kernel)) gF_wsL_scheme
set_option maxRecDepth 20000 in
theorem gF_wsX10_scheme : GoodIn lw_tbl wsX10_scheme := goodIn_cons9 (goodIn_r _ [1187] (by decide +kernel) (by decide +kernel)) (goodIn_app (goodIn_r _ [1045, 1033, 1047, 1072, 1046, 1188, 1189, 71, 1190, 1165, 1166, 1167, 1168, 1170, 33, 1171, 1032, 1191, 1193, 35, 1194, 1034] (by decide +kernel) (by decide +kernel)) gF_wsX100)
set_option maxRecDepth 20000 in
theorem gT_X10_scheme : GoodIn lw_tbl (wsV RL 121 RX10 yX10_scheme wsX10_scheme) := goodIn_app (goodIn_r _ [1184, 1185, 1186, 71] (by decide +kernel) (by decide +kernel)) gF_wsX10_scheme
set_option maxRecDepth 20000 in
theorem gF_wsL_twice : GoodIn lw_tbl wsL_twice := goodIn_cons9 (goodIn_r _ [741] (by decide +kernel) (by decide +kernel)) (goodIn_app (goodIn_app (goodIn_app (goodIn_r _ [608, 742, 743, 744, 60, 745, 617, 77, 395, 652, 653, 654, 469, 470, 471, 62, 472, 102, 746, 602, 603, 604] (by decide +kernel) (by decide +kernel)) gF_wsX90) gF_wsX50) gF_x100)
set_option maxRecDepth 20000 in
theorem gT_L_twice : GoodIn lw_tbl (va_wsS RL 122 yL_twice wsL_twice) := goodIn_app (goodIn_r _ [739, 740, 59] (by decide +kernel) (by decide +kernel)) gF_wsL_twice
set_option maxRecDepth 20000 in
theorem gF_wsX10_twice : GoodIn lw_tbl wsX10_twice := goodIn_cons9 (goodIn_r _ [1198] (by decide +kernel) (by decide +kernel)) (goodIn_app (goodIn_r _ [1048, 1188, 1189, 71, 1190, 1165, 1166, 1167, 1199, 1201, 36, 1202, 1032] (by decide +kernel) (by decide +kernel)) gF_wsX100)
set_option maxRecDepth 20000 in
theorem gT_X10_twice : GoodIn lw_tbl (wsV RL 125 RX10 yX10_twice wsX10_twice) := goodIn_app (goodIn_r _ [1195, 1196, 1197, 71] (by decide +kernel) (by decide +kernel)) gF_wsX10_twice
set_option maxRecDepth 20000 in
theorem gF_wsL_tolerance : GoodIn lw_tbl wsL_tolerance := goodIn_cons9 (goodIn_r _ [749] (by decide +kernel) (by decide +kernel)) (goodIn_app (goodIn_app (goodIn_r _ [509, 750, 751, 752, 60, 753, 515, 75, 397] (by decide +kernel) (by decide +kernel)) gF_wsX90) gF_x83)
set_option maxRecDepth 20000 in
theorem gT_L_tolerance : GoodIn lw_tbl (va_wsS RL 126 yL_tolerance wsL_tolerance) := goodIn_app (goodIn_r _ [747, 748, 59] (by decide +kernel) (by decide +kernel)) gF_wsL_tolerance
set_option maxRecDepth 20000 in
theorem gF_wsX10_tolerance : GoodIn lw_tbl wsX10_tolerance := goodIn_cons9 (goodIn_r _ [1206] (by decide +kernel) (by decide +kernel)) (goodIn_app (goodIn_r _ [1035, 1165, 1166, 71, 1167, 1199, 1201, 36, 1202, 1032] (by decide +kernel) (by decide +kernel)) gF_wsX100)
set_option maxRecDepth 20000 in
theorem gT_X10_tolerance : GoodIn lw_tbl (wsV RL 128 RX10 yX10_tolerance wsX10_tolerance) := goodIn_app (goodIn_r _ [1203, 1204, 1205, 71] (by decide +kernel) (by decide +kernel)) gF_wsX10_tolerance
set_option maxRecDepth 20000 in
theorem gF_wsL_reader_r1 : GoodIn lw_tbl wsL_reader_r1 := (goodIn_r _ [509, 510, 757, 758, 759, 60, 760, 515, 75, 578, 76, 391, 226, 761, 762, 763, 67, 764, 225, 227, 249, 229, 233, 765] (by decide +kernel) (by decide +kernel))
set_option maxRecDepth 20000 in
theorem gF_wsL_reader_r2 : GoodIn lw_tbl wsL_reader_r2 := (goodIn_r _ [598, 599, 62, 600, 102, 766, 602, 603, 604] (by decide +kernel) (by decide +kernel))
set_option maxRecDepth 20000 in
theorem gF_wsL_reader : GoodIn lw_tbl wsL_reader := goodIn_cons9 (goodIn_r _ [756] (by decide +kernel) (by decide +kernel)) (goodIn_app (goodIn_app (goodIn_app (goodIn_app (goodIn_app (goodIn_app gF_wsL_reader_r1 gF_wsL_reader_r2) gF_wsX90) gF_wsX40) gF_wsX50) gF_x83) gF_x89)
set_option maxRecDepth 20000 in
theorem gT_L_reader : GoodIn lw_tbl (va_wsS RL 129 yL_reader wsL_reader) := goodIn_app (goodIn_r _ [754, 755, 59] (by decide +kernel) (by decide +kernel)) gF_wsL_reader
set_option maxRecDepth 20000 in
theorem gF_wsX10_reader : GoodIn lw_tbl wsX10_reader := goodIn_cons9 (goodIn_r _ [1210] (by decide +kernel) (by decide +kernel)) (goodIn_app (goodIn_r _ [1049, 1050, 1051, 1052, 1054, 1165, 1166, 71, 1167, 1168, 1170, 33, 1171, 1032] (by decide +kernel) (by decide +kernel)) gF_wsX100)
set_option maxRecDepth 20000 in
theorem gT_X10_reader : GoodIn lw_tbl (wsV RL 131 RX10 yX10_reader wsX10_reader) := goodIn_app (goodIn_r _ [1207, 1208, 1209, 71] (by decide +kernel) (by decide +kernel)) gF_wsX10_reader
set_option maxRecDepth 20000 in
theorem gF_wsL_seed_r1 : GoodIn lw_tbl wsL_seed_r1 := (goodIn_r _ [608, 509, 510, 770, 771, 772, 60, 773, 617, 77, 515, 75, 578, 76, 392, 286, 389, 652, 653, 654, 774, 775, 776, 777] (by decide +kernel) (by decide +kernel))
set_option maxRecDepth 20000 in
theorem gF_wsL_seed_r2 : GoodIn lw_tbl wsL_seed_r2 := (goodIn_r _ [778, 779, 65, 780, 156, 701, 438, 439, 62, 440, 102, 781, 782, 783, 68, 784, 285, 287, 289, 785, 598, 599, 600] (by decide +kernel) (by decide +kernel))
set_option maxRecDepth 20000 in
theorem gF_wsL_seed : GoodIn lw_tbl wsL_seed := goodIn_cons9 (goodIn_r _ [769] (by decide +kernel) (by decide +kernel)) (goodIn_app (goodIn_app (goodIn_app (goodIn_app (goodIn_app (goodIn_app (goodIn_app (goodIn_app gF_wsL_seed_r1 gF_wsL_seed_r2) gF_wsX90) gF_wsX70) gF_wsX60) gF_wsX50) gF_x100) gF_x83) gF_x89)
set_option maxRecDepth 20000 in
theorem gT_L_seed : GoodIn lw_tbl (va_wsS RL 132 yL_seed wsL_seed) := goodIn_app (goodIn_r _ [767, 768, 59] (by decide +kernel) (by decide +kernel)) gF_wsL_seed
set_option maxRecDepth 20000 in
theorem gF_wsX10_seed : GoodIn lw_tbl wsX10_seed := goodIn_cons9 (goodIn_r _ [1214] (by decide +kernel) (by decide +kernel)) (goodIn_app (goodIn_r _ [1059, 1045, 1060, 1061, 1188, 1189, 71, 1190, 1165, 1166, 1167, 1215, 1217, 37, 1218, 1032] (by decide +kernel) (by decide +kernel)) gF_wsX100)
set_option maxRecDepth 20000 in
theorem gT_X10_seed : GoodIn lw_tbl (wsV RL 134 RX10 yX10_seed wsX10_seed) := goodIn_app (goodIn_r _ [1211, 1212, 1213, 71] (by decide +kernel) (by decide +kernel)) gF_wsX10_seed
set_option maxRecDepth 20000 in
theorem gF_wsL_next_r1 : GoodIn lw_tbl wsL_next_r1 := (goodIn_r _ [608, 510, 789, 790, 791, 60, 792, 617, 77, 578, 76, 391, 232, 234, 793, 794, 795, 67, 796, 225, 469, 470, 471, 62] (by decide +kernel) (by decide +kernel))
set_option maxRecDepth 20000 in
theorem gF_wsL_next_r2 : GoodIn lw_tbl wsL_next_r2 := (goodIn_r _ [472, 102, 437, 438, 439, 440, 797, 799, 18, 800, 392, 288, 801, 803, 19, 804, 244, 286, 248, 805, 806, 807, 808, 249] (by decide +kernel) (by decide +kernel))
set_option maxRecDepth 20000 in
theorem gF_wsL_next_r3 : GoodIn lw_tbl wsL_next_r3 := (goodIn_r _ [809, 810, 811, 812, 813, 233, 235, 247, 765, 598, 599, 600, 814, 816, 20, 817, 390, 191, 195, 394, 395, 397, 818, 820] (by decide +kernel) (by decide +kernel))
set_option maxRecDepth 20000 in
theorem gF_wsL_next_r4 : GoodIn lw_tbl wsL_next_r4 := (goodIn_r _ [21, 821, 193, 228, 389, 230, 453, 454, 455, 66, 456, 200, 457, 777, 778, 779, 65, 780, 156, 701, 466, 467, 468, 822] (by decide +kernel) (by decide +kernel))
set_option maxRecDepth 20000 in
theorem gF_wsL_next_r5 : GoodIn lw_tbl wsL_next_r5 := (goodIn_r _ [824, 22, 825, 393, 327, 325, 311, 321, 323, 497, 499, 4, 500, 365, 458, 460, 3, 461, 319, 462, 463, 464, 70, 465] (by decide +kernel) (by decide +kernel))
set_option maxRecDepth 20000 in
theorem gF_wsL_next_r6 : GoodIn lw_tbl wsL_next_r6 := (goodIn_r _ [360, 362, 366, 367, 368, 369, 364, 473, 474, 475, 476, 501, 482, 483, 484, 485, 486, 487, 488, 490, 491, 502, 503, 504] (by decide +kernel) (by decide +kernel))
set_option maxRecDepth 20000 in
theorem gF_wsL_next_r7 : GoodIn lw_tbl wsL_next_r7 := (goodIn_r _ [505, 201, 826, 827, 828, 829, 830, 831, 832, 833, 834, 835, 836, 837, 237, 766, 602, 603, 604] (by decide +kernel) (by decide +kernel))
set_option maxRecDepth 20000 in
theorem gF_wsL_next : GoodIn lw_tbl wsL_next := goodIn_cons9 (goodIn_r _ [788] (by decide +kernel) (by decide +kernel)) (goodIn_app (goodIn_app (goodIn_app (goodIn_app (goodIn_app (goodIn_app (goodIn_app (goodIn_app (goodIn_app (goodIn_app (goodIn_app gF_wsL_next_r1 (goodIn_app gF_wsL_next_r2 (goodIn_app gF_wsL_next_r3 (goodIn_app gF_wsL_next_r4 (goodIn_app gF_wsL_next_r5 (goodIn_app gF_wsL_next_r6 gF_wsL_next_r7)))))) gF_wsX90) gF_wsX40) gF_wsX50) gF_wsX70) gF_wsX30) gF_wsX60) gF_wsX20) gF_wsX80) gF_x100) gF_x89)
set_option maxRecDepth 20000 in
theorem gT_L_next : GoodIn lw_tbl (va_wsS RL 135 yL_next wsL_next) := goodIn_app (goodIn_r _ [786, 787, 59] (by decide +kernel) (by decide +kernel)) gF_wsL_next
set_option maxRecDepth 20000 in
theorem gF_wsX10_next_r1 : GoodIn lw_tbl wsX10_next_r1 := (goodIn_r _ [1053, 1059, 1054, 1056, 1058, 1051, 1060, 1036, 1039, 1055, 1223, 1225, 38, 71, 1226, 1049, 1165, 1166, 1167, 1168, 1170, 33, 1171, 1032] (by decide +kernel) (by decide +kernel))
set_option maxRecDepth 20000 in
theorem gF_wsX10_next_r2 : GoodIn lw_tbl wsX10_next_r2 := (goodIn_r _ [1227, 1229, 39, 1230, 1037, 1050, 1045, 1062, 1063, 1064, 1052, 1231, 1233, 40, 1234, 1038, 1235, 1237, 41, 1238, 1067, 1047, 1066, 1239] (by decide +kernel) (by decide +kernel))
set_option maxRecDepth 20000 in
theorem gF_wsX10_next_r3 : GoodIn lw_tbl wsX10_next_r3 := (goodIn_r _ [1241, 42, 1242, 1243, 1245, 43, 1246, 1041, 1247, 1249, 44, 1250, 1048, 1251, 1253, 45, 1254, 1068, 1255, 1257, 46, 1258, 1035, 1259] (by decide +kernel) (by decide +kernel))
set_option maxRecDepth 20000 in
theorem gF_wsX10_next_r4 : GoodIn lw_tbl wsX10_next_r4 := (goodIn_r _ [1261, 47, 1262, 1065, 1263, 1265, 48, 1266, 1069, 1046, 1071, 1070, 1267, 1268, 1269, 1270, 1272, 49, 1273, 1274, 1276, 50, 1277, 1278] (by decide +kernel) (by decide +kernel))
set_option maxRecDepth 20000 in
theorem gF_wsX10_next_r5 : GoodIn lw_tbl wsX10_next_r5 := (goodIn_r _ [1280, 51, 1281, 1282, 1284, 52, 1285] (by decide +kernel) (by decide +kernel))
set_option maxRecDepth 20000 in
theorem gF_wsX10_next : GoodIn lw_tbl wsX10_next := goodIn_cons9 (goodIn_r _ [1222] (by decide +kernel) (by decide +kernel)) (goodIn_app (goodIn_app gF_wsX10_next_r1 (goodIn_app gF_wsX10_next_r2 (goodIn_app gF_wsX10_next_r3 (goodIn_app gF_wsX10_next_r4 gF_wsX10_next_r5)))) gF_wsX100)
set_option maxRecDepth 20000 in
theorem gT_X10_next : GoodIn lw_tbl (wsV RL 137 RX10 yX10_next wsX10_next) := goodIn_app (goodIn_r _ [1219, 1220, 1221, 71] (by decide +kernel) (by decide +kernel)) gF_wsX10_next
set_option maxRecDepth 20000 in
theorem gF_wsL_read_r1 : GoodIn lw_tbl wsL_read_r1 := (goodIn_r _ [608, 509, 510, 841, 842, 843, 60, 844, 617, 77, 515, 75, 578, 76, 391, 234, 393, 307, 793, 794, 795, 67, 796, 225] (by decide +kernel) (by decide +kernel))
set_option maxRecDepth 20000 in
theorem gF_wsL_read_r2 : GoodIn lw_tbl wsL_read_r2 := (goodIn_r _ [774, 775, 776, 437, 438, 439, 62, 440, 102, 845, 847, 23, 848, 236, 392, 288, 389, 290, 397, 719, 720, 721, 65, 722] (by decide +kernel) (by decide +kernel))
set_option maxRecDepth 20000 in
theorem gF_wsL_read_r3 : GoodIn lw_tbl wsL_read_r3 := (goodIn_r _ [156, 701, 723, 724, 725, 726, 159, 158, 162, 164, 163, 161, 736, 737, 63, 738, 727, 729, 16, 730, 702, 598, 599, 600] (by decide +kernel) (by decide +kernel))
set_option maxRecDepth 20000 in
theorem gF_wsL_read_r4 : GoodIn lw_tbl wsL_read_r4 := (goodIn_r _ [703, 704, 705, 706, 731, 733, 17, 734, 735, 100, 101, 849, 490, 491, 850, 852, 24, 853, 232, 246, 311, 317, 321, 242] (by decide +kernel) (by decide +kernel))
set_option maxRecDepth 20000 in
theorem gF_wsL_read_r5 : GoodIn lw_tbl wsL_read_r5 := (goodIn_r _ [746, 602, 603, 604, 632, 854, 855, 856, 857, 858, 233, 765, 859, 860, 861, 862, 243, 245, 863, 865, 25, 866, 313, 315] (by decide +kernel) (by decide +kernel))
set_option maxRecDepth 20000 in
theorem gF_wsL_read_r6 : GoodIn lw_tbl wsL_read_r6 := (goodIn_r _ [319, 238, 240, 244, 715, 716, 717, 718, 160, 466, 467, 468, 867, 868, 869, 69, 870, 306, 308, 310, 326, 324, 322, 328] (by decide +kernel) (by decide +kernel))
set_option maxRecDepth 20000 in
theorem gF_wsL_read_r7 : GoodIn lw_tbl wsL_read_r7 := (goodIn_r _ [871, 872, 873, 469, 470, 471, 472] (by decide +kernel) (by decide +kernel))
set_option maxRecDepth 20000 in
theorem gF_wsL_read : GoodIn lw_tbl wsL_read := goodIn_cons9 (goodIn_r _ [840] (by decide +kernel) (by decide +kernel)) (goodIn_app (goodIn_app (goodIn_app (goodIn_app (goodIn_app (goodIn_app (goodIn_app (goodIn_app (goodIn_app (goodIn_app gF_wsL_read_r1 (goodIn_app gF_wsL_read_r2 (goodIn_app gF_wsL_read_r3 (goodIn_app gF_wsL_read_r4 (goodIn_app gF_wsL_read_r5 (goodIn_app gF_wsL_read_r6 gF_wsL_read_r7)))))) gF_wsX90) gF_wsX40) gF_wsX20) gF_wsX50) gF_wsX70) gF_wsX60) gF_x100) gF_x83) gF_x89)
set_option maxRecDepth 20000 in
theorem gT_L_read : GoodIn lw_tbl (va_wsS RL 138 yL_read wsL_read) := goodIn_app (goodIn_r _ [838, 839, 59] (by decide +kernel) (by decide +kernel)) gF_wsL_read
set_option maxRecDepth 20000 in
theorem gF_wsX10_read_r1 : GoodIn lw_tbl wsX10_read_r1 := (goodIn_r _ [1054, 1062, 1060, 1056, 1061, 1035, 1057, 1053, 1067, 1064, 1063, 1065, 1047, 1066, 1068, 1055, 1223, 1225, 38, 71, 1226, 1049, 1165, 1166] (by decide +kernel) (by decide +kernel))
set_option maxRecDepth 20000 in
theorem gF_wsX10_read_r2 : GoodIn lw_tbl wsX10_read_r2 := (goodIn_r _ [1167, 1215, 1217, 37, 1218, 1032, 1239, 1241, 42, 1242, 1045, 1263, 1265, 48, 1266, 1069, 1046, 1071, 1070, 1267, 1268, 1269] (by decide +kernel) (by decide +kernel))
set_option maxRecDepth 20000 in
theorem gF_wsX10_read : GoodIn lw_tbl wsX10_read := goodIn_cons9 (goodIn_r _ [1289] (by decide +kernel) (by decide +kernel)) (goodIn_app (goodIn_app gF_wsX10_read_r1 gF_wsX10_read_r2) gF_wsX100)
set_option maxRecDepth 20000 in
theorem gT_X10_read : GoodIn lw_tbl (wsV RL 140 RX10 yX10_read wsX10_read) := goodIn_app (goodIn_r _ [1286, 1287, 1288, 71] (by decide +kernel) (by decide +kernel)) gF_wsX10_read
set_option maxRecDepth 20000 in
theorem gF_wsL_goOn_r1 : GoodIn lw_tbl wsL_goOn_r1 := (goodIn_r _ [608, 510, 877, 878, 879, 60, 880, 617, 77, 578, 76, 391, 232, 393, 307, 242, 793, 794, 795, 67, 796, 225, 469, 470] (by decide +kernel) (by decide +kernel))
set_option maxRecDepth 20000 in
theorem gF_wsL_goOn_r2 : GoodIn lw_tbl wsL_goOn_r2 := (goodIn_r _ [471, 62, 472, 102, 746, 602, 603, 604, 859, 860, 861, 862, 243, 245, 765, 598, 599, 600, 437, 438, 439, 440] (by decide +kernel) (by decide +kernel))
set_option maxRecDepth 20000 in
theorem gF_wsL_goOn : GoodIn lw_tbl wsL_goOn := goodIn_cons9 (goodIn_r _ [876] (by decide +kernel) (by decide +kernel)) (goodIn_app (goodIn_app (goodIn_app (goodIn_app (goodIn_app (goodIn_app (goodIn_app gF_wsL_goOn_r1 gF_wsL_goOn_r2) gF_wsX90) gF_wsX40) gF_wsX20) gF_wsX50) gF_x100) gF_x89)
set_option maxRecDepth 20000 in
theorem gT_L_goOn : GoodIn lw_tbl (va_wsS RL 141 yL_goOn wsL_goOn) := goodIn_app (goodIn_r _ [874, 875, 59] (by decide +kernel) (by decide +kernel)) gF_wsL_goOn
set_option maxRecDepth 20000 in
theorem gF_wsX10_goOn : GoodIn lw_tbl wsX10_goOn := goodIn_cons9 (goodIn_r _ [1293] (by decide +kernel) (by decide +kernel)) (goodIn_app (goodIn_r _ [1053, 1056, 1057, 1062, 1223, 1225, 38, 71, 1226, 1049, 1165, 1166, 1167, 1168, 1170, 33, 1171, 1032, 1294, 1296, 53, 1297, 1064, 1067] (by decide +kernel) (by decide +kernel)) gF_wsX100)
set_option maxRecDepth 20000 in
theorem gT_X10_goOn : GoodIn lw_tbl (wsV RL 143 RX10 yX10_goOn wsX10_goOn) := goodIn_app (goodIn_r _ [1290, 1291, 1292, 71] (by decide +kernel) (by decide +kernel)) gF_wsX10_goOn
set_option maxRecDepth 20000 in
theorem gF_wsL_lines_r1 : GoodIn lw_tbl wsL_lines_r1 := (goodIn_r _ [509, 510, 884, 885, 886, 60, 887, 515, 75, 578, 76, 401, 398, 399, 400, 888, 890, 26, 891, 390, 191, 396, 445, 447] (by decide +kernel) (by decide +kernel))
set_option maxRecDepth 20000 in
theorem gF_wsL_lines_r2 : GoodIn lw_tbl wsL_lines_r2 := (goodIn_r _ [1, 448, 492, 100, 63, 101, 197, 449, 451, 2, 452, 394, 395, 397, 453, 454, 455, 66, 456, 200, 457, 438, 439, 62] (by decide +kernel) (by decide +kernel))
set_option maxRecDepth 20000 in
theorem gF_wsL_lines_r3 : GoodIn lw_tbl wsL_lines_r3 := (goodIn_r _ [440, 102, 458, 460, 3, 461, 393, 327, 325, 321, 391, 230, 311, 319, 323, 462, 463, 464, 70, 465, 360, 362, 366, 367] (by decide +kernel) (by decide +kernel))
set_option maxRecDepth 20000 in
theorem gF_wsL_lines_r4 : GoodIn lw_tbl wsL_lines_r4 := (goodIn_r _ [368, 369, 364, 466, 467, 468, 437, 469, 470, 471, 472, 473, 474, 475, 476, 477, 478, 479, 480, 481, 482, 483, 484, 485] (by decide +kernel) (by decide +kernel))
set_option maxRecDepth 20000 in
theorem gF_wsL_lines_r5 : GoodIn lw_tbl wsL_lines_r5 := (goodIn_r _ [486, 487, 488, 490, 491, 632, 598, 599, 600, 892, 894, 27, 895] (by decide +kernel) (by decide +kernel))
set_option maxRecDepth 20000 in
theorem gF_wsL_lines : GoodIn lw_tbl wsL_lines := goodIn_cons9 (goodIn_r _ [883] (by decide +kernel) (by decide +kernel)) (goodIn_app (goodIn_app (goodIn_app (goodIn_app (goodIn_app (goodIn_app (goodIn_app (goodIn_app (goodIn_app gF_wsL_lines_r1 (goodIn_app gF_wsL_lines_r2 (goodIn_app gF_wsL_lines_r3 (goodIn_app gF_wsL_lines_r4 gF_wsL_lines_r5)))) gF_wsX90) gF_wsX30) gF_wsX50) gF_wsX20) gF_wsX40) gF_wsX80) gF_x83) gF_x89)
set_option maxRecDepth 20000 in
theorem gT_L_lines : GoodIn lw_tbl (va_wsS RL 144 yL_lines wsL_lines) := goodIn_app (goodIn_r _ [881, 882, 59] (by decide +kernel) (by decide +kernel)) gF_wsL_lines
set_option maxRecDepth 20000 in
theorem gF_wsX10_lines_r1 : GoodIn lw_tbl wsX10_lines_r1 := (goodIn_r _ [1043, 1044, 1036, 1165, 1166, 71, 1167, 1168, 1170, 33, 1171, 1032, 1302, 1304, 54, 1305, 1306, 1308, 55, 1309, 1040, 1310, 1312, 56] (by decide +kernel) (by decide +kernel))
set_option maxRecDepth 20000 in
theorem gF_wsX10_lines_r2 : GoodIn lw_tbl wsX10_lines_r2 := (goodIn_r _ [1313, 1041, 1035, 1314, 1316, 57, 1317, 1048, 1231, 1233, 40, 1234, 1038, 1247, 1249, 44, 1250, 1251, 1253, 45, 1254, 1062, 1063, 1068] (by decide +kernel) (by decide +kernel))
set_option maxRecDepth 20000 in
theorem gF_wsX10_lines_r3 : GoodIn lw_tbl wsX10_lines_r3 := (goodIn_r _ [1235, 1237, 41, 1238, 1067, 1047, 1066, 1239, 1241, 42, 1242, 1045, 1255, 1257, 46, 1258, 1259, 1261, 47, 1262, 1065, 1263, 1265, 48] (by decide +kernel) (by decide +kernel))
set_option maxRecDepth 20000 in
theorem gF_wsX10_lines_r4 : GoodIn lw_tbl wsX10_lines_r4 := (goodIn_r _ [1266, 1069, 1046, 1071, 1070, 1267, 1268, 1269, 1270, 1272, 49, 1273, 1052, 1064] (by decide +kernel) (by decide +kernel))
set_option maxRecDepth 20000 in
theorem gF_wsX10_lines : GoodIn lw_tbl wsX10_lines := goodIn_cons9 (goodIn_r _ [1301] (by decide +kernel) (by decide +kernel)) (goodIn_app (goodIn_app gF_wsX10_lines_r1 (goodIn_app gF_wsX10_lines_r2 (goodIn_app gF_wsX10_lines_r3 gF_wsX10_lines_r4))) gF_wsX100)
set_option maxRecDepth 20000 in
theorem gT_X10_lines : GoodIn lw_tbl (wsV RL 147 RX10 yX10_lines wsX10_lines) := goodIn_app (goodIn_r _ [1298, 1299, 1300, 71] (by decide +kernel) (by decide +kernel)) gF_wsX10_lines
set_option maxRecDepth 20000 in
theorem gF_wsL_release_r1 : GoodIn lw_tbl wsL_release_r1 := (goodIn_r _ [510, 899, 900, 901, 60, 902, 578, 76, 401, 390, 191, 199, 888, 890, 26, 891, 396, 445, 447, 1, 448, 492, 100, 63] (by decide +kernel) (by decide +kernel))
set_option maxRecDepth 20000 in
theorem gF_wsL_release_r2 : GoodIn lw_tbl wsL_release_r2 := (goodIn_r _ [101, 197, 449, 451, 2, 452, 394, 395, 397, 453, 454, 455, 66, 456, 200, 457, 438, 439, 62, 440, 102, 458, 460, 3] (by decide +kernel) (by decide +kernel))
set_option maxRecDepth 20000 in
theorem gF_wsL_release_r3 : GoodIn lw_tbl wsL_release_r3 := (goodIn_r _ [461, 393, 327, 325, 321, 391, 230, 311, 319, 323, 462, 463, 464, 70, 465, 360, 362, 366, 367, 368, 369, 364, 466, 467] (by decide +kernel) (by decide +kernel))
set_option maxRecDepth 20000 in
theorem gF_wsL_release_r4 : GoodIn lw_tbl wsL_release_r4 := (goodIn_r _ [468, 437, 469, 470, 471, 472, 473, 474, 475, 476, 477, 478, 479, 480, 481, 482, 483, 484, 485, 486, 487, 488, 490, 491] (by decide +kernel) (by decide +kernel))
set_option maxRecDepth 20000 in
theorem gF_wsL_release_r5 : GoodIn lw_tbl wsL_release_r5 := (goodIn_r _ [632, 598, 599, 600, 441, 443, 0, 444, 398, 399, 400] (by decide +kernel) (by decide +kernel))
set_option maxRecDepth 20000 in
theorem gF_wsL_release : GoodIn lw_tbl wsL_release := goodIn_cons9 (goodIn_r _ [898] (by decide +kernel) (by decide +kernel)) (goodIn_app (goodIn_app (goodIn_app (goodIn_app (goodIn_app (goodIn_app (goodIn_app (goodIn_app gF_wsL_release_r1 (goodIn_app gF_wsL_release_r2 (goodIn_app gF_wsL_release_r3 (goodIn_app gF_wsL_release_r4 gF_wsL_release_r5)))) gF_wsX90) gF_wsX30) gF_wsX50) gF_wsX20) gF_wsX40) gF_wsX80) gF_x89)
set_option maxRecDepth 20000 in
theorem gT_L_release : GoodIn lw_tbl (va_wsS RL 148 yL_release wsL_release) := goodIn_app (goodIn_r _ [896, 897, 59] (by decide +kernel) (by decide +kernel)) gF_wsL_release
set_option maxRecDepth 20000 in
theorem gF_wsX10_release_r1 : GoodIn lw_tbl wsX10_release_r1 := (goodIn_r _ [1043, 1036, 1042, 1306, 1308, 55, 71, 1309, 1040, 1310, 1312, 56, 1313, 1041, 1035, 1314, 1316, 57, 1317, 1048, 1231, 1233, 40, 1234] (by decide +kernel) (by decide +kernel))
set_option maxRecDepth 20000 in
theorem gF_wsX10_release_r2 : GoodIn lw_tbl wsX10_release_r2 := (goodIn_r _ [1038, 1247, 1249, 44, 1250, 1251, 1253, 45, 1254, 1062, 1063, 1068, 1235, 1237, 41, 1238, 1067, 1047, 1066, 1239, 1241, 42, 1242, 1045] (by decide +kernel) (by decide +kernel))
set_option maxRecDepth 20000 in
theorem gF_wsX10_release_r3 : GoodIn lw_tbl wsX10_release_r3 := (goodIn_r _ [1255, 1257, 46, 1258, 1259, 1261, 47, 1262, 1065, 1263, 1265, 48, 1266, 1069, 1046, 1071, 1070, 1165, 1166, 1167, 1267, 1268, 1269, 1270] (by decide +kernel) (by decide +kernel))
set_option maxRecDepth 20000 in
theorem gF_wsX10_release_r4 : GoodIn lw_tbl wsX10_release_r4 := (goodIn_r _ [1272, 49, 1273, 1052, 1064, 1199, 1201, 36, 1202, 1032, 1302, 1304, 54, 1305, 1044] (by decide +kernel) (by decide +kernel))
set_option maxRecDepth 20000 in
theorem gF_wsX10_release : GoodIn lw_tbl wsX10_release := goodIn_cons9 (goodIn_r _ [1321] (by decide +kernel) (by decide +kernel)) (goodIn_app (goodIn_app gF_wsX10_release_r1 (goodIn_app gF_wsX10_release_r2 (goodIn_app gF_wsX10_release_r3 gF_wsX10_release_r4))) gF_wsX100)
set_option maxRecDepth 20000 in
theorem gT_X10_release : GoodIn lw_tbl (wsV RL 151 RX10 yX10_release wsX10_release) := goodIn_app (goodIn_r _ [1318, 1319, 1320, 71] (by decide +kernel) (by decide +kernel)) gF_wsX10_release
set_option maxRecDepth 20000 in
theorem gF_wsL_appeal_r1 : GoodIn lw_tbl wsL_appeal_r1 := (goodIn_r _ [608, 510, 906, 907, 908, 60, 909, 617, 77, 578, 76, 390, 401, 613, 614, 615, 66, 616, 190, 652, 653, 654, 453, 454] (by decide +kernel) (by decide +kernel))
set_option maxRecDepth 20000 in
theorem gF_wsL_appeal_r2 : GoodIn lw_tbl wsL_appeal_r2 := (goodIn_r _ [455, 456, 200, 457, 438, 439, 62, 440, 102, 449, 451, 2, 452, 394, 395, 397, 458, 460, 3, 461, 393, 327, 325, 321] (by decide +kernel) (by decide +kernel))
set_option maxRecDepth 20000 in
theorem gF_wsL_appeal_r3 : GoodIn lw_tbl wsL_appeal_r3 := (goodIn_r _ [391, 230, 311, 319, 323, 462, 463, 464, 70, 465, 360, 362, 366, 367, 368, 369, 364, 466, 467, 468, 437, 469, 470, 471] (by decide +kernel) (by decide +kernel))
set_option maxRecDepth 20000 in
theorem gF_wsL_appeal_r4 : GoodIn lw_tbl wsL_appeal_r4 := (goodIn_r _ [472, 473, 474, 475, 476, 477, 478, 479, 480, 481, 482, 483, 484, 485, 486, 487, 488, 490, 491, 502, 503, 504, 505, 201] (by decide +kernel) (by decide +kernel))
set_option maxRecDepth 20000 in
theorem gF_wsL_appeal_r5 : GoodIn lw_tbl wsL_appeal_r5 := (goodIn_r _ [910, 911, 912, 913, 597, 598, 599, 600] (by decide +kernel) (by decide +kernel))
set_option maxRecDepth 20000 in
theorem gF_wsL_appeal : GoodIn lw_tbl wsL_appeal := goodIn_cons9 (goodIn_r _ [905] (by decide +kernel) (by decide +kernel)) (goodIn_app (goodIn_app (goodIn_app (goodIn_app (goodIn_app (goodIn_app (goodIn_app (goodIn_app (goodIn_app gF_wsL_appeal_r1 (goodIn_app gF_wsL_appeal_r2 (goodIn_app gF_wsL_appeal_r3 (goodIn_app gF_wsL_appeal_r4 gF_wsL_appeal_r5)))) gF_wsX90) gF_wsX30) gF_wsX50) gF_wsX20) gF_wsX40) gF_wsX80) gF_x100) gF_x89)
set_option maxRecDepth 20000 in
theorem gT_L_appeal : GoodIn lw_tbl (va_wsS RL 152 yL_appeal wsL_appeal) := goodIn_app (goodIn_r _ [903, 904, 59] (by decide +kernel) (by decide +kernel)) gF_wsL_appeal
set_option maxRecDepth 20000 in
theorem gF_wsX10_appeal_r1 : GoodIn lw_tbl wsX10_appeal_r1 := (goodIn_r _ [1043, 1041, 1176, 1178, 34, 71, 1179, 1036, 1165, 1166, 1167, 1188, 1189, 1190, 1231, 1233, 40, 1234, 1038, 1310, 1312, 56, 1313, 1035] (by decide +kernel) (by decide +kernel))
set_option maxRecDepth 20000 in
theorem gF_wsX10_appeal_r2 : GoodIn lw_tbl wsX10_appeal_r2 := (goodIn_r _ [1314, 1316, 57, 1317, 1048, 1247, 1249, 44, 1250, 1251, 1253, 45, 1254, 1062, 1063, 1068, 1235, 1237, 41, 1238, 1067, 1047, 1066, 1239] (by decide +kernel) (by decide +kernel))
set_option maxRecDepth 20000 in
theorem gF_wsX10_appeal_r3 : GoodIn lw_tbl wsX10_appeal_r3 := (goodIn_r _ [1241, 42, 1242, 1045, 1255, 1257, 46, 1258, 1259, 1261, 47, 1262, 1065, 1263, 1265, 48, 1266, 1069, 1046, 1071, 1070, 1267, 1268, 1269] (by decide +kernel) (by decide +kernel))
set_option maxRecDepth 20000 in
theorem gF_wsX10_appeal_r4 : GoodIn lw_tbl wsX10_appeal_r4 := (goodIn_r _ [1270, 1272, 49, 1273, 1052, 1064, 1168, 1170, 33, 1171, 1032] (by decide +kernel) (by decide +kernel))
set_option maxRecDepth 20000 in
theorem gF_wsX10_appeal : GoodIn lw_tbl wsX10_appeal := goodIn_cons9 (goodIn_r _ [1325] (by decide +kernel) (by decide +kernel)) (goodIn_app (goodIn_app gF_wsX10_appeal_r1 (goodIn_app gF_wsX10_appeal_r2 (goodIn_app gF_wsX10_appeal_r3 gF_wsX10_appeal_r4))) gF_wsX100)
set_option maxRecDepth 20000 in
theorem gT_X10_appeal : GoodIn lw_tbl (wsV RL 154 RX10 yX10_appeal wsX10_appeal) := goodIn_app (goodIn_r _ [1322, 1323, 1324, 71] (by decide +kernel) (by decide +kernel)) gF_wsX10_appeal
set_option maxRecDepth 20000 in
theorem gF_wsL_versions : GoodIn lw_tbl wsL_versions := goodIn_cons9 (goodIn_r _ [916] (by decide +kernel) (by decide +kernel)) (goodIn_app (goodIn_app (goodIn_app (goodIn_app (goodIn_r _ [608, 917, 918, 919, 60, 920, 617, 77, 389, 157, 652, 653, 654, 437, 438, 439, 62, 440, 102] (by decide +kernel) (by decide +kernel)) gF_wsX90) gF_wsX60) gF_wsX50) gF_x100)
set_option maxRecDepth 20000 in
theorem gT_L_versions : GoodIn lw_tbl (va_wsS RL 155 yL_versions wsL_versions) := goodIn_app (goodIn_r _ [914, 915, 59] (by decide +kernel) (by decide +kernel)) gF_wsL_versions
set_option maxRecDepth 20000 in
theorem gF_wsX10_versions : GoodIn lw_tbl wsX10_versions := goodIn_cons9 (goodIn_r _ [1329] (by decide +kernel) (by decide +kernel)) (goodIn_app (goodIn_r _ [1045, 1188, 1189, 71, 1190, 1165, 1166, 1167, 1199, 1201, 36, 1202, 1032] (by decide +kernel) (by decide +kernel)) gF_wsX100)
set_option maxRecDepth 20000 in
theorem gT_X10_versions : GoodIn lw_tbl (wsV RL 157 RX10 yX10_versions wsX10_versions) := goodIn_app (goodIn_r _ [1326, 1327, 1328, 71] (by decide +kernel) (by decide +kernel)) gF_wsX10_versions
set_option maxRecDepth 20000 in
theorem gF_wsL_markOf_r1 : GoodIn lw_tbl wsL_markOf_r1 := (goodIn_r _ [608, 509, 924, 925, 926, 60, 927, 617, 77, 515, 75, 389, 652, 653, 654, 928, 929, 930, 65, 931, 156, 701, 438, 439] (by decide +kernel) (by decide +kernel))
set_option maxRecDepth 20000 in
theorem gF_wsL_markOf_r2 : GoodIn lw_tbl wsL_markOf_r2 := (goodIn_r _ [62, 440, 102, 774, 775, 776, 932, 724, 725, 726, 159, 158, 162, 164, 163, 161, 736, 737, 63, 738, 727, 729, 16, 730] (by decide +kernel) (by decide +kernel))
set_option maxRecDepth 20000 in
theorem gF_wsL_markOf_r3 : GoodIn lw_tbl wsL_markOf_r3 := (goodIn_r _ [702, 598, 599, 600, 703, 704, 705, 706, 731, 733, 17, 734, 735, 100, 101] (by decide +kernel) (by decide +kernel))
set_option maxRecDepth 20000 in
theorem gF_wsL_markOf : GoodIn lw_tbl wsL_markOf := goodIn_cons9 (goodIn_r _ [923] (by decide +kernel) (by decide +kernel)) (goodIn_app (goodIn_app (goodIn_app (goodIn_app (goodIn_app (goodIn_app gF_wsL_markOf_r1 (goodIn_app gF_wsL_markOf_r2 gF_wsL_markOf_r3)) gF_wsX90) gF_wsX60) gF_wsX50) gF_x100) gF_x83)
set_option maxRecDepth 20000 in
theorem gT_L_markOf : GoodIn lw_tbl (va_wsS RL 158 yL_markOf wsL_markOf) := goodIn_app (goodIn_r _ [921, 922, 59] (by decide +kernel) (by decide +kernel)) gF_wsL_markOf
set_option maxRecDepth 20000 in
theorem gF_wsX10_markOf : GoodIn lw_tbl wsX10_markOf := goodIn_cons9 (goodIn_r _ [1333] (by decide +kernel) (by decide +kernel)) (goodIn_app (goodIn_r _ [1045, 1188, 1189, 71, 1190, 1165, 1166, 1167, 1168, 1170, 33, 1171, 1032, 1263, 1265, 48, 1266, 1069, 1046, 1071, 1070] (by decide +kernel) (by decide +kernel)) gF_wsX100)
set_option maxRecDepth 20000 in
theorem gT_X10_markOf : GoodIn lw_tbl (wsV RL 160 RX10 yX10_markOf wsX10_markOf) := goodIn_app (goodIn_r _ [1330, 1331, 1332, 71] (by decide +kernel) (by decide +kernel)) gF_wsX10_markOf
set_option maxRecDepth 20000 in
theorem gF_wsL_written_r1 : GoodIn lw_tbl wsL_written_r1 := (goodIn_r _ [608, 936, 937, 938, 60, 939, 617, 77, 389, 652, 653, 654, 928, 929, 930, 65, 931, 156, 701, 438, 439, 62, 440, 102] (by decide +kernel) (by decide +kernel))
set_option maxRecDepth 20000 in
theorem gF_wsL_written_r2 : GoodIn lw_tbl wsL_written_r2 := (goodIn_r _ [940, 941, 942, 943, 159, 158] (by decide +kernel) (by decide +kernel))
set_option maxRecDepth 20000 in
theorem gF_wsL_written : GoodIn lw_tbl wsL_written := goodIn_cons9 (goodIn_r _ [935] (by decide +kernel) (by decide +kernel)) (goodIn_app (goodIn_app (goodIn_app (goodIn_app (goodIn_app gF_wsL_written_r1 gF_wsL_written_r2) gF_wsX90) gF_wsX60) gF_wsX50) gF_x100)
set_option maxRecDepth 20000 in
theorem gT_L_written : GoodIn lw_tbl (va_wsS RL 161 yL_written wsL_written) := goodIn_app (goodIn_r _ [933, 934, 59] (by decide +kernel) (by decide +kernel)) gF_wsL_written
set_option maxRecDepth 20000 in
theorem gF_wsX10_written : GoodIn lw_tbl wsX10_written := goodIn_cons9 (goodIn_r _ [1337] (by decide +kernel) (by decide +kernel)) (goodIn_app (goodIn_r _ [1045, 1046, 1188, 1189, 71, 1190, 1165, 1166, 1167, 1199, 1201, 36, 1202, 1032] (by decide +kernel) (by decide +kernel)) gF_wsX100)
set_option maxRecDepth 20000 in
theorem gT_X10_written : GoodIn lw_tbl (wsV RL 163 RX10 yX10_written wsX10_written) := goodIn_app (goodIn_r _ [1334, 1335, 1336, 71] (by decide +kernel) (by decide +kernel)) gF_wsX10_written
set_option maxRecDepth 20000 in
theorem gF_wsL_mark_r1 : GoodIn lw_tbl wsL_mark_r1 := (goodIn_r _ [608, 947, 948, 949, 60, 950, 617, 77, 390, 613, 614, 615, 66, 616, 190, 652, 653, 654, 449, 451, 2, 452, 394, 395] (by decide +kernel) (by decide +kernel))
set_option maxRecDepth 20000 in
theorem gF_wsL_mark_r2 : GoodIn lw_tbl wsL_mark_r2 := (goodIn_r _ [397, 453, 454, 455, 456, 200, 457, 438, 439, 62, 440, 102, 458, 460, 3, 461, 393, 327, 325, 321, 391, 230, 311, 319] (by decide +kernel) (by decide +kernel))
set_option maxRecDepth 20000 in
theorem gF_wsL_mark_r3 : GoodIn lw_tbl wsL_mark_r3 := (goodIn_r _ [323, 462, 463, 464, 70, 465, 360, 362, 366, 367, 368, 369, 364, 466, 467, 468, 437, 469, 470, 471, 472, 473, 474, 475] (by decide +kernel) (by decide +kernel))
set_option maxRecDepth 20000 in
theorem gF_wsL_mark_r4 : GoodIn lw_tbl wsL_mark_r4 := (goodIn_r _ [476, 477, 478, 479, 480, 481, 482, 483, 484, 485, 486, 487, 488, 490, 491] (by decide +kernel) (by decide +kernel))
set_option maxRecDepth 20000 in
theorem gF_wsL_mark : GoodIn lw_tbl wsL_mark := goodIn_cons9 (goodIn_r _ [946] (by decide +kernel) (by decide +kernel)) (goodIn_app (goodIn_app (goodIn_app (goodIn_app (goodIn_app (goodIn_app (goodIn_app (goodIn_app gF_wsL_mark_r1 (goodIn_app gF_wsL_mark_r2 (goodIn_app gF_wsL_mark_r3 gF_wsL_mark_r4))) gF_wsX90) gF_wsX30) gF_wsX50) gF_wsX20) gF_wsX40) gF_wsX80) gF_x100)
set_option maxRecDepth 20000 in
theorem gT_L_mark : GoodIn lw_tbl (va_wsS RL 164 yL_mark wsL_mark) := goodIn_app (goodIn_r _ [944, 945, 59] (by decide +kernel) (by decide +kernel)) gF_wsL_mark
set_option maxRecDepth 20000 in
theorem gF_wsX10_mark_r1 : GoodIn lw_tbl wsX10_mark_r1 := (goodIn_r _ [1176, 1178, 34, 71, 1179, 1036, 1165, 1166, 1167, 1188, 1189, 1190, 1199, 1201, 36, 1202, 1032, 1310, 1312, 56, 1313, 1041, 1035, 1314] (by decide +kernel) (by decide +kernel))
set_option maxRecDepth 20000 in
theorem gF_wsX10_mark_r2 : GoodIn lw_tbl wsX10_mark_r2 := (goodIn_r _ [1316, 57, 1317, 1048, 1231, 1233, 40, 1234, 1038, 1247, 1249, 44, 1250, 1251, 1253, 45, 1254, 1062, 1063, 1068, 1235, 1237, 41, 1238] (by decide +kernel) (by decide +kernel))
set_option maxRecDepth 20000 in
theorem gF_wsX10_mark_r3 : GoodIn lw_tbl wsX10_mark_r3 := (goodIn_r _ [1067, 1047, 1066, 1239, 1241, 42, 1242, 1045, 1255, 1257, 46, 1258, 1259, 1261, 47, 1262, 1065, 1263, 1265, 48, 1266, 1069, 1046, 1071] (by decide +kernel) (by decide +kernel))
set_option maxRecDepth 20000 in
theorem gF_wsX10_mark_r4 : GoodIn lw_tbl wsX10_mark_r4 := (goodIn_r _ [1070, 1267, 1268, 1269, 1270, 1272, 49, 1273, 1052, 1064] (by decide +kernel) (by decide +kernel))
set_option maxRecDepth 20000 in
theorem gF_wsX10_mark : GoodIn lw_tbl wsX10_mark := goodIn_cons9 (goodIn_r _ [1341] (by decide +kernel) (by decide +kernel)) (goodIn_app (goodIn_app gF_wsX10_mark_r1 (goodIn_app gF_wsX10_mark_r2 (goodIn_app gF_wsX10_mark_r3 gF_wsX10_mark_r4))) gF_wsX100)
set_option maxRecDepth 20000 in
theorem gT_X10_mark : GoodIn lw_tbl (wsV RL 166 RX10 yX10_mark wsX10_mark) := goodIn_app (goodIn_r _ [1338, 1339, 1340, 71] (by decide +kernel) (by decide +kernel)) gF_wsX10_mark
set_option maxRecDepth 20000 in
theorem gF_wsL_markAnew_r1 : GoodIn lw_tbl wsL_markAnew_r1 := (goodIn_r _ [608, 954, 955, 956, 60, 957, 617, 77, 390, 613, 614, 615, 66, 616, 190, 652, 653, 654, 958, 960, 28, 961, 395, 397] (by decide +kernel) (by decide +kernel))
set_option maxRecDepth 20000 in
theorem gF_wsL_markAnew_r2 : GoodIn lw_tbl wsL_markAnew_r2 := (goodIn_r _ [453, 454, 455, 456, 200, 457, 438, 439, 62, 440, 102, 466, 467, 468, 469, 470, 471, 472, 962, 964, 29, 965, 966, 968] (by decide +kernel) (by decide +kernel))
set_option maxRecDepth 20000 in
theorem gF_wsL_markAnew_r3 : GoodIn lw_tbl wsL_markAnew_r3 := (goodIn_r _ [30, 969, 393, 307, 309, 319, 391, 230, 311, 437, 711, 713, 15, 714, 317, 389, 315, 715, 716, 717, 65, 718, 160, 156] (by decide +kernel) (by decide +kernel))
set_option maxRecDepth 20000 in
theorem gF_wsL_markAnew_r4 : GoodIn lw_tbl wsL_markAnew_r4 := (goodIn_r _ [701, 970, 972, 31, 973, 313, 719, 720, 721, 722, 723, 724, 725, 726, 159, 158, 162, 164, 163, 161, 736, 737, 63, 738] (by decide +kernel) (by decide +kernel))
set_option maxRecDepth 20000 in
theorem gF_wsL_markAnew_r5 : GoodIn lw_tbl wsL_markAnew_r5 := (goodIn_r _ [727, 729, 16, 730, 702, 598, 599, 600, 703, 704, 705, 706, 731, 733, 17, 734, 735, 100, 101, 849, 490, 491] (by decide +kernel) (by decide +kernel))
set_option maxRecDepth 20000 in
theorem gF_wsL_markAnew : GoodIn lw_tbl wsL_markAnew := goodIn_cons9 (goodIn_r _ [953] (by decide +kernel) (by decide +kernel)) (goodIn_app (goodIn_app (goodIn_app (goodIn_app (goodIn_app (goodIn_app (goodIn_app (goodIn_app gF_wsL_markAnew_r1 (goodIn_app gF_wsL_markAnew_r2 (goodIn_app gF_wsL_markAnew_r3 (goodIn_app gF_wsL_markAnew_r4 gF_wsL_markAnew_r5)))) gF_wsX90) gF_wsX30) gF_wsX50) gF_wsX20) gF_wsX40) gF_wsX60) gF_x100)
set_option maxRecDepth 20000 in
theorem gT_L_markAnew : GoodIn lw_tbl (va_wsS RL 167 yL_markAnew wsL_markAnew) := goodIn_app (goodIn_r _ [951, 952, 59] (by decide +kernel) (by decide +kernel)) gF_wsL_markAnew
set_option maxRecDepth 20000 in
theorem gF_wsX10_markAnew_r1 : GoodIn lw_tbl wsX10_markAnew_r1 := (goodIn_r _ [1176, 1178, 34, 71, 1179, 1036, 1165, 1166, 1167, 1188, 1189, 1190, 1199, 1201, 36, 1202, 1032, 1310, 1312, 56, 1313, 1041, 1035, 1314] (by decide +kernel) (by decide +kernel))
set_option maxRecDepth 20000 in
theorem gF_wsX10_markAnew_r2 : GoodIn lw_tbl wsX10_markAnew_r2 := (goodIn_r _ [1316, 57, 1317, 1048, 1231, 1233, 40, 1234, 1038, 1247, 1249, 44, 1250, 1251, 1253, 45, 1254, 1062, 1063, 1068, 1235, 1237, 41, 1238] (by decide +kernel) (by decide +kernel))
set_option maxRecDepth 20000 in
theorem gF_wsX10_markAnew_r3 : GoodIn lw_tbl wsX10_markAnew_r3 := (goodIn_r _ [1067, 1047, 1066, 1239, 1241, 42, 1242, 1045, 1255, 1257, 46, 1258, 1259, 1261, 47, 1262, 1065, 1263, 1265, 48, 1266, 1069, 1046, 1071] (by decide +kernel) (by decide +kernel))
set_option maxRecDepth 20000 in
theorem gF_wsX10_markAnew_r4 : GoodIn lw_tbl wsX10_markAnew_r4 := (goodIn_r _ [1070, 1267, 1268, 1269, 1270, 1272, 49, 1273, 1052, 1064] (by decide +kernel) (by decide +kernel))
set_option maxRecDepth 20000 in
theorem gF_wsX10_markAnew : GoodIn lw_tbl wsX10_markAnew := goodIn_cons9 (goodIn_r _ [1345] (by decide +kernel) (by decide +kernel)) (goodIn_app (goodIn_app gF_wsX10_markAnew_r1 (goodIn_app gF_wsX10_markAnew_r2 (goodIn_app gF_wsX10_markAnew_r3 gF_wsX10_markAnew_r4))) gF_wsX100)
set_option maxRecDepth 20000 in
theorem gT_X10_markAnew : GoodIn lw_tbl (wsV RL 169 RX10 yX10_markAnew wsX10_markAnew) := goodIn_app (goodIn_r _ [1342, 1343, 1344, 71] (by decide +kernel) (by decide +kernel)) gF_wsX10_markAnew
set_option maxRecDepth 20000 in
theorem gF_wsL_answer_r1 : GoodIn lw_tbl wsL_answer_r1 := (goodIn_r _ [608, 509, 977, 978, 979, 60, 980, 617, 77, 515, 75, 390, 394, 363, 361, 613, 614, 615, 66, 616, 190, 652, 653, 654] (by decide +kernel) (by decide +kernel))
set_option maxRecDepth 20000 in
theorem gF_wsL_answer_r2 : GoodIn lw_tbl wsL_answer_r2 := (goodIn_r _ [497, 499, 4, 500, 395, 397, 365, 453, 454, 455, 456, 200, 457, 438, 439, 62, 440, 102, 458, 460, 3, 461, 393, 327] (by decide +kernel) (by decide +kernel))
set_option maxRecDepth 20000 in
theorem gF_wsL_answer_r3 : GoodIn lw_tbl wsL_answer_r3 := (goodIn_r _ [325, 321, 391, 230, 311, 319, 323, 462, 463, 464, 70, 465, 360, 362, 366, 367, 368, 369, 364, 466, 467, 468, 437, 469] (by decide +kernel) (by decide +kernel))
set_option maxRecDepth 20000 in
theorem gF_wsL_answer_r4 : GoodIn lw_tbl wsL_answer_r4 := (goodIn_r _ [470, 471, 472, 473, 474, 475, 476, 501, 482, 483, 484, 485, 486, 487, 488, 490, 491, 502, 503, 504, 505, 201] (by decide +kernel) (by decide +kernel))
set_option maxRecDepth 20000 in
theorem gF_wsL_answer : GoodIn lw_tbl wsL_answer := goodIn_cons9 (goodIn_r _ [976] (by decide +kernel) (by decide +kernel)) (goodIn_app (goodIn_app (goodIn_app (goodIn_app (goodIn_app (goodIn_app (goodIn_app (goodIn_app (goodIn_app gF_wsL_answer_r1 (goodIn_app gF_wsL_answer_r2 (goodIn_app gF_wsL_answer_r3 gF_wsL_answer_r4))) gF_wsX90) gF_wsX80) gF_wsX30) gF_wsX50) gF_wsX20) gF_wsX40) gF_x100) gF_x83)
set_option maxRecDepth 20000 in
theorem gT_L_answer : GoodIn lw_tbl (va_wsS RL 170 yL_answer wsL_answer) := goodIn_app (goodIn_r _ [974, 975, 59] (by decide +kernel) (by decide +kernel)) gF_wsL_answer
set_option maxRecDepth 20000 in
theorem gF_wsX10_answer_r1 : GoodIn lw_tbl wsX10_answer_r1 := (goodIn_r _ [1062, 1063, 1041, 1176, 1178, 34, 71, 1179, 1036, 1165, 1166, 1167, 1188, 1189, 1190, 1168, 1170, 33, 1171, 1032, 1235, 1237, 41, 1238] (by decide +kernel) (by decide +kernel))
set_option maxRecDepth 20000 in
theorem gF_wsX10_answer_r2 : GoodIn lw_tbl wsX10_answer_r2 := (goodIn_r _ [1067, 1047, 1066, 1239, 1241, 42, 1242, 1045, 1243, 1245, 43, 1246, 1231, 1233, 40, 1234, 1038, 1247, 1249, 44, 1250, 1048, 1251, 1253] (by decide +kernel) (by decide +kernel))
set_option maxRecDepth 20000 in
theorem gF_wsX10_answer_r3 : GoodIn lw_tbl wsX10_answer_r3 := (goodIn_r _ [45, 1254, 1068, 1255, 1257, 46, 1258, 1035, 1259, 1261, 47, 1262, 1065, 1263, 1265, 48, 1266, 1069, 1046, 1071, 1070, 1267, 1268, 1269] (by decide +kernel) (by decide +kernel))
set_option maxRecDepth 20000 in
theorem gF_wsX10_answer_r4 : GoodIn lw_tbl wsX10_answer_r4 := (goodIn_r _ [1270, 1272, 49, 1273, 1052, 1064] (by decide +kernel) (by decide +kernel))
set_option maxRecDepth 20000 in
theorem gF_wsX10_answer : GoodIn lw_tbl wsX10_answer := goodIn_cons9 (goodIn_r _ [1349] (by decide +kernel) (by decide +kernel)) (goodIn_app (goodIn_app gF_wsX10_answer_r1 (goodIn_app gF_wsX10_answer_r2 (goodIn_app gF_wsX10_answer_r3 gF_wsX10_answer_r4))) gF_wsX100)
set_option maxRecDepth 20000 in
theorem gT_X10_answer : GoodIn lw_tbl (wsV RL 172 RX10 yX10_answer wsX10_answer) := goodIn_app (goodIn_r _ [1346, 1347, 1348, 71] (by decide +kernel) (by decide +kernel)) gF_wsX10_answer
set_option maxRecDepth 20000 in
theorem gF_wsL_total_r1 : GoodIn lw_tbl wsL_total_r1 := (goodIn_r _ [608, 984, 985, 986, 60, 987, 617, 77, 390, 613, 614, 615, 66, 616, 190, 445, 447, 1, 448, 492, 100, 63, 101, 197] (by decide +kernel) (by decide +kernel))
set_option maxRecDepth 20000 in
theorem gF_wsL_total_r2 : GoodIn lw_tbl wsL_total_r2 := (goodIn_r _ [449, 451, 2, 452, 394, 395, 397, 453, 454, 455, 456, 200, 457, 438, 439, 62, 440, 102, 458, 460, 3, 461, 393, 327] (by decide +kernel) (by decide +kernel))
set_option maxRecDepth 20000 in
theorem gF_wsL_total_r3 : GoodIn lw_tbl wsL_total_r3 := (goodIn_r _ [325, 321, 391, 230, 311, 319, 323, 462, 463, 464, 70, 465, 360, 362, 366, 367, 368, 369, 364, 466, 467, 468, 437, 469] (by decide +kernel) (by decide +kernel))
set_option maxRecDepth 20000 in
theorem gF_wsL_total_r4 : GoodIn lw_tbl wsL_total_r4 := (goodIn_r _ [470, 471, 472, 473, 474, 475, 476, 477, 478, 479, 480, 481, 482, 483, 484, 485, 486, 487, 488, 490, 491] (by decide +kernel) (by decide +kernel))
set_option maxRecDepth 20000 in
theorem gF_wsL_total : GoodIn lw_tbl wsL_total := goodIn_cons9 (goodIn_r _ [983] (by decide +kernel) (by decide +kernel)) (goodIn_app (goodIn_app (goodIn_app (goodIn_app (goodIn_app (goodIn_app (goodIn_app (goodIn_app gF_wsL_total_r1 (goodIn_app gF_wsL_total_r2 (goodIn_app gF_wsL_total_r3 gF_wsL_total_r4))) gF_wsX90) gF_wsX30) gF_wsX50) gF_wsX20) gF_wsX40) gF_wsX80) gF_x100)
set_option maxRecDepth 20000 in
theorem gT_L_total : GoodIn lw_tbl (va_wsS RL 173 yL_total wsL_total) := goodIn_app (goodIn_r _ [981, 982, 59] (by decide +kernel) (by decide +kernel)) gF_wsL_total
set_option maxRecDepth 20000 in
theorem gF_wsX10_total_r1 : GoodIn lw_tbl wsX10_total_r1 := (goodIn_r _ [1176, 1178, 34, 71, 1179, 1036, 1165, 1166, 1167, 1199, 1201, 36, 1202, 1032, 1306, 1308, 55, 1309, 1040, 1310, 1312, 56, 1313, 1041] (by decide +kernel) (by decide +kernel))
set_option maxRecDepth 20000 in
theorem gF_wsX10_total_r2 : GoodIn lw_tbl wsX10_total_r2 := (goodIn_r _ [1035, 1314, 1316, 57, 1317, 1048, 1231, 1233, 40, 1234, 1038, 1247, 1249, 44, 1250, 1251, 1253, 45, 1254, 1062, 1063, 1068, 1235, 1237] (by decide +kernel) (by decide +kernel))
set_option maxRecDepth 20000 in
theorem gF_wsX10_total_r3 : GoodIn lw_tbl wsX10_total_r3 := (goodIn_r _ [41, 1238, 1067, 1047, 1066, 1239, 1241, 42, 1242, 1045, 1255, 1257, 46, 1258, 1259, 1261, 47, 1262, 1065, 1263, 1265, 48, 1266, 1069] (by decide +kernel) (by decide +kernel))
set_option maxRecDepth 20000 in
theorem gF_wsX10_total_r4 : GoodIn lw_tbl wsX10_total_r4 := (goodIn_r _ [1046, 1071, 1070, 1267, 1268, 1269, 1270, 1272, 49, 1273, 1052, 1064] (by decide +kernel) (by decide +kernel))
set_option maxRecDepth 20000 in
theorem gF_wsX10_total : GoodIn lw_tbl wsX10_total := goodIn_cons9 (goodIn_r _ [1353] (by decide +kernel) (by decide +kernel)) (goodIn_app (goodIn_app gF_wsX10_total_r1 (goodIn_app gF_wsX10_total_r2 (goodIn_app gF_wsX10_total_r3 gF_wsX10_total_r4))) gF_wsX100)
set_option maxRecDepth 20000 in
theorem gT_X10_total : GoodIn lw_tbl (wsV RL 175 RX10 yX10_total wsX10_total) := goodIn_app (goodIn_r _ [1350, 1351, 1352, 71] (by decide +kernel) (by decide +kernel)) gF_wsX10_total
set_option maxRecDepth 20000 in
theorem gF_wsL_grade_r1 : GoodIn lw_tbl wsL_grade_r1 := (goodIn_r _ [608, 991, 992, 993, 60, 994, 617, 77, 390, 199, 613, 614, 615, 66, 616, 190, 437, 438, 439, 62, 440, 102, 441, 443] (by decide +kernel) (by decide +kernel))
set_option maxRecDepth 20000 in
theorem gF_wsL_grade_r2 : GoodIn lw_tbl wsL_grade_r2 := (goodIn_r _ [0, 444, 398, 399, 400, 445, 447, 1, 448, 492, 100, 63, 101, 197, 449, 451, 2, 452, 394, 395, 397, 453, 454, 455] (by decide +kernel) (by decide +kernel))
set_option maxRecDepth 20000 in
theorem gF_wsL_grade_r3 : GoodIn lw_tbl wsL_grade_r3 := (goodIn_r _ [456, 200, 457, 458, 460, 3, 461, 393, 327, 325, 321, 391, 230, 311, 319, 323, 462, 463, 464, 70, 465, 360, 362, 366] (by decide +kernel) (by decide +kernel))
set_option maxRecDepth 20000 in
theorem gF_wsL_grade_r4 : GoodIn lw_tbl wsL_grade_r4 := (goodIn_r _ [367, 368, 369, 364, 466, 467, 468, 469, 470, 471, 472, 473, 474, 475, 476, 477, 478, 479, 480, 481, 482, 483, 484, 485] (by decide +kernel) (by decide +kernel))
set_option maxRecDepth 20000 in
theorem gF_wsL_grade_r5 : GoodIn lw_tbl wsL_grade_r5 := (goodIn_r _ [486, 487, 488, 490, 491] (by decide +kernel) (by decide +kernel))
set_option maxRecDepth 20000 in
theorem gF_wsL_grade : GoodIn lw_tbl wsL_grade := goodIn_cons9 (goodIn_r _ [990] (by decide +kernel) (by decide +kernel)) (goodIn_app (goodIn_app (goodIn_app (goodIn_app (goodIn_app (goodIn_app (goodIn_app (goodIn_app gF_wsL_grade_r1 (goodIn_app gF_wsL_grade_r2 (goodIn_app gF_wsL_grade_r3 (goodIn_app gF_wsL_grade_r4 gF_wsL_grade_r5)))) gF_wsX90) gF_wsX30) gF_wsX50) gF_wsX20) gF_wsX40) gF_wsX80) gF_x100)
set_option maxRecDepth 20000 in
theorem gT_L_grade : GoodIn lw_tbl (va_wsS RL 176 yL_grade wsL_grade) := goodIn_app (goodIn_r _ [988, 989, 59] (by decide +kernel) (by decide +kernel)) gF_wsL_grade
set_option maxRecDepth 20000 in
theorem gF_wsX10_grade_r1 : GoodIn lw_tbl wsX10_grade_r1 := (goodIn_r _ [1042, 1176, 1178, 34, 71, 1179, 1036, 1165, 1166, 1167, 1199, 1201, 36, 1202, 1032, 1302, 1304, 54, 1305, 1044, 1306, 1308, 55, 1309] (by decide +kernel) (by decide +kernel))
set_option maxRecDepth 20000 in
theorem gF_wsX10_grade_r2 : GoodIn lw_tbl wsX10_grade_r2 := (goodIn_r _ [1040, 1310, 1312, 56, 1313, 1041, 1035, 1314, 1316, 57, 1317, 1048, 1231, 1233, 40, 1234, 1038, 1247, 1249, 44, 1250, 1251, 1253, 45] (by decide +kernel) (by decide +kernel))
set_option maxRecDepth 20000 in
theorem gF_wsX10_grade_r3 : GoodIn lw_tbl wsX10_grade_r3 := (goodIn_r _ [1254, 1062, 1063, 1068, 1235, 1237, 41, 1238, 1067, 1047, 1066, 1239, 1241, 42, 1242, 1045, 1255, 1257, 46, 1258, 1259, 1261, 47, 1262] (by decide +kernel) (by decide +kernel))
set_option maxRecDepth 20000 in
theorem gF_wsX10_grade_r4 : GoodIn lw_tbl wsX10_grade_r4 := (goodIn_r _ [1065, 1263, 1265, 48, 1266, 1069, 1046, 1071, 1070, 1267, 1268, 1269, 1270, 1272, 49, 1273, 1052, 1064] (by decide +kernel) (by decide +kernel))
set_option maxRecDepth 20000 in
theorem gF_wsX10_grade : GoodIn lw_tbl wsX10_grade := goodIn_cons9 (goodIn_r _ [1357] (by decide +kernel) (by decide +kernel)) (goodIn_app (goodIn_app gF_wsX10_grade_r1 (goodIn_app gF_wsX10_grade_r2 (goodIn_app gF_wsX10_grade_r3 gF_wsX10_grade_r4))) gF_wsX100)
set_option maxRecDepth 20000 in
theorem gT_X10_grade : GoodIn lw_tbl (wsV RL 178 RX10 yX10_grade wsX10_grade) := goodIn_app (goodIn_r _ [1354, 1355, 1356, 71] (by decide +kernel) (by decide +kernel)) gF_wsX10_grade
set_option maxRecDepth 20000 in
theorem gF_wsX9_changed_r1 : GoodIn lw_tbl wsX9_changed_r1 := (goodIn_r _ [390, 191, 199, 437, 438, 439, 62, 440, 102, 441, 443, 0, 60, 444, 398, 399, 400, 445, 447, 1, 448, 492, 100, 63] (by decide +kernel) (by decide +kernel))
set_option maxRecDepth 20000 in
theorem gF_wsX9_changed_r2 : GoodIn lw_tbl wsX9_changed_r2 := (goodIn_r _ [101, 197, 449, 451, 2, 452, 394, 395, 397, 453, 454, 455, 66, 456, 200, 457, 458, 460, 3, 461, 393, 327, 325, 321] (by decide +kernel) (by decide +kernel))
set_option maxRecDepth 20000 in
theorem gF_wsX9_changed_r3 : GoodIn lw_tbl wsX9_changed_r3 := (goodIn_r _ [391, 230, 311, 319, 323, 462, 463, 464, 70, 465, 360, 362, 366, 367, 368, 369, 364, 466, 467, 468, 469, 470, 471, 472] (by decide +kernel) (by decide +kernel))
set_option maxRecDepth 20000 in
theorem gF_wsX9_changed_r4 : GoodIn lw_tbl wsX9_changed_r4 := (goodIn_r _ [473, 474, 475, 476, 477, 478, 479, 480, 481, 482, 483, 484, 485, 486, 487, 488, 490, 491] (by decide +kernel) (by decide +kernel))
set_option maxRecDepth 20000 in
theorem gF_wsX9_changed : GoodIn lw_tbl wsX9_changed := goodIn_cons9 (goodIn_r _ [436] (by decide +kernel) (by decide +kernel)) (goodIn_app (goodIn_app (goodIn_app (goodIn_app (goodIn_app (goodIn_app (goodIn_app gF_wsX9_changed_r1 (goodIn_app gF_wsX9_changed_r2 (goodIn_app gF_wsX9_changed_r3 gF_wsX9_changed_r4))) gF_wsX90) gF_wsX30) gF_wsX50) gF_wsX20) gF_wsX40) gF_wsX80)
set_option maxRecDepth 20000 in
theorem gT_X9_changed : GoodIn lw_tbl (wsV RL 179 RX9 yX9_changed wsX9_changed) := goodIn_app (goodIn_r _ [433, 434, 435, 60] (by decide +kernel) (by decide +kernel)) gF_wsX9_changed
set_option maxRecDepth 20000 in
theorem gF_wsX10_changed_r1 : GoodIn lw_tbl wsX10_changed_r1 := (goodIn_r _ [1032, 1036, 1042, 1302, 1304, 54, 71, 1305, 1044, 1306, 1308, 55, 1309, 1040, 1310, 1312, 56, 1313, 1041, 1035, 1314, 1316, 57, 1317] (by decide +kernel) (by decide +kernel))
set_option maxRecDepth 20000 in
theorem gF_wsX10_changed_r2 : GoodIn lw_tbl wsX10_changed_r2 := (goodIn_r _ [1048, 1231, 1233, 40, 1234, 1038, 1247, 1249, 44, 1250, 1251, 1253, 45, 1254, 1062, 1063, 1068, 1235, 1237, 41, 1238, 1067, 1047, 1066] (by decide +kernel) (by decide +kernel))
set_option maxRecDepth 20000 in
theorem gF_wsX10_changed_r3 : GoodIn lw_tbl wsX10_changed_r3 := (goodIn_r _ [1239, 1241, 42, 1242, 1045, 1255, 1257, 46, 1258, 1259, 1261, 47, 1262, 1065, 1263, 1265, 48, 1266, 1069, 1046, 1071, 1070, 1165, 1166] (by decide +kernel) (by decide +kernel))
set_option maxRecDepth 20000 in
theorem gF_wsX10_changed_r4 : GoodIn lw_tbl wsX10_changed_r4 := (goodIn_r _ [1167, 1267, 1268, 1269, 1270, 1272, 49, 1273, 1052, 1064] (by decide +kernel) (by decide +kernel))
set_option maxRecDepth 20000 in
theorem gF_wsX10_changed : GoodIn lw_tbl wsX10_changed := goodIn_cons9 (goodIn_r _ [1361] (by decide +kernel) (by decide +kernel)) (goodIn_app (goodIn_app gF_wsX10_changed_r1 (goodIn_app gF_wsX10_changed_r2 (goodIn_app gF_wsX10_changed_r3 gF_wsX10_changed_r4))) gF_wsX100)
set_option maxRecDepth 20000 in
theorem gT_X10_changed : GoodIn lw_tbl (wsV RL 182 RX10 yX10_changed wsX10_changed) := goodIn_app (goodIn_r _ [1358, 1359, 1360, 71] (by decide +kernel) (by decide +kernel)) gF_wsX10_changed
set_option maxRecDepth 20000 in
theorem gF_wsL_lineOf_r1 : GoodIn lw_tbl wsL_lineOf_r1 := (goodIn_r _ [509, 998, 999, 1000, 60, 1001, 515, 75, 396, 888, 890, 26, 891, 390, 191, 445, 447, 1, 448, 492, 100, 63, 101, 197] (by decide +kernel) (by decide +kernel))
set_option maxRecDepth 20000 in
theorem gF_wsL_lineOf_r2 : GoodIn lw_tbl wsL_lineOf_r2 := (goodIn_r _ [449, 451, 2, 452, 394, 395, 397, 453, 454, 455, 66, 456, 200, 457, 438, 439, 62, 440, 102, 458, 460, 3, 461, 393] (by decide +kernel) (by decide +kernel))
set_option maxRecDepth 20000 in
theorem gF_wsL_lineOf_r3 : GoodIn lw_tbl wsL_lineOf_r3 := (goodIn_r _ [327, 325, 321, 391, 230, 311, 319, 323, 462, 463, 464, 70, 465, 360, 362, 366, 367, 368, 369, 364, 466, 467, 468, 437] (by decide +kernel) (by decide +kernel))
set_option maxRecDepth 20000 in
theorem gF_wsL_lineOf_r4 : GoodIn lw_tbl wsL_lineOf_r4 := (goodIn_r _ [469, 470, 471, 472, 473, 474, 475, 476, 477, 478, 479, 480, 481, 482, 483, 484, 485, 486, 487, 488, 490, 491, 632, 598] (by decide +kernel) (by decide +kernel))
set_option maxRecDepth 20000 in
theorem gF_wsL_lineOf_r5 : GoodIn lw_tbl wsL_lineOf_r5 := (goodIn_r _ [599, 600, 1002, 1004, 32, 1005, 892, 894, 27, 895] (by decide +kernel) (by decide +kernel))
set_option maxRecDepth 20000 in
theorem gF_wsL_lineOf : GoodIn lw_tbl wsL_lineOf := goodIn_cons9 (goodIn_r _ [997] (by decide +kernel) (by decide +kernel)) (goodIn_app (goodIn_app (goodIn_app (goodIn_app (goodIn_app (goodIn_app (goodIn_app (goodIn_app gF_wsL_lineOf_r1 (goodIn_app gF_wsL_lineOf_r2 (goodIn_app gF_wsL_lineOf_r3 (goodIn_app gF_wsL_lineOf_r4 gF_wsL_lineOf_r5)))) gF_wsX90) gF_wsX30) gF_wsX50) gF_wsX20) gF_wsX40) gF_wsX80) gF_x83)
set_option maxRecDepth 20000 in
theorem gT_L_lineOf : GoodIn lw_tbl (va_wsS RL 183 yL_lineOf wsL_lineOf) := goodIn_app (goodIn_r _ [995, 996, 59] (by decide +kernel) (by decide +kernel)) gF_wsL_lineOf
set_option maxRecDepth 20000 in
theorem gF_wsX10_lineOf_r1 : GoodIn lw_tbl wsX10_lineOf_r1 := (goodIn_r _ [1165, 1166, 71, 1167, 1199, 1201, 36, 1202, 1032, 1366, 1368, 58, 1369, 1036, 1306, 1308, 55, 1309, 1040, 1310, 1312, 56, 1313, 1041] (by decide +kernel) (by decide +kernel))
set_option maxRecDepth 20000 in
theorem gF_wsX10_lineOf_r2 : GoodIn lw_tbl wsX10_lineOf_r2 := (goodIn_r _ [1035, 1314, 1316, 57, 1317, 1048, 1231, 1233, 40, 1234, 1038, 1247, 1249, 44, 1250, 1251, 1253, 45, 1254, 1062, 1063, 1068, 1235, 1237] (by decide +kernel) (by decide +kernel))
set_option maxRecDepth 20000 in
theorem gF_wsX10_lineOf_r3 : GoodIn lw_tbl wsX10_lineOf_r3 := (goodIn_r _ [41, 1238, 1067, 1047, 1066, 1239, 1241, 42, 1242, 1045, 1255, 1257, 46, 1258, 1259, 1261, 47, 1262, 1065, 1263, 1265, 48, 1266, 1069] (by decide +kernel) (by decide +kernel))
set_option maxRecDepth 20000 in
theorem gF_wsX10_lineOf_r4 : GoodIn lw_tbl wsX10_lineOf_r4 := (goodIn_r _ [1046, 1071, 1070, 1267, 1268, 1269, 1270, 1272, 49, 1273, 1052, 1064] (by decide +kernel) (by decide +kernel))
set_option maxRecDepth 20000 in
theorem gF_wsX10_lineOf : GoodIn lw_tbl wsX10_lineOf := goodIn_cons9 (goodIn_r _ [1365] (by decide +kernel) (by decide +kernel)) (goodIn_app (goodIn_app gF_wsX10_lineOf_r1 (goodIn_app gF_wsX10_lineOf_r2 (goodIn_app gF_wsX10_lineOf_r3 gF_wsX10_lineOf_r4))) gF_wsX100)
set_option maxRecDepth 20000 in
theorem gT_X10_lineOf : GoodIn lw_tbl (wsV RL 185 RX10 yX10_lineOf wsX10_lineOf) := goodIn_app (goodIn_r _ [1362, 1363, 1364, 71] (by decide +kernel) (by decide +kernel)) gF_wsX10_lineOf
set_option maxRecDepth 20000 in
theorem gF_wsL_lineAnew_r1 : GoodIn lw_tbl wsL_lineAnew_r1 := (goodIn_r _ [509, 1009, 1010, 1011, 60, 1012, 515, 75, 888, 890, 26, 891, 390, 191, 396, 445, 447, 1, 448, 492, 100, 63, 101, 197] (by decide +kernel) (by decide +kernel))
set_option maxRecDepth 20000 in
theorem gF_wsL_lineAnew_r2 : GoodIn lw_tbl wsL_lineAnew_r2 := (goodIn_r _ [449, 451, 2, 452, 394, 395, 397, 453, 454, 455, 66, 456, 200, 457, 438, 439, 62, 440, 102, 458, 460, 3, 461, 393] (by decide +kernel) (by decide +kernel))
set_option maxRecDepth 20000 in
theorem gF_wsL_lineAnew_r3 : GoodIn lw_tbl wsL_lineAnew_r3 := (goodIn_r _ [327, 325, 321, 391, 230, 311, 319, 323, 462, 463, 464, 70, 465, 360, 362, 366, 367, 368, 369, 364, 466, 467, 468, 437] (by decide +kernel) (by decide +kernel))
set_option maxRecDepth 20000 in
theorem gF_wsL_lineAnew_r4 : GoodIn lw_tbl wsL_lineAnew_r4 := (goodIn_r _ [469, 470, 471, 472, 473, 474, 475, 476, 477, 478, 479, 480, 481, 482, 483, 484, 485, 486, 487, 488, 490, 491, 632, 598] (by decide +kernel) (by decide +kernel))
set_option maxRecDepth 20000 in
theorem gF_wsL_lineAnew_r5 : GoodIn lw_tbl wsL_lineAnew_r5 := (goodIn_r _ [599, 600, 1002, 1004, 32, 1005, 892, 894, 27, 895] (by decide +kernel) (by decide +kernel))
set_option maxRecDepth 20000 in
theorem gF_wsL_lineAnew : GoodIn lw_tbl wsL_lineAnew := goodIn_cons9 (goodIn_r _ [1008] (by decide +kernel) (by decide +kernel)) (goodIn_app (goodIn_app (goodIn_app (goodIn_app (goodIn_app (goodIn_app (goodIn_app (goodIn_app gF_wsL_lineAnew_r1 (goodIn_app gF_wsL_lineAnew_r2 (goodIn_app gF_wsL_lineAnew_r3 (goodIn_app gF_wsL_lineAnew_r4 gF_wsL_lineAnew_r5)))) gF_wsX90) gF_wsX30) gF_wsX50) gF_wsX20) gF_wsX40) gF_wsX80) gF_x83)
set_option maxRecDepth 20000 in
theorem gT_L_lineAnew : GoodIn lw_tbl (va_wsS RL 186 yL_lineAnew wsL_lineAnew) := goodIn_app (goodIn_r _ [1006, 1007, 59] (by decide +kernel) (by decide +kernel)) gF_wsL_lineAnew
set_option maxRecDepth 20000 in
theorem gF_wsX10_lineAnew_r1 : GoodIn lw_tbl wsX10_lineAnew_r1 := (goodIn_r _ [1165, 1166, 71, 1167, 1199, 1201, 36, 1202, 1032, 1366, 1368, 58, 1369, 1036, 1306, 1308, 55, 1309, 1040, 1310, 1312, 56, 1313, 1041] (by decide +kernel) (by decide +kernel))
set_option maxRecDepth 20000 in
theorem gF_wsX10_lineAnew_r2 : GoodIn lw_tbl wsX10_lineAnew_r2 := (goodIn_r _ [1035, 1314, 1316, 57, 1317, 1048, 1231, 1233, 40, 1234, 1038, 1247, 1249, 44, 1250, 1251, 1253, 45, 1254, 1062, 1063, 1068, 1235, 1237] (by decide +kernel) (by decide +kernel))
set_option maxRecDepth 20000 in
theorem gF_wsX10_lineAnew_r3 : GoodIn lw_tbl wsX10_lineAnew_r3 := (goodIn_r _ [41, 1238, 1067, 1047, 1066, 1239, 1241, 42, 1242, 1045, 1255, 1257, 46, 1258, 1259, 1261, 47, 1262, 1065, 1263, 1265, 48, 1266, 1069] (by decide +kernel) (by decide +kernel))
set_option maxRecDepth 20000 in
theorem gF_wsX10_lineAnew_r4 : GoodIn lw_tbl wsX10_lineAnew_r4 := (goodIn_r _ [1046, 1071, 1070, 1267, 1268, 1269, 1270, 1272, 49, 1273, 1052, 1064] (by decide +kernel) (by decide +kernel))
set_option maxRecDepth 20000 in
theorem gF_wsX10_lineAnew : GoodIn lw_tbl wsX10_lineAnew := goodIn_cons9 (goodIn_r _ [1373] (by decide +kernel) (by decide +kernel)) (goodIn_app (goodIn_app gF_wsX10_lineAnew_r1 (goodIn_app gF_wsX10_lineAnew_r2 (goodIn_app gF_wsX10_lineAnew_r3 gF_wsX10_lineAnew_r4))) gF_wsX100)
set_option maxRecDepth 20000 in
theorem gT_X10_lineAnew : GoodIn lw_tbl (wsV RL 188 RX10 yX10_lineAnew wsX10_lineAnew) := goodIn_app (goodIn_r _ [1370, 1371, 1372, 71] (by decide +kernel) (by decide +kernel)) gF_wsX10_lineAnew
set_option maxRecDepth 20000 in
theorem gF_wsL_ofReader_r1 : GoodIn lw_tbl wsL_ofReader_r1 := (goodIn_r _ [608, 509, 1016, 1017, 1018, 60, 1019, 617, 77, 515, 75, 391, 232, 234, 240, 242, 244, 248, 793, 794, 795, 67, 796, 225] (by decide +kernel) (by decide +kernel))
set_option maxRecDepth 20000 in
theorem gF_wsL_ofReader_r2 : GoodIn lw_tbl wsL_ofReader_r2 := (goodIn_r _ [437, 438, 439, 62, 440, 102, 1020, 1021, 78, 1022, 1023, 1024, 1025] (by decide +kernel) (by decide +kernel))
set_option maxRecDepth 20000 in
theorem gF_wsL_ofReader : GoodIn lw_tbl wsL_ofReader := goodIn_cons9 (goodIn_r _ [1015] (by decide +kernel) (by decide +kernel)) (goodIn_app (goodIn_app (goodIn_app (goodIn_app (goodIn_app (goodIn_app gF_wsL_ofReader_r1 gF_wsL_ofReader_r2) gF_wsX90) gF_wsX40) gF_wsX50) gF_x100) gF_x83)
set_option maxRecDepth 20000 in
theorem gT_L_ofReader : GoodIn lw_tbl (va_wsS RL 189 yL_ofReader wsL_ofReader) := goodIn_app (goodIn_r _ [1013, 1014, 59] (by decide +kernel) (by decide +kernel)) gF_wsL_ofReader
set_option maxRecDepth 20000 in
theorem gF_wsX10_ofReader_r1 : GoodIn lw_tbl wsX10_ofReader_r1 := (goodIn_r _ [1062, 1064, 1058, 1053, 1056, 1223, 1225, 38, 71, 1226, 1049, 1165, 1166, 1167, 1168, 1170, 33, 1171, 1032, 1282, 1284, 52, 1285, 1054] (by decide +kernel) (by decide +kernel))
set_option maxRecDepth 20000 in
theorem gF_wsX10_ofReader_r2 : GoodIn lw_tbl wsX10_ofReader_r2 := (goodIn_r _ [1060, 1294, 1296, 53, 1297, 1067] (by decide +kernel) (by decide +kernel))
set_option maxRecDepth 20000 in
theorem gF_wsX10_ofReader : GoodIn lw_tbl wsX10_ofReader := goodIn_cons9 (goodIn_r _ [1377] (by decide +kernel) (by decide +kernel)) (goodIn_app (goodIn_app gF_wsX10_ofReader_r1 gF_wsX10_ofReader_r2) gF_wsX100)
set_option maxRecDepth 20000 in
theorem gT_X10_ofReader : GoodIn lw_tbl (wsV RL 191 RX10 yX10_ofReader wsX10_ofReader) := goodIn_app (goodIn_r _ [1374, 1375, 1376, 71] (by decide +kernel) (by decide +kernel)) gF_wsX10_ofReader
set_option maxRecDepth 20000 in
theorem gF_wsX9_wanted_r1 : GoodIn lw_tbl wsX9_wanted_r1 := (goodIn_r _ [390, 191, 497, 499, 4, 60, 500, 394, 395, 397, 365, 453, 454, 455, 66, 456, 200, 457, 438, 439, 62, 440, 102, 458] (by decide +kernel) (by decide +kernel))
set_option maxRecDepth 20000 in
theorem gF_wsX9_wanted_r2 : GoodIn lw_tbl wsX9_wanted_r2 := (goodIn_r _ [460, 3, 461, 393, 327, 325, 321, 391, 230, 311, 319, 323, 462, 463, 464, 70, 465, 360, 362, 366, 367, 368, 369, 364] (by decide +kernel) (by decide +kernel))
set_option maxRecDepth 20000 in
theorem gF_wsX9_wanted_r3 : GoodIn lw_tbl wsX9_wanted_r3 := (goodIn_r _ [466, 467, 468, 437, 469, 470, 471, 472, 473, 474, 475, 476, 501, 482, 483, 484, 485, 486, 487, 488, 490, 491, 502, 503] (by decide +kernel) (by decide +kernel))
set_option maxRecDepth 20000 in
theorem gF_wsX9_wanted_r4 : GoodIn lw_tbl wsX9_wanted_r4 := (goodIn_r _ [504, 505, 201] (by decide +kernel) (by decide +kernel))
set_option maxRecDepth 20000 in
theorem gF_wsX9_wanted : GoodIn lw_tbl wsX9_wanted := goodIn_cons9 (goodIn_r _ [496] (by decide +kernel) (by decide +kernel)) (goodIn_app (goodIn_app (goodIn_app (goodIn_app (goodIn_app (goodIn_app (goodIn_app gF_wsX9_wanted_r1 (goodIn_app gF_wsX9_wanted_r2 (goodIn_app gF_wsX9_wanted_r3 gF_wsX9_wanted_r4))) gF_wsX90) gF_wsX30) gF_wsX80) gF_wsX50) gF_wsX20) gF_wsX40)
set_option maxRecDepth 20000 in
theorem gT_X9_wanted : GoodIn lw_tbl (wsV RL 192 RX9 yX9_wanted wsX9_wanted) := goodIn_app (goodIn_r _ [493, 494, 495, 60] (by decide +kernel) (by decide +kernel)) gF_wsX9_wanted
set_option maxRecDepth 20000 in
theorem gF_wsX10_wanted_r1 : GoodIn lw_tbl wsX10_wanted_r1 := (goodIn_r _ [1032, 1036, 1243, 1245, 43, 71, 1246, 1041, 1231, 1233, 40, 1234, 1038, 1247, 1249, 44, 1250, 1048, 1251, 1253, 45, 1254, 1062, 1063] (by decide +kernel) (by decide +kernel))
set_option maxRecDepth 20000 in
theorem gF_wsX10_wanted_r2 : GoodIn lw_tbl wsX10_wanted_r2 := (goodIn_r _ [1068, 1235, 1237, 41, 1238, 1067, 1047, 1066, 1239, 1241, 42, 1242, 1045, 1255, 1257, 46, 1258, 1035, 1259, 1261, 47, 1262, 1065, 1263] (by decide +kernel) (by decide +kernel))
set_option maxRecDepth 20000 in
theorem gF_wsX10_wanted_r3 : GoodIn lw_tbl wsX10_wanted_r3 := (goodIn_r _ [1265, 48, 1266, 1069, 1046, 1071, 1070, 1165, 1166, 1167, 1267, 1268, 1269, 1270, 1272, 49, 1273, 1052, 1064] (by decide +kernel) (by decide +kernel))
set_option maxRecDepth 20000 in
theorem gF_wsX10_wanted : GoodIn lw_tbl wsX10_wanted := goodIn_cons9 (goodIn_r _ [1381] (by decide +kernel) (by decide +kernel)) (goodIn_app (goodIn_app gF_wsX10_wanted_r1 (goodIn_app gF_wsX10_wanted_r2 gF_wsX10_wanted_r3)) gF_wsX100)
set_option maxRecDepth 20000 in
theorem gT_X10_wanted : GoodIn lw_tbl (wsV RL 195 RX10 yX10_wanted wsX10_wanted) := goodIn_app (goodIn_r _ [1378, 1379, 1380, 71] (by decide +kernel) (by decide +kernel)) gF_wsX10_wanted
