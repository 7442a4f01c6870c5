/-! printed by wip/p30/gen/lawwords.py -/
theorem goodIn_cons9 {big a : List Cond} {c : Cond} (ha : GoodIn big [c]) (hb : GoodIn big a) : GoodIn big (c :: a) := fun w h => (List.mem_cons.mp h).elim (fun e => ha w (by rw [e]; exact List.mem_singleton.mpr rfl)) (hb w)
set_option maxRecDepth 20000 in
theorem gF_wsX9_init_r1 : GoodIn lw_tbl wsX9_init_r1 := (goodIn_r _ [55, 56, 57, 58, 59, 33, 354, 88, 89, 36, 355, 119, 120, 37, 356, 153, 154, 38, 357, 187, 188, 39, 358, 246] (by decide +kernel) (by decide +kernel))
set_option maxRecDepth 20000 in
theorem gF_wsX9_init_r2 : GoodIn lw_tbl wsX9_init_r2 := (goodIn_r _ [247, 40, 359, 267, 268, 41, 360, 323, 324, 42, 361, 352, 65, 34, 362, 363, 364, 61, 62, 63, 64, 78, 66, 67] (by decide +kernel) (by decide +kernel))
set_option maxRecDepth 20000 in
theorem gF_wsX9_init_r3 : GoodIn lw_tbl wsX9_init_r3 := (goodIn_r _ [68, 69, 70, 71, 35, 72, 77, 73, 91, 92, 93, 94, 96, 95, 122, 123, 124, 125, 127, 129, 130, 131, 132, 133] (by decide +kernel) (by decide +kernel))
set_option maxRecDepth 20000 in
theorem gF_wsX9_init_r4 : GoodIn lw_tbl wsX9_init_r4 := (goodIn_r _ [134, 135, 126, 156, 157, 158, 159, 163, 165, 167, 169, 170, 171, 160, 190, 191, 192, 193, 196, 198, 200, 202, 204, 206] (by decide +kernel) (by decide +kernel))
set_option maxRecDepth 20000 in
theorem gF_wsX9_init_r5 : GoodIn lw_tbl wsX9_init_r5 := (goodIn_r _ [208, 210, 212, 214, 216, 218, 194, 249, 250, 251, 252, 256, 258, 253, 270, 271, 272, 273, 277, 279, 281, 283, 285, 287] (by decide +kernel) (by decide +kernel))
set_option maxRecDepth 20000 in
theorem gF_wsX9_init_r6 : GoodIn lw_tbl wsX9_init_r6 := (goodIn_r _ [289, 291, 293, 295, 297, 274, 326, 327, 328, 353] (by decide +kernel) (by decide +kernel))
set_option maxRecDepth 20000 in
theorem gF_wsX10 : GoodIn lw_tbl wsX10 := goodIn_sub (by decide +kernel) (by decide +kernel)
set_option maxRecDepth 20000 in
theorem gF_wsX90 : GoodIn lw_tbl wsX90 := goodIn_sub (by decide +kernel) (by decide +kernel)
set_option maxRecDepth 20000 in
theorem gF_wsX00 : GoodIn lw_tbl wsX00 := goodIn_sub (by decide +kernel) (by decide +kernel)
set_option maxRecDepth 20000 in
theorem gF_wsX60 : GoodIn lw_tbl wsX60 := goodIn_sub (by decide +kernel) (by decide +kernel)
set_option maxRecDepth 20000 in
theorem gF_wsX30 : GoodIn lw_tbl wsX30 := goodIn_sub (by decide +kernel) (by decide +kernel)
set_option maxRecDepth 20000 in
theorem gF_wsX40 : GoodIn lw_tbl wsX40 := goodIn_sub (by decide +kernel) (by decide +kernel)
set_option maxRecDepth 20000 in
theorem gF_wsX70 : GoodIn lw_tbl wsX70 := goodIn_sub (by decide +kernel) (by decide +kernel)
set_option maxRecDepth 20000 in
theorem gF_wsX20 : GoodIn lw_tbl wsX20 := goodIn_sub (by decide +kernel) (by decide +kernel)
set_option maxRecDepth 20000 in
theorem gF_wsX80 : GoodIn lw_tbl wsX80 := goodIn_sub (by decide +kernel) (by decide +kernel)
set_option maxRecDepth 20000 in
theorem gF_wsX50 : GoodIn lw_tbl wsX50 := goodIn_sub (by decide +kernel) (by decide +kernel)
set_option maxRecDepth 20000 in
theorem gF_wsX9_init : GoodIn lw_tbl wsX9_init := goodIn_cons9 (goodIn_r _ [54] (by decide +kernel) (by decide +kernel)) (goodIn_app (goodIn_app (goodIn_app (goodIn_app (goodIn_app (goodIn_app (goodIn_app (goodIn_app (goodIn_app (goodIn_app (goodIn_app gF_wsX9_init_r1 (goodIn_app gF_wsX9_init_r2 (goodIn_app gF_wsX9_init_r3 (goodIn_app gF_wsX9_init_r4 (goodIn_app gF_wsX9_init_r5 gF_wsX9_init_r6))))) gF_wsX10) gF_wsX90) gF_wsX00) gF_wsX60) gF_wsX30) gF_wsX40) gF_wsX70) gF_wsX20) gF_wsX80) gF_wsX50)
set_option maxRecDepth 20000 in
theorem gF_wsL_does_r1 : GoodIn lw_tbl wsL_does_r1 := (goodIn_r _ [404, 405, 406, 407, 408, 409, 32, 410, 415, 46, 478, 47, 357, 168, 411, 412, 413, 38, 414, 161, 493, 494, 495, 34] (by decide +kernel) (by decide +kernel))
set_option maxRecDepth 20000 in
theorem gF_wsL_does_r2 : GoodIn lw_tbl wsL_does_r2 := (goodIn_r _ [496, 73, 497, 498, 499, 500, 501, 502, 503, 504, 505, 48, 354, 82, 520, 521, 522, 33, 523, 80, 78, 524, 525, 526] (by decide +kernel) (by decide +kernel))
set_option maxRecDepth 20000 in
theorem gF_wsL_does_r3 : GoodIn lw_tbl wsL_does_r3 := (goodIn_r _ [527, 528, 356, 128, 355, 529, 530, 531, 532, 533, 534, 36, 535, 81, 79, 105, 104, 536, 538, 1, 539, 98, 100, 102] (by decide +kernel) (by decide +kernel))
set_option maxRecDepth 20000 in
theorem gF_wsL_does_r4 : GoodIn lw_tbl wsL_does_r4 := (goodIn_r _ [540, 541, 543, 2, 544, 545, 547, 3, 548, 96, 549, 550, 552, 4, 553, 554, 556, 5, 557, 558, 560, 6, 561, 562] (by decide +kernel) (by decide +kernel))
set_option maxRecDepth 20000 in
theorem gF_wsL_does_r5 : GoodIn lw_tbl wsL_does_r5 := (goodIn_r _ [564, 7, 565, 566, 568, 8, 569, 570, 571, 572, 573, 574, 575, 576, 37, 577, 127, 99, 129, 97, 130, 131, 101, 132] (by decide +kernel) (by decide +kernel))
set_option maxRecDepth 20000 in
theorem gF_wsL_does_r6 : GoodIn lw_tbl wsL_does_r6 := (goodIn_r _ [103, 578, 579, 580, 581, 582, 583, 584, 586, 9, 587, 360, 276, 278, 290, 282, 588, 590, 10, 591, 286, 284, 592, 593] (by decide +kernel) (by decide +kernel))
set_option maxRecDepth 20000 in
theorem gF_wsL_does_r7 : GoodIn lw_tbl wsL_does_r7 := (goodIn_r _ [594, 595, 596, 597, 598, 599, 600, 601, 602, 603, 604, 605, 606, 607, 133, 135, 134, 617, 618, 35, 619, 608, 610, 11] (by decide +kernel) (by decide +kernel))
set_option maxRecDepth 20000 in
theorem gF_wsL_does_r8 : GoodIn lw_tbl wsL_does_r8 := (goodIn_r _ [611, 612, 614, 12, 615, 616, 71, 72, 620, 621, 622, 623, 364, 624, 625, 626, 627, 359, 255, 628, 629, 630, 631, 632] (by decide +kernel) (by decide +kernel))
set_option maxRecDepth 20000 in
theorem gF_wsL_does_r9 : GoodIn lw_tbl wsL_does_r9 := (goodIn_r _ [633, 634, 635, 636, 637, 40, 638, 254, 256, 258, 639, 640, 641, 642, 643, 358, 201, 203, 644, 645, 646, 39, 647, 195] (by decide +kernel) (by decide +kernel))
set_option maxRecDepth 20000 in
theorem gF_wsL_does_r10 : GoodIn lw_tbl wsL_does_r10 := (goodIn_r _ [648, 650, 13, 651, 257, 652, 654, 14, 655, 213, 217, 656, 657, 658, 659, 218, 660, 661, 662, 663, 664, 202, 204, 216] (by decide +kernel) (by decide +kernel))
set_option maxRecDepth 20000 in
theorem gF_wsL_does_r11 : GoodIn lw_tbl wsL_does_r11 := (goodIn_r _ [665, 666, 668, 15, 669, 162, 166, 361, 362, 670, 672, 16, 673, 164, 197, 199, 674, 675, 676, 677, 170, 678, 679, 680] (by decide +kernel) (by decide +kernel))
set_option maxRecDepth 20000 in
theorem gF_wsL_does_r12 : GoodIn lw_tbl wsL_does_r12 := (goodIn_r _ [681, 682, 684, 17, 685, 296, 294, 280, 292, 686, 688, 18, 689, 332, 690, 692, 19, 693, 288, 694, 695, 696, 42, 697] (by decide +kernel) (by decide +kernel))
set_option maxRecDepth 20000 in
theorem gF_wsL_does_r13 : GoodIn lw_tbl wsL_does_r13 := (goodIn_r _ [329, 330, 333, 334, 335, 336, 331, 698, 699, 700, 701, 702, 703, 704, 705, 706, 707, 708, 709, 711, 712, 713, 714, 715] (by decide +kernel) (by decide +kernel))
set_option maxRecDepth 20000 in
theorem gF_wsL_does_r14 : GoodIn lw_tbl wsL_does_r14 := (goodIn_r _ [716, 171, 717, 718, 719, 720, 721, 722, 723, 724, 725, 726, 727, 728, 206, 729, 730, 731, 732, 733, 734, 735, 736, 737] (by decide +kernel) (by decide +kernel))
set_option maxRecDepth 20000 in
theorem gF_wsL_does_r15 : GoodIn lw_tbl wsL_does_r15 := (goodIn_r _ [739, 20, 740, 205, 259, 741, 742, 744, 21, 745, 215, 211, 746, 747, 748, 749, 750, 751, 752, 753, 754, 755, 212, 214] (by decide +kernel) (by decide +kernel))
set_option maxRecDepth 20000 in
theorem gF_wsL_does_r16 : GoodIn lw_tbl wsL_does_r16 := (goodIn_r _ [756, 758, 22, 759, 207, 209, 760, 761, 762, 41, 763, 275, 277, 279, 295, 293, 291, 297, 764, 765, 766, 767, 768, 769] (by decide +kernel) (by decide +kernel))
set_option maxRecDepth 20000 in
theorem gF_wsL_does_r17 : GoodIn lw_tbl wsL_does_r17 := (goodIn_r _ [770, 771, 772, 773, 774, 365, 775, 777, 23, 778, 779, 780, 781, 782, 783, 784, 785, 786, 787, 788, 789, 790, 791, 792] (by decide +kernel) (by decide +kernel))
set_option maxRecDepth 20000 in
theorem gF_wsL_does_r18 : GoodIn lw_tbl wsL_does_r18 := (goodIn_r _ [793, 794, 795, 796, 797, 798, 799, 800, 801, 803, 24, 804, 805, 807, 25, 808, 809, 811, 26, 812, 813, 814, 815, 816] (by decide +kernel) (by decide +kernel))
set_option maxRecDepth 20000 in
theorem gF_wsL_does_r19 : GoodIn lw_tbl wsL_does_r19 := (goodIn_r _ [817, 819, 27, 820, 821, 822, 823, 824, 825, 363, 826, 828, 28, 829, 830, 832, 29, 833, 834, 836, 30, 837, 838, 839] (by decide +kernel) (by decide +kernel))
set_option maxRecDepth 20000 in
theorem gF_wsL_does_r20 : GoodIn lw_tbl wsL_does_r20 := (goodIn_r _ [840, 841, 842, 843, 844, 845, 846, 847, 49, 848, 849, 850, 851] (by decide +kernel) (by decide +kernel))
set_option maxRecDepth 20000 in
theorem gF_x100 : GoodIn lw_tbl ((vx_at0 RX9 100 "java/lang/IndexOutOfBoundsException" ["java/lang/RuntimeException", "java/lang/Exception"]).filter goodWord) := goodIn_sub (by decide +kernel) (by decide +kernel)
set_option maxRecDepth 20000 in
theorem gF_x83 : GoodIn lw_tbl ((vx_at0 RX9 83 "java/lang/IllegalArgumentException" ["java/lang/RuntimeException", "java/lang/Exception"]).filter goodWord) := goodIn_sub (by decide +kernel) (by decide +kernel)
set_option maxRecDepth 20000 in
theorem gF_x89 : GoodIn lw_tbl ((vx_at0 RX9 89 "java/lang/IllegalStateException" ["java/lang/RuntimeException", "java/lang/Exception"]).filter goodWord) := goodIn_sub (by decide +kernel) (by decide +kernel)
set_option maxRecDepth 20000 in
theorem gF_wsL_does : GoodIn lw_tbl wsL_does := goodIn_cons9 (goodIn_r _ [403] (by decide +kernel) (by decide +kernel)) (goodIn_app (goodIn_app (goodIn_app (goodIn_app (goodIn_app (goodIn_app (goodIn_app (goodIn_app (goodIn_app (goodIn_app (goodIn_app (goodIn_app (goodIn_app (goodIn_app gF_wsL_does_r1 (goodIn_app gF_wsL_does_r2 (goodIn_app gF_wsL_does_r3 (goodIn_app gF_wsL_does_r4 (goodIn_app gF_wsL_does_r5 (goodIn_app gF_wsL_does_r6 (goodIn_app gF_wsL_does_r7 (goodIn_app gF_wsL_does_r8 (goodIn_app gF_wsL_does_r9 (goodIn_app gF_wsL_does_r10 (goodIn_app gF_wsL_does_r11 (goodIn_app gF_wsL_does_r12 (goodIn_app gF_wsL_does_r13 (goodIn_app gF_wsL_does_r14 (goodIn_app gF_wsL_does_r15 (goodIn_app gF_wsL_does_r16 (goodIn_app gF_wsL_does_r17 (goodIn_app gF_wsL_does_r18 (goodIn_app gF_wsL_does_r19 gF_wsL_does_r20))))))))))))))))))) gF_wsX90) gF_wsX30) gF_wsX50) gF_wsX10) gF_wsX60) gF_wsX00) gF_wsX20) gF_wsX70) gF_wsX40) gF_wsX80) gF_x100) gF_x83) gF_x89)
set_option maxRecDepth 20000 in
theorem gT_L_does : GoodIn lw_tbl (va_wsS RL 75 yL_does wsL_does) := goodIn_app (goodIn_r _ [401, 402, 31] (by decide +kernel) (by decide +kernel)) gF_wsL_does
set_option maxRecDepth 20000 in
theorem gF_wsL_drawn : GoodIn lw_tbl wsL_drawn := goodIn_cons9 (goodIn_r _ [399] (by decide +kernel) (by decide +kernel)) (goodIn_r _ [400] (by decide +kernel) (by decide +kernel))
set_option maxRecDepth 20000 in
theorem gT_L_drawn : GoodIn lw_tbl (va_wsS RL 81 yL_drawn wsL_drawn) := goodIn_app (goodIn_r _ [397, 398, 31] (by decide +kernel) (by decide +kernel)) gF_wsL_drawn
set_option maxRecDepth 20000 in
theorem gF_wsL_signFor : GoodIn lw_tbl wsL_signFor := goodIn_cons9 (goodIn_r _ [877] (by decide +kernel) (by decide +kernel)) (fun _ h => nomatch h)
set_option maxRecDepth 20000 in
theorem gT_L_signFor : GoodIn lw_tbl (va_wsS RL 85 yL_signFor wsL_signFor) := goodIn_app (goodIn_r _ [875, 876, 31] (by decide +kernel) (by decide +kernel)) gF_wsL_signFor
set_option maxRecDepth 20000 in
theorem gF_wsL_written_r1 : GoodIn lw_tbl wsL_written_r1 := (goodIn_r _ [404, 867, 868, 869, 32, 870, 415, 46, 356, 529, 530, 531, 859, 860, 861, 37, 862, 127, 578, 494, 495, 34, 496, 73] (by decide +kernel) (by decide +kernel))
set_option maxRecDepth 20000 in
theorem gF_wsL_written_r2 : GoodIn lw_tbl wsL_written_r2 := (goodIn_r _ [871, 872, 873, 874, 130, 129] (by decide +kernel) (by decide +kernel))
set_option maxRecDepth 20000 in
theorem gF_wsL_written : GoodIn lw_tbl wsL_written := goodIn_cons9 (goodIn_r _ [866] (by decide +kernel) (by decide +kernel)) (goodIn_app (goodIn_app (goodIn_app (goodIn_app (goodIn_app gF_wsL_written_r1 gF_wsL_written_r2) gF_wsX90) gF_wsX60) gF_wsX50) gF_x100)
set_option maxRecDepth 20000 in
theorem gT_L_written : GoodIn lw_tbl (va_wsS RL 88 yL_written wsL_written) := goodIn_app (goodIn_r _ [864, 865, 31] (by decide +kernel) (by decide +kernel)) gF_wsL_written
set_option maxRecDepth 20000 in
theorem gF_wsL_markOf_r1 : GoodIn lw_tbl wsL_markOf_r1 := (goodIn_r _ [404, 405, 855, 856, 857, 32, 858, 415, 46, 478, 47, 356, 529, 530, 531, 859, 860, 861, 37, 862, 127, 578, 494, 495] (by decide +kernel) (by decide +kernel))
set_option maxRecDepth 20000 in
theorem gF_wsL_markOf_r2 : GoodIn lw_tbl wsL_markOf_r2 := (goodIn_r _ [34, 496, 73, 628, 629, 630, 863, 605, 606, 607, 130, 129, 133, 135, 134, 132, 617, 618, 35, 619, 608, 610, 11, 611] (by decide +kernel) (by decide +kernel))
set_option maxRecDepth 20000 in
theorem gF_wsL_markOf_r3 : GoodIn lw_tbl wsL_markOf_r3 := (goodIn_r _ [579, 498, 499, 500, 580, 581, 582, 583, 612, 614, 12, 615, 616, 71, 72] (by decide +kernel) (by decide +kernel))
set_option maxRecDepth 20000 in
theorem gF_wsL_markOf : GoodIn lw_tbl wsL_markOf := goodIn_cons9 (goodIn_r _ [854] (by decide +kernel) (by decide +kernel)) (goodIn_app (goodIn_app (goodIn_app (goodIn_app (goodIn_app (goodIn_app gF_wsL_markOf_r1 (goodIn_app gF_wsL_markOf_r2 gF_wsL_markOf_r3)) gF_wsX90) gF_wsX60) gF_wsX50) gF_x100) gF_x83)
set_option maxRecDepth 20000 in
theorem gT_L_markOf : GoodIn lw_tbl (va_wsS RL 90 yL_markOf wsL_markOf) := goodIn_app (goodIn_r _ [852, 853, 31] (by decide +kernel) (by decide +kernel)) gF_wsL_markOf
