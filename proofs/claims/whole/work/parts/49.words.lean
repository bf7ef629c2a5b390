/-! 49: the words among the tables' -/
theorem xl_fm {big ws : List Cond} (ps : List Nat) (h : ws = ps.filterMap (fun i => big[i]?)) : ∀ w ∈ ws, w ∈ big := by
  intro w hw
  rw [h] at hw
  obtain ⟨i, -, hi⟩ := List.mem_filterMap.mp hw
  exact List.mem_of_getElem? hi
set_option maxRecDepth 100000 in
theorem wA_0_t : ∀ w ∈ wA_0, w ∈ lw_tbl := xl_fm [95, 94, 306, 347, 348, 349, 68, 350, 355, 356, 357, 358, 97, 96, 142, 122, 121, 367, 369, 0, 370, 144, 379, 380, 381, 69, 382, 125, 130, 132, 135, 139, 116, 375, 377, 2, 378, 371, 373, 1, 374, 394, 146, 136, 118, 115, 391, 392, 76, 393] (by rfl)
set_option maxRecDepth 100000 in
theorem wA_1_t : ∀ w ∈ wA_1, w ∈ lw_tbl := xl_fm [411, 412, 413, 414, 415, 416, 404, 405, 406, 407, 421, 422, 423, 424, 408, 409, 410, 428, 429, 430, 131, 417, 418, 419, 420, 396, 397, 398, 399, 425, 426, 427, 387, 388, 389, 390, 400, 402, 3, 403, 431, 432, 433, 434, 444, 445, 446, 447, 448, 119] (by rfl)
set_option maxRecDepth 100000 in
theorem wA_2_t : ∀ w ∈ wA_2, w ∈ lw_tbl := xl_fm [200, 201, 202, 457, 462, 453, 454, 455, 456, 127, 459, 460, 461, 134, 464, 465, 466, 467, 440, 442, 4, 71, 443, 468, 469, 143, 470, 471, 472, 473, 474, 439, 137, 449, 451, 5, 452, 149, 475, 476, 77, 477, 123, 126, 133, 148, 482, 484, 483, 78] (by rfl)
set_option maxRecDepth 100000 in
theorem wA_3_t : ∀ w ∈ wA_3, w ∈ lw_tbl := xl_fm [311, 307, 363, 364, 365, 366, 383, 384, 385, 386, 312, 435, 436, 437, 438, 308, 478, 479, 480, 481, 315, 317, 485, 487, 6, 67, 488, 183, 185, 186, 316, 310, 493, 494, 495, 70, 496, 124, 129, 225, 526, 527, 79, 528, 219, 138, 529, 530, 531, 532] (by rfl)
set_option maxRecDepth 100000 in
theorem wA_4_t : ∀ w ∈ wA_4, w ∈ lw_tbl := xl_fm [533, 535, 10, 72, 536, 537, 538, 141, 539, 226, 220, 221, 222, 540, 542, 11, 543, 522, 524, 9, 525, 224, 544, 546, 12, 547, 223, 569, 571, 18, 572, 564, 565, 567, 17, 568, 573, 556, 558, 15, 559, 560, 562, 16, 563, 582, 117, 587, 589, 22] (by rfl)
set_option maxRecDepth 100000 in
theorem wA_5_t : ∀ w ∈ wA_5, w ∈ lw_tbl := xl_fm [590, 583, 585, 21, 586, 578, 580, 20, 581, 595, 517, 548, 550, 13, 551, 518, 520, 8, 521, 552, 554, 14, 555, 574, 576, 19, 577, 591, 593, 23, 594, 596, 309, 509, 510, 511, 512, 313, 184, 513, 514, 515, 516, 505, 507, 7, 508, 260, 262, 259] (by rfl)
set_option maxRecDepth 100000 in
theorem wA_6_t : ∀ w ∈ wA_6, w ∈ lw_tbl := xl_fm [258, 618, 280, 281, 257, 278, 128, 634, 635, 636, 74, 637, 275, 614, 615, 616, 617, 626, 628, 26, 73, 629, 642, 643, 644, 645, 263, 646, 655, 660, 261, 651, 652, 653, 654, 656, 657, 658, 659, 647, 649, 29, 650, 285, 276, 277, 698, 624, 686, 687] (by rfl)
set_option maxRecDepth 100000 in
theorem wA_7_t : ∀ w ∈ wA_7, w ∈ lw_tbl := xl_fm [688, 689, 685, 690, 691, 692, 693, 694, 695, 696, 697, 681, 683, 35, 684, 677, 679, 34, 680, 673, 675, 33, 676, 669, 671, 32, 672, 699, 625, 283, 279, 665, 667, 31, 668, 638, 640, 28, 641, 630, 632, 27, 633, 661, 663, 30, 664, 613, 619, 620] (by rfl)
set_option maxRecDepth 100000 in
theorem wA_8_t : ∀ w ∈ wA_8, w ∈ lw_tbl := xl_fm [622, 25, 623, 605, 607, 24, 608, 314, 609, 610, 611, 612, 282, 284, 286, 716, 717, 718, 719, 724, 725, 726, 727, 150, 147, 145, 140, 736, 741, 746, 120, 888, 889, 75, 890, 754, 753, 766, 767, 755, 899, 901, 36, 902, 756, 757, 758, 759, 760, 761] (by rfl)
set_option maxRecDepth 100000 in
theorem wA_9_t : ∀ w ∈ wA_9, w ∈ lw_tbl := xl_fm [762, 773, 915, 917, 40, 918, 919, 920, 921, 929, 931, 42, 932, 911, 913, 39, 914, 922, 923, 924, 925, 927, 41, 928, 933, 935, 43, 936, 764, 774, 777, 775, 776, 941, 943, 45, 944, 949, 951, 47, 952, 953, 955, 48, 956, 957, 958, 959, 960, 961] (by rfl)
set_option maxRecDepth 100000 in
theorem wA_10_t : ∀ w ∈ wA_10, w ∈ lw_tbl := xl_fm [962, 945, 947, 46, 948, 903, 905, 37, 906, 907, 909, 38, 910, 937, 939, 44, 940, 763, 765, 963, 965, 49, 966, 772, 768, 769, 770, 771, 778, 780, 781, 779, 783, 782, 991, 993, 53, 994, 983, 985, 51, 986, 987, 989, 52, 990, 995, 997, 54, 998] (by rfl)
set_option maxRecDepth 100000 in
theorem wA_11_t : ∀ w ∈ wA_11, w ∈ lw_tbl := xl_fm [979, 981, 50, 982, 785, 784, 786, 787, 788, 789, 1020, 1022, 58, 1023, 1032, 1034, 61, 1035, 790, 791, 1028, 1030, 60, 1031, 1007, 1009, 55, 1010, 793, 794, 795, 792, 1024, 1026, 59, 1027, 1044, 1046, 64, 1047, 1040, 1042, 63, 1043, 1036, 1038, 62, 1039, 1016, 1018] (by rfl)
set_option maxRecDepth 100000 in
theorem wA_12_t : ∀ w ∈ wA_12, w ∈ lw_tbl := xl_fm [57, 1019, 1011, 1012, 1014, 56, 1015, 1072, 1074, 65, 1075, 83, 84, 85, 111, 246, 91, 92, 93, 112, 113, 114, 180, 181, 182, 197, 198, 199, 214, 215, 216, 218, 247, 248, 249, 254, 255, 256, 750, 751, 752, 86, 87, 107, 210, 883, 81, 89, 110, 178] (by rfl)
set_option maxRecDepth 100000 in
theorem wA_13_t : ∀ w ∈ wA_13, w ∈ lw_tbl := xl_fm [195, 212, 245, 252, 748, 80, 88, 108, 176, 194, 211, 217, 244, 250, 747, 151, 153, 155, 157, 159, 161, 163, 165, 167, 169, 171, 173, 98, 100, 102, 104, 203, 205, 207, 264, 266, 268, 270, 272, 227, 229, 231, 233, 235, 237, 239, 241, 287, 289, 291] (by rfl)
set_option maxRecDepth 100000 in
theorem wA_14_t : ∀ w ∈ wA_14, w ∈ lw_tbl := xl_fm [293, 295, 297, 299, 301, 303, 187, 189, 191, 318, 320, 322, 324, 326, 328, 330, 332, 334, 336, 338, 340, 796, 798, 800, 802, 804, 806, 808, 810, 812, 814, 816, 818, 820, 822, 824, 826, 828, 830, 832, 834, 836, 838, 840, 842, 844, 846, 848, 850, 852] (by rfl)
set_option maxRecDepth 100000 in
theorem wA_15_t : ∀ w ∈ wA_15, w ∈ lw_tbl := xl_fm [854, 856, 858, 860, 862, 864, 866, 868, 870, 872, 874, 876, 878, 880] (by rfl)
theorem wAll_t : ∀ w ∈ wAll, w ∈ lw_tbl := by
  intro w hw
  unfold wAll at hw
  rcases List.mem_append.mp hw with hw | hw
  · exact wA_0_t w hw
  rcases List.mem_append.mp hw with hw | hw
  · exact wA_1_t w hw
  rcases List.mem_append.mp hw with hw | hw
  · exact wA_2_t w hw
  rcases List.mem_append.mp hw with hw | hw
  · exact wA_3_t w hw
  rcases List.mem_append.mp hw with hw | hw
  · exact wA_4_t w hw
  rcases List.mem_append.mp hw with hw | hw
  · exact wA_5_t w hw
  rcases List.mem_append.mp hw with hw | hw
  · exact wA_6_t w hw
  rcases List.mem_append.mp hw with hw | hw
  · exact wA_7_t w hw
  rcases List.mem_append.mp hw with hw | hw
  · exact wA_8_t w hw
  rcases List.mem_append.mp hw with hw | hw
  · exact wA_9_t w hw
  rcases List.mem_append.mp hw with hw | hw
  · exact wA_10_t w hw
  rcases List.mem_append.mp hw with hw | hw
  · exact wA_11_t w hw
  rcases List.mem_append.mp hw with hw | hw
  · exact wA_12_t w hw
  rcases List.mem_append.mp hw with hw | hw
  · exact wA_13_t w hw
  rcases List.mem_append.mp hw with hw | hw
  · exact wA_14_t w hw
  exact wA_15_t w hw
def lxL : List Cond := [.methodLink "AdviceWeaverLaw" 13 y_AW_put, .instanceMethod y_AW_put, .selects "AdviceWeaver" y_AW_put y_AW_put, .initialized "AdviceWeaver", .code y_AW_put b_AW_put 3 (some .boolean), .methodLink "AdviceWeaverLaw" 17 y_MD_put, .instanceMethod y_MD_put, .selects "AdviceWeaverModel" y_MD_put y_MD_put, .initialized "AdviceWeaverModel", .code y_MD_put b_MD_put 4 (some .boolean), .methodLink "AdviceWeaverLaw" 18 y_AW_clear, .instanceMethod y_AW_clear, .selects "AdviceWeaver" y_AW_clear y_AW_clear, .code y_AW_clear b_AW_clear 1 none, .methodLink "AdviceWeaverLaw" 21 y_MD_clear, .instanceMethod y_MD_clear, .selects "AdviceWeaverModel" y_MD_clear y_MD_clear, .code y_MD_clear b_MD_clear 1 none, .methodLink "AdviceWeaverLaw" 22 y_AW_load, .instanceMethod y_AW_load, .selects "AdviceWeaver" y_AW_load y_AW_load, .code y_AW_load b_AW_load 3 (some .int), .methodLink "AdviceWeaverLaw" 26 y_MD_load, .instanceMethod y_MD_load, .selects "AdviceWeaverModel" y_MD_load y_MD_load, .code y_MD_load b_MD_load 2 (some .int), .methodLink "AdviceWeaverLaw" 27 y_AW_transformer, .instanceMethod y_AW_transformer, .selects "AdviceWeaver" y_AW_transformer y_AW_transformer, .code y_AW_transformer b_AW_transformer 6 (some .int), .methodLink "AdviceWeaverLaw" 31 y_MD_transformer, .instanceMethod y_MD_transformer, .selects "AdviceWeaverModel" y_MD_transformer y_MD_transformer, .code y_MD_transformer b_MD_transformer 4 (some .int), .methodLink "AdviceWeaverLaw" 32 y_AW_unchain, .instanceMethod y_AW_unchain, .selects "AdviceWeaver" y_AW_unchain y_AW_unchain, .code y_AW_unchain b_AW_unchain 1 none, .methodLink "AdviceWeaverLaw" 35 y_MD_unchain, .instanceMethod y_MD_unchain, .selects "AdviceWeaverModel" y_MD_unchain y_MD_unchain, .code y_MD_unchain b_MD_unchain 1 none, .methodLink "AdviceWeaverLaw" 36 y_AW_weave, .instanceMethod y_AW_weave, .selects "AdviceWeaver" y_AW_weave y_AW_weave, .code y_AW_weave b_AW_weave 3 (some .int), .methodLink "AdviceWeaverLaw" 39 y_MD_weave, .instanceMethod y_MD_weave, .selects "AdviceWeaverModel" y_MD_weave y_MD_weave, .code y_MD_weave b_MD_weave 6 (some .int), .methodLink "AdviceWeaverLaw" 40 y_AW_failed, .instanceMethod y_AW_failed, .selects "AdviceWeaver" y_AW_failed y_AW_failed, .code y_AW_failed b_AW_failed 3 (some .boolean), .methodLink "AdviceWeaverLaw" 43 y_MD_failed, .instanceMethod y_MD_failed, .selects "AdviceWeaverModel" y_MD_failed y_MD_failed, .code y_MD_failed b_MD_failed 3 (some .boolean), .methodLink "AdviceWeaverLaw" 44 y_AW_run, .instanceMethod y_AW_run, .selects "AdviceWeaver" y_AW_run y_AW_run, .code y_AW_run b_AW_run 6 (some .int), .methodLink "AdviceWeaverLaw" 48 y_MD_run, .instanceMethod y_MD_run, .selects "AdviceWeaverModel" y_MD_run y_MD_run, .code y_MD_run b_MD_run 7 (some .int), .methodLink "AdviceWeaverLaw" 49 y_AW_value, .instanceMethod y_AW_value, .selects "AdviceWeaver" y_AW_value y_AW_value, .code y_AW_value b_AW_value 1 (some .int), .methodLink "AdviceWeaverLaw" 52 y_MD_value, .instanceMethod y_MD_value, .selects "AdviceWeaverModel" y_MD_value y_MD_value, .code y_MD_value b_MD_value 1 (some .int), .methodLink "AdviceWeaverLaw" 53 y_AW_used, .instanceMethod y_AW_used, .selects "AdviceWeaver" y_AW_used y_AW_used, .code y_AW_used b_AW_used 1 (some .int), .methodLink "AdviceWeaverLaw" 56 y_MD_used, .instanceMethod y_MD_used, .selects "AdviceWeaverModel" y_MD_used y_MD_used, .code y_MD_used b_MD_used 1 (some .int), .methodLink "AdviceWeaverLaw" 57 y_AW_marks, .instanceMethod y_AW_marks, .selects "AdviceWeaver" y_AW_marks y_AW_marks, .code y_AW_marks b_AW_marks 1 (some .int), .methodLink "AdviceWeaverLaw" 60 y_MD_marks, .instanceMethod y_MD_marks, .selects "AdviceWeaverModel" y_MD_marks y_MD_marks, .code y_MD_marks b_MD_marks 1 (some .int), .methodLink "AdviceWeaverLaw" 61 y_AW_mark, .instanceMethod y_AW_mark, .selects "AdviceWeaver" y_AW_mark y_AW_mark, .code y_AW_mark b_AW_mark 2 (some .int), .methodLink "AdviceWeaverLaw" 65 y_MD_mark, .instanceMethod y_MD_mark, .selects "AdviceWeaverModel" y_MD_mark y_MD_mark, .code y_MD_mark b_MD_mark 2 (some .int), .methodLink "AdviceWeaverLaw" 66 y_AW_probe, .instanceMethod y_AW_probe, .selects "AdviceWeaver" y_AW_probe y_AW_probe, .code y_AW_probe b_AW_probe 3 (some .int), .methodLink "AdviceWeaverLaw" 70 y_MD_probe, .instanceMethod y_MD_probe, .selects "AdviceWeaverModel" y_MD_probe y_MD_probe, .code y_MD_probe b_MD_probe 3 (some .int), .methodLink "AdviceWeaverLaw" 71 y_AW_shape, .instanceMethod y_AW_shape, .selects "AdviceWeaver" y_AW_shape y_AW_shape, .code y_AW_shape b_AW_shape 5 (some .int), .methodLink "AdviceWeaverLaw" 74 y_MD_shape, .instanceMethod y_MD_shape, .selects "AdviceWeaverModel" y_MD_shape y_MD_shape, .code y_MD_shape b_MD_shape 8 (some .int), .methodLink "AdviceWeaverLaw" 75 y_AW_code, .instanceMethod y_AW_code, .selects "AdviceWeaver" y_AW_code y_AW_code, .code y_AW_code b_AW_code 5 (some .int), .methodLink "AdviceWeaverLaw" 78 y_MD_code, .instanceMethod y_MD_code, .selects "AdviceWeaverModel" y_MD_code y_MD_code, .code y_MD_code b_MD_code 5 (some .int), .methodLink "AdviceWeaverLaw" 79 y_AW_handler, .instanceMethod y_AW_handler, .selects "AdviceWeaver" y_AW_handler y_AW_handler, .code y_AW_handler b_AW_handler 6 (some .int), .methodLink "AdviceWeaverLaw" 83 y_MD_handler, .instanceMethod y_MD_handler, .selects "AdviceWeaverModel" y_MD_handler y_MD_handler, .code y_MD_handler b_MD_handler 6 (some .int), .methodLink "AdviceWeaverLaw" 84 y_AW_depth, .instanceMethod y_AW_depth, .selects "AdviceWeaver" y_AW_depth y_AW_depth, .code y_AW_depth b_AW_depth 5 (some .int), .methodLink "AdviceWeaverLaw" 87 y_MD_depth, .instanceMethod y_MD_depth, .selects "AdviceWeaverModel" y_MD_depth y_MD_depth, .code y_MD_depth b_MD_depth 5 (some .int), .methodLink "AdviceWeaverLaw" 9 y_AW_init, .methodLink "AdviceWeaverLaw" 12 y_MD_init]
set_option maxRecDepth 100000 in
theorem lx_in : ∀ w ∈ lxL, w ∈ lw_tbl := xl_fm [343, 344, 345, 67, 346, 884, 885, 886, 75, 887, 351, 352, 353, 354, 891, 892, 893, 894, 359, 360, 361, 362, 895, 896, 897, 898, 489, 490, 491, 492, 967, 968, 969, 970, 497, 498, 499, 500, 971, 972, 973, 974, 501, 502, 503, 504, 975, 976, 977, 978, 597, 598, 599, 600, 999, 1000, 1001, 1002, 601, 602, 603, 604, 1003, 1004, 1005, 1006, 700, 701, 702, 703, 1048, 1049, 1050, 1051, 704, 705, 706, 707, 1052, 1053, 1054, 1055, 708, 709, 710, 711, 1056, 1057, 1058, 1059, 712, 713, 714, 715, 1060, 1061, 1062, 1063, 720, 721, 722, 723, 1064, 1065, 1066, 1067, 728, 729, 730, 731, 1068, 1069, 1070, 1071, 732, 733, 734, 735, 1076, 1077, 1078, 1079, 737, 738, 739, 740, 1080, 1081, 1082, 1083, 742, 743, 744, 745, 1084, 1085, 1086, 1087, 82, 749] (by rfl)
theorem lx_0 : Cond.methodLink "AdviceWeaverLaw" 13 y_AW_put ∈ lxL := List.mem_of_getElem? (i := 0) rfl
theorem lx_1 : Cond.instanceMethod y_AW_put ∈ lxL := List.mem_of_getElem? (i := 1) rfl
theorem lx_2 : Cond.selects "AdviceWeaver" y_AW_put y_AW_put ∈ lxL := List.mem_of_getElem? (i := 2) rfl
theorem lx_3 : Cond.initialized "AdviceWeaver" ∈ lxL := List.mem_of_getElem? (i := 3) rfl
theorem lx_4 : Cond.code y_AW_put b_AW_put 3 (some .boolean) ∈ lxL := List.mem_of_getElem? (i := 4) rfl
theorem lx_5 : Cond.methodLink "AdviceWeaverLaw" 17 y_MD_put ∈ lxL := List.mem_of_getElem? (i := 5) rfl
theorem lx_6 : Cond.instanceMethod y_MD_put ∈ lxL := List.mem_of_getElem? (i := 6) rfl
theorem lx_7 : Cond.selects "AdviceWeaverModel" y_MD_put y_MD_put ∈ lxL := List.mem_of_getElem? (i := 7) rfl
theorem lx_8 : Cond.initialized "AdviceWeaverModel" ∈ lxL := List.mem_of_getElem? (i := 8) rfl
theorem lx_9 : Cond.code y_MD_put b_MD_put 4 (some .boolean) ∈ lxL := List.mem_of_getElem? (i := 9) rfl
theorem lx_10 : Cond.methodLink "AdviceWeaverLaw" 18 y_AW_clear ∈ lxL := List.mem_of_getElem? (i := 10) rfl
theorem lx_11 : Cond.instanceMethod y_AW_clear ∈ lxL := List.mem_of_getElem? (i := 11) rfl
theorem lx_12 : Cond.selects "AdviceWeaver" y_AW_clear y_AW_clear ∈ lxL := List.mem_of_getElem? (i := 12) rfl
theorem lx_13 : Cond.code y_AW_clear b_AW_clear 1 none ∈ lxL := List.mem_of_getElem? (i := 13) rfl
theorem lx_14 : Cond.methodLink "AdviceWeaverLaw" 21 y_MD_clear ∈ lxL := List.mem_of_getElem? (i := 14) rfl
theorem lx_15 : Cond.instanceMethod y_MD_clear ∈ lxL := List.mem_of_getElem? (i := 15) rfl
theorem lx_16 : Cond.selects "AdviceWeaverModel" y_MD_clear y_MD_clear ∈ lxL := List.mem_of_getElem? (i := 16) rfl
theorem lx_17 : Cond.code y_MD_clear b_MD_clear 1 none ∈ lxL := List.mem_of_getElem? (i := 17) rfl
theorem lx_18 : Cond.methodLink "AdviceWeaverLaw" 22 y_AW_load ∈ lxL := List.mem_of_getElem? (i := 18) rfl
theorem lx_19 : Cond.instanceMethod y_AW_load ∈ lxL := List.mem_of_getElem? (i := 19) rfl
theorem lx_20 : Cond.selects "AdviceWeaver" y_AW_load y_AW_load ∈ lxL := List.mem_of_getElem? (i := 20) rfl
theorem lx_21 : Cond.code y_AW_load b_AW_load 3 (some .int) ∈ lxL := List.mem_of_getElem? (i := 21) rfl
theorem lx_22 : Cond.methodLink "AdviceWeaverLaw" 26 y_MD_load ∈ lxL := List.mem_of_getElem? (i := 22) rfl
theorem lx_23 : Cond.instanceMethod y_MD_load ∈ lxL := List.mem_of_getElem? (i := 23) rfl
theorem lx_24 : Cond.selects "AdviceWeaverModel" y_MD_load y_MD_load ∈ lxL := List.mem_of_getElem? (i := 24) rfl
theorem lx_25 : Cond.code y_MD_load b_MD_load 2 (some .int) ∈ lxL := List.mem_of_getElem? (i := 25) rfl
theorem lx_26 : Cond.methodLink "AdviceWeaverLaw" 27 y_AW_transformer ∈ lxL := List.mem_of_getElem? (i := 26) rfl
theorem lx_27 : Cond.instanceMethod y_AW_transformer ∈ lxL := List.mem_of_getElem? (i := 27) rfl
theorem lx_28 : Cond.selects "AdviceWeaver" y_AW_transformer y_AW_transformer ∈ lxL := List.mem_of_getElem? (i := 28) rfl
theorem lx_29 : Cond.code y_AW_transformer b_AW_transformer 6 (some .int) ∈ lxL := List.mem_of_getElem? (i := 29) rfl
theorem lx_30 : Cond.methodLink "AdviceWeaverLaw" 31 y_MD_transformer ∈ lxL := List.mem_of_getElem? (i := 30) rfl
theorem lx_31 : Cond.instanceMethod y_MD_transformer ∈ lxL := List.mem_of_getElem? (i := 31) rfl
theorem lx_32 : Cond.selects "AdviceWeaverModel" y_MD_transformer y_MD_transformer ∈ lxL := List.mem_of_getElem? (i := 32) rfl
theorem lx_33 : Cond.code y_MD_transformer b_MD_transformer 4 (some .int) ∈ lxL := List.mem_of_getElem? (i := 33) rfl
theorem lx_34 : Cond.methodLink "AdviceWeaverLaw" 32 y_AW_unchain ∈ lxL := List.mem_of_getElem? (i := 34) rfl
theorem lx_35 : Cond.instanceMethod y_AW_unchain ∈ lxL := List.mem_of_getElem? (i := 35) rfl
theorem lx_36 : Cond.selects "AdviceWeaver" y_AW_unchain y_AW_unchain ∈ lxL := List.mem_of_getElem? (i := 36) rfl
theorem lx_37 : Cond.code y_AW_unchain b_AW_unchain 1 none ∈ lxL := List.mem_of_getElem? (i := 37) rfl
theorem lx_38 : Cond.methodLink "AdviceWeaverLaw" 35 y_MD_unchain ∈ lxL := List.mem_of_getElem? (i := 38) rfl
theorem lx_39 : Cond.instanceMethod y_MD_unchain ∈ lxL := List.mem_of_getElem? (i := 39) rfl
theorem lx_40 : Cond.selects "AdviceWeaverModel" y_MD_unchain y_MD_unchain ∈ lxL := List.mem_of_getElem? (i := 40) rfl
theorem lx_41 : Cond.code y_MD_unchain b_MD_unchain 1 none ∈ lxL := List.mem_of_getElem? (i := 41) rfl
theorem lx_42 : Cond.methodLink "AdviceWeaverLaw" 36 y_AW_weave ∈ lxL := List.mem_of_getElem? (i := 42) rfl
theorem lx_43 : Cond.instanceMethod y_AW_weave ∈ lxL := List.mem_of_getElem? (i := 43) rfl
theorem lx_44 : Cond.selects "AdviceWeaver" y_AW_weave y_AW_weave ∈ lxL := List.mem_of_getElem? (i := 44) rfl
theorem lx_45 : Cond.code y_AW_weave b_AW_weave 3 (some .int) ∈ lxL := List.mem_of_getElem? (i := 45) rfl
theorem lx_46 : Cond.methodLink "AdviceWeaverLaw" 39 y_MD_weave ∈ lxL := List.mem_of_getElem? (i := 46) rfl
theorem lx_47 : Cond.instanceMethod y_MD_weave ∈ lxL := List.mem_of_getElem? (i := 47) rfl
theorem lx_48 : Cond.selects "AdviceWeaverModel" y_MD_weave y_MD_weave ∈ lxL := List.mem_of_getElem? (i := 48) rfl
theorem lx_49 : Cond.code y_MD_weave b_MD_weave 6 (some .int) ∈ lxL := List.mem_of_getElem? (i := 49) rfl
theorem lx_50 : Cond.methodLink "AdviceWeaverLaw" 40 y_AW_failed ∈ lxL := List.mem_of_getElem? (i := 50) rfl
theorem lx_51 : Cond.instanceMethod y_AW_failed ∈ lxL := List.mem_of_getElem? (i := 51) rfl
theorem lx_52 : Cond.selects "AdviceWeaver" y_AW_failed y_AW_failed ∈ lxL := List.mem_of_getElem? (i := 52) rfl
theorem lx_53 : Cond.code y_AW_failed b_AW_failed 3 (some .boolean) ∈ lxL := List.mem_of_getElem? (i := 53) rfl
theorem lx_54 : Cond.methodLink "AdviceWeaverLaw" 43 y_MD_failed ∈ lxL := List.mem_of_getElem? (i := 54) rfl
theorem lx_55 : Cond.instanceMethod y_MD_failed ∈ lxL := List.mem_of_getElem? (i := 55) rfl
theorem lx_56 : Cond.selects "AdviceWeaverModel" y_MD_failed y_MD_failed ∈ lxL := List.mem_of_getElem? (i := 56) rfl
theorem lx_57 : Cond.code y_MD_failed b_MD_failed 3 (some .boolean) ∈ lxL := List.mem_of_getElem? (i := 57) rfl
theorem lx_58 : Cond.methodLink "AdviceWeaverLaw" 44 y_AW_run ∈ lxL := List.mem_of_getElem? (i := 58) rfl
theorem lx_59 : Cond.instanceMethod y_AW_run ∈ lxL := List.mem_of_getElem? (i := 59) rfl
theorem lx_60 : Cond.selects "AdviceWeaver" y_AW_run y_AW_run ∈ lxL := List.mem_of_getElem? (i := 60) rfl
theorem lx_61 : Cond.code y_AW_run b_AW_run 6 (some .int) ∈ lxL := List.mem_of_getElem? (i := 61) rfl
theorem lx_62 : Cond.methodLink "AdviceWeaverLaw" 48 y_MD_run ∈ lxL := List.mem_of_getElem? (i := 62) rfl
theorem lx_63 : Cond.instanceMethod y_MD_run ∈ lxL := List.mem_of_getElem? (i := 63) rfl
theorem lx_64 : Cond.selects "AdviceWeaverModel" y_MD_run y_MD_run ∈ lxL := List.mem_of_getElem? (i := 64) rfl
theorem lx_65 : Cond.code y_MD_run b_MD_run 7 (some .int) ∈ lxL := List.mem_of_getElem? (i := 65) rfl
theorem lx_66 : Cond.methodLink "AdviceWeaverLaw" 49 y_AW_value ∈ lxL := List.mem_of_getElem? (i := 66) rfl
theorem lx_67 : Cond.instanceMethod y_AW_value ∈ lxL := List.mem_of_getElem? (i := 67) rfl
theorem lx_68 : Cond.selects "AdviceWeaver" y_AW_value y_AW_value ∈ lxL := List.mem_of_getElem? (i := 68) rfl
theorem lx_69 : Cond.code y_AW_value b_AW_value 1 (some .int) ∈ lxL := List.mem_of_getElem? (i := 69) rfl
theorem lx_70 : Cond.methodLink "AdviceWeaverLaw" 52 y_MD_value ∈ lxL := List.mem_of_getElem? (i := 70) rfl
theorem lx_71 : Cond.instanceMethod y_MD_value ∈ lxL := List.mem_of_getElem? (i := 71) rfl
theorem lx_72 : Cond.selects "AdviceWeaverModel" y_MD_value y_MD_value ∈ lxL := List.mem_of_getElem? (i := 72) rfl
theorem lx_73 : Cond.code y_MD_value b_MD_value 1 (some .int) ∈ lxL := List.mem_of_getElem? (i := 73) rfl
theorem lx_74 : Cond.methodLink "AdviceWeaverLaw" 53 y_AW_used ∈ lxL := List.mem_of_getElem? (i := 74) rfl
theorem lx_75 : Cond.instanceMethod y_AW_used ∈ lxL := List.mem_of_getElem? (i := 75) rfl
theorem lx_76 : Cond.selects "AdviceWeaver" y_AW_used y_AW_used ∈ lxL := List.mem_of_getElem? (i := 76) rfl
theorem lx_77 : Cond.code y_AW_used b_AW_used 1 (some .int) ∈ lxL := List.mem_of_getElem? (i := 77) rfl
theorem lx_78 : Cond.methodLink "AdviceWeaverLaw" 56 y_MD_used ∈ lxL := List.mem_of_getElem? (i := 78) rfl
theorem lx_79 : Cond.instanceMethod y_MD_used ∈ lxL := List.mem_of_getElem? (i := 79) rfl
theorem lx_80 : Cond.selects "AdviceWeaverModel" y_MD_used y_MD_used ∈ lxL := List.mem_of_getElem? (i := 80) rfl
theorem lx_81 : Cond.code y_MD_used b_MD_used 1 (some .int) ∈ lxL := List.mem_of_getElem? (i := 81) rfl
theorem lx_82 : Cond.methodLink "AdviceWeaverLaw" 57 y_AW_marks ∈ lxL := List.mem_of_getElem? (i := 82) rfl
theorem lx_83 : Cond.instanceMethod y_AW_marks ∈ lxL := List.mem_of_getElem? (i := 83) rfl
theorem lx_84 : Cond.selects "AdviceWeaver" y_AW_marks y_AW_marks ∈ lxL := List.mem_of_getElem? (i := 84) rfl
theorem lx_85 : Cond.code y_AW_marks b_AW_marks 1 (some .int) ∈ lxL := List.mem_of_getElem? (i := 85) rfl
theorem lx_86 : Cond.methodLink "AdviceWeaverLaw" 60 y_MD_marks ∈ lxL := List.mem_of_getElem? (i := 86) rfl
theorem lx_87 : Cond.instanceMethod y_MD_marks ∈ lxL := List.mem_of_getElem? (i := 87) rfl
theorem lx_88 : Cond.selects "AdviceWeaverModel" y_MD_marks y_MD_marks ∈ lxL := List.mem_of_getElem? (i := 88) rfl
theorem lx_89 : Cond.code y_MD_marks b_MD_marks 1 (some .int) ∈ lxL := List.mem_of_getElem? (i := 89) rfl
theorem lx_90 : Cond.methodLink "AdviceWeaverLaw" 61 y_AW_mark ∈ lxL := List.mem_of_getElem? (i := 90) rfl
theorem lx_91 : Cond.instanceMethod y_AW_mark ∈ lxL := List.mem_of_getElem? (i := 91) rfl
theorem lx_92 : Cond.selects "AdviceWeaver" y_AW_mark y_AW_mark ∈ lxL := List.mem_of_getElem? (i := 92) rfl
theorem lx_93 : Cond.code y_AW_mark b_AW_mark 2 (some .int) ∈ lxL := List.mem_of_getElem? (i := 93) rfl
theorem lx_94 : Cond.methodLink "AdviceWeaverLaw" 65 y_MD_mark ∈ lxL := List.mem_of_getElem? (i := 94) rfl
theorem lx_95 : Cond.instanceMethod y_MD_mark ∈ lxL := List.mem_of_getElem? (i := 95) rfl
theorem lx_96 : Cond.selects "AdviceWeaverModel" y_MD_mark y_MD_mark ∈ lxL := List.mem_of_getElem? (i := 96) rfl
theorem lx_97 : Cond.code y_MD_mark b_MD_mark 2 (some .int) ∈ lxL := List.mem_of_getElem? (i := 97) rfl
theorem lx_98 : Cond.methodLink "AdviceWeaverLaw" 66 y_AW_probe ∈ lxL := List.mem_of_getElem? (i := 98) rfl
theorem lx_99 : Cond.instanceMethod y_AW_probe ∈ lxL := List.mem_of_getElem? (i := 99) rfl
theorem lx_100 : Cond.selects "AdviceWeaver" y_AW_probe y_AW_probe ∈ lxL := List.mem_of_getElem? (i := 100) rfl
theorem lx_101 : Cond.code y_AW_probe b_AW_probe 3 (some .int) ∈ lxL := List.mem_of_getElem? (i := 101) rfl
theorem lx_102 : Cond.methodLink "AdviceWeaverLaw" 70 y_MD_probe ∈ lxL := List.mem_of_getElem? (i := 102) rfl
theorem lx_103 : Cond.instanceMethod y_MD_probe ∈ lxL := List.mem_of_getElem? (i := 103) rfl
theorem lx_104 : Cond.selects "AdviceWeaverModel" y_MD_probe y_MD_probe ∈ lxL := List.mem_of_getElem? (i := 104) rfl
theorem lx_105 : Cond.code y_MD_probe b_MD_probe 3 (some .int) ∈ lxL := List.mem_of_getElem? (i := 105) rfl
theorem lx_106 : Cond.methodLink "AdviceWeaverLaw" 71 y_AW_shape ∈ lxL := List.mem_of_getElem? (i := 106) rfl
theorem lx_107 : Cond.instanceMethod y_AW_shape ∈ lxL := List.mem_of_getElem? (i := 107) rfl
theorem lx_108 : Cond.selects "AdviceWeaver" y_AW_shape y_AW_shape ∈ lxL := List.mem_of_getElem? (i := 108) rfl
theorem lx_109 : Cond.code y_AW_shape b_AW_shape 5 (some .int) ∈ lxL := List.mem_of_getElem? (i := 109) rfl
theorem lx_110 : Cond.methodLink "AdviceWeaverLaw" 74 y_MD_shape ∈ lxL := List.mem_of_getElem? (i := 110) rfl
theorem lx_111 : Cond.instanceMethod y_MD_shape ∈ lxL := List.mem_of_getElem? (i := 111) rfl
theorem lx_112 : Cond.selects "AdviceWeaverModel" y_MD_shape y_MD_shape ∈ lxL := List.mem_of_getElem? (i := 112) rfl
theorem lx_113 : Cond.code y_MD_shape b_MD_shape 8 (some .int) ∈ lxL := List.mem_of_getElem? (i := 113) rfl
theorem lx_114 : Cond.methodLink "AdviceWeaverLaw" 75 y_AW_code ∈ lxL := List.mem_of_getElem? (i := 114) rfl
theorem lx_115 : Cond.instanceMethod y_AW_code ∈ lxL := List.mem_of_getElem? (i := 115) rfl
theorem lx_116 : Cond.selects "AdviceWeaver" y_AW_code y_AW_code ∈ lxL := List.mem_of_getElem? (i := 116) rfl
theorem lx_117 : Cond.code y_AW_code b_AW_code 5 (some .int) ∈ lxL := List.mem_of_getElem? (i := 117) rfl
theorem lx_118 : Cond.methodLink "AdviceWeaverLaw" 78 y_MD_code ∈ lxL := List.mem_of_getElem? (i := 118) rfl
theorem lx_119 : Cond.instanceMethod y_MD_code ∈ lxL := List.mem_of_getElem? (i := 119) rfl
theorem lx_120 : Cond.selects "AdviceWeaverModel" y_MD_code y_MD_code ∈ lxL := List.mem_of_getElem? (i := 120) rfl
theorem lx_121 : Cond.code y_MD_code b_MD_code 5 (some .int) ∈ lxL := List.mem_of_getElem? (i := 121) rfl
theorem lx_122 : Cond.methodLink "AdviceWeaverLaw" 79 y_AW_handler ∈ lxL := List.mem_of_getElem? (i := 122) rfl
theorem lx_123 : Cond.instanceMethod y_AW_handler ∈ lxL := List.mem_of_getElem? (i := 123) rfl
theorem lx_124 : Cond.selects "AdviceWeaver" y_AW_handler y_AW_handler ∈ lxL := List.mem_of_getElem? (i := 124) rfl
theorem lx_125 : Cond.code y_AW_handler b_AW_handler 6 (some .int) ∈ lxL := List.mem_of_getElem? (i := 125) rfl
theorem lx_126 : Cond.methodLink "AdviceWeaverLaw" 83 y_MD_handler ∈ lxL := List.mem_of_getElem? (i := 126) rfl
theorem lx_127 : Cond.instanceMethod y_MD_handler ∈ lxL := List.mem_of_getElem? (i := 127) rfl
theorem lx_128 : Cond.selects "AdviceWeaverModel" y_MD_handler y_MD_handler ∈ lxL := List.mem_of_getElem? (i := 128) rfl
theorem lx_129 : Cond.code y_MD_handler b_MD_handler 6 (some .int) ∈ lxL := List.mem_of_getElem? (i := 129) rfl
theorem lx_130 : Cond.methodLink "AdviceWeaverLaw" 84 y_AW_depth ∈ lxL := List.mem_of_getElem? (i := 130) rfl
theorem lx_131 : Cond.instanceMethod y_AW_depth ∈ lxL := List.mem_of_getElem? (i := 131) rfl
theorem lx_132 : Cond.selects "AdviceWeaver" y_AW_depth y_AW_depth ∈ lxL := List.mem_of_getElem? (i := 132) rfl
theorem lx_133 : Cond.code y_AW_depth b_AW_depth 5 (some .int) ∈ lxL := List.mem_of_getElem? (i := 133) rfl
theorem lx_134 : Cond.methodLink "AdviceWeaverLaw" 87 y_MD_depth ∈ lxL := List.mem_of_getElem? (i := 134) rfl
theorem lx_135 : Cond.instanceMethod y_MD_depth ∈ lxL := List.mem_of_getElem? (i := 135) rfl
theorem lx_136 : Cond.selects "AdviceWeaverModel" y_MD_depth y_MD_depth ∈ lxL := List.mem_of_getElem? (i := 136) rfl
theorem lx_137 : Cond.code y_MD_depth b_MD_depth 5 (some .int) ∈ lxL := List.mem_of_getElem? (i := 137) rfl
theorem lx_138 : Cond.methodLink "AdviceWeaverLaw" 9 y_AW_init ∈ lxL := List.mem_of_getElem? (i := 138) rfl
theorem lx_139 : Cond.methodLink "AdviceWeaverLaw" 12 y_MD_init ∈ lxL := List.mem_of_getElem? (i := 139) rfl
theorem xl_gw {w : Cond} (h : w ∈ wAll) : w ∈ lw_tbl ∧ ((w.onTables && w.keeps) = true ∨ ∃ ty, w = .arrayClass ty) := ⟨wAll_t w h, (gd_all w h).2⟩
theorem xl_gV {own C : String} {idx : Nat} {y : MethodName} {b : ByteArray} {mL : Nat} {ret9 : Option FieldType} (h1 : Cond.methodLink own idx y ∈ lw_tbl) (h2 : Cond.instanceMethod y ∈ lw_tbl) (h3 : Cond.selects C y y ∈ lw_tbl) (h4 : Cond.initialized C ∈ lw_tbl) (h5 : Cond.code y b mL ret9 ∈ lw_tbl) : GoodIn lw_tbl (wsV own idx C y (.code y b mL ret9 :: wAll)) := by
  intro w hw
  simp only [wsV, List.cons_append, List.nil_append, List.mem_cons] at hw
  rcases hw with rfl | rfl | rfl | rfl | rfl | hw
  · exact ⟨h1, Or.inl rfl⟩
  · exact ⟨h2, Or.inl rfl⟩
  · exact ⟨h3, Or.inl rfl⟩
  · exact ⟨h4, Or.inl rfl⟩
  · exact ⟨h5, Or.inl rfl⟩
  · exact xl_gw hw
