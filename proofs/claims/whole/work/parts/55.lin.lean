/-! the words of the law stand in the table -/
theorem mem_of_r {big : List Cond} (ws : List Cond) (ps : List Nat) (hp : ws = ps.filterMap (fun i => big[i]?)) : ∀ w ∈ ws, w ∈ big := by
  intro w hw
  rw [hp] at hw
  obtain ⟨i, -, hi⟩ := List.mem_filterMap.mp hw
  exact List.mem_of_getElem? hi
def wsL_lawT : List Cond := at13N.filter goodWord
def wsL_lawB : List Cond := wsL_law0 ++ at13N.filter goodWord
set_option maxRecDepth 20000 in
theorem lin1 : ∀ w ∈ wsL_law0_r1, w ∈ lw_tbl := mem_of_r _ [113, 114, 93, 815, 809, 100, 1141, 115, 116, 117, 118, 119, 120, 121, 122, 94, 272, 138, 139, 95, 273, 274, 174, 175] (by decide +kernel)
set_option maxRecDepth 20000 in
theorem lin2 : ∀ w ∈ wsL_law0_r2, w ∈ lw_tbl := mem_of_r _ [96, 275, 227, 228, 98, 276, 243, 244, 99, 277, 124, 125, 126, 137, 127, 129, 141, 142, 143, 173, 148, 152, 144, 146] (by decide +kernel)
set_option maxRecDepth 20000 in
theorem lin3 : ∀ w ∈ wsL_law0_r3, w ∈ lw_tbl := mem_of_r _ [0, 147, 155, 158, 154, 177, 178, 179, 207, 208, 210, 212, 180, 181, 97, 205, 206, 183, 184, 185, 187, 188, 190, 192] (by decide +kernel)
set_option maxRecDepth 20000 in
theorem lin4 : ∀ w ∈ wsL_law0_r4, w ∈ lw_tbl := mem_of_r _ [186, 230, 231, 232, 234, 235, 233, 246, 247, 248, 250, 251, 252, 253, 254, 255, 249, 816, 817, 818, 819, 824, 834, 835] (by decide +kernel)
set_option maxRecDepth 20000 in
theorem lin5 : ∀ w ∈ wsL_law0_r5, w ∈ lw_tbl := mem_of_r _ [836, 875, 839, 820, 821, 822, 291, 292, 293, 294, 297, 1, 298, 802, 803, 804, 805, 823, 825, 806, 808, 57, 810, 299] (by decide +kernel)
set_option maxRecDepth 20000 in
theorem lin6 : ∀ w ∈ wsL_law0_r6, w ∈ lw_tbl := mem_of_r _ [300, 301, 302, 811, 812, 813, 814, 303, 304, 305, 306, 309, 2, 310, 313, 3, 314, 315, 316, 101, 317, 320, 4, 321] (by decide +kernel)
set_option maxRecDepth 20000 in
theorem lin7 : ∀ w ∈ wsL_law0_r7, w ∈ lw_tbl := mem_of_r _ [322, 324, 5, 325, 326, 328, 6, 329, 330, 332, 7, 333, 337, 8, 338, 339, 340, 341, 102, 342, 1154, 343, 344, 345] (by decide +kernel)
set_option maxRecDepth 20000 in
theorem lin8 : ∀ w ∈ wsL_law0_r8, w ∈ lw_tbl := mem_of_r _ [346, 347, 1155, 349, 350, 351, 352, 353, 354, 355, 356, 357, 358, 103, 359, 360, 361, 362, 363, 365, 366, 104, 367, 368] (by decide +kernel)
set_option maxRecDepth 20000 in
theorem lin9 : ∀ w ∈ wsL_law0_r9, w ∈ lw_tbl := mem_of_r _ [369, 105, 370, 371, 372, 373, 374, 375, 376, 377, 378, 379, 380, 381, 383, 385, 387, 389, 9, 390, 391, 393, 10, 394] (by decide +kernel)
set_option maxRecDepth 20000 in
theorem lin10 : ∀ w ∈ wsL_law0_r10, w ∈ lw_tbl := mem_of_r _ [396, 398, 11, 399, 400, 402, 12, 403, 405, 407, 13, 408, 411, 14, 412, 413, 415, 15, 416, 419, 16, 420, 423, 17] (by decide +kernel)
set_option maxRecDepth 20000 in
theorem lin11 : ∀ w ∈ wsL_law0_r11, w ∈ lw_tbl := mem_of_r _ [424, 427, 429, 18, 430, 433, 435, 19, 436, 439, 20, 440, 448, 21, 449, 450, 452, 451, 106, 455, 22, 456, 876, 877] (by decide +kernel)
set_option maxRecDepth 20000 in
theorem lin12 : ∀ w ∈ wsL_law0_r12, w ∈ lw_tbl := mem_of_r _ [878, 879, 826, 831, 827, 832, 829, 837, 880, 882, 58, 883, 828, 833, 830, 894, 895, 884, 885, 886, 887, 888, 889, 890] (by decide +kernel)
set_option maxRecDepth 20000 in
theorem lin13 : ∀ w ∈ wsL_law0_r13, w ∈ lw_tbl := mem_of_r _ [892, 59, 893, 896, 898, 60, 899, 900, 838, 901, 902, 903, 904, 906, 61, 907, 908, 910, 62, 911, 912, 914, 63, 915] (by decide +kernel)
set_option maxRecDepth 20000 in
theorem lin14 : ∀ w ∈ wsL_law0_r14, w ∈ lw_tbl := mem_of_r _ [916, 917, 918, 919, 921, 64, 922, 923, 925, 65, 926, 927, 928, 929, 940, 930, 932, 66, 933, 934, 935, 936, 937, 938] (by decide +kernel)
set_option maxRecDepth 20000 in
theorem lin15 : ∀ w ∈ wsL_law0_r15, w ∈ lw_tbl := mem_of_r _ [939, 941, 943, 67, 944, 945, 946, 947, 948, 949, 950, 457, 458, 459, 460, 951, 952, 953, 954, 461, 462, 463, 464, 467] (by decide +kernel)
set_option maxRecDepth 20000 in
theorem lin16 : ∀ w ∈ wsL_law0_r16, w ∈ lw_tbl := mem_of_r _ [23, 468, 469, 470, 472, 24, 473, 474, 475, 107, 476, 477, 478, 479, 955, 956, 957, 958, 959, 961, 68, 962, 963, 965] (by decide +kernel)
set_option maxRecDepth 20000 in
theorem lin17 : ∀ w ∈ wsL_law0_r17, w ∈ lw_tbl := mem_of_r _ [69, 966, 967, 969, 70, 970, 971, 973, 71, 974, 975, 976, 977, 721, 722, 92, 723, 724, 725, 726, 727, 728, 729, 111] (by decide +kernel)
set_option maxRecDepth 20000 in
theorem lin18 : ∀ w ∈ wsL_law0_r18, w ∈ lw_tbl := mem_of_r _ [796, 56, 797, 978, 979, 980, 981, 982, 984, 72, 985, 986, 988, 73, 989, 798, 799, 800, 801, 480, 481, 482, 483, 487] (by decide +kernel)
set_option maxRecDepth 20000 in
theorem lin19 : ∀ w ∈ wsL_law0_r19, w ∈ lw_tbl := mem_of_r _ [25, 488, 489, 490, 491, 494, 26, 495, 990, 991, 992, 993, 994, 996, 74, 997, 998, 1000, 75, 1001, 1002, 1003, 1004, 496] (by decide +kernel)
set_option maxRecDepth 20000 in
theorem lin20 : ∀ w ∈ wsL_law0_r20, w ∈ lw_tbl := mem_of_r _ [497, 498, 499, 501, 504, 27, 505, 506, 507, 509, 28, 510, 511, 513, 29, 514, 515, 517, 518, 1005, 1006, 1007, 1008, 1021] (by decide +kernel)
set_option maxRecDepth 20000 in
theorem lin21 : ∀ w ∈ wsL_law0_r21, w ∈ lw_tbl := mem_of_r _ [1009, 1011, 76, 1012, 1013, 1015, 77, 1016, 1017, 1019, 78, 1020, 519, 520, 521, 522, 525, 30, 526, 1022, 1023, 1024, 1025, 1026] (by decide +kernel)
set_option maxRecDepth 20000 in
theorem lin22 : ∀ w ∈ wsL_law0_r22, w ∈ lw_tbl := mem_of_r _ [1028, 79, 1029, 1030, 1032, 80, 1033, 528, 529, 530, 531, 532, 533, 534, 535, 536, 537, 538, 539, 540, 541, 1034, 1035, 1036] (by decide +kernel)
set_option maxRecDepth 20000 in
theorem lin23 : ∀ w ∈ wsL_law0_r23, w ∈ lw_tbl := mem_of_r _ [1037, 1038, 1039, 1040, 1041, 1042, 1043, 543, 544, 545, 546, 549, 31, 550, 552, 554, 32, 555, 556, 557, 559, 33, 560, 562] (by decide +kernel)
set_option maxRecDepth 20000 in
theorem lin24 : ∀ w ∈ wsL_law0_r24, w ∈ lw_tbl := mem_of_r _ [563, 565, 34, 566, 567, 569, 35, 570, 573, 574, 576, 36, 577, 579, 580, 581, 583, 37, 584, 1044, 1045, 1046, 1047, 1048] (by decide +kernel)
set_option maxRecDepth 20000 in
theorem lin25 : ∀ w ∈ wsL_law0_r25, w ∈ lw_tbl := mem_of_r _ [1050, 81, 1051, 1052, 1054, 82, 1055, 1056, 1058, 83, 1059, 1060, 1062, 1063, 1065, 84, 1066, 585, 586, 587, 588, 591, 38, 592] (by decide +kernel)
set_option maxRecDepth 20000 in
theorem lin26 : ∀ w ∈ wsL_law0_r26, w ∈ lw_tbl := mem_of_r _ [593, 595, 39, 596, 1067, 1068, 1069, 1070, 1071, 1073, 85, 1074, 597, 598, 599, 600, 603, 40, 604, 605, 607, 41, 608, 1075] (by decide +kernel)
set_option maxRecDepth 20000 in
theorem lin27 : ∀ w ∈ wsL_law0_r27, w ∈ lw_tbl := mem_of_r _ [1076, 1077, 1078, 609, 610, 611, 612, 615, 42, 616, 619, 620, 112, 621, 622, 624, 43, 625, 1079, 1080, 1081, 1082, 1083, 1085] (by decide +kernel)
set_option maxRecDepth 20000 in
theorem lin28 : ∀ w ∈ wsL_law0_r28, w ∈ lw_tbl := mem_of_r _ [86, 1086, 1087, 1089, 87, 1090, 626, 627, 628, 629, 632, 44, 633, 1091, 1092, 1093, 1094, 1095, 1097, 88, 1098, 636, 637, 638] (by decide +kernel)
set_option maxRecDepth 20000 in
theorem lin29 : ∀ w ∈ wsL_law0_r29, w ∈ lw_tbl := mem_of_r _ [639, 640, 641, 642, 643, 644, 647, 45, 648, 1099, 1100, 1101, 1102, 1103, 1105, 89, 1106, 1107, 1109, 90, 1110, 649, 650, 651] (by decide +kernel)
set_option maxRecDepth 20000 in
theorem lin30 : ∀ w ∈ wsL_law0_r30, w ∈ lw_tbl := mem_of_r _ [652, 653, 654, 657, 46, 658, 659, 660, 662, 47, 663, 1111, 1112, 1113, 1114, 1115, 1116, 665, 666, 667, 668, 671, 48, 672] (by decide +kernel)
set_option maxRecDepth 20000 in
theorem lin31 : ∀ w ∈ wsL_law0_r31, w ∈ lw_tbl := mem_of_r _ [680, 673, 675, 49, 676, 677, 678, 679, 1117, 1118, 1119, 1120, 1121, 1123, 91, 1124, 682, 683, 684, 685, 688, 50, 689, 1125] (by decide +kernel)
set_option maxRecDepth 20000 in
theorem lin32 : ∀ w ∈ wsL_law0_r32, w ∈ lw_tbl := mem_of_r _ [1126, 1127, 1128, 690, 691, 692, 693, 698, 51, 699, 1129, 1130, 1131, 1132, 700, 701, 702, 703, 706, 52, 707, 1133, 1134, 1135] (by decide +kernel)
set_option maxRecDepth 20000 in
theorem lin33 : ∀ w ∈ wsL_law0_r33, w ∈ lw_tbl := mem_of_r _ [1136, 709, 710, 711, 712, 715, 53, 716, 719, 54, 720, 1137, 1138, 1139, 1140] (by decide +kernel)
set_option maxRecDepth 20000 in
theorem lin34 : ∀ w ∈ wsX60, w ∈ lw_tbl := mem_of_r _ [278, 280, 282, 284, 286, 288] (by decide +kernel)
set_option maxRecDepth 20000 in
theorem lin35 : ∀ w ∈ wsX70, w ∈ lw_tbl := mem_of_r _ [840, 842, 844, 846, 848, 850, 852, 854, 856, 858, 860, 862, 864, 866, 868, 870, 872] (by decide +kernel)
set_option maxRecDepth 20000 in
theorem lin36 : ∀ w ∈ wsX40, w ∈ lw_tbl := mem_of_r _ [132, 134] (by decide +kernel)
set_option maxRecDepth 20000 in
theorem lin37 : ∀ w ∈ wsX20, w ∈ lw_tbl := mem_of_r _ [162, 164, 166, 168, 170] (by decide +kernel)
set_option maxRecDepth 20000 in
theorem lin38 : ∀ w ∈ wsX30, w ∈ lw_tbl := mem_of_r _ [214, 216, 218, 220, 222, 224] (by decide +kernel)
set_option maxRecDepth 20000 in
theorem lin39 : ∀ w ∈ wsX00, w ∈ lw_tbl := mem_of_r _ [236, 238, 240] (by decide +kernel)
set_option maxRecDepth 20000 in
theorem lin40 : ∀ w ∈ wsX10, w ∈ lw_tbl := mem_of_r _ [257, 259, 261, 263, 265, 267, 269] (by decide +kernel)
set_option maxRecDepth 20000 in
theorem lin41 : ∀ w ∈ wsX50, w ∈ lw_tbl := mem_of_r _ [194, 196, 198, 200, 202] (by decide +kernel)
set_option maxRecDepth 20000 in
theorem lin42 : ∀ w ∈ wsL_lawT, w ∈ lw_tbl := mem_of_r _ [108, 751, 760, 762, 765, 767, 752, 753, 119, 120, 754, 759, 763, 783, 741, 784, 743, 785, 745, 755, 757, 747, 779, 780, 782, 747, 770, 771, 772, 773, 773, 774, 775, 776, 776, 777, 778, 779, 769, 730, 738, 739, 740, 742, 744, 746, 750, 749, 748] (by decide +kernel)
theorem wsL_law_in0 : ∀ w ∈ wsL_law0, w ∈ lw_tbl := List.forall_mem_append.mpr ⟨List.forall_mem_append.mpr ⟨List.forall_mem_append.mpr ⟨List.forall_mem_append.mpr ⟨List.forall_mem_append.mpr ⟨List.forall_mem_append.mpr ⟨List.forall_mem_append.mpr ⟨List.forall_mem_append.mpr ⟨List.forall_mem_append.mpr ⟨List.forall_mem_append.mpr ⟨lin1, List.forall_mem_append.mpr ⟨lin2, List.forall_mem_append.mpr ⟨lin3, List.forall_mem_append.mpr ⟨lin4, List.forall_mem_append.mpr ⟨lin5, List.forall_mem_append.mpr ⟨lin6, List.forall_mem_append.mpr ⟨lin7, List.forall_mem_append.mpr ⟨lin8, List.forall_mem_append.mpr ⟨lin9, List.forall_mem_append.mpr ⟨lin10, List.forall_mem_append.mpr ⟨lin11, List.forall_mem_append.mpr ⟨lin12, List.forall_mem_append.mpr ⟨lin13, List.forall_mem_append.mpr ⟨lin14, List.forall_mem_append.mpr ⟨lin15, List.forall_mem_append.mpr ⟨lin16, List.forall_mem_append.mpr ⟨lin17, List.forall_mem_append.mpr ⟨lin18, List.forall_mem_append.mpr ⟨lin19, List.forall_mem_append.mpr ⟨lin20, List.forall_mem_append.mpr ⟨lin21, List.forall_mem_append.mpr ⟨lin22, List.forall_mem_append.mpr ⟨lin23, List.forall_mem_append.mpr ⟨lin24, List.forall_mem_append.mpr ⟨lin25, List.forall_mem_append.mpr ⟨lin26, List.forall_mem_append.mpr ⟨lin27, List.forall_mem_append.mpr ⟨lin28, List.forall_mem_append.mpr ⟨lin29, List.forall_mem_append.mpr ⟨lin30, List.forall_mem_append.mpr ⟨lin31, List.forall_mem_append.mpr ⟨lin32, lin33⟩⟩⟩⟩⟩⟩⟩⟩⟩⟩⟩⟩⟩⟩⟩⟩⟩⟩⟩⟩⟩⟩⟩⟩⟩⟩⟩⟩⟩⟩⟩⟩, lin34⟩, lin35⟩, lin36⟩, lin37⟩, lin38⟩, lin39⟩, lin40⟩, lin41⟩, fun _ h => nomatch h⟩
theorem wsL_law_in : ∀ w ∈ wsL_lawB, w ∈ lw_tbl := List.forall_mem_append.mpr ⟨wsL_law_in0, lin42⟩
