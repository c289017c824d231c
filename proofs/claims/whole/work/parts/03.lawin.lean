set_option maxRecDepth 20000 in
theorem wsL_law_r1_at : GoodIn lw_tbl wsL_law_r1 := goodIn_r _ [76, 77, 64, 754, 755, 67, 78, 79, 80, 81, 82, 83, 84, 85, 65, 175, 176, 177, 160, 161, 66, 178, 158, 179] (by decide +kernel) (by decide +kernel)
set_option maxRecDepth 20000 in
theorem wsL_law_r2_at : GoodIn lw_tbl wsL_law_r2 := goodIn_r _ [180, 159, 181, 87, 88, 89, 101, 103, 105, 107, 108, 109, 111, 113, 115, 117, 119, 121, 163, 164, 165, 174, 168, 756] (by decide +kernel) (by decide +kernel)
set_option maxRecDepth 20000 in
theorem wsL_law_r3_at : GoodIn lw_tbl wsL_law_r3 := goodIn_r _ [757, 758, 759, 760, 761, 762, 763, 764, 765, 766, 767, 768, 769, 770, 776, 777, 778, 779, 783, 787, 788, 789, 790, 772] (by decide +kernel) (by decide +kernel)
set_option maxRecDepth 20000 in
theorem wsL_law_r4_at : GoodIn lw_tbl wsL_law_r4 := goodIn_r _ [203, 204, 205, 206, 167, 207, 209, 0, 210, 211, 212, 213, 214, 166, 860, 861, 862, 863, 780, 864, 865, 866, 867, 869] (by decide +kernel) (by decide +kernel)
set_option maxRecDepth 20000 in
theorem wsL_law_r5_at : GoodIn lw_tbl wsL_law_r5 := goodIn_r _ [25, 870, 215, 216, 217, 218, 219, 221, 1, 222, 223, 224, 225, 226, 228, 229, 230, 68, 231, 1204, 232, 233, 234, 235] (by decide +kernel) (by decide +kernel)
set_option maxRecDepth 20000 in
theorem wsL_law_r6_at : GoodIn lw_tbl wsL_law_r6 := goodIn_r _ [236, 1205, 238, 239, 240, 246, 247, 248, 249, 250, 251, 252, 253, 254, 255, 256, 257, 258, 259, 69, 260, 261, 262, 263] (by decide +kernel) (by decide +kernel)
set_option maxRecDepth 20000 in
theorem wsL_law_r7_at : GoodIn lw_tbl wsL_law_r7 := goodIn_r _ [264, 266, 267, 70, 268, 269, 270, 71, 271, 272, 273, 274, 275, 276, 277, 278, 279, 280, 281, 282, 284, 286, 288, 289] (by decide +kernel) (by decide +kernel)
set_option maxRecDepth 20000 in
theorem wsL_law_r8_at : GoodIn lw_tbl wsL_law_r8 := goodIn_r _ [290, 292, 293, 294, 295, 296, 297, 298, 299, 300, 301, 302, 303, 307, 308, 72, 309, 310, 311, 312, 304, 305, 306, 313] (by decide +kernel) (by decide +kernel)
set_option maxRecDepth 20000 in
theorem wsL_law_r9_at : GoodIn lw_tbl wsL_law_r9 := goodIn_r _ [314, 315, 316, 317, 318, 319, 320, 321, 322, 323, 324, 325, 326, 327, 328, 329, 330, 331, 332, 333, 334, 335, 336, 337] (by decide +kernel) (by decide +kernel)
set_option maxRecDepth 20000 in
theorem wsL_law_r10_at : GoodIn lw_tbl wsL_law_r10 := goodIn_r _ [338, 339, 340, 341, 73, 342, 343, 344, 345, 346, 347, 348, 349, 350, 351, 352, 353, 354, 90, 92, 94, 96, 98, 355] (by decide +kernel) (by decide +kernel)
set_option maxRecDepth 20000 in
theorem wsL_law_r11_at : GoodIn lw_tbl wsL_law_r11 := goodIn_r _ [357, 356, 74, 358, 359, 360, 361, 99, 362, 364, 2, 365, 366, 368, 3, 369, 370, 371, 372, 373, 375, 376, 377, 378] (by decide +kernel) (by decide +kernel)
set_option maxRecDepth 20000 in
theorem wsL_law_r12_at : GoodIn lw_tbl wsL_law_r12 := goodIn_r _ [379, 380, 382, 383, 385, 384, 387, 388, 389, 390, 391, 393, 4, 394, 395, 396, 397, 398, 399, 400, 401, 402, 403, 404] (by decide +kernel) (by decide +kernel)
set_option maxRecDepth 20000 in
theorem wsL_law_r13_at : GoodIn lw_tbl wsL_law_r13 := goodIn_r _ [405, 406, 407, 408, 409, 410, 411, 412, 413, 414, 415, 416, 417, 418, 419, 420, 421, 422, 423, 425, 5, 426, 427, 429] (by decide +kernel) (by decide +kernel)
set_option maxRecDepth 20000 in
theorem wsL_law_r14_at : GoodIn lw_tbl wsL_law_r14 := goodIn_r _ [6, 430, 431, 433, 7, 434, 435, 437, 8, 438, 439, 440, 441, 442, 444, 445, 446, 448, 9, 449, 450, 452, 10, 453] (by decide +kernel) (by decide +kernel)
set_option maxRecDepth 20000 in
theorem wsL_law_r15_at : GoodIn lw_tbl wsL_law_r15 := goodIn_r _ [454, 455, 456, 457, 871, 872, 873, 874, 781, 782, 875, 877, 26, 878, 879, 881, 27, 882, 883, 885, 28, 886, 887, 889] (by decide +kernel) (by decide +kernel)
set_option maxRecDepth 20000 in
theorem wsL_law_r16_at : GoodIn lw_tbl wsL_law_r16 := goodIn_r _ [29, 890, 891, 892, 893, 894, 896, 30, 897, 898, 899, 900, 901, 903, 31, 904, 786, 785, 771, 773, 774, 775, 905, 907] (by decide +kernel) (by decide +kernel)
set_option maxRecDepth 20000 in
theorem wsL_law_r17_at : GoodIn lw_tbl wsL_law_r17 := goodIn_r _ [32, 908, 909, 911, 33, 912, 913, 915, 34, 916, 917, 918, 919, 920, 922, 35, 923, 924, 926, 36, 927, 928, 930, 37] (by decide +kernel) (by decide +kernel)
set_option maxRecDepth 20000 in
theorem wsL_law_r18_at : GoodIn lw_tbl wsL_law_r18 := goodIn_r _ [931, 932, 934, 38, 935, 936, 938, 39, 939, 940, 942, 40, 943, 944, 946, 41, 947, 948, 950, 42, 951, 952, 953, 954] (by decide +kernel) (by decide +kernel)
set_option maxRecDepth 20000 in
theorem wsL_law_r19_at : GoodIn lw_tbl wsL_law_r19 := goodIn_r _ [955, 957, 43, 958, 459, 460, 461, 462, 91, 967, 968, 969, 970, 463, 464, 465, 466, 102, 104, 106, 467, 468, 469, 470] (by decide +kernel) (by decide +kernel)
set_option maxRecDepth 20000 in
theorem wsL_law_r20_at : GoodIn lw_tbl wsL_law_r20 := goodIn_r _ [471, 472, 473, 474, 475, 971, 972, 973, 974, 476, 477, 478, 479, 110, 112, 114, 480, 975, 976, 977, 978, 481, 482, 483] (by decide +kernel) (by decide +kernel)
set_option maxRecDepth 20000 in
theorem wsL_law_r21_at : GoodIn lw_tbl wsL_law_r21 := goodIn_r _ [484, 93, 485, 979, 980, 981, 982, 486, 487, 488, 489, 116, 118, 120, 122, 490, 491, 492, 493, 983, 984, 985, 986, 494] (by decide +kernel) (by decide +kernel)
set_option maxRecDepth 20000 in
theorem wsL_law_r22_at : GoodIn lw_tbl wsL_law_r22 := goodIn_r _ [495, 496, 497, 987, 988, 989, 990, 498, 499, 500, 501, 991, 992, 993, 994, 502, 503, 504, 505, 995, 996, 997, 998, 506] (by decide +kernel) (by decide +kernel)
set_option maxRecDepth 20000 in
theorem wsL_law_r23_at : GoodIn lw_tbl wsL_law_r23 := goodIn_r _ [507, 508, 509, 100, 999, 1000, 1001, 1002, 510, 511, 512, 513, 514, 1003, 1004, 1005, 1006, 515, 516, 517, 518, 519, 520, 521] (by decide +kernel) (by decide +kernel)
set_option maxRecDepth 20000 in
theorem wsL_law_r24_at : GoodIn lw_tbl wsL_law_r24 := goodIn_r _ [522, 523, 524, 525, 526, 527, 528, 529, 530, 531, 532, 533, 534, 535, 536, 537, 538, 539, 75, 540, 541, 542, 543, 1007] (by decide +kernel) (by decide +kernel)
set_option maxRecDepth 20000 in
theorem wsL_law_r25_at : GoodIn lw_tbl wsL_law_r25 := goodIn_r _ [1008, 1009, 1010, 1011, 1013, 44, 1014, 1015, 1017, 45, 1018, 1019, 1021, 46, 1022, 1023, 1025, 47, 1026, 1027, 1029, 48, 1030, 1031] (by decide +kernel) (by decide +kernel)
set_option maxRecDepth 20000 in
theorem wsL_law_r26_at : GoodIn lw_tbl wsL_law_r26 := goodIn_r _ [1032, 1033, 1034, 1035, 1036, 544, 545, 546, 547, 548, 549, 550, 551, 1037, 1038, 1039, 1040, 552, 553, 554, 555, 556, 557, 558] (by decide +kernel) (by decide +kernel)
set_option maxRecDepth 20000 in
theorem wsL_law_r27_at : GoodIn lw_tbl wsL_law_r27 := goodIn_r _ [559, 1041, 1042, 1043, 1044, 1045, 1046, 1047, 560, 561, 562, 563, 564, 566, 11, 567, 97, 95, 568, 570, 12, 571, 573, 572] (by decide +kernel) (by decide +kernel)
set_option maxRecDepth 20000 in
theorem wsL_law_r28_at : GoodIn lw_tbl wsL_law_r28 := goodIn_r _ [1048, 1049, 1050, 1051, 1052, 1054, 49, 1055, 574, 575, 576, 577, 578, 580, 13, 581, 582, 584, 14, 585, 586, 587, 588, 589] (by decide +kernel) (by decide +kernel)
set_option maxRecDepth 20000 in
theorem wsL_law_r29_at : GoodIn lw_tbl wsL_law_r29 := goodIn_r _ [590, 591, 592, 1056, 1057, 1058, 1059, 1060, 1061, 1062, 1063, 1065, 50, 1066, 1067, 1069, 51, 1070, 1071, 1073, 52, 1074, 593, 594] (by decide +kernel) (by decide +kernel)
set_option maxRecDepth 20000 in
theorem wsL_law_r30_at : GoodIn lw_tbl wsL_law_r30 := goodIn_r _ [595, 596, 597, 598, 599, 600, 1075, 1076, 1077, 1078, 601, 602, 603, 604, 609, 605, 606, 607, 608, 1079, 1080, 1081, 1082, 1083] (by decide +kernel) (by decide +kernel)
set_option maxRecDepth 20000 in
theorem wsL_law_r31_at : GoodIn lw_tbl wsL_law_r31 := goodIn_r _ [1085, 53, 1086, 1087, 1089, 54, 1090, 1091, 1093, 55, 1094, 610, 611, 612, 613, 614, 1095, 1096, 1097, 1098, 1099, 1101, 56, 1102] (by decide +kernel) (by decide +kernel)
set_option maxRecDepth 20000 in
theorem wsL_law_r32_at : GoodIn lw_tbl wsL_law_r32 := goodIn_r _ [615, 616, 617, 618, 1103, 1104, 1105, 1106, 619, 620, 621, 622, 623, 624, 625, 626, 1107, 1108, 1109, 1110, 627, 628, 629, 630] (by decide +kernel) (by decide +kernel)
set_option maxRecDepth 20000 in
theorem wsL_law_r33_at : GoodIn lw_tbl wsL_law_r33 := goodIn_r _ [1111, 1112, 1113, 1114, 631, 632, 633, 634, 635, 637, 15, 638, 639, 640, 641, 642, 643, 644, 645, 1115, 1116, 1117, 1118, 1119] (by decide +kernel) (by decide +kernel)
set_option maxRecDepth 20000 in
theorem wsL_law_r34_at : GoodIn lw_tbl wsL_law_r34 := goodIn_r _ [1121, 57, 1122, 1123, 1124, 1125, 1126, 1127, 1128, 1129, 646, 647, 648, 649, 650, 652, 16, 653, 1137, 1138, 1139, 1140, 1141, 1143] (by decide +kernel) (by decide +kernel)
set_option maxRecDepth 20000 in
theorem wsL_law_r35_at : GoodIn lw_tbl wsL_law_r35 := goodIn_r _ [58, 1144, 654, 655, 656, 657, 658, 660, 17, 661, 662, 1145, 1146, 1147, 1148, 1149, 1151, 59, 1152, 663, 664, 665, 666, 1153] (by decide +kernel) (by decide +kernel)
set_option maxRecDepth 20000 in
theorem wsL_law_r36_at : GoodIn lw_tbl wsL_law_r36 := goodIn_r _ [1154, 1155, 1156, 667, 668, 669, 670, 671, 673, 18, 674, 675, 676, 678, 19, 679, 1157, 1158, 1159, 1160, 680, 681, 682, 683] (by decide +kernel) (by decide +kernel)
set_option maxRecDepth 20000 in
theorem wsL_law_r37_at : GoodIn lw_tbl wsL_law_r37 := goodIn_r _ [1161, 1162, 1163, 1164, 684, 685, 686, 687, 1130, 1131, 1132, 1133, 1134, 1135, 1136, 688, 689, 690, 691, 182, 692, 694, 20, 695] (by decide +kernel) (by decide +kernel)
set_option maxRecDepth 20000 in
theorem wsL_law_r38_at : GoodIn lw_tbl wsL_law_r38 := goodIn_r _ [696, 698, 21, 699, 700, 702, 22, 703, 1165, 1166, 1167, 1168, 791, 1169, 1171, 60, 1172, 1173, 1175, 61, 1176, 704, 705, 706] (by decide +kernel) (by decide +kernel)
set_option maxRecDepth 20000 in
theorem wsL_law_r39_at : GoodIn lw_tbl wsL_law_r39 := goodIn_r _ [707, 1177, 1178, 1179, 1180, 708, 709, 710, 711, 712, 714, 23, 715, 1181, 1182, 1183, 1184, 716, 717, 718, 719, 1185, 1186, 1187] (by decide +kernel) (by decide +kernel)
set_option maxRecDepth 20000 in
theorem wsL_law_r40_at : GoodIn lw_tbl wsL_law_r40 := goodIn_r _ [1188, 720, 721, 722, 723, 724, 726, 24, 727, 728, 729, 730, 731, 732, 733, 734, 735, 736, 1189, 1190, 1191, 1192, 792, 1193] (by decide +kernel) (by decide +kernel)
set_option maxRecDepth 20000 in
theorem wsL_law_r41_at : GoodIn lw_tbl wsL_law_r41 := goodIn_r _ [1195, 62, 1196, 1197, 1198, 1199, 737, 738, 739, 740, 183, 959, 960, 961, 962, 784, 741, 742, 743, 744, 963, 964, 965, 966] (by decide +kernel) (by decide +kernel)
set_option maxRecDepth 20000 in
theorem wsL_law_r42_at : GoodIn lw_tbl wsL_law_r42 := goodIn_r _ [745, 746, 747, 748, 749, 750, 751, 752, 753, 1200, 1201, 1202, 1203] (by decide +kernel) (by decide +kernel)
set_option maxRecDepth 20000 in
theorem wsX00_at : GoodIn lw_tbl wsX00 := goodIn_r _ [123, 125, 127, 129, 131, 133, 135, 137, 139, 141, 143, 145, 147, 149, 151, 153, 155] (by decide +kernel) (by decide +kernel)
set_option maxRecDepth 20000 in
theorem wsX10_at : GoodIn lw_tbl wsX10 := goodIn_r _ [169, 171] (by decide +kernel) (by decide +kernel)
set_option maxRecDepth 20000 in
theorem wsX20_at : GoodIn lw_tbl wsX20 := goodIn_r _ [184, 186, 188, 190, 192, 194, 196, 198, 200] (by decide +kernel) (by decide +kernel)
set_option maxRecDepth 20000 in
theorem wsX30_at : GoodIn lw_tbl wsX30 := goodIn_r _ [793, 795, 797, 799, 801, 803, 805, 807, 809, 811, 813, 815, 817, 819, 821, 823, 825, 827, 829, 831, 833, 835, 837, 839, 841, 843, 845, 847, 849, 851, 853, 855, 857] (by decide +kernel) (by decide +kernel)
theorem wsL_law_good : GoodIn lw_tbl wsL_law := goodIn_app (goodIn_app (goodIn_app (goodIn_app (goodIn_app (goodIn_app wsL_law_r1_at (goodIn_app wsL_law_r2_at (goodIn_app wsL_law_r3_at (goodIn_app wsL_law_r4_at (goodIn_app wsL_law_r5_at (goodIn_app wsL_law_r6_at (goodIn_app wsL_law_r7_at (goodIn_app wsL_law_r8_at (goodIn_app wsL_law_r9_at (goodIn_app wsL_law_r10_at (goodIn_app wsL_law_r11_at (goodIn_app wsL_law_r12_at (goodIn_app wsL_law_r13_at (goodIn_app wsL_law_r14_at (goodIn_app wsL_law_r15_at (goodIn_app wsL_law_r16_at (goodIn_app wsL_law_r17_at (goodIn_app wsL_law_r18_at (goodIn_app wsL_law_r19_at (goodIn_app wsL_law_r20_at (goodIn_app wsL_law_r21_at (goodIn_app wsL_law_r22_at (goodIn_app wsL_law_r23_at (goodIn_app wsL_law_r24_at (goodIn_app wsL_law_r25_at (goodIn_app wsL_law_r26_at (goodIn_app wsL_law_r27_at (goodIn_app wsL_law_r28_at (goodIn_app wsL_law_r29_at (goodIn_app wsL_law_r30_at (goodIn_app wsL_law_r31_at (goodIn_app wsL_law_r32_at (goodIn_app wsL_law_r33_at (goodIn_app wsL_law_r34_at (goodIn_app wsL_law_r35_at (goodIn_app wsL_law_r36_at (goodIn_app wsL_law_r37_at (goodIn_app wsL_law_r38_at (goodIn_app wsL_law_r39_at (goodIn_app wsL_law_r40_at (goodIn_app wsL_law_r41_at (wsL_law_r42_at)))))))))))))))))))))))))))))))))))))))))) wsX20_at) wsX30_at) wsX00_at) wsX10_at) (fun w h => absurd h List.not_mem_nil)
theorem wsL_law_in : ∀ w ∈ wsL_law, w ∈ lw_tbl := fun w h => (wsL_law_good w h).1
theorem inlX0 : ∀ w ∈ wsX00, w ∈ wsL_law := fun _ h => List.mem_append_left _ (List.mem_append_left _ (List.mem_append_right _ h))
theorem inX0 : ∀ w ∈ wsX00, w ∈ lw_tbl := fun w h => wsL_law_in w (inlX0 w h)
theorem inlX1 : ∀ w ∈ wsX10, w ∈ wsL_law := fun _ h => List.mem_append_left _ (List.mem_append_right _ h)
theorem inX1 : ∀ w ∈ wsX10, w ∈ lw_tbl := fun w h => wsL_law_in w (inlX1 w h)
theorem inlX2 : ∀ w ∈ wsX20, w ∈ wsL_law := fun _ h => List.mem_append_left _ (List.mem_append_left _ (List.mem_append_left _ (List.mem_append_left _ (List.mem_append_right _ h))))
theorem inX2 : ∀ w ∈ wsX20, w ∈ lw_tbl := fun w h => wsL_law_in w (inlX2 w h)
theorem inlX3 : ∀ w ∈ wsX30, w ∈ wsL_law := fun _ h => List.mem_append_left _ (List.mem_append_left _ (List.mem_append_left _ (List.mem_append_right _ h)))
theorem inX3 : ∀ w ∈ wsX30, w ∈ lw_tbl := fun w h => wsL_law_in w (inlX3 w h)
