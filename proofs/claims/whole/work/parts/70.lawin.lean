set_option maxRecDepth 100000 in
theorem glw_1 : GoodIn lw_tbl (wsL_law_r1) := goodIn_r _ [109, 110, 92, 855, 856, 105, 111, 112, 113, 114, 115, 116, 117, 118, 93, 477, 133, 134, 94, 478, 190, 191, 95, 479] (by decide +kernel) (by decide +kernel)
set_option maxRecDepth 100000 in
theorem glw_2 : GoodIn lw_tbl (wsL_law_r2) := goodIn_r _ [480, 206, 207, 96, 481, 482, 233, 234, 97, 483, 484, 248, 249, 98, 485, 265, 266, 99, 486, 487, 189, 488, 120, 121] (by decide +kernel) (by decide +kernel)
set_option maxRecDepth 100000 in
theorem glw_3 : GoodIn lw_tbl (wsL_law_r3) := goodIn_r _ [122, 132, 123, 136, 137, 138, 139, 142, 144, 148, 152, 156, 193, 194, 195, 196, 197, 209, 210, 211, 215, 212, 236, 237] (by decide +kernel) (by decide +kernel)
set_option maxRecDepth 100000 in
theorem glw_4 : GoodIn lw_tbl (wsL_law_r4) := goodIn_r _ [238, 247, 239, 251, 252, 253, 254, 255, 268, 269, 270, 271, 272, 100, 302, 303, 304, 306, 308, 310, 312, 314, 274, 275] (by decide +kernel) (by decide +kernel)
set_option maxRecDepth 100000 in
theorem glw_5 : GoodIn lw_tbl (wsL_law_r5) := goodIn_r _ [276, 277, 279, 280, 281, 282, 347, 348, 349, 101, 350, 1218, 351, 352, 353, 354, 355, 1219, 357, 358, 359, 360, 361, 362] (by decide +kernel) (by decide +kernel)
set_option maxRecDepth 100000 in
theorem glw_6 : GoodIn lw_tbl (wsL_law_r6) := goodIn_r _ [363, 364, 365, 366, 102, 367, 368, 369, 370, 371, 373, 374, 103, 375, 376, 377, 104, 378, 379, 380, 381, 382, 383, 384] (by decide +kernel) (by decide +kernel)
set_option maxRecDepth 100000 in
theorem glw_7 : GoodIn lw_tbl (wsL_law_r7) := goodIn_r _ [385, 386, 387, 388, 389, 391, 393, 397, 0, 398, 124, 399, 401, 1, 402, 489, 405, 2, 406, 198, 409, 3, 410, 158] (by decide +kernel) (by decide +kernel)
set_option maxRecDepth 100000 in
theorem glw_8 : GoodIn lw_tbl (wsL_law_r8) := goodIn_r _ [161, 165, 411, 413, 4, 414, 417, 5, 418, 419, 421, 6, 422, 423, 425, 7, 426, 427, 429, 8, 430, 431, 433, 9] (by decide +kernel) (by decide +kernel)
set_option maxRecDepth 100000 in
theorem glw_9 : GoodIn lw_tbl (wsL_law_r9) := goodIn_r _ [434, 437, 10, 438, 440, 441, 444, 11, 445, 446, 447, 448, 449, 451, 12, 452, 455, 13, 456, 458, 459, 462, 14, 463] (by decide +kernel) (by decide +kernel)
set_option maxRecDepth 100000 in
theorem glw_10 : GoodIn lw_tbl (wsL_law_r10) := goodIn_r _ [219, 222, 467, 15, 468, 240, 471, 16, 472, 256, 475, 17, 476, 857, 858, 859, 860, 878, 880, 881, 882, 884, 886, 888] (by decide +kernel) (by decide +kernel)
set_option maxRecDepth 100000 in
theorem glw_11 : GoodIn lw_tbl (wsL_law_r11) := goodIn_r _ [890, 891, 894, 896, 897, 899, 900, 901, 907, 908, 909, 910, 911, 912, 902, 861, 863, 61, 864, 895, 898, 865, 867, 62] (by decide +kernel) (by decide +kernel)
set_option maxRecDepth 100000 in
theorem glw_12 : GoodIn lw_tbl (wsL_law_r12) := goodIn_r _ [868, 869, 871, 63, 872, 873, 875, 64, 876, 877, 879, 883, 885, 887, 889, 518, 519, 520, 521, 524, 18, 525, 986, 987] (by decide +kernel) (by decide +kernel)
set_option maxRecDepth 100000 in
theorem glw_13 : GoodIn lw_tbl (wsL_law_r13) := goodIn_r _ [988, 989, 892, 990, 991, 992, 526, 527, 528, 529, 993, 994, 995, 996, 530, 531, 532, 533, 997, 998, 999, 1000, 893, 1001] (by decide +kernel) (by decide +kernel)
set_option maxRecDepth 100000 in
theorem glw_14 : GoodIn lw_tbl (wsL_law_r14) := goodIn_r _ [1003, 65, 1004, 1005, 1007, 66, 1008, 1009, 1011, 67, 1012, 1013, 1015, 68, 1016, 1017, 1018, 1019, 1020, 1022, 69, 1023, 1024, 1026] (by decide +kernel) (by decide +kernel)
set_option maxRecDepth 100000 in
theorem glw_15 : GoodIn lw_tbl (wsL_law_r15) := goodIn_r _ [70, 1027, 1028, 1030, 71, 1031, 534, 535, 536, 537, 1032, 1033, 1034, 1035, 1036, 538, 539, 540, 541, 543, 544, 545, 546, 547] (by decide +kernel) (by decide +kernel)
set_option maxRecDepth 100000 in
theorem glw_16 : GoodIn lw_tbl (wsL_law_r16) := goodIn_r _ [548, 551, 19, 552, 1037, 1038, 1039, 1040, 1041, 1043, 72, 1044, 1045, 1047, 73, 1048, 554, 555, 556, 557, 560, 20, 561, 564] (by decide +kernel) (by decide +kernel)
set_option maxRecDepth 100000 in
theorem glw_17 : GoodIn lw_tbl (wsL_law_r17) := goodIn_r _ [21, 565, 1049, 1050, 1051, 1052, 1053, 1055, 74, 1056, 1057, 1058, 1059, 1060, 1062, 75, 1063, 567, 568, 569, 570, 571, 573, 22] (by decide +kernel) (by decide +kernel)
set_option maxRecDepth 100000 in
theorem glw_18 : GoodIn lw_tbl (wsL_law_r18) := goodIn_r _ [574, 577, 23, 578, 581, 24, 582, 583, 585, 25, 586, 587, 589, 26, 590, 1064, 1065, 1066, 1067, 1068, 1070, 76, 1071, 1072] (by decide +kernel) (by decide +kernel)
set_option maxRecDepth 100000 in
theorem glw_19 : GoodIn lw_tbl (wsL_law_r19) := goodIn_r _ [1073, 1074, 591, 592, 593, 594, 595, 1075, 1076, 1077, 1078, 596, 597, 598, 599, 600, 601, 106, 602, 603, 604, 605, 1079, 1080] (by decide +kernel) (by decide +kernel)
set_option maxRecDepth 100000 in
theorem glw_20 : GoodIn lw_tbl (wsL_law_r20) := goodIn_r _ [1081, 1082, 1083, 1084, 1085, 606, 607, 608, 609, 612, 27, 613, 614, 616, 28, 617, 620, 29, 621, 622, 623, 624, 1086, 1087] (by decide +kernel) (by decide +kernel)
set_option maxRecDepth 100000 in
theorem glw_21 : GoodIn lw_tbl (wsL_law_r21) := goodIn_r _ [1088, 1089, 625, 626, 627, 628, 629, 631, 30, 632, 635, 31, 636, 315, 637, 639, 32, 640, 316, 319, 641, 642, 107, 643] (by decide +kernel) (by decide +kernel)
set_option maxRecDepth 100000 in
theorem glw_22 : GoodIn lw_tbl (wsL_law_r22) := goodIn_r _ [646, 33, 647, 648, 651, 34, 652, 283, 657, 35, 658, 659, 660, 108, 661, 665, 36, 666, 668, 669, 670, 671, 286, 672] (by decide +kernel) (by decide +kernel)
set_option maxRecDepth 100000 in
theorem glw_23 : GoodIn lw_tbl (wsL_law_r23) := goodIn_r _ [674, 37, 675, 678, 38, 679, 680, 682, 39, 683, 687, 40, 688, 693, 41, 694, 695, 697, 42, 698, 318, 701, 702, 703] (by decide +kernel) (by decide +kernel)
set_option maxRecDepth 100000 in
theorem glw_24 : GoodIn lw_tbl (wsL_law_r24) := goodIn_r _ [704, 707, 43, 708, 709, 711, 44, 712, 713, 715, 45, 716, 1090, 1091, 1092, 1093, 906, 905, 1094, 1096, 77, 1097, 903, 904] (by decide +kernel) (by decide +kernel)
set_option maxRecDepth 100000 in
theorem glw_25 : GoodIn lw_tbl (wsL_law_r25) := goodIn_r _ [1098, 1100, 78, 1101, 1102, 1104, 79, 1105, 1106, 1108, 80, 1109, 1110, 1112, 81, 1113, 1114, 1116, 82, 1117, 1118, 1120, 83, 1121] (by decide +kernel) (by decide +kernel)
set_option maxRecDepth 100000 in
theorem glw_26 : GoodIn lw_tbl (wsL_law_r26) := goodIn_r _ [717, 718, 719, 720, 723, 46, 724, 1122, 1123, 1124, 1125, 1126, 1128, 84, 1129, 725, 726, 727, 728, 731, 47, 732, 733, 1130] (by decide +kernel) (by decide +kernel)
set_option maxRecDepth 100000 in
theorem glw_27 : GoodIn lw_tbl (wsL_law_r27) := goodIn_r _ [1131, 1132, 1133, 734, 735, 736, 737, 740, 48, 741, 742, 744, 49, 745, 1134, 1135, 1136, 1137, 1138, 1140, 85, 1141, 746, 747] (by decide +kernel) (by decide +kernel)
set_option maxRecDepth 100000 in
theorem glw_28 : GoodIn lw_tbl (wsL_law_r28) := goodIn_r _ [748, 749, 1142, 1143, 1144, 1145, 1146, 1148, 86, 1149, 1150, 1152, 87, 1153, 750, 751, 752, 753, 1154, 1155, 1156, 1157, 754, 755] (by decide +kernel) (by decide +kernel)
set_option maxRecDepth 100000 in
theorem glw_29 : GoodIn lw_tbl (wsL_law_r29) := goodIn_r _ [756, 757, 760, 50, 761, 762, 764, 51, 765, 1158, 1159, 1160, 1161, 1162, 1164, 88, 1165, 767, 768, 769, 770, 773, 52, 774] (by decide +kernel) (by decide +kernel)
set_option maxRecDepth 100000 in
theorem glw_30 : GoodIn lw_tbl (wsL_law_r30) := goodIn_r _ [777, 53, 778, 1166, 1167, 1168, 1169, 780, 781, 782, 783, 1170, 1171, 1172, 1173, 784, 785, 786, 787, 790, 54, 791, 794, 55] (by decide +kernel) (by decide +kernel)
set_option maxRecDepth 100000 in
theorem glw_31 : GoodIn lw_tbl (wsL_law_r31) := goodIn_r _ [795, 1174, 1175, 1176, 1177, 1178, 1180, 89, 1181, 797, 798, 799, 800, 1182, 1183, 1184, 1185, 801, 802, 803, 804, 807, 56, 808] (by decide +kernel) (by decide +kernel)
set_option maxRecDepth 100000 in
theorem glw_32 : GoodIn lw_tbl (wsL_law_r32) := goodIn_r _ [809, 811, 57, 812, 813, 1186, 1187, 1188, 1189, 1190, 1192, 90, 1193, 814, 815, 816, 817, 818, 820, 58, 821, 822, 823, 824] (by decide +kernel) (by decide +kernel)
set_option maxRecDepth 100000 in
theorem glw_33 : GoodIn lw_tbl (wsL_law_r33) := goodIn_r _ [1194, 1195, 1196, 1197, 825, 826, 827, 828, 829, 831, 59, 832, 833, 835, 60, 836, 837, 838, 839, 840, 1198, 1199, 1200, 1201] (by decide +kernel) (by decide +kernel)
set_option maxRecDepth 100000 in
theorem glw_34 : GoodIn lw_tbl (wsL_law_r34) := goodIn_r _ [1202, 1203, 1204, 1205, 841, 842, 843, 844, 1206, 1207, 1208, 1209, 846, 847, 848, 849, 1210, 1211, 1212, 1213, 850, 851, 852, 853] (by decide +kernel) (by decide +kernel)
set_option maxRecDepth 100000 in
theorem glw_35 : GoodIn lw_tbl (wsL_law_r35) := goodIn_r _ [1214, 1215, 1216, 1217] (by decide +kernel) (by decide +kernel)
set_option maxRecDepth 100000 in
theorem glw_36 : GoodIn lw_tbl (wsX80) := goodIn_r _ [490, 492, 494, 496, 498, 500, 502, 504, 506, 508, 510, 512, 514] (by decide +kernel) (by decide +kernel)
set_option maxRecDepth 100000 in
theorem glw_37 : GoodIn lw_tbl (wsX90) := goodIn_r _ [913, 915, 917, 919, 921, 923, 925, 927, 929, 931, 933, 935, 937, 939, 941, 943, 945, 947, 949, 951, 953, 955, 957, 959, 961, 963, 965, 967, 969, 971, 973, 975, 977, 979, 981, 983] (by decide +kernel) (by decide +kernel)
set_option maxRecDepth 100000 in
theorem glw_38 : GoodIn lw_tbl (wsX70) := goodIn_r _ [127, 129] (by decide +kernel) (by decide +kernel)
set_option maxRecDepth 100000 in
theorem glw_39 : GoodIn lw_tbl (wsX50) := goodIn_r _ [170, 172, 174, 176, 178, 180, 182, 184, 186] (by decide +kernel) (by decide +kernel)
set_option maxRecDepth 100000 in
theorem glw_40 : GoodIn lw_tbl (wsX30) := goodIn_r _ [199, 201, 203] (by decide +kernel) (by decide +kernel)
set_option maxRecDepth 100000 in
theorem glw_41 : GoodIn lw_tbl (wsX10) := goodIn_r _ [224, 226, 228, 230] (by decide +kernel) (by decide +kernel)
set_option maxRecDepth 100000 in
theorem glw_42 : GoodIn lw_tbl (wsX20) := goodIn_r _ [242, 244] (by decide +kernel) (by decide +kernel)
set_option maxRecDepth 100000 in
theorem glw_43 : GoodIn lw_tbl (wsX00) := goodIn_r _ [258, 260, 262] (by decide +kernel) (by decide +kernel)
set_option maxRecDepth 100000 in
theorem glw_44 : GoodIn lw_tbl (wsX60) := goodIn_r _ [321, 323, 325, 327, 329, 331, 333, 335, 337, 339, 341, 343] (by decide +kernel) (by decide +kernel)
set_option maxRecDepth 100000 in
theorem glw_45 : GoodIn lw_tbl (wsX40) := goodIn_r _ [287, 289, 291, 293, 295, 297, 299] (by decide +kernel) (by decide +kernel)
set_option maxRecDepth 100000 in
theorem glw_46 : GoodIn lw_tbl ([] : List Cond) := goodIn_r _ [] (by decide +kernel) (by decide +kernel)
theorem wsL_law_in : ∀ w ∈ wsL_law, w ∈ lw_tbl := fun w h => ((goodIn_app (goodIn_app (goodIn_app (goodIn_app (goodIn_app (goodIn_app (goodIn_app (goodIn_app (goodIn_app (goodIn_app (goodIn_app (goodIn_app (glw_1) (goodIn_app (glw_2) (goodIn_app (glw_3) (goodIn_app (glw_4) (goodIn_app (glw_5) (goodIn_app (glw_6) (goodIn_app (glw_7) (goodIn_app (glw_8) (goodIn_app (glw_9) (goodIn_app (glw_10) (goodIn_app (glw_11) (goodIn_app (glw_12) (goodIn_app (glw_13) (goodIn_app (glw_14) (goodIn_app (glw_15) (goodIn_app (glw_16) (goodIn_app (glw_17) (goodIn_app (glw_18) (goodIn_app (glw_19) (goodIn_app (glw_20) (goodIn_app (glw_21) (goodIn_app (glw_22) (goodIn_app (glw_23) (goodIn_app (glw_24) (goodIn_app (glw_25) (goodIn_app (glw_26) (goodIn_app (glw_27) (goodIn_app (glw_28) (goodIn_app (glw_29) (goodIn_app (glw_30) (goodIn_app (glw_31) (goodIn_app (glw_32) (goodIn_app (glw_33) (goodIn_app (glw_34) (glw_35))))))))))))))))))))))))))))))))))) (glw_36)) (glw_37)) (glw_38)) (glw_39)) (glw_40)) (glw_41)) (glw_42)) (glw_43)) (glw_44)) (glw_45)) (glw_46) : GoodIn lw_tbl wsL_law) w h).1
theorem inlX0 : ∀ w ∈ wsX00, w ∈ wsL_law := fun _ h => List.mem_append_left _ (List.mem_append_left _ (List.mem_append_left _ (List.mem_append_right _ h)))
theorem inX0 : ∀ w ∈ wsX00, w ∈ lw_tbl := fun w h => wsL_law_in w (inlX0 w h)
theorem inlX1 : ∀ w ∈ wsX10, w ∈ wsL_law := fun _ h => List.mem_append_left _ (List.mem_append_left _ (List.mem_append_left _ (List.mem_append_left _ (List.mem_append_left _ (List.mem_append_right _ h)))))
theorem inX1 : ∀ w ∈ wsX10, w ∈ lw_tbl := fun w h => wsL_law_in w (inlX1 w h)
theorem inlX2 : ∀ w ∈ wsX20, w ∈ wsL_law := fun _ h => List.mem_append_left _ (List.mem_append_left _ (List.mem_append_left _ (List.mem_append_left _ (List.mem_append_right _ h))))
theorem inX2 : ∀ w ∈ wsX20, w ∈ lw_tbl := fun w h => wsL_law_in w (inlX2 w h)
theorem inlX3 : ∀ w ∈ wsX30, w ∈ wsL_law := fun _ h => List.mem_append_left _ (List.mem_append_left _ (List.mem_append_left _ (List.mem_append_left _ (List.mem_append_left _ (List.mem_append_left _ (List.mem_append_right _ h))))))
theorem inX3 : ∀ w ∈ wsX30, w ∈ lw_tbl := fun w h => wsL_law_in w (inlX3 w h)
theorem inlX4 : ∀ w ∈ wsX40, w ∈ wsL_law := fun _ h => List.mem_append_left _ (List.mem_append_right _ h)
theorem inX4 : ∀ w ∈ wsX40, w ∈ lw_tbl := fun w h => wsL_law_in w (inlX4 w h)
theorem inlX5 : ∀ w ∈ wsX50, w ∈ wsL_law := fun _ h => List.mem_append_left _ (List.mem_append_left _ (List.mem_append_left _ (List.mem_append_left _ (List.mem_append_left _ (List.mem_append_left _ (List.mem_append_left _ (List.mem_append_right _ h)))))))
theorem inX5 : ∀ w ∈ wsX50, w ∈ lw_tbl := fun w h => wsL_law_in w (inlX5 w h)
theorem inlX6 : ∀ w ∈ wsX60, w ∈ wsL_law := fun _ h => List.mem_append_left _ (List.mem_append_left _ (List.mem_append_right _ h))
theorem inX6 : ∀ w ∈ wsX60, w ∈ lw_tbl := fun w h => wsL_law_in w (inlX6 w h)
theorem inlX7 : ∀ w ∈ wsX70, w ∈ wsL_law := fun _ h => List.mem_append_left _ (List.mem_append_left _ (List.mem_append_left _ (List.mem_append_left _ (List.mem_append_left _ (List.mem_append_left _ (List.mem_append_left _ (List.mem_append_left _ (List.mem_append_right _ h))))))))
theorem inX7 : ∀ w ∈ wsX70, w ∈ lw_tbl := fun w h => wsL_law_in w (inlX7 w h)
theorem inlX8 : ∀ w ∈ wsX80, w ∈ wsL_law := fun _ h => List.mem_append_left _ (List.mem_append_left _ (List.mem_append_left _ (List.mem_append_left _ (List.mem_append_left _ (List.mem_append_left _ (List.mem_append_left _ (List.mem_append_left _ (List.mem_append_left _ (List.mem_append_left _ (List.mem_append_right _ h))))))))))
theorem inX8 : ∀ w ∈ wsX80, w ∈ lw_tbl := fun w h => wsL_law_in w (inlX8 w h)
theorem inlX9 : ∀ w ∈ wsX90, w ∈ wsL_law := fun _ h => List.mem_append_left _ (List.mem_append_left _ (List.mem_append_left _ (List.mem_append_left _ (List.mem_append_left _ (List.mem_append_left _ (List.mem_append_left _ (List.mem_append_left _ (List.mem_append_left _ (List.mem_append_right _ h)))))))))
theorem inX9 : ∀ w ∈ wsX90, w ∈ lw_tbl := fun w h => wsL_law_in w (inlX9 w h)
