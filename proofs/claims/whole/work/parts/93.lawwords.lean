set_option maxRecDepth 20000 in
theorem in_wsL_law_r1 : GoodIn lw_tbl wsL_law_r1 := goodIn_r _ [68, 69, 53, 819, 820, 64, 1269, 816, 817, 52, 818, 70, 71, 72, 73, 74, 75, 329, 79, 80, 55, 330, 109, 110] (by decide +kernel) (by decide +kernel)
set_option maxRecDepth 20000 in
theorem in_wsL_law_r2 : GoodIn lw_tbl wsL_law_r2 := goodIn_r _ [56, 331, 131, 332, 133, 333, 135, 57, 173, 59, 199, 334, 201, 335, 203, 60, 229, 230, 61, 336, 243, 244, 62, 337] (by decide +kernel) (by decide +kernel)
set_option maxRecDepth 20000 in
theorem in_wsL_law_r3 : GoodIn lw_tbl wsL_law_r3 := goodIn_r _ [300, 301, 63, 338, 76, 77, 54, 78, 82, 83, 84, 108, 85, 88, 91, 92, 112, 113, 114, 130, 115, 136, 137, 138] (by decide +kernel) (by decide +kernel)
set_option maxRecDepth 20000 in
theorem in_wsL_law_r4 : GoodIn lw_tbl wsL_law_r4 := goodIn_r _ [139, 146, 152, 140, 156, 142, 143, 58, 144, 175, 176, 177, 178, 180, 183, 205, 206, 207, 208, 232, 233, 234, 235, 246] (by decide +kernel) (by decide +kernel)
set_option maxRecDepth 20000 in
theorem in_wsL_law_r5 : GoodIn lw_tbl wsL_law_r5 := goodIn_r _ [247, 248, 249, 251, 255, 257, 259, 260, 272, 303, 304, 305, 306, 308, 310, 821, 822, 823, 824, 827, 828, 829, 830, 833] (by decide +kernel) (by decide +kernel)
set_option maxRecDepth 20000 in
theorem in_wsL_law_r6 : GoodIn lw_tbl wsL_law_r6 := goodIn_r _ [834, 835, 836, 1000, 837, 838, 839, 840, 842, 843, 844, 845, 846, 847, 848, 849, 850, 851, 852, 853, 854, 855, 856, 857] (by decide +kernel) (by decide +kernel)
set_option maxRecDepth 20000 in
theorem in_wsL_law_r7 : GoodIn lw_tbl wsL_law_r7 := goodIn_r _ [858, 859, 864, 865, 866, 871, 872, 873, 874, 877, 878, 879, 880, 881, 882, 832, 366, 367, 368, 369, 93, 339, 370, 371] (by decide +kernel) (by decide +kernel)
set_option maxRecDepth 20000 in
theorem in_wsL_law_r8 : GoodIn lw_tbl wsL_law_r8 := goodIn_r _ [372, 373, 374, 375, 376, 377, 95, 378, 379, 380, 381, 1001, 1002, 1003, 1004, 825, 1005, 1009, 1014, 826, 831, 1006, 1007, 1008] (by decide +kernel) (by decide +kernel)
set_option maxRecDepth 20000 in
theorem in_wsL_law_r9 : GoodIn lw_tbl wsL_law_r9 := goodIn_r _ [1010, 1012, 19, 1013, 382, 383, 384, 385, 387, 116, 386, 388, 389, 390, 391, 393, 394, 1015, 1016, 1017, 1018, 1019, 1020, 1022] (by decide +kernel) (by decide +kernel)
set_option maxRecDepth 20000 in
theorem in_wsL_law_r10 : GoodIn lw_tbl wsL_law_r10 := goodIn_r _ [20, 1023, 395, 396, 397, 398, 147, 153, 399, 400, 401, 402, 403, 404, 405, 1024, 1025, 1026, 1027, 1035, 1028, 1029, 1030, 1031] (by decide +kernel) (by decide +kernel)
set_option maxRecDepth 20000 in
theorem in_wsL_law_r11 : GoodIn lw_tbl wsL_law_r11 := goodIn_r _ [1033, 21, 1034, 406, 407, 408, 409, 148, 123, 472, 473, 65, 410, 412, 0, 413, 414, 415, 416, 417, 154, 96, 87, 418] (by decide +kernel) (by decide +kernel)
set_option maxRecDepth 20000 in
theorem in_wsL_law_r12 : GoodIn lw_tbl wsL_law_r12 := goodIn_r _ [420, 1, 421, 422, 424, 2, 425, 118, 122, 426, 427, 428, 429, 157, 430, 431, 432, 433, 434, 124, 119, 435, 436, 437] (by decide +kernel) (by decide +kernel)
set_option maxRecDepth 20000 in
theorem in_wsL_law_r13 : GoodIn lw_tbl wsL_law_r13 := goodIn_r _ [438, 439, 440, 441, 442, 443, 236, 444, 445, 446, 447, 448, 450, 451, 452, 453, 454, 455, 150, 456, 457, 458, 459, 90] (by decide +kernel) (by decide +kernel)
set_option maxRecDepth 20000 in
theorem in_wsL_law_r14 : GoodIn lw_tbl wsL_law_r14 := goodIn_r _ [460, 461, 462, 463, 464, 465, 466, 467, 468, 469, 470, 471, 475, 476, 477, 478, 481, 497, 498, 499, 500, 484, 486, 479] (by decide +kernel) (by decide +kernel)
set_option maxRecDepth 20000 in
theorem in_wsL_law_r15 : GoodIn lw_tbl wsL_law_r15 := goodIn_r _ [501, 502, 503, 504, 505, 507, 3, 508, 482, 509, 510, 511, 512, 149, 513, 515, 4, 516, 517, 518, 519, 520, 521, 523] (by decide +kernel) (by decide +kernel)
set_option maxRecDepth 20000 in
theorem in_wsL_law_r16 : GoodIn lw_tbl wsL_law_r16 := goodIn_r _ [522, 66, 120, 524, 526, 5, 527, 552, 67, 553, 237, 574, 528, 529, 530, 531, 532, 533, 534, 535, 536, 537, 538, 539] (by decide +kernel) (by decide +kernel)
set_option maxRecDepth 20000 in
theorem in_wsL_law_r17 : GoodIn lw_tbl wsL_law_r17 := goodIn_r _ [540, 541, 542, 544, 545, 546, 54, 547, 548, 550, 551, 554, 555, 556, 557, 570, 558, 561, 563, 565, 568, 594, 596, 6] (by decide +kernel) (by decide +kernel)
set_option maxRecDepth 20000 in
theorem in_wsL_law_r18 : GoodIn lw_tbl wsL_law_r18 := goodIn_r _ [597, 1036, 1037, 1038, 1039, 841, 1040, 1042, 22, 1043, 1044, 1046, 23, 1047, 1048, 1050, 24, 1051, 1052, 1054, 25, 1055, 1056, 1058] (by decide +kernel) (by decide +kernel)
set_option maxRecDepth 20000 in
theorem in_wsL_law_r19 : GoodIn lw_tbl wsL_law_r19 := goodIn_r _ [26, 1059, 867, 1064, 1060, 1062, 27, 1063, 1065, 1067, 28, 1068, 1069, 1071, 29, 1072, 1073, 1075, 30, 1076, 1077, 1079, 31, 1080] (by decide +kernel) (by decide +kernel)
set_option maxRecDepth 20000 in
theorem in_wsL_law_r20 : GoodIn lw_tbl wsL_law_r20 := goodIn_r _ [1081, 1083, 32, 1084, 1085, 1087, 33, 1088, 1089, 1091, 34, 1092, 1093, 1095, 35, 1096, 1097, 1098, 1100, 36, 1101, 1102, 1104, 37] (by decide +kernel) (by decide +kernel)
set_option maxRecDepth 20000 in
theorem in_wsL_law_r21 : GoodIn lw_tbl wsL_law_r21 := goodIn_r _ [1105, 1106, 1108, 38, 1109, 598, 599, 600, 601, 189, 182, 602, 604, 7, 605, 1110, 1111, 1112, 1113, 606, 607, 608, 609, 1114] (by decide +kernel) (by decide +kernel)
set_option maxRecDepth 20000 in
theorem in_wsL_law_r22 : GoodIn lw_tbl wsL_law_r22 := goodIn_r _ [1115, 1116, 1117, 610, 611, 612, 613, 567, 571, 614, 616, 8, 617, 572, 618, 620, 9, 621, 622, 624, 10, 625, 266, 263] (by decide +kernel) (by decide +kernel)
set_option maxRecDepth 20000 in
theorem in_wsL_law_r23 : GoodIn lw_tbl wsL_law_r23 := goodIn_r _ [254, 626, 627, 628, 629, 273, 274, 262, 265, 121, 268, 94, 270, 630, 632, 11, 633, 634, 636, 12, 637, 86, 89, 638] (by decide +kernel) (by decide +kernel)
set_option maxRecDepth 20000 in
theorem in_wsL_law_r24 : GoodIn lw_tbl wsL_law_r24 := goodIn_r _ [640, 13, 641, 642, 644, 646, 14, 647, 650, 651, 652, 653, 654, 655, 657, 15, 658, 187, 269, 271, 659, 660, 661, 662] (by decide +kernel) (by decide +kernel)
set_option maxRecDepth 20000 in
theorem in_wsL_law_r25 : GoodIn lw_tbl wsL_law_r25 := goodIn_r _ [181, 184, 117, 663, 664, 665, 666, 667, 668, 669, 252, 258, 671, 264, 312, 314, 316, 670, 672, 673, 674, 675, 253, 188] (by decide +kernel) (by decide +kernel)
set_option maxRecDepth 20000 in
theorem in_wsL_law_r26 : GoodIn lw_tbl wsL_law_r26 := goodIn_r _ [261, 267, 186, 256, 677, 676, 1118, 1119, 1120, 1121, 868, 869, 870, 1122, 1124, 39, 1125, 1126, 1128, 40, 1129, 1130, 1131, 1133] (by decide +kernel) (by decide +kernel)
set_option maxRecDepth 20000 in
theorem in_wsL_law_r27 : GoodIn lw_tbl wsL_law_r27 := goodIn_r _ [41, 1134, 1135, 1137, 42, 1138, 1139, 1141, 43, 1142, 875, 863, 861, 862, 860, 1143, 1145, 44, 1146, 876, 1147, 1149, 45, 1150] (by decide +kernel) (by decide +kernel)
set_option maxRecDepth 20000 in
theorem in_wsL_law_r28 : GoodIn lw_tbl wsL_law_r28 := goodIn_r _ [1151, 1153, 46, 1154, 1155, 1157, 47, 1158, 678, 679, 680, 681, 340, 1159, 1160, 1161, 1162, 682, 683, 684, 685, 560, 562, 564] (by decide +kernel) (by decide +kernel)
set_option maxRecDepth 20000 in
theorem in_wsL_law_r29 : GoodIn lw_tbl wsL_law_r29 := goodIn_r _ [569, 573, 686, 1163, 1164, 1165, 1166, 687, 688, 689, 690, 691, 692, 693, 694, 1167, 1168, 1169, 1170, 695, 696, 697, 698, 1171] (by decide +kernel) (by decide +kernel)
set_option maxRecDepth 20000 in
theorem in_wsL_law_r30 : GoodIn lw_tbl wsL_law_r30 := goodIn_r _ [1172, 1173, 1174, 699, 700, 701, 702, 1175, 1176, 1177, 1178, 703, 704, 705, 706, 480, 483, 485, 487, 1179, 1180, 1181, 1182, 1183] (by decide +kernel) (by decide +kernel)
set_option maxRecDepth 20000 in
theorem in_wsL_law_r31 : GoodIn lw_tbl wsL_law_r31 := goodIn_r _ [707, 708, 709, 710, 317, 711, 309, 1184, 1185, 1186, 1187, 1188, 712, 713, 714, 715, 311, 1189, 1190, 1191, 1192, 716, 717, 718] (by decide +kernel) (by decide +kernel)
set_option maxRecDepth 20000 in
theorem in_wsL_law_r32 : GoodIn lw_tbl wsL_law_r32 := goodIn_r _ [719, 313, 315, 1193, 1194, 1195, 1196, 720, 721, 722, 723, 1197, 1198, 1199, 1200, 724, 725, 726, 727, 185, 1201, 1202, 1203, 1204] (by decide +kernel) (by decide +kernel)
set_option maxRecDepth 20000 in
theorem in_wsL_law_r33 : GoodIn lw_tbl wsL_law_r33 := goodIn_r _ [728, 729, 730, 731, 151, 155, 732, 1205, 1206, 1207, 1208, 733, 734, 735, 736, 1209, 1210, 1211, 1212, 737, 738, 739, 740, 741] (by decide +kernel) (by decide +kernel)
set_option maxRecDepth 20000 in
theorem in_wsL_law_r34 : GoodIn lw_tbl wsL_law_r34 := goodIn_r _ [742, 743, 744, 745, 1213, 1214, 1215, 1216, 1217, 1218, 1220, 48, 1221, 746, 747, 748, 749, 211, 750, 751, 752, 753, 754, 755] (by decide +kernel) (by decide +kernel)
set_option maxRecDepth 20000 in
theorem in_wsL_law_r35 : GoodIn lw_tbl wsL_law_r35 := goodIn_r _ [213, 209, 756, 757, 758, 759, 210, 559, 214, 566, 216, 760, 761, 762, 763, 764, 765, 766, 767, 212, 768, 769, 770, 771] (by decide +kernel) (by decide +kernel)
set_option maxRecDepth 20000 in
theorem in_wsL_law_r36 : GoodIn lw_tbl wsL_law_r36 := goodIn_r _ [773, 16, 774, 775, 776, 778, 17, 779, 1222, 1223, 1224, 1225, 1226, 1227, 1228, 1229, 1231, 49, 1232, 780, 781, 782, 783, 1233] (by decide +kernel) (by decide +kernel)
set_option maxRecDepth 20000 in
theorem in_wsL_law_r37 : GoodIn lw_tbl wsL_law_r37 := goodIn_r _ [1234, 1235, 1236, 784, 785, 786, 787, 788, 789, 794, 790, 791, 792, 793, 1237, 1238, 1239, 1240, 1241, 1242, 1243, 1244, 795, 796] (by decide +kernel) (by decide +kernel)
set_option maxRecDepth 20000 in
theorem in_wsL_law_r38 : GoodIn lw_tbl wsL_law_r38 := goodIn_r _ [797, 798, 799, 1245, 1246, 1247, 1248, 1249, 1251, 50, 1252, 800, 801, 802, 803, 215, 217, 804, 806, 18, 807, 1253, 1254, 1255] (by decide +kernel) (by decide +kernel)
set_option maxRecDepth 20000 in
theorem in_wsL_law_r39 : GoodIn lw_tbl wsL_law_r39 := goodIn_r _ [1256, 1257, 1259, 51, 1260, 808, 809, 810, 811, 1261, 1262, 1263, 1264, 812, 813, 814, 815, 1265, 1266, 1267, 1268] (by decide +kernel) (by decide +kernel)
set_option maxRecDepth 20000 in
theorem in_wsX00 : GoodIn lw_tbl wsX00 := goodIn_r _ [275, 277, 279, 281, 283, 285, 287, 289, 291, 293, 295, 297] (by decide +kernel) (by decide +kernel)
set_option maxRecDepth 20000 in
theorem in_wsX10 : GoodIn lw_tbl wsX10 := goodIn_r _ [190, 192, 194, 196] (by decide +kernel) (by decide +kernel)
set_option maxRecDepth 20000 in
theorem in_wsX20 : GoodIn lw_tbl wsX20 := goodIn_r _ [318, 320, 322, 324, 326] (by decide +kernel) (by decide +kernel)
set_option maxRecDepth 20000 in
theorem in_wsX30 : GoodIn lw_tbl wsX30 := goodIn_r _ [125, 127] (by decide +kernel) (by decide +kernel)
set_option maxRecDepth 20000 in
theorem in_wsX40 : GoodIn lw_tbl wsX40 := goodIn_r _ [575, 577, 579, 581, 583, 585, 587, 589, 591] (by decide +kernel) (by decide +kernel)
set_option maxRecDepth 20000 in
theorem in_wsX50 : GoodIn lw_tbl wsX50 := goodIn_r _ [238, 240] (by decide +kernel) (by decide +kernel)
set_option maxRecDepth 20000 in
theorem in_wsX60 : GoodIn lw_tbl wsX60 := goodIn_r _ [97, 99, 101, 103, 105] (by decide +kernel) (by decide +kernel)
set_option maxRecDepth 20000 in
theorem in_wsX70 : GoodIn lw_tbl wsX70 := goodIn_r _ [488, 490, 492, 494] (by decide +kernel) (by decide +kernel)
set_option maxRecDepth 20000 in
theorem in_wsX80 : GoodIn lw_tbl wsX80 := goodIn_r _ [218, 220, 222, 224, 226] (by decide +kernel) (by decide +kernel)
set_option maxRecDepth 20000 in
theorem in_wsX90 : GoodIn lw_tbl wsX90 := goodIn_r _ [158, 160, 162, 164, 166, 168, 170] (by decide +kernel) (by decide +kernel)
set_option maxRecDepth 20000 in
theorem in_wsX100 : GoodIn lw_tbl wsX100 := goodIn_r _ [341, 343, 345, 347, 349, 351, 353, 355, 357, 359, 361, 363] (by decide +kernel) (by decide +kernel)
set_option maxRecDepth 20000 in
theorem in_wsX110 : GoodIn lw_tbl wsX110 := goodIn_r _ [883, 885, 887, 889, 891, 893, 895, 897, 899, 901, 903, 905, 907, 909, 911, 913, 915, 917, 919, 921, 923, 925, 927, 929, 931, 933, 935, 937, 939, 941, 943, 945, 947, 949, 951, 953, 955, 957, 959, 961, 963, 965, 967, 969, 971, 973, 975, 977, 979, 981, 983, 985, 987, 989, 991, 993, 995, 997] (by decide +kernel) (by decide +kernel)
theorem wsL_law_in : ∀ w ∈ wsL_law, w ∈ lw_tbl := fun w h => ((goodIn_app (goodIn_app (goodIn_app (goodIn_app (goodIn_app (goodIn_app (goodIn_app (goodIn_app (goodIn_app (goodIn_app (goodIn_app (goodIn_app (goodIn_app (goodIn_app in_wsL_law_r1 (goodIn_app in_wsL_law_r2 (goodIn_app in_wsL_law_r3 (goodIn_app in_wsL_law_r4 (goodIn_app in_wsL_law_r5 (goodIn_app in_wsL_law_r6 (goodIn_app in_wsL_law_r7 (goodIn_app in_wsL_law_r8 (goodIn_app in_wsL_law_r9 (goodIn_app in_wsL_law_r10 (goodIn_app in_wsL_law_r11 (goodIn_app in_wsL_law_r12 (goodIn_app in_wsL_law_r13 (goodIn_app in_wsL_law_r14 (goodIn_app in_wsL_law_r15 (goodIn_app in_wsL_law_r16 (goodIn_app in_wsL_law_r17 (goodIn_app in_wsL_law_r18 (goodIn_app in_wsL_law_r19 (goodIn_app in_wsL_law_r20 (goodIn_app in_wsL_law_r21 (goodIn_app in_wsL_law_r22 (goodIn_app in_wsL_law_r23 (goodIn_app in_wsL_law_r24 (goodIn_app in_wsL_law_r25 (goodIn_app in_wsL_law_r26 (goodIn_app in_wsL_law_r27 (goodIn_app in_wsL_law_r28 (goodIn_app in_wsL_law_r29 (goodIn_app in_wsL_law_r30 (goodIn_app in_wsL_law_r31 (goodIn_app in_wsL_law_r32 (goodIn_app in_wsL_law_r33 (goodIn_app in_wsL_law_r34 (goodIn_app in_wsL_law_r35 (goodIn_app in_wsL_law_r36 (goodIn_app in_wsL_law_r37 (goodIn_app in_wsL_law_r38 (in_wsL_law_r39))))))))))))))))))))))))))))))))))))))) in_wsX100) in_wsX110) in_wsX60) in_wsX30) in_wsX90) in_wsX10) in_wsX80) in_wsX50) in_wsX00) in_wsX20) in_wsX70) in_wsX40) (fun _ h => absurd h List.not_mem_nil) : GoodIn lw_tbl wsL_law) w h).1
theorem inlX0 : ∀ w ∈ wsX00, w ∈ wsL_law := fun _ h => List.mem_append_left _ (List.mem_append_left _ (List.mem_append_left _ (List.mem_append_left _ (List.mem_append_right _ h))))
theorem inlX1 : ∀ w ∈ wsX10, w ∈ wsL_law := fun _ h => List.mem_append_left _ (List.mem_append_left _ (List.mem_append_left _ (List.mem_append_left _ (List.mem_append_left _ (List.mem_append_left _ (List.mem_append_left _ (List.mem_append_right _ h)))))))
theorem inlX2 : ∀ w ∈ wsX20, w ∈ wsL_law := fun _ h => List.mem_append_left _ (List.mem_append_left _ (List.mem_append_left _ (List.mem_append_right _ h)))
theorem inlX3 : ∀ w ∈ wsX30, w ∈ wsL_law := fun _ h => List.mem_append_left _ (List.mem_append_left _ (List.mem_append_left _ (List.mem_append_left _ (List.mem_append_left _ (List.mem_append_left _ (List.mem_append_left _ (List.mem_append_left _ (List.mem_append_left _ (List.mem_append_right _ h)))))))))
theorem inlX4 : ∀ w ∈ wsX40, w ∈ wsL_law := fun _ h => List.mem_append_left _ (List.mem_append_right _ h)
theorem inlX5 : ∀ w ∈ wsX50, w ∈ wsL_law := fun _ h => List.mem_append_left _ (List.mem_append_left _ (List.mem_append_left _ (List.mem_append_left _ (List.mem_append_left _ (List.mem_append_right _ h)))))
theorem inlX6 : ∀ w ∈ wsX60, w ∈ wsL_law := fun _ h => List.mem_append_left _ (List.mem_append_left _ (List.mem_append_left _ (List.mem_append_left _ (List.mem_append_left _ (List.mem_append_left _ (List.mem_append_left _ (List.mem_append_left _ (List.mem_append_left _ (List.mem_append_left _ (List.mem_append_right _ h))))))))))
theorem inlX7 : ∀ w ∈ wsX70, w ∈ wsL_law := fun _ h => List.mem_append_left _ (List.mem_append_left _ (List.mem_append_right _ h))
theorem inlX8 : ∀ w ∈ wsX80, w ∈ wsL_law := fun _ h => List.mem_append_left _ (List.mem_append_left _ (List.mem_append_left _ (List.mem_append_left _ (List.mem_append_left _ (List.mem_append_left _ (List.mem_append_right _ h))))))
theorem inlX9 : ∀ w ∈ wsX90, w ∈ wsL_law := fun _ h => List.mem_append_left _ (List.mem_append_left _ (List.mem_append_left _ (List.mem_append_left _ (List.mem_append_left _ (List.mem_append_left _ (List.mem_append_left _ (List.mem_append_left _ (List.mem_append_right _ h))))))))
theorem inlX10 : ∀ w ∈ wsX100, w ∈ wsL_law := fun _ h => List.mem_append_left _ (List.mem_append_left _ (List.mem_append_left _ (List.mem_append_left _ (List.mem_append_left _ (List.mem_append_left _ (List.mem_append_left _ (List.mem_append_left _ (List.mem_append_left _ (List.mem_append_left _ (List.mem_append_left _ (List.mem_append_left _ (List.mem_append_right _ h))))))))))))
theorem inlX11 : ∀ w ∈ wsX110, w ∈ wsL_law := fun _ h => List.mem_append_left _ (List.mem_append_left _ (List.mem_append_left _ (List.mem_append_left _ (List.mem_append_left _ (List.mem_append_left _ (List.mem_append_left _ (List.mem_append_left _ (List.mem_append_left _ (List.mem_append_left _ (List.mem_append_left _ (List.mem_append_right _ h)))))))))))
theorem mem_r {big ws : List Cond} (ps : List Nat) (hp : ws = ps.filterMap (fun i => big[i]?)) : ∀ w ∈ ws, w ∈ big := by
  intro w hw
  rw [hp] at hw
  obtain ⟨i, -, hi⟩ := List.mem_filterMap.mp hw
  exact List.mem_of_getElem? hi
set_option maxRecDepth 20000 in
theorem nests_in : ∀ q ∈ nests, Cond.methodLinkNest q.1 q.2.1 q.2.2.1 q.2.2.2 ∈ lw_tbl := fun q hq => mem_r (ws := nests.map fun q => Cond.methodLinkNest q.1 q.2.1 q.2.2.1 q.2.2.2) [81, 111, 145, 174, 179, 204, 231, 245, 250, 302, 307, 392, 449, 474, 549, 643, 648, 649] (by decide +kernel) _ (List.mem_map.mpr ⟨q, hq, rfl⟩)
set_option maxRecDepth 20000 in
theorem castable_in : Cond.castable "[I" "java/lang/Cloneable" ∈ lw_tbl := List.mem_of_getElem? (i := 543) (by decide +kernel)
set_option maxRecDepth 20000 in
theorem arr_int_in : Cond.arrayClass .int ∈ lw_tbl := List.mem_of_getElem? (i := 108) (by decide +kernel)
set_option maxRecDepth 20000 in
theorem arr_long_in : Cond.arrayClass .long ∈ lw_tbl := List.mem_of_getElem? (i := 130) (by decide +kernel)
set_option maxRecDepth 20000 in
theorem arr_boolean_in : Cond.arrayClass .boolean ∈ lw_tbl := List.mem_of_getElem? (i := 1000) (by decide +kernel)
set_option maxRecDepth 20000 in
theorem over_1_in : Cond.arrayOver (.object RX1) ∈ lw_tbl := List.mem_of_getElem? (i := 134) (by decide +kernel)
set_option maxRecDepth 20000 in
theorem over_3_in : Cond.arrayOver (.object RX3) ∈ lw_tbl := List.mem_of_getElem? (i := 141) (by decide +kernel)
set_option maxRecDepth 20000 in
theorem over_4_in : Cond.arrayOver (.object RX4) ∈ lw_tbl := List.mem_of_getElem? (i := 200) (by decide +kernel)
set_option maxRecDepth 20000 in
theorem over_8_in : Cond.arrayOver (.object RX8) ∈ lw_tbl := List.mem_of_getElem? (i := 202) (by decide +kernel)
set_option maxRecDepth 20000 in
theorem over_9_in : Cond.arrayOver (.object RX9) ∈ lw_tbl := List.mem_of_getElem? (i := 132) (by decide +kernel)
