/-! the words of all methods are words of the tables: each by its place -/
theorem tb_in {ws big : List Cond} {is : List Nat} (h : ws.map some = is.map (fun i => big[i]?)) : ∀ w ∈ ws, w ∈ big := fun w hw => by
  have h1 : some w ∈ ws.map some := List.mem_map.mpr ⟨w, hw, rfl⟩
  rw [h] at h1
  obtain ⟨i, -, hi⟩ := List.mem_map.mp h1
  exact List.mem_of_getElem? hi
theorem tb_app {a b big : List Cond} (h1 : ∀ w ∈ a, w ∈ big) (h2 : ∀ w ∈ b, w ∈ big) : ∀ w ∈ a ++ b, w ∈ big := fun w hw => (List.mem_append.mp hw).elim (h1 w) (h2 w)
set_option maxRecDepth 20000 in
theorem tb_wsL_law_r1 : wsL_law_r1.map some = ([80, 81, 70, 760, 761, 77, 82, 83, 84, 85, 86, 87, 88, 89, 71, 288, 289, 217, 218, 75, 290, 231, 232, 76] : List Nat).map (fun i => lw_tbl[i]?) := by decide +kernel
set_option maxRecDepth 20000 in
theorem tb_wsL_law_r2 : wsL_law_r2.map some = ([291, 284, 120, 73, 292, 286, 152, 74, 293, 118, 294, 295, 296, 297, 90, 91, 92, 93, 94, 95, 72, 199, 119, 202] : List Nat).map (fun i => lw_tbl[i]?) := by decide +kernel
set_option maxRecDepth 20000 in
theorem tb_wsL_law_r3 : wsL_law_r3.map some = ([150, 205, 206, 97, 98, 99, 100, 101, 102, 103, 104, 122, 123, 124, 125, 128, 131, 134, 137, 154, 155, 156, 157, 160] : List Nat).map (fun i => lw_tbl[i]?) := by decide +kernel
set_option maxRecDepth 20000 in
theorem tb_wsL_law_r4 : wsL_law_r4.map some = ([163, 166, 169, 172, 175, 178, 220, 221, 222, 223, 224, 234, 235, 236, 237, 238, 239, 240, 241, 242, 243, 244, 245, 246] : List Nat).map (fun i => lw_tbl[i]?) := by decide +kernel
set_option maxRecDepth 20000 in
theorem tb_wsL_law_r5 : wsL_law_r5.map some = ([247, 248, 249, 250, 252, 762, 763, 764, 765, 766, 767, 768, 769, 770, 771, 772, 773, 774, 775, 776, 777, 778, 783, 785] : List Nat).map (fun i => lw_tbl[i]?) := by decide +kernel
set_option maxRecDepth 20000 in
theorem tb_wsL_law_r6 : wsL_law_r6.map some = ([786, 787, 788, 792, 803, 804, 805, 806, 810, 319, 320, 321, 322, 323, 325, 0, 326, 327, 328, 329, 330, 331, 332, 333] : List Nat).map (fun i => lw_tbl[i]?) := by decide +kernel
set_option maxRecDepth 20000 in
theorem tb_wsL_law_r7 : wsL_law_r7.map some = ([334, 335, 336, 337, 338, 339, 340, 341, 905, 906, 907, 908, 789, 909, 910, 911, 912, 914, 27, 915, 343, 344, 345, 346] : List Nat).map (fun i => lw_tbl[i]?) := by decide +kernel
set_option maxRecDepth 20000 in
theorem tb_wsL_law_r8 : wsL_law_r8.map some = ([347, 349, 1, 350, 351, 352, 353, 354, 355, 357, 2, 358, 359, 361, 3, 362, 363, 365, 4, 366, 367, 368, 369, 370] : List Nat).map (fun i => lw_tbl[i]?) := by decide +kernel
set_option maxRecDepth 20000 in
theorem tb_wsL_law_r9 : wsL_law_r9.map some = ([372, 5, 373, 374, 375, 376, 377, 378, 380, 6, 381, 382, 384, 7, 385, 386, 388, 8, 389, 390, 391, 392, 393, 394] : List Nat).map (fun i => lw_tbl[i]?) := by decide +kernel
set_option maxRecDepth 20000 in
theorem tb_wsL_law_r10 : wsL_law_r10.map some = ([396, 9, 397, 398, 399, 400, 401, 403, 405, 10, 406, 407, 408, 409, 410, 411, 412, 413, 414, 415, 416, 417, 418, 419] : List Nat).map (fun i => lw_tbl[i]?) := by decide +kernel
set_option maxRecDepth 20000 in
theorem tb_wsL_law_r11 : wsL_law_r11.map some = ([420, 421, 422, 916, 917, 918, 919, 790, 791, 920, 922, 28, 923, 924, 926, 29, 927, 928, 930, 30, 931, 932, 934, 31] : List Nat).map (fun i => lw_tbl[i]?) := by decide +kernel
set_option maxRecDepth 20000 in
theorem tb_wsL_law_r12 : wsL_law_r12.map some = ([935, 936, 938, 32, 939, 940, 941, 942, 943, 945, 33, 946, 947, 949, 34, 950, 795, 794, 779, 780, 781, 782, 784, 951] : List Nat).map (fun i => lw_tbl[i]?) := by decide +kernel
set_option maxRecDepth 20000 in
theorem tb_wsL_law_r13 : wsL_law_r13.map some = ([953, 35, 954, 955, 957, 36, 958, 959, 961, 37, 962, 963, 965, 38, 966, 967, 969, 39, 970, 971, 973, 40, 974, 423] : List Nat).map (fun i => lw_tbl[i]?) := by decide +kernel
set_option maxRecDepth 20000 in
theorem tb_wsL_law_r14 : wsL_law_r14.map some = ([424, 425, 426, 427, 428, 429, 430, 431, 432, 433, 434, 436, 437, 438, 439, 440, 441, 442, 443, 444, 445, 446, 447, 448] : List Nat).map (fun i => lw_tbl[i]?) := by decide +kernel
set_option maxRecDepth 20000 in
theorem tb_wsL_law_r15 : wsL_law_r15.map some = ([449, 450, 451, 452, 453, 454, 456, 11, 457, 458, 459, 460, 461, 462, 983, 984, 985, 986, 987, 989, 41, 990, 991, 993] : List Nat).map (fun i => lw_tbl[i]?) := by decide +kernel
set_option maxRecDepth 20000 in
theorem tb_wsL_law_r16 : wsL_law_r16.map some = ([42, 994, 995, 997, 43, 998, 999, 1001, 44, 1002, 463, 464, 465, 466, 1003, 1004, 1005, 1006, 467, 468, 469, 470, 471, 472] : List Nat).map (fun i => lw_tbl[i]?) := by decide +kernel
set_option maxRecDepth 20000 in
theorem tb_wsL_law_r17 : wsL_law_r17.map some = ([473, 474, 475, 480, 481, 78, 482, 476, 478, 12, 479, 483, 484, 485, 486, 487, 1007, 1008, 1009, 1010, 1011, 1013, 45, 1014] : List Nat).map (fun i => lw_tbl[i]?) := by decide +kernel
set_option maxRecDepth 20000 in
theorem tb_wsL_law_r18 : wsL_law_r18.map some = ([1015, 1017, 46, 1018, 1019, 1021, 47, 1022, 488, 489, 490, 491, 492, 493, 494, 495, 497, 496, 1023, 1024, 1025, 1026, 1027, 1029] : List Nat).map (fun i => lw_tbl[i]?) := by decide +kernel
set_option maxRecDepth 20000 in
theorem tb_wsL_law_r19 : wsL_law_r19.map some = ([48, 1030, 498, 499, 500, 501, 502, 503, 504, 505, 506, 507, 508, 509, 511, 13, 512, 513, 514, 515, 1031, 1032, 1033, 1034] : List Nat).map (fun i => lw_tbl[i]?) := by decide +kernel
set_option maxRecDepth 20000 in
theorem tb_wsL_law_r20 : wsL_law_r20.map some = ([1035, 1037, 49, 1038, 516, 517, 518, 519, 1039, 1040, 1041, 1042, 520, 521, 522, 523, 1043, 1044, 1045, 1046, 524, 525, 526, 527] : List Nat).map (fun i => lw_tbl[i]?) := by decide +kernel
set_option maxRecDepth 20000 in
theorem tb_wsL_law_r21 : wsL_law_r21.map some = ([1047, 1048, 1049, 1050, 528, 529, 530, 531, 532, 533, 534, 535, 536, 537, 538, 539, 540, 541, 542, 543, 1051, 1052, 1053, 1054] : List Nat).map (fun i => lw_tbl[i]?) := by decide +kernel
set_option maxRecDepth 20000 in
theorem tb_wsL_law_r22 : wsL_law_r22.map some = ([801, 1055, 1057, 50, 1058, 796, 797, 798, 799, 800, 1059, 1061, 51, 1062, 1063, 1065, 52, 1066, 802, 1067, 1069, 53, 1070, 544] : List Nat).map (fun i => lw_tbl[i]?) := by decide +kernel
set_option maxRecDepth 20000 in
theorem tb_wsL_law_r23 : wsL_law_r23.map some = ([545, 546, 547, 548, 549, 550, 551, 1071, 1072, 1073, 1074, 1075, 1077, 54, 1078, 552, 553, 554, 555, 556, 557, 79, 558, 559] : List Nat).map (fun i => lw_tbl[i]?) := by decide +kernel
set_option maxRecDepth 20000 in
theorem tb_wsL_law_r24 : wsL_law_r24.map some = ([560, 561, 562, 1079, 1080, 1081, 1082, 1083, 1084, 1085, 563, 564, 565, 566, 567, 569, 14, 570, 571, 572, 573, 574, 575, 595] : List Nat).map (fun i => lw_tbl[i]?) := by decide +kernel
set_option maxRecDepth 20000 in
theorem tb_wsL_law_r25 : wsL_law_r25.map some = ([596, 597, 576, 578, 15, 579, 580, 582, 583, 585, 16, 586, 587, 588, 589, 590, 591, 592, 594, 598, 599, 601, 17, 602] : List Nat).map (fun i => lw_tbl[i]?) := by decide +kernel
set_option maxRecDepth 20000 in
theorem tb_wsL_law_r26 : wsL_law_r26.map some = ([603, 605, 18, 606, 607, 609, 19, 610, 611, 613, 20, 614, 1086, 1087, 1088, 1089, 1090, 1092, 55, 1093, 1094, 1096, 56, 1097] : List Nat).map (fun i => lw_tbl[i]?) := by decide +kernel
set_option maxRecDepth 20000 in
theorem tb_wsL_law_r27 : wsL_law_r27.map some = ([808, 807, 1098, 1100, 57, 1101, 809, 1102, 1104, 58, 1105, 615, 616, 617, 618, 619, 620, 621, 622, 1106, 1107, 1108, 1109, 623] : List Nat).map (fun i => lw_tbl[i]?) := by decide +kernel
set_option maxRecDepth 20000 in
theorem tb_wsL_law_r28 : wsL_law_r28.map some = ([624, 625, 626, 1110, 1111, 1112, 1113, 627, 628, 629, 630, 631, 632, 633, 634, 1114, 1115, 1116, 1117, 635, 636, 637, 638, 1118] : List Nat).map (fun i => lw_tbl[i]?) := by decide +kernel
set_option maxRecDepth 20000 in
theorem tb_wsL_law_r29 : wsL_law_r29.map some = ([1119, 1120, 1121, 639, 640, 641, 642, 643, 644, 645, 646, 647, 649, 21, 650, 1122, 1123, 1124, 1125, 1126, 1128, 59, 1129, 651] : List Nat).map (fun i => lw_tbl[i]?) := by decide +kernel
set_option maxRecDepth 20000 in
theorem tb_wsL_law_r30 : wsL_law_r30.map some = ([652, 653, 654, 1130, 1131, 1132, 1133, 655, 656, 657, 658, 659, 661, 22, 662, 1134, 1135, 1136, 1137, 1138, 1140, 60, 1141, 663] : List Nat).map (fun i => lw_tbl[i]?) := by decide +kernel
set_option maxRecDepth 20000 in
theorem tb_wsL_law_r31 : wsL_law_r31.map some = ([664, 665, 666, 1142, 1143, 1144, 1145, 667, 668, 669, 670, 671, 1146, 1147, 1148, 1149, 1150, 1152, 61, 1153, 1154, 1156, 62, 1157] : List Nat).map (fun i => lw_tbl[i]?) := by decide +kernel
set_option maxRecDepth 20000 in
theorem tb_wsL_law_r32 : wsL_law_r32.map some = ([1158, 672, 673, 674, 675, 676, 678, 23, 679, 680, 1159, 1160, 1161, 1162, 681, 682, 683, 684, 685, 697, 686, 688, 24, 689] : List Nat).map (fun i => lw_tbl[i]?) := by decide +kernel
set_option maxRecDepth 20000 in
theorem tb_wsL_law_r33 : wsL_law_r33.map some = ([690, 692, 25, 693, 694, 695, 696, 1163, 1164, 1165, 1166, 1167, 1169, 63, 1170, 811, 1171, 1173, 64, 1174, 1175, 1176, 1178, 65] : List Nat).map (fun i => lw_tbl[i]?) := by decide +kernel
set_option maxRecDepth 20000 in
theorem tb_wsL_law_r34 : wsL_law_r34.map some = ([1179, 1180, 1181, 1182, 698, 699, 700, 701, 702, 1183, 1184, 1185, 1186, 703, 704, 705, 706, 1187, 1188, 1189, 1190, 707, 708, 709] : List Nat).map (fun i => lw_tbl[i]?) := by decide +kernel
set_option maxRecDepth 20000 in
theorem tb_wsL_law_r35 : wsL_law_r35.map some = ([710, 711, 712, 713, 714, 1191, 1192, 1193, 1194, 1195, 1197, 66, 1198, 715, 716, 717, 718, 1199, 1200, 1201, 1202, 719, 720, 721] : List Nat).map (fun i => lw_tbl[i]?) := by decide +kernel
set_option maxRecDepth 20000 in
theorem tb_wsL_law_r36 : wsL_law_r36.map some = ([722, 723, 725, 26, 726, 1203, 1204, 1205, 1206, 1207, 1209, 67, 1210, 727, 728, 729, 730, 731, 732, 733, 1211, 1212, 1213, 1214] : List Nat).map (fun i => lw_tbl[i]?) := by decide +kernel
set_option maxRecDepth 20000 in
theorem tb_wsL_law_r37 : wsL_law_r37.map some = ([1215, 1216, 1217, 734, 735, 736, 737, 738, 739, 740, 741, 742, 743, 744, 745, 746, 747, 975, 976, 977, 978, 793, 748, 749] : List Nat).map (fun i => lw_tbl[i]?) := by decide +kernel
set_option maxRecDepth 20000 in
theorem tb_wsL_law_r38 : wsL_law_r38.map some = ([750, 751, 979, 980, 981, 982, 752, 753, 754, 755, 756, 757, 758, 759, 1218, 1219, 1220, 1221, 1222, 1224, 68, 1225] : List Nat).map (fun i => lw_tbl[i]?) := by decide +kernel
set_option maxRecDepth 20000 in
theorem tb_wsX60 : wsX60.map some = ([298, 300, 302, 304, 306, 308, 310, 312, 314, 316] : List Nat).map (fun i => lw_tbl[i]?) := by decide +kernel
set_option maxRecDepth 20000 in
theorem tb_wsX70 : wsX70.map some = ([812, 814, 816, 818, 820, 822, 824, 826, 828, 830, 832, 834, 836, 838, 840, 842, 844, 846, 848, 850, 852, 854, 856, 858, 860, 862, 864, 866, 868, 870, 872, 874, 876, 878, 880, 882, 884, 886, 888, 890, 892, 894, 896, 898, 900, 902] : List Nat).map (fun i => lw_tbl[i]?) := by decide +kernel
set_option maxRecDepth 20000 in
theorem tb_wsX30 : wsX30.map some = ([208, 210, 212, 214] : List Nat).map (fun i => lw_tbl[i]?) := by decide +kernel
set_option maxRecDepth 20000 in
theorem tb_wsX10 : wsX10.map some = ([226, 228] : List Nat).map (fun i => lw_tbl[i]?) := by decide +kernel
set_option maxRecDepth 20000 in
theorem tb_wsX40 : wsX40.map some = ([253, 255, 257, 259, 261, 263, 265, 267, 269, 271, 273, 275, 277, 279, 281] : List Nat).map (fun i => lw_tbl[i]?) := by decide +kernel
set_option maxRecDepth 20000 in
theorem tb_wsX00 : wsX00.map some = ([139, 141, 143, 145, 147] : List Nat).map (fun i => lw_tbl[i]?) := by decide +kernel
set_option maxRecDepth 20000 in
theorem tb_wsX20 : wsX20.map some = ([182, 184, 186, 188, 190, 192, 194, 196] : List Nat).map (fun i => lw_tbl[i]?) := by decide +kernel
set_option maxRecDepth 20000 in
theorem tb_wsX50 : wsX50.map some = ([107, 109, 111, 113, 115] : List Nat).map (fun i => lw_tbl[i]?) := by decide +kernel
theorem wsL_law_in : ∀ w ∈ wsL_law, w ∈ lw_tbl := (tb_app (tb_app (tb_app (tb_app (tb_app (tb_app (tb_app (tb_app (tb_app (tb_app (tb_in tb_wsL_law_r1) (tb_app (tb_in tb_wsL_law_r2) (tb_app (tb_in tb_wsL_law_r3) (tb_app (tb_in tb_wsL_law_r4) (tb_app (tb_in tb_wsL_law_r5) (tb_app (tb_in tb_wsL_law_r6) (tb_app (tb_in tb_wsL_law_r7) (tb_app (tb_in tb_wsL_law_r8) (tb_app (tb_in tb_wsL_law_r9) (tb_app (tb_in tb_wsL_law_r10) (tb_app (tb_in tb_wsL_law_r11) (tb_app (tb_in tb_wsL_law_r12) (tb_app (tb_in tb_wsL_law_r13) (tb_app (tb_in tb_wsL_law_r14) (tb_app (tb_in tb_wsL_law_r15) (tb_app (tb_in tb_wsL_law_r16) (tb_app (tb_in tb_wsL_law_r17) (tb_app (tb_in tb_wsL_law_r18) (tb_app (tb_in tb_wsL_law_r19) (tb_app (tb_in tb_wsL_law_r20) (tb_app (tb_in tb_wsL_law_r21) (tb_app (tb_in tb_wsL_law_r22) (tb_app (tb_in tb_wsL_law_r23) (tb_app (tb_in tb_wsL_law_r24) (tb_app (tb_in tb_wsL_law_r25) (tb_app (tb_in tb_wsL_law_r26) (tb_app (tb_in tb_wsL_law_r27) (tb_app (tb_in tb_wsL_law_r28) (tb_app (tb_in tb_wsL_law_r29) (tb_app (tb_in tb_wsL_law_r30) (tb_app (tb_in tb_wsL_law_r31) (tb_app (tb_in tb_wsL_law_r32) (tb_app (tb_in tb_wsL_law_r33) (tb_app (tb_in tb_wsL_law_r34) (tb_app (tb_in tb_wsL_law_r35) (tb_app (tb_in tb_wsL_law_r36) (tb_app (tb_in tb_wsL_law_r37) (tb_in tb_wsL_law_r38)))))))))))))))))))))))))))))))))))))) (tb_in tb_wsX60)) (tb_in tb_wsX70)) (tb_in tb_wsX30)) (tb_in tb_wsX10)) (tb_in tb_wsX40)) (tb_in tb_wsX00)) (tb_in tb_wsX20)) (tb_in tb_wsX50)) (fun _ h => absurd h List.not_mem_nil))
