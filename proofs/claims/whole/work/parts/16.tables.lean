/-! the words of all methods are words of the tables: each by its place -/
theorem tb_in {ws big : List Cond} {is : List Nat} (h : ws.map some = is.map (fun i => big[i]?)) : ∀ w ∈ ws, w ∈ big := fun w hw => by
  have h1 : some w ∈ ws.map some := List.mem_map.mpr ⟨w, hw, rfl⟩
  rw [h] at h1
  obtain ⟨i, -, hi⟩ := List.mem_map.mp h1
  exact List.mem_of_getElem? hi
theorem tb_app {a b big : List Cond} (h1 : ∀ w ∈ a, w ∈ big) (h2 : ∀ w ∈ b, w ∈ big) : ∀ w ∈ a ++ b, w ∈ big := fun w hw => (List.mem_append.mp hw).elim (h1 w) (h2 w)
set_option maxRecDepth 20000 in
theorem tb_wsL_law_r1 : wsL_law_r1.map some = ([80, 81, 70, 761, 762, 77, 82, 83, 84, 85, 86, 87, 88, 89, 71, 288, 289, 217, 218, 75, 290, 231, 232, 76] : List Nat).map (fun i => lw_tbl[i]?) := by decide +kernel
set_option maxRecDepth 20000 in
theorem tb_wsL_law_r2 : wsL_law_r2.map some = ([291, 284, 120, 73, 292, 286, 152, 74, 293, 118, 294, 295, 296, 297, 90, 91, 92, 93, 94, 95, 72, 199, 119, 202] : List Nat).map (fun i => lw_tbl[i]?) := by decide +kernel
set_option maxRecDepth 20000 in
theorem tb_wsL_law_r3 : wsL_law_r3.map some = ([150, 205, 206, 97, 98, 99, 100, 101, 102, 103, 104, 122, 123, 124, 125, 128, 131, 134, 137, 154, 155, 156, 157, 160] : List Nat).map (fun i => lw_tbl[i]?) := by decide +kernel
set_option maxRecDepth 20000 in
theorem tb_wsL_law_r4 : wsL_law_r4.map some = ([163, 166, 169, 172, 175, 178, 220, 221, 222, 223, 224, 234, 235, 236, 237, 238, 239, 240, 241, 242, 243, 244, 245, 246] : List Nat).map (fun i => lw_tbl[i]?) := by decide +kernel
set_option maxRecDepth 20000 in
theorem tb_wsL_law_r5 : wsL_law_r5.map some = ([247, 248, 249, 250, 252, 763, 764, 765, 766, 767, 768, 769, 770, 771, 772, 773, 774, 775, 776, 777, 778, 779, 784, 786] : List Nat).map (fun i => lw_tbl[i]?) := by decide +kernel
set_option maxRecDepth 20000 in
theorem tb_wsL_law_r6 : wsL_law_r6.map some = ([787, 788, 789, 793, 804, 805, 806, 807, 811, 319, 320, 321, 322, 323, 325, 0, 326, 327, 328, 329, 330, 331, 332, 333] : List Nat).map (fun i => lw_tbl[i]?) := by decide +kernel
set_option maxRecDepth 20000 in
theorem tb_wsL_law_r7 : wsL_law_r7.map some = ([334, 335, 336, 337, 338, 339, 340, 341, 906, 907, 908, 909, 790, 910, 911, 912, 913, 915, 27, 916, 343, 344, 345, 346] : List Nat).map (fun i => lw_tbl[i]?) := by decide +kernel
set_option maxRecDepth 20000 in
theorem tb_wsL_law_r8 : wsL_law_r8.map some = ([347, 349, 1, 350, 351, 352, 353, 354, 355, 357, 2, 358, 359, 361, 3, 362, 364, 366, 4, 367, 368, 369, 370, 371] : List Nat).map (fun i => lw_tbl[i]?) := by decide +kernel
set_option maxRecDepth 20000 in
theorem tb_wsL_law_r9 : wsL_law_r9.map some = ([373, 5, 374, 375, 376, 377, 378, 379, 381, 6, 382, 383, 385, 7, 386, 387, 389, 8, 390, 391, 392, 393, 394, 395] : List Nat).map (fun i => lw_tbl[i]?) := by decide +kernel
set_option maxRecDepth 20000 in
theorem tb_wsL_law_r10 : wsL_law_r10.map some = ([397, 9, 398, 399, 400, 401, 402, 404, 406, 10, 407, 408, 409, 410, 411, 412, 413, 414, 415, 416, 417, 418, 419, 420] : List Nat).map (fun i => lw_tbl[i]?) := by decide +kernel
set_option maxRecDepth 20000 in
theorem tb_wsL_law_r11 : wsL_law_r11.map some = ([421, 422, 423, 917, 918, 919, 920, 791, 792, 921, 923, 28, 924, 925, 927, 29, 928, 929, 931, 30, 932, 933, 935, 31] : List Nat).map (fun i => lw_tbl[i]?) := by decide +kernel
set_option maxRecDepth 20000 in
theorem tb_wsL_law_r12 : wsL_law_r12.map some = ([936, 937, 939, 32, 940, 941, 942, 943, 944, 946, 33, 947, 948, 950, 34, 951, 796, 795, 780, 781, 782, 783, 785, 952] : List Nat).map (fun i => lw_tbl[i]?) := by decide +kernel
set_option maxRecDepth 20000 in
theorem tb_wsL_law_r13 : wsL_law_r13.map some = ([954, 35, 955, 956, 958, 36, 959, 960, 962, 37, 963, 964, 966, 38, 967, 968, 970, 39, 971, 972, 974, 40, 975, 424] : List Nat).map (fun i => lw_tbl[i]?) := by decide +kernel
set_option maxRecDepth 20000 in
theorem tb_wsL_law_r14 : wsL_law_r14.map some = ([425, 426, 427, 428, 429, 430, 431, 432, 433, 434, 435, 437, 438, 439, 440, 441, 442, 443, 444, 445, 446, 447, 448, 449] : List Nat).map (fun i => lw_tbl[i]?) := by decide +kernel
set_option maxRecDepth 20000 in
theorem tb_wsL_law_r15 : wsL_law_r15.map some = ([450, 451, 452, 453, 454, 455, 457, 11, 458, 459, 460, 461, 462, 463, 984, 985, 986, 987, 988, 990, 41, 991, 992, 994] : List Nat).map (fun i => lw_tbl[i]?) := by decide +kernel
set_option maxRecDepth 20000 in
theorem tb_wsL_law_r16 : wsL_law_r16.map some = ([42, 995, 996, 998, 43, 999, 1000, 1002, 44, 1003, 464, 465, 466, 467, 1004, 1005, 1006, 1007, 468, 469, 470, 471, 472, 473] : List Nat).map (fun i => lw_tbl[i]?) := by decide +kernel
set_option maxRecDepth 20000 in
theorem tb_wsL_law_r17 : wsL_law_r17.map some = ([474, 475, 476, 481, 482, 78, 483, 477, 479, 12, 480, 484, 485, 486, 487, 488, 1008, 1009, 1010, 1011, 1012, 1014, 45, 1015] : List Nat).map (fun i => lw_tbl[i]?) := by decide +kernel
set_option maxRecDepth 20000 in
theorem tb_wsL_law_r18 : wsL_law_r18.map some = ([1016, 1018, 46, 1019, 1020, 1022, 47, 1023, 489, 490, 491, 492, 493, 494, 495, 496, 498, 497, 1024, 1025, 1026, 1027, 1028, 1030] : List Nat).map (fun i => lw_tbl[i]?) := by decide +kernel
set_option maxRecDepth 20000 in
theorem tb_wsL_law_r19 : wsL_law_r19.map some = ([48, 1031, 499, 500, 501, 502, 503, 504, 505, 506, 507, 508, 509, 510, 512, 13, 513, 514, 515, 516, 1032, 1033, 1034, 1035] : List Nat).map (fun i => lw_tbl[i]?) := by decide +kernel
set_option maxRecDepth 20000 in
theorem tb_wsL_law_r20 : wsL_law_r20.map some = ([1036, 1038, 49, 1039, 517, 518, 519, 520, 1040, 1041, 1042, 1043, 521, 522, 523, 524, 1044, 1045, 1046, 1047, 525, 526, 527, 528] : List Nat).map (fun i => lw_tbl[i]?) := by decide +kernel
set_option maxRecDepth 20000 in
theorem tb_wsL_law_r21 : wsL_law_r21.map some = ([1048, 1049, 1050, 1051, 529, 530, 531, 532, 533, 534, 535, 536, 537, 538, 539, 540, 541, 542, 543, 544, 1052, 1053, 1054, 1055] : List Nat).map (fun i => lw_tbl[i]?) := by decide +kernel
set_option maxRecDepth 20000 in
theorem tb_wsL_law_r22 : wsL_law_r22.map some = ([802, 1056, 1058, 50, 1059, 797, 798, 799, 800, 801, 1060, 1062, 51, 1063, 1064, 1066, 52, 1067, 803, 1068, 1070, 53, 1071, 545] : List Nat).map (fun i => lw_tbl[i]?) := by decide +kernel
set_option maxRecDepth 20000 in
theorem tb_wsL_law_r23 : wsL_law_r23.map some = ([546, 547, 548, 549, 550, 551, 552, 1072, 1073, 1074, 1075, 1076, 1078, 54, 1079, 553, 554, 555, 556, 557, 558, 79, 559, 560] : List Nat).map (fun i => lw_tbl[i]?) := by decide +kernel
set_option maxRecDepth 20000 in
theorem tb_wsL_law_r24 : wsL_law_r24.map some = ([561, 562, 563, 1080, 1081, 1082, 1083, 1084, 1085, 1086, 564, 565, 566, 567, 568, 570, 14, 571, 572, 573, 574, 575, 576, 596] : List Nat).map (fun i => lw_tbl[i]?) := by decide +kernel
set_option maxRecDepth 20000 in
theorem tb_wsL_law_r25 : wsL_law_r25.map some = ([597, 598, 577, 579, 15, 580, 581, 583, 584, 586, 16, 587, 588, 589, 590, 591, 592, 593, 595, 599, 600, 602, 17, 603] : List Nat).map (fun i => lw_tbl[i]?) := by decide +kernel
set_option maxRecDepth 20000 in
theorem tb_wsL_law_r26 : wsL_law_r26.map some = ([604, 606, 18, 607, 608, 610, 19, 611, 612, 614, 20, 615, 1087, 1088, 1089, 1090, 1091, 1093, 55, 1094, 1095, 1097, 56, 1098] : List Nat).map (fun i => lw_tbl[i]?) := by decide +kernel
set_option maxRecDepth 20000 in
theorem tb_wsL_law_r27 : wsL_law_r27.map some = ([809, 808, 1099, 1101, 57, 1102, 810, 1103, 1105, 58, 1106, 616, 617, 618, 619, 620, 621, 622, 623, 1107, 1108, 1109, 1110, 624] : List Nat).map (fun i => lw_tbl[i]?) := by decide +kernel
set_option maxRecDepth 20000 in
theorem tb_wsL_law_r28 : wsL_law_r28.map some = ([625, 626, 627, 1111, 1112, 1113, 1114, 628, 629, 630, 631, 632, 633, 634, 635, 1115, 1116, 1117, 1118, 636, 637, 638, 639, 1119] : List Nat).map (fun i => lw_tbl[i]?) := by decide +kernel
set_option maxRecDepth 20000 in
theorem tb_wsL_law_r29 : wsL_law_r29.map some = ([1120, 1121, 1122, 640, 641, 642, 643, 644, 645, 646, 647, 648, 650, 21, 651, 1123, 1124, 1125, 1126, 1127, 1129, 59, 1130, 652] : List Nat).map (fun i => lw_tbl[i]?) := by decide +kernel
set_option maxRecDepth 20000 in
theorem tb_wsL_law_r30 : wsL_law_r30.map some = ([653, 654, 655, 1131, 1132, 1133, 1134, 656, 657, 658, 659, 660, 662, 22, 663, 1135, 1136, 1137, 1138, 1139, 1141, 60, 1142, 664] : List Nat).map (fun i => lw_tbl[i]?) := by decide +kernel
set_option maxRecDepth 20000 in
theorem tb_wsL_law_r31 : wsL_law_r31.map some = ([665, 666, 667, 1143, 1144, 1145, 1146, 668, 669, 670, 671, 672, 1147, 1148, 1149, 1150, 1151, 1153, 61, 1154, 1155, 1157, 62, 1158] : List Nat).map (fun i => lw_tbl[i]?) := by decide +kernel
set_option maxRecDepth 20000 in
theorem tb_wsL_law_r32 : wsL_law_r32.map some = ([1159, 673, 674, 675, 676, 677, 679, 23, 680, 681, 1160, 1161, 1162, 1163, 682, 683, 684, 685, 686, 698, 687, 689, 24, 690] : List Nat).map (fun i => lw_tbl[i]?) := by decide +kernel
set_option maxRecDepth 20000 in
theorem tb_wsL_law_r33 : wsL_law_r33.map some = ([691, 693, 25, 694, 695, 696, 697, 1164, 1165, 1166, 1167, 1168, 1170, 63, 1171, 812, 1172, 1174, 64, 1175, 1176, 1177, 1179, 65] : List Nat).map (fun i => lw_tbl[i]?) := by decide +kernel
set_option maxRecDepth 20000 in
theorem tb_wsL_law_r34 : wsL_law_r34.map some = ([1180, 1181, 1182, 1183, 699, 700, 701, 702, 703, 1184, 1185, 1186, 1187, 704, 705, 706, 707, 1188, 1189, 1190, 1191, 708, 709, 710] : List Nat).map (fun i => lw_tbl[i]?) := by decide +kernel
set_option maxRecDepth 20000 in
theorem tb_wsL_law_r35 : wsL_law_r35.map some = ([711, 712, 713, 714, 715, 1192, 1193, 1194, 1195, 1196, 1198, 66, 1199, 716, 717, 718, 719, 1200, 1201, 1202, 1203, 720, 721, 722] : List Nat).map (fun i => lw_tbl[i]?) := by decide +kernel
set_option maxRecDepth 20000 in
theorem tb_wsL_law_r36 : wsL_law_r36.map some = ([723, 724, 726, 26, 727, 1204, 1205, 1206, 1207, 1208, 1210, 67, 1211, 728, 729, 730, 731, 732, 733, 734, 1212, 1213, 1214, 1215] : List Nat).map (fun i => lw_tbl[i]?) := by decide +kernel
set_option maxRecDepth 20000 in
theorem tb_wsL_law_r37 : wsL_law_r37.map some = ([1216, 1217, 1218, 735, 736, 737, 738, 739, 740, 741, 742, 743, 744, 745, 746, 747, 748, 976, 977, 978, 979, 794, 749, 750] : List Nat).map (fun i => lw_tbl[i]?) := by decide +kernel
set_option maxRecDepth 20000 in
theorem tb_wsL_law_r38 : wsL_law_r38.map some = ([751, 752, 980, 981, 982, 983, 753, 754, 755, 756, 757, 758, 759, 760, 1219, 1220, 1221, 1222, 1223, 1225, 68, 1226] : List Nat).map (fun i => lw_tbl[i]?) := by decide +kernel
set_option maxRecDepth 20000 in
theorem tb_wsX60 : wsX60.map some = ([298, 300, 302, 304, 306, 308, 310, 312, 314, 316] : List Nat).map (fun i => lw_tbl[i]?) := by decide +kernel
set_option maxRecDepth 20000 in
theorem tb_wsX70 : wsX70.map some = ([813, 815, 817, 819, 821, 823, 825, 827, 829, 831, 833, 835, 837, 839, 841, 843, 845, 847, 849, 851, 853, 855, 857, 859, 861, 863, 865, 867, 869, 871, 873, 875, 877, 879, 881, 883, 885, 887, 889, 891, 893, 895, 897, 899, 901, 903] : List Nat).map (fun i => lw_tbl[i]?) := by decide +kernel
set_option maxRecDepth 20000 in
theorem tb_wsX30 : wsX30.map some = ([208, 210, 212, 214] : List Nat).map (fun i => lw_tbl[i]?) := by decide +kernel
set_option maxRecDepth 20000 in
theorem tb_wsX10 : wsX10.map some = ([226, 228] : List Nat).map (fun i => lw_tbl[i]?) := by decide +kernel
set_option maxRecDepth 20000 in
theorem tb_wsX40 : wsX40.map some = ([253, 255, 257, 259, 261, 263, 265, 267, 269, 271, 273, 275, 277, 279, 281] : List Nat).map (fun i => lw_tbl[i]?) := by decide +kernel
set_option maxRecDepth 20000 in
theorem tb_wsX00 : wsX00.map some = ([139, 141, 143, 145, 147] : List Nat).map (fun i => lw_tbl[i]?) := by decide +kernel
set_option maxRecDepth 20000 in
theorem tb_wsX20 : wsX20.map some = ([182, 184, 186, 188, 190, 192, 194, 196] : List Nat).map (fun i => lw_tbl[i]?) := by decide +kernel
set_option maxRecDepth 20000 in
theorem tb_wsX50 : wsX50.map some = ([107, 109, 111, 113, 115] : List Nat).map (fun i => lw_tbl[i]?) := by decide +kernel
theorem wsL_law_in : ∀ w ∈ wsL_law, w ∈ lw_tbl := (tb_app (tb_app (tb_app (tb_app (tb_app (tb_app (tb_app (tb_app (tb_app (tb_app (tb_in tb_wsL_law_r1) (tb_app (tb_in tb_wsL_law_r2) (tb_app (tb_in tb_wsL_law_r3) (tb_app (tb_in tb_wsL_law_r4) (tb_app (tb_in tb_wsL_law_r5) (tb_app (tb_in tb_wsL_law_r6) (tb_app (tb_in tb_wsL_law_r7) (tb_app (tb_in tb_wsL_law_r8) (tb_app (tb_in tb_wsL_law_r9) (tb_app (tb_in tb_wsL_law_r10) (tb_app (tb_in tb_wsL_law_r11) (tb_app (tb_in tb_wsL_law_r12) (tb_app (tb_in tb_wsL_law_r13) (tb_app (tb_in tb_wsL_law_r14) (tb_app (tb_in tb_wsL_law_r15) (tb_app (tb_in tb_wsL_law_r16) (tb_app (tb_in tb_wsL_law_r17) (tb_app (tb_in tb_wsL_law_r18) (tb_app (tb_in tb_wsL_law_r19) (tb_app (tb_in tb_wsL_law_r20) (tb_app (tb_in tb_wsL_law_r21) (tb_app (tb_in tb_wsL_law_r22) (tb_app (tb_in tb_wsL_law_r23) (tb_app (tb_in tb_wsL_law_r24) (tb_app (tb_in tb_wsL_law_r25) (tb_app (tb_in tb_wsL_law_r26) (tb_app (tb_in tb_wsL_law_r27) (tb_app (tb_in tb_wsL_law_r28) (tb_app (tb_in tb_wsL_law_r29) (tb_app (tb_in tb_wsL_law_r30) (tb_app (tb_in tb_wsL_law_r31) (tb_app (tb_in tb_wsL_law_r32) (tb_app (tb_in tb_wsL_law_r33) (tb_app (tb_in tb_wsL_law_r34) (tb_app (tb_in tb_wsL_law_r35) (tb_app (tb_in tb_wsL_law_r36) (tb_app (tb_in tb_wsL_law_r37) (tb_in tb_wsL_law_r38)))))))))))))))))))))))))))))))))))))) (tb_in tb_wsX60)) (tb_in tb_wsX70)) (tb_in tb_wsX30)) (tb_in tb_wsX10)) (tb_in tb_wsX40)) (tb_in tb_wsX00)) (tb_in tb_wsX20)) (tb_in tb_wsX50)) (fun _ h => absurd h List.not_mem_nil))
