theorem lw_at {ws : List Cond} (ps : List Nat) (hp : ws = ps.filterMap (fun i => lw_tbl[i]?)) : ∀ w ∈ ws, w ∈ lw_tbl := by
  intro w hw
  rw [hp] at hw
  obtain ⟨i, -, hi⟩ := List.mem_filterMap.mp hw
  exact List.mem_of_getElem? hi
set_option maxRecDepth 20000 in
theorem lw_r_1 : ∀ w ∈ wsL_law_r1, w ∈ lw_tbl := lw_at [48, 49, 36, 749, 750, 46, 50, 51, 52, 53, 54, 55, 56, 57, 37, 306, 117, 118, 39, 307, 308, 179, 309, 154] (by decide +kernel)
set_option maxRecDepth 20000 in
theorem lw_r_2 : ∀ w ∈ wsL_law_r2, w ∈ lw_tbl := lw_at [155, 42, 310, 180, 124, 40, 311, 182, 183, 43, 312, 208, 209, 44, 313, 58, 59, 60, 61, 115, 79, 116, 80, 81] (by decide +kernel)
set_option maxRecDepth 20000 in
theorem lw_r_3 : ∀ w ∈ wsL_law_r3, w ∈ lw_tbl := lw_at [85, 62, 63, 64, 65, 86, 88, 91, 95, 84, 66, 67, 38, 68, 69, 71, 0, 72, 73, 74, 75, 76, 77, 78] (by decide +kernel)
set_option maxRecDepth 20000 in
theorem lw_r_4 : ∀ w ∈ wsL_law_r4, w ∈ lw_tbl := lw_at [120, 121, 122, 123, 140, 125, 126, 127, 128, 129, 130, 41, 131, 132, 157, 158, 159, 162, 163, 164, 160, 165, 161, 181] (by decide +kernel)
set_option maxRecDepth 20000 in
theorem lw_r_5 : ∀ w ∈ wsL_law_r5, w ∈ lw_tbl := lw_at [185, 186, 187, 188, 189, 190, 193, 194, 210, 211, 212, 213, 214, 258, 268, 216, 269, 271, 272, 274, 275, 217, 45, 219] (by decide +kernel)
set_option maxRecDepth 20000 in
theorem lw_r_6 : ∀ w ∈ wsL_law_r6, w ∈ lw_tbl := lw_at [220, 221, 751, 752, 753, 754, 757, 758, 759, 760, 767, 768, 769, 770, 771, 772, 773, 777, 778, 779, 780, 781, 783, 785] (by decide +kernel)
set_option maxRecDepth 20000 in
theorem lw_r_7 : ∀ w ∈ wsL_law_r7, w ∈ lw_tbl := lw_at [786, 787, 789, 790, 791, 792, 793, 794, 795, 796, 797, 798, 799, 804, 755, 805, 331, 332, 333, 334, 335, 336, 337, 338] (by decide +kernel)
set_option maxRecDepth 20000 in
theorem lw_r_8 : ∀ w ∈ wsL_law_r8, w ∈ lw_tbl := lw_at [339, 340, 341, 342, 191, 343, 344, 345, 346, 133, 347, 349, 1, 350, 351, 352, 353, 354, 355, 356, 357, 358, 142, 144] (by decide +kernel)
set_option maxRecDepth 20000 in
theorem lw_r_9 : ∀ w ∈ wsL_law_r9, w ∈ lw_tbl := lw_at [359, 907, 908, 909, 910, 756, 761, 762, 788, 784, 911, 913, 22, 914, 915, 917, 23, 918, 763, 764, 765, 766, 360, 361] (by decide +kernel)
set_option maxRecDepth 20000 in
theorem lw_r_10 : ∀ w ∈ wsL_law_r10, w ∈ lw_tbl := lw_at [362, 363, 364, 365, 366, 367, 368, 369, 370, 371, 372, 373, 374, 375, 376, 377, 378, 379, 380, 381, 382, 919, 920, 921] (by decide +kernel)
set_option maxRecDepth 20000 in
theorem lw_r_11 : ∀ w ∈ wsL_law_r11, w ∈ lw_tbl := lw_at [922, 923, 925, 24, 926, 383, 384, 385, 386, 387, 388, 389, 390, 927, 928, 929, 930, 391, 392, 393, 394, 931, 932, 933] (by decide +kernel)
set_option maxRecDepth 20000 in
theorem lw_r_12 : ∀ w ∈ wsL_law_r12, w ∈ lw_tbl := lw_at [934, 395, 396, 397, 398, 399, 400, 401, 402, 403, 404, 405, 406, 407, 408, 409, 410, 411, 412, 413, 414, 415, 416, 418] (by decide +kernel)
set_option maxRecDepth 20000 in
theorem lw_r_13 : ∀ w ∈ wsL_law_r13, w ∈ lw_tbl := lw_at [2, 419, 424, 429, 421, 422, 423, 426, 427, 428, 431, 432, 434, 3, 435, 436, 437, 438, 439, 440, 441, 41, 442, 443] (by decide +kernel)
set_option maxRecDepth 20000 in
theorem lw_r_14 : ∀ w ∈ wsL_law_r14, w ∈ lw_tbl := lw_at [444, 445, 446, 447, 448, 449, 450, 451, 935, 936, 937, 938, 774, 775, 776, 939, 941, 25, 942, 943, 945, 26, 946, 452] (by decide +kernel)
set_option maxRecDepth 20000 in
theorem lw_r_15 : ∀ w ∈ wsL_law_r15, w ∈ lw_tbl := lw_at [453, 454, 455, 456, 457, 458, 459, 460, 947, 948, 949, 950, 461, 462, 463, 464, 465, 466, 467, 468, 469, 470, 471, 472] (by decide +kernel)
set_option maxRecDepth 20000 in
theorem lw_r_16 : ∀ w ∈ wsL_law_r16, w ∈ lw_tbl := lw_at [473, 474, 475, 476, 477, 478, 479, 481, 480, 47, 951, 952, 953, 954, 482, 483, 484, 485, 955, 956, 957, 958, 486, 487] (by decide +kernel)
set_option maxRecDepth 20000 in
theorem lw_r_17 : ∀ w ∈ wsL_law_r17, w ∈ lw_tbl := lw_at [488, 489, 959, 960, 961, 962, 490, 491, 492, 493, 494, 495, 496, 497, 498, 167, 499, 500, 501, 503, 4, 504, 505, 507] (by decide +kernel)
set_option maxRecDepth 20000 in
theorem lw_r_18 : ∀ w ∈ wsL_law_r18, w ∈ lw_tbl := lw_at [5, 508, 509, 510, 511, 512, 514, 6, 515, 516, 517, 518, 519, 520, 963, 964, 965, 966, 782, 967, 969, 27, 970, 971] (by decide +kernel)
set_option maxRecDepth 20000 in
theorem lw_r_19 : ∀ w ∈ wsL_law_r19, w ∈ lw_tbl := lw_at [973, 28, 974, 521, 522, 523, 524, 525, 526, 527, 528, 975, 976, 977, 978, 529, 530, 531, 532, 979, 980, 981, 982, 533] (by decide +kernel)
set_option maxRecDepth 20000 in
theorem lw_r_20 : ∀ w ∈ wsL_law_r20, w ∈ lw_tbl := lw_at [534, 535, 536, 983, 984, 985, 986, 537, 538, 539, 540, 987, 988, 989, 990, 541, 542, 543, 544, 545, 546, 547, 548, 549] (by decide +kernel)
set_option maxRecDepth 20000 in
theorem lw_r_21 : ∀ w ∈ wsL_law_r21, w ∈ lw_tbl := lw_at [991, 992, 993, 994, 550, 551, 552, 553, 554, 555, 556, 557, 995, 996, 997, 998, 558, 559, 560, 561, 999, 1000, 1001, 1002] (by decide +kernel)
set_option maxRecDepth 20000 in
theorem lw_r_22 : ∀ w ∈ wsL_law_r22, w ∈ lw_tbl := lw_at [562, 563, 564, 565, 566, 567, 568, 569, 570, 571, 573, 7, 574, 575, 576, 577, 579, 8, 580, 581, 582, 583, 584, 585] (by decide +kernel)
set_option maxRecDepth 20000 in
theorem lw_r_23 : ∀ w ∈ wsL_law_r23, w ∈ lw_tbl := lw_at [587, 9, 588, 589, 590, 591, 593, 10, 594, 1003, 1004, 1005, 1006, 1011, 1007, 1009, 29, 1010, 595, 596, 597, 598, 599, 600] (by decide +kernel)
set_option maxRecDepth 20000 in
theorem lw_r_24 : ∀ w ∈ wsL_law_r24, w ∈ lw_tbl := lw_at [601, 602, 260, 603, 604, 605, 606, 607, 608, 609, 610, 611, 612, 613, 614, 615, 616, 617, 618, 619, 620, 621, 622, 222] (by decide +kernel)
set_option maxRecDepth 20000 in
theorem lw_r_25 : ∀ w ∈ wsL_law_r25, w ∈ lw_tbl := lw_at [224, 226, 227, 623, 624, 625, 626, 229, 231, 627, 628, 629, 630, 233, 235, 631, 632, 633, 634, 635, 636, 637, 638, 276] (by decide +kernel)
set_option maxRecDepth 20000 in
theorem lw_r_26 : ∀ w ∈ wsL_law_r26, w ∈ lw_tbl := lw_at [273, 1012, 1013, 1014, 1015, 800, 1016, 1017, 1018, 1019, 1020, 1021, 639, 640, 641, 642, 643, 644, 645, 646, 647, 1022, 1023, 1024] (by decide +kernel)
set_option maxRecDepth 20000 in
theorem lw_r_27 : ∀ w ∈ wsL_law_r27, w ∈ lw_tbl := lw_at [1025, 648, 649, 650, 651, 652, 1026, 1027, 1028, 1029, 801, 802, 653, 654, 655, 656, 1030, 1031, 1032, 1033, 803, 657, 658, 659] (by decide +kernel)
set_option maxRecDepth 20000 in
theorem lw_r_28 : ∀ w ∈ wsL_law_r28, w ∈ lw_tbl := lw_at [660, 661, 662, 663, 664, 665, 666, 667, 668, 669, 670, 672, 11, 673, 674, 675, 676, 677, 678, 679, 680, 237, 681, 683] (by decide +kernel)
set_option maxRecDepth 20000 in
theorem lw_r_29 : ∀ w ∈ wsL_law_r29, w ∈ lw_tbl := lw_at [12, 684, 262, 685, 687, 13, 688, 264, 1034, 1035, 1036, 1037, 1038, 1040, 30, 1041, 1042, 1044, 31, 1045, 689, 690, 691, 692] (by decide +kernel)
set_option maxRecDepth 20000 in
theorem lw_r_30 : ∀ w ∈ wsL_law_r30, w ∈ lw_tbl := lw_at [696, 693, 694, 695, 697, 698, 699, 700, 701, 703, 14, 704, 270, 266, 705, 707, 15, 708, 709, 711, 16, 712, 713, 715] (by decide +kernel)
set_option maxRecDepth 20000 in
theorem lw_r_31 : ∀ w ∈ wsL_law_r31, w ∈ lw_tbl := lw_at [17, 716, 717, 719, 18, 720, 725, 721, 723, 19, 724, 726, 728, 20, 729, 735, 730, 732, 21, 733, 734, 1046, 1047, 1048] (by decide +kernel)
set_option maxRecDepth 20000 in
theorem lw_r_32 : ∀ w ∈ wsL_law_r32, w ∈ lw_tbl := lw_at [1049, 1053, 1050, 1051, 1052, 1054, 1056, 32, 1057, 1067, 1058, 1060, 33, 1061, 1062, 1064, 34, 1065, 1066, 736, 737, 738, 739, 740] (by decide +kernel)
set_option maxRecDepth 20000 in
theorem lw_r_33 : ∀ w ∈ wsL_law_r33, w ∈ lw_tbl := lw_at [741, 742, 743, 744, 1068, 1069, 1070, 1071, 745, 746, 747, 748, 1072, 1073, 1074, 1075] (by decide +kernel)
set_option maxRecDepth 20000 in
theorem lw_x_0 : ∀ w ∈ wsX00, w ∈ lw_tbl := lw_at [96, 98, 100, 102, 104, 106, 108, 110, 112] (by decide +kernel)
set_option maxRecDepth 20000 in
theorem lw_x_1 : ∀ w ∈ wsX10, w ∈ lw_tbl := lw_at [239, 241, 243, 245, 247, 249, 251, 253, 255] (by decide +kernel)
set_option maxRecDepth 20000 in
theorem lw_x_2 : ∀ w ∈ wsX20, w ∈ lw_tbl := lw_at [277, 279, 281, 283, 285, 287, 289, 291, 293, 295, 297, 299, 301, 303] (by decide +kernel)
set_option maxRecDepth 20000 in
theorem lw_x_3 : ∀ w ∈ wsX30, w ∈ lw_tbl := lw_at [135, 137] (by decide +kernel)
set_option maxRecDepth 20000 in
theorem lw_x_4 : ∀ w ∈ wsX40, w ∈ lw_tbl := lw_at [146, 148, 150] (by decide +kernel)
set_option maxRecDepth 20000 in
theorem lw_x_5 : ∀ w ∈ wsX50, w ∈ lw_tbl := lw_at [168, 170, 172, 174, 176] (by decide +kernel)
set_option maxRecDepth 20000 in
theorem lw_x_6 : ∀ w ∈ wsX60, w ∈ lw_tbl := lw_at [195, 197, 199, 201, 203, 205] (by decide +kernel)
set_option maxRecDepth 20000 in
theorem lw_x_7 : ∀ w ∈ wsX70, w ∈ lw_tbl := lw_at [314, 316, 318, 320, 322, 324, 326, 328] (by decide +kernel)
set_option maxRecDepth 20000 in
theorem lw_x_8 : ∀ w ∈ wsX80, w ∈ lw_tbl := lw_at [806, 808, 810, 812, 814, 816, 818, 820, 822, 824, 826, 828, 830, 832, 834, 836, 838, 840, 842, 844, 846, 848, 850, 852, 854, 856, 858, 860, 862, 864, 866, 868, 870, 872, 874, 876, 878, 880, 882, 884, 886, 888, 890, 892, 894, 896, 898, 900, 902, 904] (by decide +kernel)
theorem wsL_law_in : ∀ w ∈ wsL_law, w ∈ lw_tbl := fun w h => (fun h => (List.mem_append.mp h).elim (fun h => (List.mem_append.mp h).elim (fun h => (List.mem_append.mp h).elim (fun h => (List.mem_append.mp h).elim (fun h => (List.mem_append.mp h).elim (fun h => (List.mem_append.mp h).elim (fun h => (List.mem_append.mp h).elim (fun h => (List.mem_append.mp h).elim (fun h => (List.mem_append.mp h).elim (fun h => (List.mem_append.mp h).elim (fun h => (List.mem_append.mp h).elim (lw_r_1 w) (fun h => (List.mem_append.mp h).elim (lw_r_2 w) (fun h => (List.mem_append.mp h).elim (lw_r_3 w) (fun h => (List.mem_append.mp h).elim (lw_r_4 w) (fun h => (List.mem_append.mp h).elim (lw_r_5 w) (fun h => (List.mem_append.mp h).elim (lw_r_6 w) (fun h => (List.mem_append.mp h).elim (lw_r_7 w) (fun h => (List.mem_append.mp h).elim (lw_r_8 w) (fun h => (List.mem_append.mp h).elim (lw_r_9 w) (fun h => (List.mem_append.mp h).elim (lw_r_10 w) (fun h => (List.mem_append.mp h).elim (lw_r_11 w) (fun h => (List.mem_append.mp h).elim (lw_r_12 w) (fun h => (List.mem_append.mp h).elim (lw_r_13 w) (fun h => (List.mem_append.mp h).elim (lw_r_14 w) (fun h => (List.mem_append.mp h).elim (lw_r_15 w) (fun h => (List.mem_append.mp h).elim (lw_r_16 w) (fun h => (List.mem_append.mp h).elim (lw_r_17 w) (fun h => (List.mem_append.mp h).elim (lw_r_18 w) (fun h => (List.mem_append.mp h).elim (lw_r_19 w) (fun h => (List.mem_append.mp h).elim (lw_r_20 w) (fun h => (List.mem_append.mp h).elim (lw_r_21 w) (fun h => (List.mem_append.mp h).elim (lw_r_22 w) (fun h => (List.mem_append.mp h).elim (lw_r_23 w) (fun h => (List.mem_append.mp h).elim (lw_r_24 w) (fun h => (List.mem_append.mp h).elim (lw_r_25 w) (fun h => (List.mem_append.mp h).elim (lw_r_26 w) (fun h => (List.mem_append.mp h).elim (lw_r_27 w) (fun h => (List.mem_append.mp h).elim (lw_r_28 w) (fun h => (List.mem_append.mp h).elim (lw_r_29 w) (fun h => (List.mem_append.mp h).elim (lw_r_30 w) (fun h => (List.mem_append.mp h).elim (lw_r_31 w) (fun h => (List.mem_append.mp h).elim (lw_r_32 w) (fun h => lw_r_33 w h))))))))))))))))))))))))))))))))) (lw_x_7 w)) (lw_x_8 w)) (lw_x_0 w)) (lw_x_4 w)) (lw_x_5 w)) (lw_x_3 w)) (lw_x_6 w)) (lw_x_2 w)) (lw_x_1 w)) (fun h => absurd h List.not_mem_nil)) h
