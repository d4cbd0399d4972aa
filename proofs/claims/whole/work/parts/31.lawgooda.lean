theorem inlX0 : ∀ w ∈ wsX00, w ∈ wsL_law := fun _ h => List.mem_append_left _ (List.mem_append_left _ (List.mem_append_left _ (List.mem_append_left _ (List.mem_append_left _ (List.mem_append_left _ (List.mem_append_left _ (List.mem_append_right _ h)))))))
theorem inlX1 : ∀ w ∈ wsX10, w ∈ wsL_law := fun _ h => List.mem_append_left _ (List.mem_append_right _ h)
theorem inlX2 : ∀ w ∈ wsX20, w ∈ wsL_law := fun _ h => List.mem_append_left _ (List.mem_append_left _ (List.mem_append_right _ h))
theorem inlX3 : ∀ w ∈ wsX30, w ∈ wsL_law := fun _ h => List.mem_append_left _ (List.mem_append_left _ (List.mem_append_left _ (List.mem_append_left _ (List.mem_append_right _ h))))
theorem inlX4 : ∀ w ∈ wsX40, w ∈ wsL_law := fun _ h => List.mem_append_left _ (List.mem_append_left _ (List.mem_append_left _ (List.mem_append_left _ (List.mem_append_left _ (List.mem_append_left _ (List.mem_append_right _ h))))))
theorem inlX5 : ∀ w ∈ wsX50, w ∈ wsL_law := fun _ h => List.mem_append_left _ (List.mem_append_left _ (List.mem_append_left _ (List.mem_append_left _ (List.mem_append_left _ (List.mem_append_right _ h)))))
theorem inlX6 : ∀ w ∈ wsX60, w ∈ wsL_law := fun _ h => List.mem_append_left _ (List.mem_append_left _ (List.mem_append_left _ (List.mem_append_right _ h)))
theorem inlX7 : ∀ w ∈ wsX70, w ∈ wsL_law := fun _ h => List.mem_append_left _ (List.mem_append_left _ (List.mem_append_left _ (List.mem_append_left _ (List.mem_append_left _ (List.mem_append_left _ (List.mem_append_left _ (List.mem_append_left _ (List.mem_append_left _ (List.mem_append_right _ h)))))))))
theorem inlX8 : ∀ w ∈ wsX80, w ∈ wsL_law := fun _ h => List.mem_append_left _ (List.mem_append_left _ (List.mem_append_left _ (List.mem_append_left _ (List.mem_append_left _ (List.mem_append_left _ (List.mem_append_left _ (List.mem_append_left _ (List.mem_append_right _ h))))))))
set_option maxRecDepth 20000 in
theorem ggL_law_X7_init : GoodIn wsL_law wsX7_init := goodIn_r _ [8, 9, 10, 11, 12, 13, 14, 15, 16, 17, 18, 19, 20, 21, 22, 23, 24, 25, 26, 27, 28, 29, 30, 31, 32, 33, 34, 35, 36, 37, 38, 39, 40, 41, 42, 43, 44, 45, 46, 47, 48, 49, 50, 51, 52, 53, 54, 55, 56, 57, 58, 59, 60, 61, 62, 63, 64, 65, 66, 67, 68, 69, 70, 71, 72, 73, 74, 75, 76, 77, 78, 79, 80, 81, 82, 83, 84, 85, 86, 87, 88, 89, 90, 91, 92, 93, 94, 95, 96, 97, 98, 99, 100, 101, 102, 103, 104, 105, 106, 107, 108, 109, 110, 111, 112, 113, 114, 115, 116, 117, 118, 119, 120, 121, 842, 843, 844, 845, 846, 847, 848, 849, 850, 784, 785, 786, 787, 788, 789, 790, 791, 851, 852, 853, 854, 855, 856, 857, 858, 859, 860, 861, 862, 863, 864, 865, 866, 867, 868, 869, 870, 871, 872, 873, 874, 875, 876, 877, 878, 879, 880, 881, 882, 883, 884, 885, 886, 887, 888, 889] (by decide +kernel) (by decide +kernel)
set_option maxRecDepth 20000 in
theorem gL_law_X7_init : GoodIn wsL_law (wsX7_init) := ggL_law_X7_init
set_option maxRecDepth 20000 in
theorem ggL_law_X8_init : GoodIn wsL_law wsX8_init := goodIn_r _ [124, 125, 10, 11, 126, 127, 43, 128, 129, 130, 21, 131, 132, 133, 134, 135, 136, 137, 138, 139, 140, 141, 142, 143, 144, 145, 146, 147, 148, 149, 150, 151, 152, 153, 154, 155, 156, 157, 158, 159, 792, 793, 794, 795, 796, 797, 798, 799, 800, 801, 802, 803, 804, 805, 806, 807, 808, 809, 810, 811, 812, 813, 814, 815, 816, 817, 818, 819, 820, 821, 822, 823, 824, 825, 826, 827, 828, 829, 830, 831, 832, 833, 834, 835, 836, 837, 838, 839, 840, 841] (by decide +kernel) (by decide +kernel)
set_option maxRecDepth 20000 in
theorem gL_law_X8_init : GoodIn wsL_law (wsX8_init) := ggL_law_X8_init
set_option maxRecDepth 20000 in
theorem ggL_law_X7_board : GoodIn wsL_law wsX7_board := goodIn_r _ [163, 15, 34, 30, 164, 165, 14, 166, 167, 50, 51, 52, 53, 54, 55, 56, 44, 46, 47, 57, 58, 59, 60, 61, 62, 63, 64, 65, 66, 67, 68, 69, 70, 71, 168, 169, 170, 33, 171, 172, 173, 174, 175, 29, 176, 177, 178, 179, 180, 2, 181, 22, 19, 182, 183, 184, 185, 186, 187, 188, 18, 189, 76, 190, 191, 192, 784, 785, 786, 787, 788, 789, 790, 791, 842, 843, 844, 845, 846, 847, 848, 849, 850, 861, 862, 863, 864, 865, 866, 859, 860, 851, 852, 853] (by decide +kernel) (by decide +kernel)
set_option maxRecDepth 20000 in
theorem gL_law_X7_board : GoodIn wsL_law (wsV RL 13 RX7 yX7_board wsX7_board) := goodIn_app (goodIn_of _ (by decide +kernel)) ggL_law_X7_board
set_option maxRecDepth 20000 in
theorem ggL_law_X8_board : GoodIn wsL_law wsX8_board := goodIn_r _ [196, 197, 126, 127, 128, 198, 199, 200, 201, 202, 203, 204, 5, 205, 131, 206, 207, 208, 209, 210, 211, 212, 213, 792, 793, 794, 795, 796, 797, 798, 799, 800, 801, 802, 803, 804, 805, 806, 807, 808, 809, 810, 811, 812, 813, 814, 815, 816, 817, 818, 819, 820, 821, 822, 823, 824, 825, 826, 827, 828, 829, 830, 831, 832, 833, 834, 835, 836, 837, 838, 839, 840, 841] (by decide +kernel) (by decide +kernel)
set_option maxRecDepth 20000 in
theorem gL_law_X8_board : GoodIn wsL_law (wsV RL 17 RX8 yX8_board wsX8_board) := goodIn_app (goodIn_of _ (by decide +kernel)) ggL_law_X8_board
set_option maxRecDepth 20000 in
theorem ggL_law_X7_cell : GoodIn wsL_law wsX7_cell := goodIn_r _ [217, 15, 218, 219, 220, 14, 221, 53, 54, 222, 223, 224, 225, 67, 68, 226, 227, 228, 229, 44, 46, 47, 57, 230, 231, 232, 233, 234, 235, 236, 178, 179, 180, 2, 181, 22, 19, 182, 183, 184, 185, 56, 186, 187, 188, 18, 189, 76, 190, 191, 192, 174, 175, 29, 176, 177, 784, 785, 786, 787, 788, 789, 790, 791, 842, 843, 844, 845, 846, 847, 848, 849, 850, 851, 852, 853, 859, 860] (by decide +kernel) (by decide +kernel)
set_option maxRecDepth 20000 in
theorem gL_law_X7_cell : GoodIn wsL_law (wsV RL 18 RX7 yX7_cell wsX7_cell) := goodIn_app (goodIn_of _ (by decide +kernel)) ggL_law_X7_cell
set_option maxRecDepth 20000 in
theorem ggL_law_X8_cell : GoodIn wsL_law wsX8_cell := goodIn_r _ [240, 197, 128, 241, 242, 243, 5, 244, 126, 127, 202, 203, 204, 205, 131, 206, 207, 208, 209, 199, 210, 211, 212, 213, 792, 793, 794, 795, 796, 797, 798, 799, 800, 801, 802, 803, 804, 805, 806, 807, 808, 809, 810, 811, 812, 813, 814, 815, 816, 817, 818, 819, 820, 821, 822, 823, 824, 825, 826, 827, 828, 829, 830, 831, 832, 833, 834, 835, 836, 837, 838, 839, 840, 841] (by decide +kernel) (by decide +kernel)
set_option maxRecDepth 20000 in
theorem gL_law_X8_cell : GoodIn wsL_law (wsV RL 22 RX8 yX8_cell wsX8_cell) := goodIn_app (goodIn_of _ (by decide +kernel)) ggL_law_X8_cell
set_option maxRecDepth 20000 in
theorem ggL_law_X7_foe : GoodIn wsL_law wsX7_foe := goodIn_r _ [248, 15, 218, 219, 220, 14, 221, 53, 54, 225, 67, 68, 249, 250, 251, 252, 55, 48, 178, 179, 180, 2, 181, 22, 19, 182, 183, 184, 185, 56, 186, 187, 188, 18, 189, 76, 190, 191, 192, 174, 175, 29, 176, 177, 784, 785, 786, 787, 788, 789, 790, 791, 842, 843, 844, 845, 846, 847, 848, 849, 850, 851, 852, 853, 859, 860] (by decide +kernel) (by decide +kernel)
set_option maxRecDepth 20000 in
theorem gL_law_X7_foe : GoodIn wsL_law (wsV RL 23 RX7 yX7_foe wsX7_foe) := goodIn_app (goodIn_of _ (by decide +kernel)) ggL_law_X7_foe
set_option maxRecDepth 20000 in
theorem ggL_law_X8_foe : GoodIn wsL_law wsX8_foe := goodIn_r _ [256, 197, 198, 129, 241, 242, 243, 5, 244, 126, 127, 202, 203, 204, 205, 131, 206, 207, 208, 209, 199, 210, 211, 212, 213, 792, 793, 794, 795, 796, 797, 798, 799, 800, 801, 802, 803, 804, 805, 806, 807, 808, 809, 810, 811, 812, 813, 814, 815, 816, 817, 818, 819, 820, 821, 822, 823, 824, 825, 826, 827, 828, 829, 830, 831, 832, 833, 834, 835, 836, 837, 838, 839, 840, 841] (by decide +kernel) (by decide +kernel)
set_option maxRecDepth 20000 in
theorem gL_law_X8_foe : GoodIn wsL_law (wsV RL 26 RX8 yX8_foe wsX8_foe) := goodIn_app (goodIn_of _ (by decide +kernel)) ggL_law_X8_foe
set_option maxRecDepth 20000 in
theorem ggL_law_X7_start : GoodIn wsL_law wsX7_start := goodIn_r _ [260, 15, 218, 219, 220, 14, 221, 53, 54, 225, 67, 68, 178, 179, 180, 2, 181, 22, 19, 182, 183, 184, 185, 56, 186, 187, 188, 18, 189, 76, 190, 191, 192, 174, 175, 29, 176, 177, 784, 785, 786, 787, 788, 789, 790, 791, 842, 843, 844, 845, 846, 847, 848, 849, 850, 851, 852, 853, 859, 860] (by decide +kernel) (by decide +kernel)
set_option maxRecDepth 20000 in
theorem gL_law_X7_start : GoodIn wsL_law (wsV RL 27 RX7 yX7_start wsX7_start) := goodIn_app (goodIn_of _ (by decide +kernel)) ggL_law_X7_start
set_option maxRecDepth 20000 in
theorem ggL_law_X8_start : GoodIn wsL_law wsX8_start := goodIn_r _ [264, 197, 199, 241, 242, 243, 5, 244, 126, 127, 202, 203, 204, 205, 131, 206, 207, 208, 209, 210, 211, 212, 213, 792, 793, 794, 795, 796, 797, 798, 799, 800, 801, 802, 803, 804, 805, 806, 807, 808, 809, 810, 811, 812, 813, 814, 815, 816, 817, 818, 819, 820, 821, 822, 823, 824, 825, 826, 827, 828, 829, 830, 831, 832, 833, 834, 835, 836, 837, 838, 839, 840, 841] (by decide +kernel) (by decide +kernel)
set_option maxRecDepth 20000 in
theorem gL_law_X8_start : GoodIn wsL_law (wsV RL 30 RX8 yX8_start wsX8_start) := goodIn_app (goodIn_of _ (by decide +kernel)) ggL_law_X8_start
set_option maxRecDepth 20000 in
theorem ggL_law_X7_press : GoodIn wsL_law wsX7_press := goodIn_r _ [268, 19, 15, 269, 270, 2, 271, 272, 273, 274, 29, 275, 177, 85, 276, 277, 278, 14, 279, 44, 280, 281, 282, 283, 284, 285, 286, 287, 288, 289, 290, 291, 292, 293, 294, 295, 296, 297, 298, 219, 220, 221, 53, 54, 66, 67, 68, 230, 231, 232, 299, 300, 301, 302, 55, 303, 304, 305, 306, 48, 307, 308, 309, 310, 311, 312, 313, 314, 315, 316, 317, 318, 319, 784, 785, 786, 787, 788, 789, 790, 791, 851, 852, 853, 859, 860, 842, 843, 844, 845, 846, 847, 848, 849, 850] (by decide +kernel) (by decide +kernel)
set_option maxRecDepth 20000 in
theorem gL_law_X7_press : GoodIn wsL_law (wsV RL 31 RX7 yX7_press wsX7_press) := goodIn_app (goodIn_of _ (by decide +kernel)) ggL_law_X7_press
set_option maxRecDepth 20000 in
theorem ggL_law_X8_press : GoodIn wsL_law wsX8_press := goodIn_r _ [323, 197, 213, 212, 210, 211, 130, 324, 325, 326, 327, 328, 329, 5, 330, 128, 241, 242, 243, 244, 126, 127, 331, 332, 333, 334, 198, 129, 792, 793, 794, 795, 796, 797, 798, 799, 800, 801, 802, 803, 804, 805, 806, 807, 808, 809, 810, 811, 812, 813, 814, 815, 816, 817, 818, 819, 820, 821, 822, 823, 824, 825, 826, 827, 828, 829, 830, 831, 832, 833, 834, 835, 836, 837, 838, 839, 840, 841] (by decide +kernel) (by decide +kernel)
set_option maxRecDepth 20000 in
theorem gL_law_X8_press : GoodIn wsL_law (wsV RL 35 RX8 yX8_press wsX8_press) := goodIn_app (goodIn_of _ (by decide +kernel)) ggL_law_X8_press
set_option maxRecDepth 20000 in
theorem ggL_law_X7_state : GoodIn wsL_law wsX7_state := goodIn_r _ [338, 19, 15, 339, 281, 14, 282, 340, 304, 305, 306, 55, 48, 307, 308, 309, 310, 341, 293, 294, 342, 296, 297, 343, 284, 285, 784, 785, 786, 787, 788, 789, 790, 791, 851, 852, 853, 859, 860, 842, 843, 844, 845, 846, 847, 848, 849, 850] (by decide +kernel) (by decide +kernel)
set_option maxRecDepth 20000 in
theorem gL_law_X7_state : GoodIn wsL_law (wsV RL 36 RX7 yX7_state wsX7_state) := goodIn_app (goodIn_of _ (by decide +kernel)) ggL_law_X7_state
set_option maxRecDepth 20000 in
theorem ggL_law_X8_state : GoodIn wsL_law wsX8_state := goodIn_r _ [347, 197, 212, 210, 211, 213, 331, 332, 333, 5, 334, 198, 129, 792, 793, 794, 795, 796, 797, 798, 799, 800, 801, 802, 803, 804, 805, 806, 807, 808, 809, 810, 811, 812, 813, 814, 815, 816, 817, 818, 819, 820, 821, 822, 823, 824, 825, 826, 827, 828, 829, 830, 831, 832, 833, 834, 835, 836, 837, 838, 839, 840, 841] (by decide +kernel) (by decide +kernel)
set_option maxRecDepth 20000 in
theorem gL_law_X8_state : GoodIn wsL_law (wsV RL 39 RX8 yX8_state wsX8_state) := goodIn_app (goodIn_of _ (by decide +kernel)) ggL_law_X8_state
set_option maxRecDepth 20000 in
theorem ggL_law_X7_save : GoodIn wsL_law wsX7_save := goodIn_r _ [351, 20, 19, 22, 352, 353, 2, 354, 355, 356, 357, 18, 358, 76, 190, 191, 359, 360, 361, 29, 362, 177, 85, 363, 364, 83, 365, 366, 367, 368, 369, 784, 785, 786, 787, 788, 789, 790, 791, 851, 852, 853, 859, 860] (by decide +kernel) (by decide +kernel)
set_option maxRecDepth 20000 in
theorem gL_law_X7_save : GoodIn wsL_law (wsV RL 40 RX7 yX7_save wsX7_save) := goodIn_app (goodIn_of _ (by decide +kernel)) ggL_law_X7_save
set_option maxRecDepth 20000 in
theorem ggL_law_X8_save : GoodIn wsL_law wsX8_save := goodIn_r _ [373, 197, 131, 132, 210, 133, 211, 134, 212, 135, 213, 136, 130, 792, 793, 794, 795, 796, 797, 798, 799, 800, 801, 802, 803, 804, 805, 806, 807, 808, 809, 810, 811, 812, 813, 814, 815, 816, 817, 818, 819, 820, 821, 822, 823, 824, 825, 826, 827, 828, 829, 830, 831, 832, 833, 834, 835, 836, 837, 838, 839, 840, 841] (by decide +kernel) (by decide +kernel)
set_option maxRecDepth 20000 in
theorem gL_law_X8_save : GoodIn wsL_law (wsV RL 44 RX8 yX8_save wsX8_save) := goodIn_app (goodIn_of _ (by decide +kernel)) ggL_law_X8_save
set_option maxRecDepth 20000 in
theorem ggL_law_X7_back : GoodIn wsL_law wsX7_back := goodIn_r _ [377, 22, 19, 20, 352, 353, 2, 354, 355, 356, 357, 18, 358, 76, 190, 191, 359, 360, 361, 29, 362, 177, 85, 363, 364, 83, 365, 366, 367, 368, 369, 784, 785, 786, 787, 788, 789, 790, 791, 851, 852, 853, 859, 860] (by decide +kernel) (by decide +kernel)
set_option maxRecDepth 20000 in
theorem gL_law_X7_back : GoodIn wsL_law (wsV RL 45 RX7 yX7_back wsX7_back) := goodIn_app (goodIn_of _ (by decide +kernel)) ggL_law_X7_back
set_option maxRecDepth 20000 in
theorem ggL_law_X8_back : GoodIn wsL_law wsX8_back := goodIn_r _ [381, 197, 131, 132, 210, 133, 211, 134, 212, 135, 213, 130, 136, 792, 793, 794, 795, 796, 797, 798, 799, 800, 801, 802, 803, 804, 805, 806, 807, 808, 809, 810, 811, 812, 813, 814, 815, 816, 817, 818, 819, 820, 821, 822, 823, 824, 825, 826, 827, 828, 829, 830, 831, 832, 833, 834, 835, 836, 837, 838, 839, 840, 841] (by decide +kernel) (by decide +kernel)
set_option maxRecDepth 20000 in
theorem gL_law_X8_back : GoodIn wsL_law (wsV RL 48 RX8 yX8_back wsX8_back) := goodIn_app (goodIn_of _ (by decide +kernel)) ggL_law_X8_back
set_option maxRecDepth 20000 in
theorem ggL_law_X7_begin : GoodIn wsL_law wsX7_begin := goodIn_r _ [385, 19, 15, 182, 183, 184, 14, 185, 56, 186, 187, 188, 18, 189, 76, 190, 191, 192, 174, 175, 29, 176, 177, 784, 785, 786, 787, 788, 789, 790, 791, 842, 843, 844, 845, 846, 847, 848, 849, 850, 851, 852, 853, 859, 860] (by decide +kernel) (by decide +kernel)
set_option maxRecDepth 20000 in
theorem gL_law_X7_begin : GoodIn wsL_law (wsV RL 49 RX7 yX7_begin wsX7_begin) := goodIn_app (goodIn_of _ (by decide +kernel)) ggL_law_X7_begin
set_option maxRecDepth 20000 in
theorem ggL_law_X8_begin : GoodIn wsL_law wsX8_begin := goodIn_r _ [389, 197, 206, 207, 208, 5, 209, 199, 210, 211, 212, 213, 792, 793, 794, 795, 796, 797, 798, 799, 800, 801, 802, 803, 804, 805, 806, 807, 808, 809, 810, 811, 812, 813, 814, 815, 816, 817, 818, 819, 820, 821, 822, 823, 824, 825, 826, 827, 828, 829, 830, 831, 832, 833, 834, 835, 836, 837, 838, 839, 840, 841] (by decide +kernel) (by decide +kernel)
set_option maxRecDepth 20000 in
theorem gL_law_X8_begin : GoodIn wsL_law (wsV RL 52 RX8 yX8_begin wsX8_begin) := goodIn_app (goodIn_of _ (by decide +kernel)) ggL_law_X8_begin
set_option maxRecDepth 20000 in
theorem ggL_law_X7_least : GoodIn wsL_law wsX7_least := goodIn_r _ [393, 26, 19, 15, 173, 174, 175, 29, 176, 177, 394, 395, 396, 25, 397, 398, 82, 83, 84, 90, 399, 89, 400, 59, 60, 61, 401, 308, 309, 310, 402, 403, 404, 405, 91, 406, 407, 408, 409, 410, 277, 278, 14, 279, 44, 280, 281, 282, 283, 284, 285, 286, 287, 288, 289, 290, 291, 270, 2, 271, 292, 293, 294, 295, 296, 297, 298, 219, 220, 221, 53, 54, 66, 67, 68, 230, 231, 232, 299, 300, 301, 302, 55, 303, 304, 305, 306, 48, 307, 311, 312, 313, 411, 318, 319, 412, 315, 316, 413, 414, 415, 416, 93, 417, 273, 274, 275, 85, 418, 419, 420, 421, 784, 785, 786, 787, 788, 789, 790, 791, 854, 855, 856, 857, 858, 851, 852, 853, 859, 860, 842, 843, 844, 845, 846, 847, 848, 849, 850] (by decide +kernel) (by decide +kernel)
set_option maxRecDepth 20000 in
theorem gL_law_X7_least : GoodIn wsL_law (wsV RL 53 RX7 yX7_least wsX7_least) := goodIn_app (goodIn_of _ (by decide +kernel)) ggL_law_X7_least
set_option maxRecDepth 20000 in
theorem ggL_law_X8_least : GoodIn wsL_law wsX8_least := goodIn_r _ [425, 197, 426, 213, 140, 137, 210, 211, 212, 138, 326, 324, 325, 139, 427, 428, 429, 5, 430, 198, 327, 328, 329, 330, 128, 241, 242, 243, 244, 126, 127, 331, 332, 333, 334, 129, 431, 432, 433, 434, 141, 792, 793, 794, 795, 796, 797, 798, 799, 800, 801, 802, 803, 804, 805, 806, 807, 808, 809, 810, 811, 812, 813, 814, 815, 816, 817, 818, 819, 820, 821, 822, 823, 824, 825, 826, 827, 828, 829, 830, 831, 832, 833, 834, 835, 836, 837, 838, 839, 840, 841] (by decide +kernel) (by decide +kernel)
set_option maxRecDepth 20000 in
theorem gL_law_X8_least : GoodIn wsL_law (wsV RL 57 RX8 yX8_least wsX8_least) := goodIn_app (goodIn_of _ (by decide +kernel)) ggL_law_X8_least
set_option maxRecDepth 20000 in
theorem ggL_law_X7_best : GoodIn wsL_law wsX7_best := goodIn_r _ [438, 26, 439, 440, 441, 29, 442, 177, 85, 784, 785, 786, 787, 788, 789, 790, 791, 854, 855, 856, 857, 858, 859, 860] (by decide +kernel) (by decide +kernel)
set_option maxRecDepth 20000 in
theorem gL_law_X7_best : GoodIn wsL_law (wsV RL 58 RX7 yX7_best wsX7_best) := goodIn_app (goodIn_of _ (by decide +kernel)) ggL_law_X7_best
set_option maxRecDepth 20000 in
theorem ggL_law_X8_best : GoodIn wsL_law wsX8_best := goodIn_r _ [446, 197, 426, 141, 792, 793, 794, 795, 796, 797, 798, 799, 800, 801, 802, 803, 804, 805, 806, 807, 808, 809, 810, 811, 812, 813, 814, 815, 816, 817, 818, 819, 820, 821, 822, 823, 824, 825, 826, 827, 828, 829, 830, 831, 832, 833, 834, 835, 836, 837, 838, 839, 840, 841] (by decide +kernel) (by decide +kernel)
set_option maxRecDepth 20000 in
theorem gL_law_X8_best : GoodIn wsL_law (wsV RL 61 RX8 yX8_best wsX8_best) := goodIn_app (goodIn_of _ (by decide +kernel)) ggL_law_X8_best
set_option maxRecDepth 20000 in
theorem ggL_law_X7_claim : GoodIn wsL_law wsX7_claim := goodIn_r _ [450, 30, 269, 270, 2, 271, 272, 273, 274, 29, 275, 177, 85, 784, 785, 786, 787, 788, 789, 790, 791, 859, 860] (by decide +kernel) (by decide +kernel)
set_option maxRecDepth 20000 in
theorem gL_law_X7_claim : GoodIn wsL_law (wsV RL 62 RX7 yX7_claim wsX7_claim) := goodIn_app (goodIn_of _ (by decide +kernel)) ggL_law_X7_claim
set_option maxRecDepth 20000 in
theorem ggL_law_X8_claim : GoodIn wsL_law wsX8_claim := goodIn_r _ [454, 197, 201, 142, 792, 793, 794, 795, 796, 797, 798, 799, 800, 801, 802, 803, 804, 805, 806, 807, 808, 809, 810, 811, 812, 813, 814, 815, 816, 817, 818, 819, 820, 821, 822, 823, 824, 825, 826, 827, 828, 829, 830, 831, 832, 833, 834, 835, 836, 837, 838, 839, 840, 841] (by decide +kernel) (by decide +kernel)
set_option maxRecDepth 20000 in
theorem gL_law_X8_claim : GoodIn wsL_law (wsV RL 65 RX8 yX8_claim wsX8_claim) := goodIn_app (goodIn_of _ (by decide +kernel)) ggL_law_X8_claim
