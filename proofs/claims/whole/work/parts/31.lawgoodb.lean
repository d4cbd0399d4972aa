set_option maxRecDepth 20000 in
theorem ggL_law_X7_unclaim : GoodIn wsL_law wsX7_unclaim := goodIn_r _ [458, 30, 173, 174, 175, 29, 176, 177, 784, 785, 786, 787, 788, 789, 790, 791, 859, 860] (by decide +kernel) (by decide +kernel)
set_option maxRecDepth 20000 in
theorem gL_law_X7_unclaim : GoodIn wsL_law (wsV RL 66 RX7 yX7_unclaim wsX7_unclaim) := goodIn_app (goodIn_of _ (by decide +kernel)) ggL_law_X7_unclaim
set_option maxRecDepth 20000 in
theorem ggL_law_X8_unclaim : GoodIn wsL_law wsX8_unclaim := goodIn_r _ [462, 197, 201, 792, 793, 794, 795, 796, 797, 798, 799, 800, 801, 802, 803, 804, 805, 806, 807, 808, 809, 810, 811, 812, 813, 814, 815, 816, 817, 818, 819, 820, 821, 822, 823, 824, 825, 826, 827, 828, 829, 830, 831, 832, 833, 834, 835, 836, 837, 838, 839, 840, 841] (by decide +kernel) (by decide +kernel)
set_option maxRecDepth 20000 in
theorem gL_law_X8_unclaim : GoodIn wsL_law (wsV RL 69 RX8 yX8_unclaim wsX8_unclaim) := goodIn_app (goodIn_of _ (by decide +kernel)) ggL_law_X8_unclaim
set_option maxRecDepth 20000 in
theorem ggL_law_X7_prove : GoodIn wsL_law wsX7_prove := goodIn_r _ [466, 15, 30, 182, 183, 184, 14, 185, 56, 439, 440, 441, 29, 442, 177, 85, 276, 277, 278, 279, 44, 280, 281, 282, 283, 284, 285, 286, 287, 288, 289, 290, 291, 270, 2, 271, 292, 293, 294, 295, 296, 297, 298, 219, 220, 221, 53, 54, 66, 67, 68, 230, 231, 232, 299, 300, 301, 302, 55, 303, 304, 305, 306, 48, 307, 308, 309, 310, 311, 312, 313, 317, 318, 319, 314, 315, 316, 784, 785, 786, 787, 788, 789, 790, 791, 859, 860, 842, 843, 844, 845, 846, 847, 848, 849, 850] (by decide +kernel) (by decide +kernel)
set_option maxRecDepth 20000 in
theorem gL_law_X7_prove : GoodIn wsL_law (wsV RL 70 RX7 yX7_prove wsX7_prove) := goodIn_app (goodIn_of _ (by decide +kernel)) ggL_law_X7_prove
set_option maxRecDepth 20000 in
theorem ggL_law_X8_prove : GoodIn wsL_law wsX8_prove := goodIn_r _ [470, 197, 199, 201, 142, 324, 325, 326, 327, 328, 329, 5, 330, 128, 241, 242, 243, 244, 126, 127, 331, 332, 333, 334, 198, 129, 792, 793, 794, 795, 796, 797, 798, 799, 800, 801, 802, 803, 804, 805, 806, 807, 808, 809, 810, 811, 812, 813, 814, 815, 816, 817, 818, 819, 820, 821, 822, 823, 824, 825, 826, 827, 828, 829, 830, 831, 832, 833, 834, 835, 836, 837, 838, 839, 840, 841] (by decide +kernel) (by decide +kernel)
set_option maxRecDepth 20000 in
theorem gL_law_X8_prove : GoodIn wsL_law (wsV RL 73 RX8 yX8_prove wsX8_prove) := goodIn_app (goodIn_of _ (by decide +kernel)) ggL_law_X8_prove
set_option maxRecDepth 20000 in
theorem ggL_law_X7_differs : GoodIn wsL_law wsX7_differs := goodIn_r _ [474, 30, 19, 475, 476, 477, 29, 478, 177, 81, 82, 83, 84, 479, 440, 441, 442, 85, 784, 785, 786, 787, 788, 789, 790, 791, 851, 852, 853, 859, 860] (by decide +kernel) (by decide +kernel)
set_option maxRecDepth 20000 in
theorem gL_law_X7_differs : GoodIn wsL_law (wsV RL 74 RX7 yX7_differs wsX7_differs) := goodIn_app (goodIn_of _ (by decide +kernel)) ggL_law_X7_differs
set_option maxRecDepth 20000 in
theorem ggL_law_X8_differs : GoodIn wsL_law wsX8_differs := goodIn_r _ [483, 197, 201, 212, 142, 130, 792, 793, 794, 795, 796, 797, 798, 799, 800, 801, 802, 803, 804, 805, 806, 807, 808, 809, 810, 811, 812, 813, 814, 815, 816, 817, 818, 819, 820, 821, 822, 823, 824, 825, 826, 827, 828, 829, 830, 831, 832, 833, 834, 835, 836, 837, 838, 839, 840, 841] (by decide +kernel) (by decide +kernel)
set_option maxRecDepth 20000 in
theorem gL_law_X8_differs : GoodIn wsL_law (wsV RL 77 RX8 yX8_differs wsX8_differs) := goodIn_app (goodIn_of _ (by decide +kernel)) ggL_law_X8_differs
set_option maxRecDepth 20000 in
theorem ggL_law_X7_split : GoodIn wsL_law wsX7_split := goodIn_r _ [487, 15, 34, 218, 219, 220, 14, 221, 53, 54, 225, 67, 68, 488, 489, 490, 33, 491, 172, 99, 100, 101, 784, 785, 786, 787, 788, 789, 790, 791, 861, 862, 863, 864, 865, 866, 842, 843, 844, 845, 846, 847, 848, 849, 850] (by decide +kernel) (by decide +kernel)
set_option maxRecDepth 20000 in
theorem gL_law_X7_split : GoodIn wsL_law (wsV RL 78 RX7 yX7_split wsX7_split) := goodIn_app (goodIn_of _ (by decide +kernel)) ggL_law_X7_split
set_option maxRecDepth 20000 in
theorem ggL_law_X8_split : GoodIn wsL_law wsX8_split := goodIn_r _ [495, 197, 200, 143, 144, 145, 241, 242, 243, 5, 244, 126, 127, 792, 793, 794, 795, 796, 797, 798, 799, 800, 801, 802, 803, 804, 805, 806, 807, 808, 809, 810, 811, 812, 813, 814, 815, 816, 817, 818, 819, 820, 821, 822, 823, 824, 825, 826, 827, 828, 829, 830, 831, 832, 833, 834, 835, 836, 837, 838, 839, 840, 841] (by decide +kernel) (by decide +kernel)
set_option maxRecDepth 20000 in
theorem gL_law_X8_split : GoodIn wsL_law (wsV RL 82 RX8 yX8_split wsX8_split) := goodIn_app (goodIn_of _ (by decide +kernel)) ggL_law_X8_split
set_option maxRecDepth 20000 in
theorem ggL_law_X7_unsplit : GoodIn wsL_law wsX7_unsplit := goodIn_r _ [499, 34, 168, 169, 170, 33, 171, 172, 784, 785, 786, 787, 788, 789, 790, 791, 861, 862, 863, 864, 865, 866] (by decide +kernel) (by decide +kernel)
set_option maxRecDepth 20000 in
theorem gL_law_X7_unsplit : GoodIn wsL_law (wsV RL 83 RX7 yX7_unsplit wsX7_unsplit) := goodIn_app (goodIn_of _ (by decide +kernel)) ggL_law_X7_unsplit
set_option maxRecDepth 20000 in
theorem ggL_law_X8_unsplit : GoodIn wsL_law wsX8_unsplit := goodIn_r _ [503, 197, 200, 792, 793, 794, 795, 796, 797, 798, 799, 800, 801, 802, 803, 804, 805, 806, 807, 808, 809, 810, 811, 812, 813, 814, 815, 816, 817, 818, 819, 820, 821, 822, 823, 824, 825, 826, 827, 828, 829, 830, 831, 832, 833, 834, 835, 836, 837, 838, 839, 840, 841] (by decide +kernel) (by decide +kernel)
set_option maxRecDepth 20000 in
theorem gL_law_X8_unsplit : GoodIn wsL_law (wsV RL 86 RX8 yX8_unsplit wsX8_unsplit) := goodIn_app (goodIn_of _ (by decide +kernel)) ggL_law_X8_unsplit
set_option maxRecDepth 20000 in
theorem ggL_law_X7_could : GoodIn wsL_law wsX7_could := goodIn_r _ [507, 34, 15, 508, 509, 510, 33, 511, 103, 172, 102, 512, 70, 60, 71, 513, 514, 515, 516, 100, 101, 99, 517, 518, 82, 83, 84, 519, 520, 521, 522, 523, 524, 525, 14, 526, 55, 236, 527, 528, 529, 530, 531, 532, 46, 303, 304, 305, 306, 48, 307, 308, 309, 310, 533, 534, 535, 536, 784, 785, 786, 787, 788, 789, 790, 791, 861, 862, 863, 864, 865, 866, 842, 843, 844, 845, 846, 847, 848, 849, 850] (by decide +kernel) (by decide +kernel)
set_option maxRecDepth 20000 in
theorem gL_law_X7_could : GoodIn wsL_law (wsV RL 87 RX7 yX7_could wsX7_could) := goodIn_app (goodIn_of _ (by decide +kernel)) ggL_law_X7_could
set_option maxRecDepth 20000 in
theorem ggL_law_X8_could : GoodIn wsL_law wsX8_could := goodIn_r _ [540, 197, 146, 199, 147, 326, 324, 541, 82, 83, 84, 325, 542, 543, 544, 5, 545, 200, 143, 144, 145, 327, 328, 329, 330, 128, 241, 242, 243, 244, 126, 127, 331, 332, 333, 334, 198, 129, 792, 793, 794, 795, 796, 797, 798, 799, 800, 801, 802, 803, 804, 805, 806, 807, 808, 809, 810, 811, 812, 813, 814, 815, 816, 817, 818, 819, 820, 821, 822, 823, 824, 825, 826, 827, 828, 829, 830, 831, 832, 833, 834, 835, 836, 837, 838, 839, 840, 841] (by decide +kernel) (by decide +kernel)
set_option maxRecDepth 20000 in
theorem gL_law_X8_could : GoodIn wsL_law (wsV RL 90 RX8 yX8_could wsX8_could) := goodIn_app (goodIn_of _ (by decide +kernel)) ggL_law_X8_could
set_option maxRecDepth 20000 in
theorem ggL_law_X7_road : GoodIn wsL_law wsX7_road := goodIn_r _ [549, 38, 550, 551, 552, 37, 553, 554, 555, 556, 557, 558, 559, 560, 561, 562, 563, 564, 565, 566, 567, 568, 569, 570, 571, 572, 573, 118, 574, 575, 576, 577, 578, 579, 580, 581, 582, 583, 584, 585, 586, 587, 588, 589, 590, 591, 592, 593, 594, 595, 596, 597, 598, 599, 600, 114, 113, 784, 785, 786, 787, 788, 789, 790, 791, 867, 868, 869, 870, 871, 872, 873, 874, 875, 876, 877, 878, 879, 880, 881, 882, 883, 884, 885, 886, 887, 888, 889] (by decide +kernel) (by decide +kernel)
set_option maxRecDepth 20000 in
theorem gL_law_X7_road : GoodIn wsL_law (wsV RL 91 RX7 yX7_road wsX7_road) := goodIn_app (goodIn_of _ (by decide +kernel)) ggL_law_X7_road
set_option maxRecDepth 20000 in
theorem ggL_law_X8_road : GoodIn wsL_law wsX8_road := goodIn_r _ [604, 197, 605, 148, 149, 150, 151, 152, 153, 154, 155, 156, 606, 607, 5, 608, 609, 610, 611, 792, 793, 794, 795, 796, 797, 798, 799, 800, 801, 802, 803, 804, 805, 806, 807, 808, 809, 810, 811, 812, 813, 814, 815, 816, 817, 818, 819, 820, 821, 822, 823, 824, 825, 826, 827, 828, 829, 830, 831, 832, 833, 834, 835, 836, 837, 838, 839, 840, 841] (by decide +kernel) (by decide +kernel)
set_option maxRecDepth 20000 in
theorem gL_law_X8_road : GoodIn wsL_law (wsV RL 95 RX8 yX8_road wsX8_road) := goodIn_app (goodIn_of _ (by decide +kernel)) ggL_law_X8_road
set_option maxRecDepth 20000 in
theorem ggL_law_X7_bar : GoodIn wsL_law wsX7_bar := goodIn_r _ [615, 38, 616, 617, 618, 37, 619, 554, 620, 596, 597, 598, 599, 600, 114, 113, 784, 785, 786, 787, 788, 789, 790, 791, 867, 868, 869, 870, 871, 872, 873, 874, 875, 876, 877, 878, 879, 880, 881, 882, 883, 884, 885, 886, 887, 888, 889] (by decide +kernel) (by decide +kernel)
set_option maxRecDepth 20000 in
theorem gL_law_X7_bar : GoodIn wsL_law (wsV RL 96 RX7 yX7_bar wsX7_bar) := goodIn_app (goodIn_of _ (by decide +kernel)) ggL_law_X7_bar
set_option maxRecDepth 20000 in
theorem ggL_law_X8_bar : GoodIn wsL_law wsX8_bar := goodIn_r _ [624, 197, 605, 156, 792, 793, 794, 795, 796, 797, 798, 799, 800, 801, 802, 803, 804, 805, 806, 807, 808, 809, 810, 811, 812, 813, 814, 815, 816, 817, 818, 819, 820, 821, 822, 823, 824, 825, 826, 827, 828, 829, 830, 831, 832, 833, 834, 835, 836, 837, 838, 839, 840, 841] (by decide +kernel) (by decide +kernel)
set_option maxRecDepth 20000 in
theorem gL_law_X8_bar : GoodIn wsL_law (wsV RL 100 RX8 yX8_bar wsX8_bar) := goodIn_app (goodIn_of _ (by decide +kernel)) ggL_law_X8_bar
set_option maxRecDepth 20000 in
theorem ggL_law_X7_goal : GoodIn wsL_law wsX7_goal := goodIn_r _ [628, 38, 570, 559, 37, 560, 629, 562, 563, 620, 596, 597, 598, 599, 600, 114, 113, 784, 785, 786, 787, 788, 789, 790, 791, 867, 868, 869, 870, 871, 872, 873, 874, 875, 876, 877, 878, 879, 880] (by decide +kernel) (by decide +kernel)
set_option maxRecDepth 20000 in
theorem gL_law_X7_goal : GoodIn wsL_law (wsV RL 101 RX7 yX7_goal wsX7_goal) := goodIn_app (goodIn_of _ (by decide +kernel)) ggL_law_X7_goal
set_option maxRecDepth 20000 in
theorem ggL_law_X8_goal : GoodIn wsL_law wsX8_goal := goodIn_r _ [633, 197, 634, 635, 606, 607, 5, 608, 609, 610, 611, 792, 793, 794, 795, 796, 797, 798, 799, 800, 801, 802, 803, 804, 805, 806, 807, 808, 809, 810, 811, 812, 813, 814, 815, 816, 817, 818, 819, 820, 821, 822, 823, 824, 825, 826, 827, 828, 829, 830, 831, 832, 833, 834, 835, 836, 837, 838, 839, 840, 841] (by decide +kernel) (by decide +kernel)
set_option maxRecDepth 20000 in
theorem gL_law_X8_goal : GoodIn wsL_law (wsV RL 104 RX8 yX8_goal wsX8_goal) := goodIn_app (goodIn_of _ (by decide +kernel)) ggL_law_X8_goal
set_option maxRecDepth 20000 in
theorem ggL_law_X7_anew : GoodIn wsL_law wsX7_anew := goodIn_r _ [639, 38, 564, 565, 37, 566, 620, 596, 597, 598, 599, 600, 114, 113, 784, 785, 786, 787, 788, 789, 790, 791, 867, 868, 869, 870, 871, 872, 873, 874, 875, 876, 877, 878, 879, 880] (by decide +kernel) (by decide +kernel)
set_option maxRecDepth 20000 in
theorem gL_law_X7_anew : GoodIn wsL_law (wsV RL 105 RX7 yX7_anew wsX7_anew) := goodIn_app (goodIn_of _ (by decide +kernel)) ggL_law_X7_anew
set_option maxRecDepth 20000 in
theorem ggL_law_X8_anew : GoodIn wsL_law wsX8_anew := goodIn_r _ [643, 197, 644, 792, 793, 794, 795, 796, 797, 798, 799, 800, 801, 802, 803, 804, 805, 806, 807, 808, 809, 810, 811, 812, 813, 814, 815, 816, 817, 818, 819, 820, 821, 822, 823, 824, 825, 826, 827, 828, 829, 830, 831, 832, 833, 834, 835, 836, 837, 838, 839, 840, 841] (by decide +kernel) (by decide +kernel)
set_option maxRecDepth 20000 in
theorem gL_law_X8_anew : GoodIn wsL_law (wsV RL 108 RX8 yX8_anew wsX8_anew) := goodIn_app (goodIn_of _ (by decide +kernel)) ggL_law_X8_anew
set_option maxRecDepth 20000 in
theorem ggL_law_X7_sure : GoodIn wsL_law wsX7_sure := goodIn_r _ [648, 38, 649, 650, 651, 37, 652, 110, 554, 109, 653, 59, 60, 61, 654, 655, 656, 118, 657, 584, 658, 659, 660, 661, 662, 663, 664, 665, 666, 667, 668, 669, 575, 577, 670, 671, 672, 673, 674, 675, 676, 677, 678, 679, 784, 785, 786, 787, 788, 789, 790, 791, 867, 868, 869, 870, 871, 872, 873, 874, 875, 876, 877, 878, 879, 880, 881, 882, 883, 884, 885, 886, 887, 888, 889] (by decide +kernel) (by decide +kernel)
set_option maxRecDepth 20000 in
theorem gL_law_X7_sure : GoodIn wsL_law (wsV RL 109 RX7 yX7_sure wsX7_sure) := goodIn_app (goodIn_of _ (by decide +kernel)) ggL_law_X7_sure
set_option maxRecDepth 20000 in
theorem ggL_law_X8_sure : GoodIn wsL_law wsX8_sure := goodIn_r _ [683, 197, 157, 605, 153, 149, 151, 152, 684, 685, 686, 5, 687, 156, 148, 150, 688, 689, 690, 691, 634, 635, 792, 793, 794, 795, 796, 797, 798, 799, 800, 801, 802, 803, 804, 805, 806, 807, 808, 809, 810, 811, 812, 813, 814, 815, 816, 817, 818, 819, 820, 821, 822, 823, 824, 825, 826, 827, 828, 829, 830, 831, 832, 833, 834, 835, 836, 837, 838, 839, 840, 841] (by decide +kernel) (by decide +kernel)
set_option maxRecDepth 20000 in
theorem gL_law_X8_sure : GoodIn wsL_law (wsV RL 112 RX8 yX8_sure wsX8_sure) := goodIn_app (goodIn_of _ (by decide +kernel)) ggL_law_X8_sure
set_option maxRecDepth 20000 in
theorem ggL_law_X7_chance : GoodIn wsL_law wsX7_chance := goodIn_r _ [695, 696, 38, 697, 698, 37, 699, 558, 559, 560, 561, 562, 563, 700, 701, 702, 703, 662, 663, 664, 704, 705, 706, 707, 114, 708, 600, 709, 113, 710, 711, 712, 713, 714, 715, 716, 717, 554, 109, 599, 115, 116, 675, 676, 677, 678, 674, 679, 665, 666, 667, 118, 668, 669, 575, 577, 654, 655, 656, 657, 584, 718, 719, 720, 721, 722, 723, 724, 725, 112, 726, 727, 728, 729, 730, 731, 732, 733, 734, 735, 82, 83, 84, 736, 737, 738, 739, 740, 784, 785, 786, 787, 788, 789, 790, 791, 867, 868, 869, 870, 871, 872, 873, 874, 875, 876, 877, 878, 879, 880, 881, 882, 883, 884, 885, 886, 887, 888, 889] (by decide +kernel) (by decide +kernel)
set_option maxRecDepth 20000 in
theorem gL_law_X7_chance : GoodIn wsL_law (wsV RL 113 RX7 yX7_chance wsX7_chance) := goodIn_app (goodIn_of _ (by decide +kernel)) ggL_law_X7_chance
set_option maxRecDepth 20000 in
theorem ggL_law_X8_chance : GoodIn wsL_law wsX8_chance := goodIn_r _ [744, 197, 745, 746, 747, 5, 748, 606, 607, 608, 609, 610, 611, 749, 750, 751, 752, 644, 605, 541, 82, 83, 84, 159, 753, 754, 755, 756, 757, 684, 685, 686, 687, 156, 148, 150, 758, 759, 760, 761, 152, 149, 151, 153, 155, 154, 762, 688, 689, 690, 691, 634, 635, 792, 793, 794, 795, 796, 797, 798, 799, 800, 801, 802, 803, 804, 805, 806, 807, 808, 809, 810, 811, 812, 813, 814, 815, 816, 817, 818, 819, 820, 821, 822, 823, 824, 825, 826, 827, 828, 829, 830, 831, 832, 833, 834, 835, 836, 837, 838, 839, 840, 841] (by decide +kernel) (by decide +kernel)
set_option maxRecDepth 20000 in
theorem gL_law_X8_chance : GoodIn wsL_law (wsV RL 117 RX8 yX8_chance wsX8_chance) := goodIn_app (goodIn_of _ (by decide +kernel)) ggL_law_X8_chance
set_option maxRecDepth 20000 in
theorem ggL_law_X7_choice : GoodIn wsL_law wsX7_choice := goodIn_r _ [766, 38, 697, 698, 37, 699, 558, 559, 560, 561, 562, 563, 767, 768, 769, 770, 554, 109, 771, 701, 702, 703, 662, 663, 664, 704, 705, 706, 707, 114, 708, 600, 709, 113, 710, 711, 712, 713, 714, 715, 716, 717, 599, 115, 116, 675, 676, 677, 678, 674, 679, 665, 666, 667, 118, 668, 669, 575, 577, 654, 655, 656, 657, 584, 718, 719, 720, 721, 722, 723, 724, 725, 112, 726, 727, 728, 729, 730, 731, 732, 733, 734, 735, 82, 83, 84, 736, 737, 738, 739, 740, 784, 785, 786, 787, 788, 789, 790, 791, 867, 868, 869, 870, 871, 872, 873, 874, 875, 876, 877, 878, 879, 880, 881, 882, 883, 884, 885, 886, 887, 888, 889] (by decide +kernel) (by decide +kernel)
set_option maxRecDepth 20000 in
theorem gL_law_X7_choice : GoodIn wsL_law (wsV RL 118 RX7 yX7_choice wsX7_choice) := goodIn_app (goodIn_of _ (by decide +kernel)) ggL_law_X7_choice
set_option maxRecDepth 20000 in
theorem ggL_law_X8_choice : GoodIn wsL_law wsX8_choice := goodIn_r _ [775, 197, 605, 746, 747, 5, 748, 606, 607, 608, 609, 610, 611, 749, 750, 751, 752, 644, 541, 82, 83, 84, 159, 753, 754, 755, 756, 757, 684, 685, 686, 687, 156, 148, 150, 758, 759, 760, 761, 152, 149, 151, 153, 155, 154, 762, 688, 689, 690, 691, 634, 635, 792, 793, 794, 795, 796, 797, 798, 799, 800, 801, 802, 803, 804, 805, 806, 807, 808, 809, 810, 811, 812, 813, 814, 815, 816, 817, 818, 819, 820, 821, 822, 823, 824, 825, 826, 827, 828, 829, 830, 831, 832, 833, 834, 835, 836, 837, 838, 839, 840, 841] (by decide +kernel) (by decide +kernel)
set_option maxRecDepth 20000 in
theorem gL_law_X8_choice : GoodIn wsL_law (wsV RL 122 RX8 yX8_choice wsX8_choice) := goodIn_app (goodIn_of _ (by decide +kernel)) ggL_law_X8_choice
set_option maxRecDepth 20000 in
theorem ggL_law_X7_count : GoodIn wsL_law wsX7_count := goodIn_r _ [779, 15, 30, 34, 38, 784, 785, 786, 787, 788, 789, 790, 791, 842, 843, 844, 845, 846, 847, 848, 849, 850, 859, 860, 861, 862, 863, 864, 865, 866, 867, 868, 869, 870, 871, 872, 873, 874, 875, 876, 877, 878, 879, 880] (by decide +kernel) (by decide +kernel)
set_option maxRecDepth 20000 in
theorem gL_law_X7_count : GoodIn wsL_law (wsV RL 123 RX7 yX7_count wsX7_count) := goodIn_app (goodIn_of _ (by decide +kernel)) ggL_law_X7_count
set_option maxRecDepth 20000 in
theorem ggL_law_X8_count : GoodIn wsL_law wsX8_count := goodIn_r _ [783, 197, 126, 127, 198, 201, 200, 605, 792, 793, 794, 795, 796, 797, 798, 799, 800, 801, 802, 803, 804, 805, 806, 807, 808, 809, 810, 811, 812, 813, 814, 815, 816, 817, 818, 819, 820, 821, 822, 823, 824, 825, 826, 827, 828, 829, 830, 831, 832, 833, 834, 835, 836, 837, 838, 839, 840, 841] (by decide +kernel) (by decide +kernel)
set_option maxRecDepth 20000 in
theorem gL_law_X8_count : GoodIn wsL_law (wsV RL 126 RX8 yX8_count wsX8_count) := goodIn_app (goodIn_of _ (by decide +kernel)) ggL_law_X8_count
