set_option maxRecDepth 20000 in
theorem gL_law_L_undo : GoodIn wsL_law (va_wsS RL 146 yL_undo wsL_undo) := goodIn_app (goodIn_of _ (by decide +kernel)) ggL_law_L_undo
set_option maxRecDepth 20000 in
theorem ggL_law_X5_undo : GoodIn wsL_law wsX5_undo := goodIn_r _ [681, 135, 124, 66, 67, 1058, 1059, 1060, 1061, 1062, 1063, 1064, 1065, 1066, 1067, 1068, 1069, 1070] (by decide +kernel) (by decide +kernel)
set_option maxRecDepth 20000 in
theorem gL_law_X5_undo : GoodIn wsL_law (wsV RL 148 RX5 yX5_undo wsX5_undo) := goodIn_app (goodIn_of _ (by decide +kernel)) ggL_law_X5_undo
set_option maxRecDepth 20000 in
theorem ggL_law_L_eats : GoodIn wsL_law wsL_eats := goodIn_ca (goodIn_r _ [684, 147, 685, 686, 687, 2, 688, 17, 410, 411, 412, 157, 158, 153, 154, 155, 156, 159, 160, 161, 16, 162, 107, 689, 256, 257, 258, 35, 39, 36, 88, 89, 690, 264, 265, 266, 110, 42, 41, 111, 43, 267, 268, 269, 270, 271, 272, 273, 274, 275, 276, 277, 40, 37, 1054, 1055, 1056, 1057, 1071, 1072, 1073, 1074, 1075, 1076, 1077, 1078, 1079, 1080, 1081, 1082, 1083, 1084, 1085] (by decide +kernel) (by decide +kernel)) (goodIn_sub (fun _ h => List.mem_append_right _ h) (by decide +kernel))
set_option maxRecDepth 20000 in
theorem gL_law_L_eats : GoodIn wsL_law (va_wsS RL 149 yL_eats wsL_eats) := goodIn_app (goodIn_of _ (by decide +kernel)) ggL_law_L_eats
set_option maxRecDepth 20000 in
theorem ggL_law_X5_eats : GoodIn wsL_law wsX5_eats := goodIn_r _ [694, 124, 426, 427, 5, 428, 125, 126, 127, 192, 193, 194, 195, 66, 309, 310, 311, 312, 196, 197, 198, 199, 200, 201, 202, 203, 228, 229, 230, 231, 313, 314, 315, 316, 212, 213, 214, 215, 317, 318, 319, 320, 321, 322, 323, 324, 325, 326, 327, 328, 1058, 1059, 1060, 1061, 1062, 1063, 1064, 1065, 1066, 1067, 1068, 1069, 1070] (by decide +kernel) (by decide +kernel)
set_option maxRecDepth 20000 in
theorem gL_law_X5_eats : GoodIn wsL_law (wsV RL 151 RX5 yX5_eats wsX5_eats) := goodIn_app (goodIn_of _ (by decide +kernel)) ggL_law_X5_eats
set_option maxRecDepth 20000 in
theorem ggL_law_L_bucket : GoodIn wsL_law wsL_bucket := goodIn_ca (goodIn_r _ [697, 147, 698, 699, 700, 2, 701, 17, 410, 411, 412, 157, 158, 153, 154, 155, 156, 159, 160, 161, 16, 162, 107, 689, 256, 257, 258, 35, 39, 36, 88, 89, 702, 267, 268, 269, 270, 271, 272, 273, 1054, 1055, 1056, 1057, 1071, 1072, 1073, 1074, 1075, 1076, 1077, 1078, 1079, 1080, 1081, 1082, 1083, 1084, 1085] (by decide +kernel) (by decide +kernel)) (goodIn_sub (fun _ h => List.mem_append_right _ h) (by decide +kernel))
set_option maxRecDepth 20000 in
theorem gL_law_L_bucket : GoodIn wsL_law (va_wsS RL 152 yL_bucket wsL_bucket) := goodIn_app (goodIn_of _ (by decide +kernel)) ggL_law_L_bucket
set_option maxRecDepth 20000 in
theorem ggL_law_X5_bucket : GoodIn wsL_law wsX5_bucket := goodIn_r _ [706, 124, 426, 427, 5, 428, 125, 126, 127, 192, 193, 194, 195, 66, 313, 314, 315, 316, 212, 213, 214, 215, 200, 201, 202, 203, 317, 318, 319, 320, 321, 322, 323, 324, 1058, 1059, 1060, 1061, 1062, 1063, 1064, 1065, 1066, 1067, 1068, 1069, 1070] (by decide +kernel) (by decide +kernel)
set_option maxRecDepth 20000 in
theorem gL_law_X5_bucket : GoodIn wsL_law (wsV RL 154 RX5 yX5_bucket wsX5_bucket) := goodIn_app (goodIn_of _ (by decide +kernel)) ggL_law_X5_bucket
set_option maxRecDepth 20000 in
theorem ggL_law_L_bread : GoodIn wsL_law wsL_bread := goodIn_ca (goodIn_ca (goodIn_r _ [709, 147, 76, 710, 711, 712, 2, 713, 82, 83, 17, 153, 154, 155, 156, 157, 158, 159, 160, 161, 16, 162, 107, 714, 715, 716, 717, 110, 35, 37, 111, 43, 38, 41, 42, 255, 256, 257, 258, 39, 36, 88, 89, 718, 252, 253, 254, 259, 260, 261, 262, 263, 264, 265, 266, 267, 268, 269, 270, 271, 272, 273, 274, 275, 276, 277, 40, 719, 185, 186, 187, 720, 721, 722, 723, 724, 725, 726, 727, 1054, 1055, 1056, 1057, 1071, 1072, 1073, 1074, 1075, 1076, 1077, 1078, 1079, 1080, 1081, 1082, 1083, 1084, 1085] (by decide +kernel) (by decide +kernel)) (goodIn_sub (fun _ h => List.mem_append_left _ (List.mem_append_left _ (List.mem_append_right _ h))) (by decide +kernel))) (goodIn_sub (fun _ h => List.mem_append_right _ h) (by decide +kernel))
set_option maxRecDepth 20000 in
theorem gL_law_L_bread : GoodIn wsL_law (va_wsS RL 155 yL_bread wsL_bread) := goodIn_app (goodIn_of _ (by decide +kernel)) ggL_law_L_bread
set_option maxRecDepth 20000 in
theorem ggL_law_X5_bread : GoodIn wsL_law wsX5_bread := goodIn_r _ [731, 124, 192, 193, 194, 5, 195, 66, 125, 126, 127, 732, 733, 734, 735, 200, 201, 202, 203, 313, 314, 315, 316, 212, 213, 214, 215, 305, 306, 307, 308, 309, 310, 311, 312, 196, 197, 198, 199, 228, 229, 230, 231, 317, 318, 319, 320, 321, 322, 323, 324, 325, 326, 327, 328, 224, 225, 226, 227, 736, 737, 738, 739, 740, 741, 742, 743, 1058, 1059, 1060, 1061, 1062, 1063, 1064, 1065, 1066, 1067, 1068, 1069, 1070] (by decide +kernel) (by decide +kernel)
set_option maxRecDepth 20000 in
theorem gL_law_X5_bread : GoodIn wsL_law (wsV RL 157 RX5 yX5_bread wsX5_bread) := goodIn_app (goodIn_of _ (by decide +kernel)) ggL_law_X5_bread
set_option maxRecDepth 20000 in
theorem ggL_law_L_person : GoodIn wsL_law wsL_person := goodIn_ca (goodIn_ca (goodIn_r _ [746, 147, 76, 747, 748, 749, 2, 750, 82, 83, 17, 410, 411, 412, 157, 158, 751, 752, 753, 16, 754, 43, 41, 42, 44, 469, 470, 471, 472, 255, 256, 257, 258, 35, 39, 36, 88, 89, 263, 264, 265, 266, 110, 111, 267, 268, 269, 270, 271, 272, 273, 274, 275, 276, 277, 40, 37, 1054, 1055, 1056, 1057, 1071, 1072, 1073, 1074, 1075, 1076, 1077, 1078, 1079, 1080, 1081, 1082, 1083, 1084, 1085] (by decide +kernel) (by decide +kernel)) (goodIn_sub (fun _ h => List.mem_append_left _ (List.mem_append_left _ (List.mem_append_right _ h))) (by decide +kernel))) (goodIn_sub (fun _ h => List.mem_append_right _ h) (by decide +kernel))
set_option maxRecDepth 20000 in
theorem gL_law_L_person : GoodIn wsL_law (va_wsS RL 158 yL_person wsL_person) := goodIn_app (goodIn_of _ (by decide +kernel)) ggL_law_L_person
set_option maxRecDepth 20000 in
theorem ggL_law_X5_person : GoodIn wsL_law wsX5_person := goodIn_r _ [758, 124, 426, 427, 5, 428, 125, 126, 127, 759, 760, 761, 762, 66, 763, 764, 765, 766, 309, 310, 311, 312, 196, 197, 198, 199, 200, 201, 202, 203, 228, 229, 230, 231, 313, 314, 315, 316, 212, 213, 214, 215, 317, 318, 319, 320, 321, 322, 323, 324, 325, 326, 327, 328, 1058, 1059, 1060, 1061, 1062, 1063, 1064, 1065, 1066, 1067, 1068, 1069, 1070] (by decide +kernel) (by decide +kernel)
set_option maxRecDepth 20000 in
theorem gL_law_X5_person : GoodIn wsL_law (wsV RL 160 RX5 yX5_person wsX5_person) := goodIn_app (goodIn_of _ (by decide +kernel)) ggL_law_X5_person
set_option maxRecDepth 20000 in
theorem ggL_law_L_owner : GoodIn wsL_law wsL_owner := goodIn_ca (goodIn_r _ [769, 147, 770, 771, 772, 2, 773, 157, 158, 17, 774, 393, 394, 395, 87, 88, 89, 1054, 1055, 1056, 1057, 1071, 1072, 1073, 1074, 1075, 1076, 1077, 1078, 1079, 1080, 1081, 1082, 1083, 1084, 1085] (by decide +kernel) (by decide +kernel)) (goodIn_sub (fun _ h => List.mem_append_right _ h) (by decide +kernel))
set_option maxRecDepth 20000 in
theorem gL_law_L_owner : GoodIn wsL_law (va_wsS RL 161 yL_owner wsL_owner) := goodIn_app (goodIn_of _ (by decide +kernel)) ggL_law_L_owner
set_option maxRecDepth 20000 in
theorem ggL_law_X5_owner : GoodIn wsL_law wsX5_owner := goodIn_r _ [778, 124, 66, 400, 401, 5, 402, 125, 126, 127, 1058, 1059, 1060, 1061, 1062, 1063, 1064, 1065, 1066, 1067, 1068, 1069, 1070] (by decide +kernel) (by decide +kernel)
set_option maxRecDepth 20000 in
theorem gL_law_X5_owner : GoodIn wsL_law (wsV RL 163 RX5 yX5_owner wsX5_owner) := goodIn_app (goodIn_of _ (by decide +kernel)) ggL_law_X5_owner
set_option maxRecDepth 20000 in
theorem ggL_law_L_count : GoodIn wsL_law wsL_count := goodIn_ca (goodIn_r _ [781, 76, 782, 783, 784, 2, 785, 82, 83, 786, 787, 788, 789, 790, 791, 792, 21, 673, 17, 392, 87, 88, 89, 793, 248, 249, 16, 250, 40, 794, 795, 796, 797, 107, 110, 108, 109, 473, 474, 475, 476, 477, 478, 479, 798, 799, 800, 801, 469, 470, 471, 472, 255, 256, 257, 258, 35, 39, 36, 263, 264, 265, 266, 42, 41, 111, 43, 267, 268, 269, 270, 271, 272, 273, 274, 275, 276, 277, 37, 802, 803, 804, 805, 806, 807, 808, 809, 810, 811, 812, 813, 814, 815, 816, 817, 818, 819, 820, 821, 1054, 1055, 1056, 1057, 1086, 1087, 1088, 1071, 1072, 1073, 1074, 1075, 1076, 1077, 1078, 1079, 1080, 1081, 1082, 1083, 1084, 1085] (by decide +kernel) (by decide +kernel)) (goodIn_sub (fun _ h => List.mem_append_left _ (List.mem_append_left _ (List.mem_append_right _ h))) (by decide +kernel))
set_option maxRecDepth 20000 in
theorem gL_law_L_count : GoodIn wsL_law (va_wsS RL 164 yL_count wsL_count) := goodIn_app (goodIn_of _ (by decide +kernel)) ggL_law_L_count
set_option maxRecDepth 20000 in
theorem ggL_law_X5_count : GoodIn wsL_law wsX5_count := goodIn_r _ [825, 124, 125, 126, 5, 127, 826, 827, 828, 829, 66, 135, 301, 302, 303, 304, 830, 831, 832, 833, 200, 201, 202, 203, 834, 835, 836, 837, 838, 839, 840, 763, 764, 765, 766, 309, 310, 311, 312, 196, 197, 198, 199, 228, 229, 230, 231, 313, 314, 315, 316, 212, 213, 214, 215, 317, 318, 319, 320, 321, 322, 323, 324, 325, 326, 327, 328, 841, 842, 843, 844, 1058, 1059, 1060, 1061, 1062, 1063, 1064, 1065, 1066, 1067, 1068, 1069, 1070] (by decide +kernel) (by decide +kernel)
set_option maxRecDepth 20000 in
theorem gL_law_X5_count : GoodIn wsL_law (wsV RL 166 RX5 yX5_count wsX5_count) := goodIn_app (goodIn_of _ (by decide +kernel)) ggL_law_X5_count
set_option maxRecDepth 20000 in
theorem ggL_law_L_overlap : GoodIn wsL_law wsL_overlap := goodIn_ca (goodIn_r _ [847, 147, 848, 849, 850, 2, 851, 17, 153, 154, 155, 156, 157, 158, 159, 160, 161, 16, 162, 107, 852, 853, 854, 855, 365, 366, 367, 368, 255, 256, 257, 258, 35, 39, 36, 88, 89, 263, 264, 265, 266, 110, 42, 41, 111, 43, 267, 268, 269, 270, 271, 272, 273, 274, 275, 276, 277, 40, 37, 1054, 1055, 1056, 1057, 1071, 1072, 1073, 1074, 1075, 1076, 1077, 1078, 1079, 1080, 1081, 1082, 1083, 1084, 1085] (by decide +kernel) (by decide +kernel)) (goodIn_sub (fun _ h => List.mem_append_right _ h) (by decide +kernel))
set_option maxRecDepth 20000 in
theorem gL_law_L_overlap : GoodIn wsL_law (va_wsS RL 167 yL_overlap wsL_overlap) := goodIn_app (goodIn_of _ (by decide +kernel)) ggL_law_L_overlap
set_option maxRecDepth 20000 in
theorem ggL_law_X5_overlap : GoodIn wsL_law wsX5_overlap := goodIn_r _ [859, 124, 192, 193, 194, 5, 195, 66, 125, 126, 127, 860, 861, 862, 863, 309, 310, 311, 312, 196, 197, 198, 199, 200, 201, 202, 203, 228, 229, 230, 231, 313, 314, 315, 316, 212, 213, 214, 215, 317, 318, 319, 320, 321, 322, 323, 324, 325, 326, 327, 328, 1058, 1059, 1060, 1061, 1062, 1063, 1064, 1065, 1066, 1067, 1068, 1069, 1070] (by decide +kernel) (by decide +kernel)
set_option maxRecDepth 20000 in
theorem gL_law_X5_overlap : GoodIn wsL_law (wsV RL 169 RX5 yX5_overlap wsX5_overlap) := goodIn_app (goodIn_of _ (by decide +kernel)) ggL_law_X5_overlap
set_option maxRecDepth 20000 in
theorem ggL_law_L_ifShare : GoodIn wsL_law wsL_ifShare := goodIn_ca (goodIn_ca (goodIn_r _ [866, 147, 76, 867, 868, 869, 2, 870, 25, 17, 153, 154, 155, 156, 157, 158, 159, 160, 161, 16, 162, 107, 239, 240, 241, 82, 83, 871, 872, 873, 24, 874, 875, 876, 56, 55, 877, 168, 169, 170, 110, 171, 878, 879, 880, 881, 882, 883, 884, 885, 886, 887, 888, 889, 275, 276, 277, 35, 40, 37, 890, 891, 892, 893, 88, 89, 894, 895, 896, 897, 57, 898, 256, 257, 258, 39, 36, 899, 900, 901, 902, 42, 41, 111, 43, 903, 904, 905, 906, 267, 268, 269, 270, 271, 272, 273, 1054, 1055, 1056, 1057, 1071, 1072, 1073, 1074, 1075, 1076, 1077, 1078, 1079, 1080, 1081, 1082, 1083, 1084, 1085, 1089, 1090, 1091, 1092, 1093] (by decide +kernel) (by decide +kernel)) (goodIn_sub (fun _ h => List.mem_append_right _ h) (by decide +kernel))) (goodIn_sub (fun _ h => List.mem_append_left _ (List.mem_append_left _ (List.mem_append_right _ h))) (by decide +kernel))
