set_option maxRecDepth 20000 in
theorem wsL_law_in : ∀ w ∈ wsL_law, w ∈ lw_tbl := fun w h => (goodIn_p wsL_law [120, 123, 128, 135, 202, 747, 255, 258, 261, 265, 855, 858, 862, 269, 373, 273, 277, 280, 283, 286, 290, 294, 299, 303, 306, 310, 314, 318, 322, 327, 331, 335, 338, 342, 346, 350, 354, 358, 362, 366, 370, 866, 870, 874, 878, 882, 885, 889, 893, 897, 901, 905, 909, 912, 916, 919, 923, 927, 931, 935, 939, 943, 378, 383, 955, 959, 962, 389, 393, 966, 970, 397, 974, 402, 978, 406, 410, 982, 985, 415, 989, 419, 993, 423, 427, 997, 432, 1001, 436, 440, 445, 449, 453, 458, 462, 468, 473, 1005, 1008, 1012, 1015, 1018, 479, 483, 1022, 1026, 1031, 1035, 489, 493, 496, 499, 1039, 1043, 1046, 1049, 503, 1053, 507, 511, 515, 1057, 1060, 1064, 1068, 1072, 1075, 1078, 526, 530, 1082, 1086, 1090, 535, 538, 541, 1094, 1098, 546, 550, 554, 557, 1102, 1106, 1111, 1115, 1119, 562, 1123, 566, 570, 1127, 1131, 1135, 1139, 574, 1144, 1148, 580, 584, 1152, 1156, 1160, 1164, 588, 1168, 592, 596, 1172, 600, 604, 1176, 608, 1180, 612, 616, 620, 625, 1184, 1188, 630, 635, 1192, 1196, 639, 1200, 1204, 643, 1208, 647, 651, 1212, 655, 659, 1216, 1220, 663, 1224, 667, 671, 676, 679, 683, 1228, 1232, 1237, 1241, 688, 1245, 1249, 692, 696, 700, 1253, 1257, 1261, 705, 1265, 709, 1269, 713, 1273, 717, 720, 724, 1277, 1281, 730, 947, 734, 951, 738, 742, 1288, 1292] (by decide +kernel) (by decide +kernel) w h).1
theorem inlX0 : ∀ w ∈ wsX00, w ∈ wsL_law := fun _ h => List.mem_append_left _ (List.mem_append_left _ (List.mem_append_right _ h))
theorem inX0 : ∀ w ∈ wsX00, w ∈ lw_tbl := fun w h => wsL_law_in w (inlX0 w h)
theorem inlX1 : ∀ w ∈ wsX10, w ∈ wsL_law := fun _ h => List.mem_append_left _ (List.mem_append_left _ (List.mem_append_left _ (List.mem_append_right _ h)))
theorem inX1 : ∀ w ∈ wsX10, w ∈ lw_tbl := fun w h => wsL_law_in w (inlX1 w h)
theorem inlX2 : ∀ w ∈ wsX20, w ∈ wsL_law := fun _ h => List.mem_append_left _ (List.mem_append_right _ h)
theorem inX2 : ∀ w ∈ wsX20, w ∈ lw_tbl := fun w h => wsL_law_in w (inlX2 w h)
theorem inlX3 : ∀ w ∈ wsX30, w ∈ wsL_law := fun _ h => List.mem_append_left _ (List.mem_append_left _ (List.mem_append_left _ (List.mem_append_left _ (List.mem_append_left _ (List.mem_append_right _ h)))))
theorem inX3 : ∀ w ∈ wsX30, w ∈ lw_tbl := fun w h => wsL_law_in w (inlX3 w h)
theorem inlX4 : ∀ w ∈ wsX40, w ∈ wsL_law := fun _ h => List.mem_append_left _ (List.mem_append_left _ (List.mem_append_left _ (List.mem_append_left _ (List.mem_append_right _ h))))
theorem inX4 : ∀ w ∈ wsX40, w ∈ lw_tbl := fun w h => wsL_law_in w (inlX4 w h)
set_option maxRecDepth 20000 in
theorem ggL_law_X3_init : GoodIn wsL_law wsX3_init := goodIn_r _ [8, 9, 10, 11, 12, 13, 14, 15, 16, 17, 18, 19, 20, 21, 22, 23, 24, 25, 26, 27, 28, 29, 30, 31, 32, 33, 34, 35, 36, 37, 38, 39, 40, 41, 42, 43, 44, 45, 46, 47, 48, 49, 50, 51, 52, 53, 54, 55, 56, 57, 58, 59, 60, 61, 1029, 1030, 1031, 1032, 1033, 1034, 1035, 1036, 1037, 1038, 981, 982, 983, 984, 985, 986, 987, 988, 989, 990, 991, 992, 993, 994, 1039, 1040, 1041, 1042, 1043] (by decide +kernel) (by decide +kernel)
set_option maxRecDepth 20000 in
theorem gL_law_X3_init : GoodIn wsL_law (wsX3_init) := ggL_law_X3_init
set_option maxRecDepth 20000 in
theorem ggL_law_X4_init : GoodIn wsL_law wsX4_init := goodIn_r _ [64, 65, 10, 11, 19, 66, 67, 68, 69, 70, 71, 72, 73, 74, 75, 76, 77, 78, 79, 60, 80, 81, 82, 83, 84, 85, 995, 996, 997, 998, 999, 1000, 1001, 1002, 1003, 1004, 1005, 1006, 1007, 1008, 1009, 1010, 1011, 1012, 1013, 1014, 1015, 1016, 1017, 1018, 1019, 1020, 1021, 1022, 1023, 1024, 1025, 1026, 1027, 1028] (by decide +kernel) (by decide +kernel)
set_option maxRecDepth 20000 in
theorem gL_law_X4_init : GoodIn wsL_law (wsX4_init) := ggL_law_X4_init
set_option maxRecDepth 20000 in
theorem ggL_law_X3_feed : GoodIn wsL_law wsX3_feed := goodIn_r _ [89, 21, 20, 90, 91, 2, 92, 93, 94, 95, 96, 97, 98, 99, 24, 981, 982, 983, 984, 985, 986, 987, 988, 989, 990, 991, 992, 993, 994] (by decide +kernel) (by decide +kernel)
set_option maxRecDepth 20000 in
theorem gL_law_X3_feed : GoodIn wsL_law (wsV RL 13 RX3 yX3_feed wsX3_feed) := goodIn_app (goodIn_of _ (by decide +kernel)) ggL_law_X3_feed
set_option maxRecDepth 20000 in
theorem ggL_law_X4_feed : GoodIn wsL_law wsX4_feed := goodIn_r _ [103, 104, 75, 105, 106, 5, 107, 108, 109, 110, 111, 66, 995, 996, 997, 998, 999, 1000, 1001, 1002, 1003, 1004, 1005, 1006, 1007, 1008, 1009, 1010, 1011, 1012, 1013, 1014, 1015, 1016, 1017, 1018, 1019, 1020, 1021, 1022, 1023, 1024, 1025, 1026, 1027, 1028] (by decide +kernel) (by decide +kernel)
set_option maxRecDepth 20000 in
theorem gL_law_X4_feed : GoodIn wsL_law (wsV RL 17 RX4 yX4_feed wsX4_feed) := goodIn_app (goodIn_of _ (by decide +kernel)) ggL_law_X4_feed
set_option maxRecDepth 20000 in
theorem ggL_law_X3_kitchen : GoodIn wsL_law wsX3_kitchen := goodIn_r _ [115, 21, 16, 15, 116, 117, 118, 119, 120, 121, 122, 2, 123, 124, 125, 126, 127, 20, 128, 129, 130, 131, 132, 133, 134, 135, 136, 137, 14, 138, 139, 40, 43, 44, 46, 48, 41, 42, 45, 47, 49, 140, 141, 142, 143, 94, 95, 144, 27, 145, 146, 53, 54, 55, 56, 147, 148, 149, 150, 151, 152, 153, 154, 155, 156, 157, 158, 159, 160, 161, 162, 163, 164, 165, 166, 167, 168, 169, 170, 171, 172, 173, 174, 175, 176, 177, 178, 179, 180, 181, 182, 183, 184, 185, 186, 187, 188, 189, 190, 191, 192, 193, 194, 195, 196, 197, 198, 199, 200, 201, 202, 203, 204, 205, 206, 207, 981, 982, 983, 984, 985, 986, 987, 988, 989, 990, 991, 992, 993, 994, 1029, 1030, 1031, 1032, 1033, 1034, 1035, 1036, 1037, 1038, 1039, 1040, 1041, 1042] (by decide +kernel) (by decide +kernel)
set_option maxRecDepth 20000 in
theorem gL_law_X3_kitchen : GoodIn wsL_law (wsV RL 18 RX3 yX3_kitchen wsX3_kitchen) := goodIn_app (goodIn_of _ (by decide +kernel)) ggL_law_X3_kitchen
set_option maxRecDepth 20000 in
theorem ggL_law_X4_kitchen : GoodIn wsL_law wsX4_kitchen := goodIn_r _ [211, 212, 213, 104, 77, 214, 215, 216, 5, 217, 76, 218, 219, 220, 221, 75, 222, 223, 224, 225, 226, 227, 228, 229, 78, 230, 231, 232, 233, 234, 235, 236, 237, 238, 67, 68, 69, 70, 71, 72, 73, 74, 239, 240, 241, 242, 85, 243, 244, 245, 246, 79, 247, 248, 249, 250, 251, 252, 253, 254, 255, 256, 257, 258, 259, 260, 261, 262, 263, 264, 265, 266, 267, 268, 269, 270, 271, 272, 273, 274, 275, 276, 277, 278, 279, 280, 281, 282, 283, 284, 285, 286, 287, 288, 289, 290, 291, 292, 293, 294, 295, 296, 995, 996, 997, 998, 999, 1000, 1001, 1002, 1003, 1004, 1005, 1006, 1007, 1008, 1009, 1010, 1011, 1012, 1013, 1014, 1015, 1016, 1017, 1018, 1019, 1020, 1021, 1022, 1023, 1024, 1025, 1026, 1027, 1028] (by decide +kernel) (by decide +kernel)
set_option maxRecDepth 20000 in
theorem gL_law_X4_kitchen : GoodIn wsL_law (wsV RL 22 RX4 yX4_kitchen wsX4_kitchen) := goodIn_app (goodIn_of _ (by decide +kernel)) ggL_law_X4_kitchen
set_option maxRecDepth 20000 in
theorem ggL_law_X3_jug : GoodIn wsL_law wsX3_jug := goodIn_r _ [300, 15, 141, 14, 142, 143, 41, 40, 94, 2, 95, 96, 97, 98, 99, 24, 301, 27, 302, 303, 56, 178, 179, 118, 180, 172, 173, 174, 53, 184, 185, 186, 54, 981, 982, 983, 984, 985, 986, 987, 988, 989, 990, 991, 992, 993, 994, 1039, 1040, 1041, 1042, 1029, 1030, 1031, 1032, 1033, 1034, 1035, 1036, 1037, 1038] (by decide +kernel) (by decide +kernel)
set_option maxRecDepth 20000 in
theorem gL_law_X3_jug : GoodIn wsL_law (wsV RL 23 RX3 yX3_jug wsX3_jug) := goodIn_app (goodIn_of _ (by decide +kernel)) ggL_law_X3_jug
set_option maxRecDepth 20000 in
theorem ggL_law_X4_jug : GoodIn wsL_law wsX4_jug := goodIn_r _ [307, 67, 68, 69, 70, 273, 274, 275, 5, 276, 239, 108, 109, 110, 111, 66, 308, 309, 310, 311, 312, 313, 314, 263, 264, 265, 277, 278, 279, 280, 995, 996, 997, 998, 999, 1000, 1001, 1002, 1003, 1004, 1005, 1006, 1007, 1008, 1009, 1010, 1011, 1012, 1013, 1014, 1015, 1016, 1017, 1018, 1019, 1020, 1021, 1022, 1023, 1024, 1025, 1026, 1027, 1028] (by decide +kernel) (by decide +kernel)
set_option maxRecDepth 20000 in
theorem gL_law_X4_jug : GoodIn wsL_law (wsV RL 27 RX4 yX4_jug wsX4_jug) := goodIn_app (goodIn_of _ (by decide +kernel)) ggL_law_X4_jug
set_option maxRecDepth 20000 in
theorem ggL_law_X3_cold : GoodIn wsL_law wsX3_cold := goodIn_r _ [318, 15, 90, 91, 2, 92, 96, 97, 98, 99, 24, 169, 14, 170, 171, 41, 140, 141, 142, 143, 40, 94, 95, 172, 27, 173, 174, 53, 175, 176, 177, 56, 178, 179, 118, 180, 319, 320, 321, 981, 982, 983, 984, 985, 986, 987, 988, 989, 990, 991, 992, 993, 994, 1029, 1030, 1031, 1032, 1033, 1034, 1035, 1036, 1037, 1038, 1039, 1040, 1041, 1042] (by decide +kernel) (by decide +kernel)
set_option maxRecDepth 20000 in
theorem gL_law_X3_cold : GoodIn wsL_law (wsV RL 28 RX3 yX3_cold wsX3_cold) := goodIn_app (goodIn_of _ (by decide +kernel)) ggL_law_X3_cold
set_option maxRecDepth 20000 in
theorem ggL_law_X4_cold : GoodIn wsL_law wsX4_cold := goodIn_r _ [325, 105, 106, 5, 107, 108, 109, 110, 111, 66, 259, 260, 261, 262, 239, 67, 263, 264, 265, 266, 267, 268, 269, 70, 270, 271, 272, 326, 327, 328, 329, 995, 996, 997, 998, 999, 1000, 1001, 1002, 1003, 1004, 1005, 1006, 1007, 1008, 1009, 1010, 1011, 1012, 1013, 1014, 1015, 1016, 1017, 1018, 1019, 1020, 1021, 1022, 1023, 1024, 1025, 1026, 1027, 1028] (by decide +kernel) (by decide +kernel)
set_option maxRecDepth 20000 in
theorem gL_law_X4_cold : GoodIn wsL_law (wsV RL 31 RX4 yX4_cold wsX4_cold) := goodIn_app (goodIn_of _ (by decide +kernel)) ggL_law_X4_cold
set_option maxRecDepth 20000 in
theorem ggL_law_X3_warm : GoodIn wsL_law wsX3_warm := goodIn_r _ [333, 15, 141, 14, 142, 143, 41, 40, 94, 2, 95, 90, 91, 92, 96, 97, 98, 99, 24, 184, 27, 185, 186, 53, 54, 175, 176, 177, 56, 178, 179, 118, 180, 981, 982, 983, 984, 985, 986, 987, 988, 989, 990, 991, 992, 993, 994, 1039, 1040, 1041, 1042, 1029, 1030, 1031, 1032, 1033, 1034, 1035, 1036, 1037, 1038] (by decide +kernel) (by decide +kernel)
set_option maxRecDepth 20000 in
theorem gL_law_X3_warm : GoodIn wsL_law (wsV RL 32 RX3 yX3_warm wsX3_warm) := goodIn_app (goodIn_of _ (by decide +kernel)) ggL_law_X3_warm
set_option maxRecDepth 20000 in
theorem ggL_law_X4_warm : GoodIn wsL_law wsX4_warm := goodIn_r _ [337, 70, 273, 274, 275, 5, 276, 239, 105, 106, 107, 108, 109, 110, 111, 66, 277, 278, 279, 280, 67, 68, 266, 267, 268, 269, 270, 271, 272, 995, 996, 997, 998, 999, 1000, 1001, 1002, 1003, 1004, 1005, 1006, 1007, 1008, 1009, 1010, 1011, 1012, 1013, 1014, 1015, 1016, 1017, 1018, 1019, 1020, 1021, 1022, 1023, 1024, 1025, 1026, 1027, 1028] (by decide +kernel) (by decide +kernel)
set_option maxRecDepth 20000 in
theorem gL_law_X4_warm : GoodIn wsL_law (wsV RL 35 RX4 yX4_warm wsX4_warm) := goodIn_app (goodIn_of _ (by decide +kernel)) ggL_law_X4_warm
set_option maxRecDepth 20000 in
theorem ggL_law_X3_hand : GoodIn wsL_law wsX3_hand := goodIn_r _ [341, 15, 190, 14, 191, 192, 42, 45, 140, 141, 142, 143, 41, 40, 94, 2, 95, 96, 97, 98, 99, 24, 981, 982, 983, 984, 985, 986, 987, 988, 989, 990, 991, 992, 993, 994, 1029, 1030, 1031, 1032, 1033, 1034, 1035, 1036, 1037, 1038] (by decide +kernel) (by decide +kernel)
set_option maxRecDepth 20000 in
theorem gL_law_X3_hand : GoodIn wsL_law (wsV RL 36 RX3 yX3_hand wsX3_hand) := goodIn_app (goodIn_of _ (by decide +kernel)) ggL_law_X3_hand
set_option maxRecDepth 20000 in
theorem ggL_law_X4_hand : GoodIn wsL_law wsX4_hand := goodIn_r _ [345, 240, 241, 273, 274, 275, 5, 276, 239, 108, 109, 110, 111, 66, 995, 996, 997, 998, 999, 1000, 1001, 1002, 1003, 1004, 1005, 1006, 1007, 1008, 1009, 1010, 1011, 1012, 1013, 1014, 1015, 1016, 1017, 1018, 1019, 1020, 1021, 1022, 1023, 1024, 1025, 1026, 1027, 1028] (by decide +kernel) (by decide +kernel)
set_option maxRecDepth 20000 in
theorem gL_law_X4_hand : GoodIn wsL_law (wsV RL 39 RX4 yX4_hand wsX4_hand) := goodIn_app (goodIn_of _ (by decide +kernel)) ggL_law_X4_hand
set_option maxRecDepth 20000 in
theorem ggL_law_X3_see : GoodIn wsL_law wsX3_see := goodIn_r _ [349, 15, 93, 94, 2, 95, 350, 351, 352, 353, 197, 14, 198, 199, 42, 140, 141, 142, 143, 41, 40, 96, 97, 98, 99, 24, 193, 194, 195, 45, 43, 44, 196, 981, 982, 983, 984, 985, 986, 987, 988, 989, 990, 991, 992, 993, 994, 1029, 1030, 1031, 1032, 1033, 1034, 1035, 1036, 1037, 1038] (by decide +kernel) (by decide +kernel)
set_option maxRecDepth 20000 in
theorem gL_law_X3_see : GoodIn wsL_law (wsV RL 40 RX3 yX3_see wsX3_see) := goodIn_app (goodIn_of _ (by decide +kernel)) ggL_law_X3_see
set_option maxRecDepth 20000 in
theorem ggL_law_X4_see : GoodIn wsL_law wsX4_see := goodIn_r _ [357, 239, 241, 358, 359, 5, 360, 230, 231, 232, 108, 109, 110, 111, 66, 285, 286, 287, 288, 72, 73, 995, 996, 997, 998, 999, 1000, 1001, 1002, 1003, 1004, 1005, 1006, 1007, 1008, 1009, 1010, 1011, 1012, 1013, 1014, 1015, 1016, 1017, 1018, 1019, 1020, 1021, 1022, 1023, 1024, 1025, 1026, 1027, 1028] (by decide +kernel) (by decide +kernel)
set_option maxRecDepth 20000 in
theorem gL_law_X4_see : GoodIn wsL_law (wsV RL 43 RX4 yX4_see wsX4_see) := goodIn_app (goodIn_of _ (by decide +kernel)) ggL_law_X4_see
set_option maxRecDepth 20000 in
theorem ggL_law_X3_unsee : GoodIn wsL_law wsX3_unsee := goodIn_r _ [364, 15, 96, 97, 98, 2, 99, 24, 981, 982, 983, 984, 985, 986, 987, 988, 989, 990, 991, 992, 993, 994, 1029, 1030, 1031, 1032, 1033, 1034, 1035, 1036, 1037, 1038] (by decide +kernel) (by decide +kernel)
set_option maxRecDepth 20000 in
theorem gL_law_X3_unsee : GoodIn wsL_law (wsV RL 44 RX3 yX3_unsee wsX3_unsee) := goodIn_app (goodIn_of _ (by decide +kernel)) ggL_law_X3_unsee
set_option maxRecDepth 20000 in
theorem ggL_law_X4_unsee : GoodIn wsL_law wsX4_unsee := goodIn_r _ [368, 241, 108, 109, 110, 5, 111, 66, 995, 996, 997, 998, 999, 1000, 1001, 1002, 1003, 1004, 1005, 1006, 1007, 1008, 1009, 1010, 1011, 1012, 1013, 1014, 1015, 1016, 1017, 1018, 1019, 1020, 1021, 1022, 1023, 1024, 1025, 1026, 1027, 1028] (by decide +kernel) (by decide +kernel)
set_option maxRecDepth 20000 in
theorem gL_law_X4_unsee : GoodIn wsL_law (wsV RL 47 RX4 yX4_unsee wsX4_unsee) := goodIn_app (goodIn_of _ (by decide +kernel)) ggL_law_X4_unsee
set_option maxRecDepth 20000 in
theorem ggL_law_X3_use : GoodIn wsL_law wsX3_use := goodIn_r _ [372, 15, 197, 14, 198, 199, 42, 140, 141, 142, 143, 41, 40, 94, 2, 95, 96, 97, 98, 99, 24, 200, 201, 202, 196, 203, 204, 205, 206, 207, 117, 118, 119, 45, 981, 982, 983, 984, 985, 986, 987, 988, 989, 990, 991, 992, 993, 994, 1039, 1040, 1041, 1042, 1029, 1030, 1031, 1032, 1033, 1034, 1035, 1036, 1037, 1038] (by decide +kernel) (by decide +kernel)
set_option maxRecDepth 20000 in
theorem gL_law_X3_use : GoodIn wsL_law (wsV RL 48 RX3 yX3_use wsX3_use) := goodIn_app (goodIn_of _ (by decide +kernel)) ggL_law_X3_use
set_option maxRecDepth 20000 in
theorem ggL_law_X4_use : GoodIn wsL_law wsX4_use := goodIn_r _ [376, 239, 69, 240, 105, 106, 5, 107, 108, 109, 110, 111, 66, 293, 294, 295, 296, 67, 68, 70, 241, 995, 996, 997, 998, 999, 1000, 1001, 1002, 1003, 1004, 1005, 1006, 1007, 1008, 1009, 1010, 1011, 1012, 1013, 1014, 1015, 1016, 1017, 1018, 1019, 1020, 1021, 1022, 1023, 1024, 1025, 1026, 1027, 1028] (by decide +kernel) (by decide +kernel)
set_option maxRecDepth 20000 in
theorem gL_law_X4_use : GoodIn wsL_law (wsV RL 51 RX4 yX4_use wsX4_use) := goodIn_app (goodIn_of _ (by decide +kernel)) ggL_law_X4_use
set_option maxRecDepth 20000 in
theorem ggL_law_X3_cost : GoodIn wsL_law wsX3_cost := goodIn_r _ [380, 15, 93, 94, 2, 95, 90, 91, 92, 96, 97, 98, 99, 24, 381, 14, 382, 383, 46, 129, 130, 187, 188, 189, 981, 982, 983, 984, 985, 986, 987, 988, 989, 990, 991, 992, 993, 994, 1029, 1030, 1031, 1032, 1033, 1034, 1035, 1036, 1037, 1038] (by decide +kernel) (by decide +kernel)
set_option maxRecDepth 20000 in
theorem gL_law_X3_cost : GoodIn wsL_law (wsV RL 52 RX3 yX3_cost wsX3_cost) := goodIn_app (goodIn_of _ (by decide +kernel)) ggL_law_X3_cost
set_option maxRecDepth 20000 in
theorem ggL_law_X4_cost : GoodIn wsL_law wsX4_cost := goodIn_r _ [387, 71, 358, 359, 5, 360, 105, 106, 107, 108, 109, 110, 111, 66, 995, 996, 997, 998, 999, 1000, 1001, 1002, 1003, 1004, 1005, 1006, 1007, 1008, 1009, 1010, 1011, 1012, 1013, 1014, 1015, 1016, 1017, 1018, 1019, 1020, 1021, 1022, 1023, 1024, 1025, 1026, 1027, 1028] (by decide +kernel) (by decide +kernel)
set_option maxRecDepth 20000 in
theorem gL_law_X4_cost : GoodIn wsL_law (wsV RL 55 RX4 yX4_cost wsX4_cost) := goodIn_app (goodIn_of _ (by decide +kernel)) ggL_law_X4_cost
set_option maxRecDepth 20000 in
theorem ggL_law_X3_price : GoodIn wsL_law wsX3_price := goodIn_r _ [391, 15, 90, 91, 2, 92, 96, 97, 98, 99, 24, 981, 982, 983, 984, 985, 986, 987, 988, 989, 990, 991, 992, 993, 994, 1029, 1030, 1031, 1032, 1033, 1034, 1035, 1036, 1037, 1038] (by decide +kernel) (by decide +kernel)
set_option maxRecDepth 20000 in
theorem gL_law_X3_price : GoodIn wsL_law (wsV RL 56 RX3 yX3_price wsX3_price) := goodIn_app (goodIn_of _ (by decide +kernel)) ggL_law_X3_price
set_option maxRecDepth 20000 in
theorem ggL_law_X4_price : GoodIn wsL_law wsX4_price := goodIn_r _ [395, 85, 105, 106, 5, 107, 108, 109, 110, 111, 66, 995, 996, 997, 998, 999, 1000, 1001, 1002, 1003, 1004, 1005, 1006, 1007, 1008, 1009, 1010, 1011, 1012, 1013, 1014, 1015, 1016, 1017, 1018, 1019, 1020, 1021, 1022, 1023, 1024, 1025, 1026, 1027, 1028] (by decide +kernel) (by decide +kernel)
set_option maxRecDepth 20000 in
theorem gL_law_X4_price : GoodIn wsL_law (wsV RL 59 RX4 yX4_price wsX4_price) := goodIn_app (goodIn_of _ (by decide +kernel)) ggL_law_X4_price
set_option maxRecDepth 20000 in
theorem ggL_law_X3_says : GoodIn wsL_law wsX3_says := goodIn_r _ [399, 28, 93, 94, 2, 95, 350, 351, 352, 353, 15, 197, 14, 198, 199, 42, 140, 141, 142, 143, 41, 40, 96, 97, 98, 99, 24, 400, 401, 402, 403, 33, 144, 27, 145, 146, 53, 54, 55, 56, 147, 148, 149, 150, 404, 32, 405, 406, 61, 407, 408, 409, 410, 411, 118, 412, 413, 117, 119, 414, 301, 302, 303, 178, 179, 180, 128, 129, 130, 415, 416, 417, 418, 419, 420, 421, 422, 423, 116, 424, 425, 426, 427, 428, 981, 982, 983, 984, 985, 986, 987, 988, 989, 990, 991, 992, 993, 994, 1029, 1030, 1031, 1032, 1033, 1034, 1035, 1036, 1037, 1038, 1039, 1040, 1041, 1042, 1043] (by decide +kernel) (by decide +kernel)
set_option maxRecDepth 20000 in
theorem gL_law_X3_says : GoodIn wsL_law (wsV RL 60 RX3 yX3_says wsX3_says) := goodIn_app (goodIn_of _ (by decide +kernel)) ggL_law_X3_says
set_option maxRecDepth 20000 in
theorem ggL_law_X4_says : GoodIn wsL_law wsX4_says := goodIn_r _ [432, 239, 358, 359, 5, 360, 433, 434, 435, 108, 109, 110, 111, 66, 436, 437, 438, 439, 67, 240, 440, 441, 442, 443, 444, 445, 995, 996, 997, 998, 999, 1000, 1001, 1002, 1003, 1004, 1005, 1006, 1007, 1008, 1009, 1010, 1011, 1012, 1013, 1014, 1015, 1016, 1017, 1018, 1019, 1020, 1021, 1022, 1023, 1024, 1025, 1026, 1027, 1028] (by decide +kernel) (by decide +kernel)
set_option maxRecDepth 20000 in
theorem gL_law_X4_says : GoodIn wsL_law (wsV RL 63 RX4 yX4_says wsX4_says) := goodIn_app (goodIn_of _ (by decide +kernel)) ggL_law_X4_says
set_option maxRecDepth 20000 in
theorem ggL_law_X3_thought : GoodIn wsL_law wsX3_thought := goodIn_r _ [449, 33, 93, 94, 2, 95, 350, 351, 352, 353, 15, 197, 14, 198, 199, 42, 140, 141, 142, 143, 41, 40, 450, 451, 452, 453, 454, 96, 97, 98, 99, 24, 400, 401, 402, 403, 28, 144, 27, 145, 146, 53, 54, 55, 56, 147, 148, 149, 150, 404, 32, 405, 406, 61, 407, 408, 409, 410, 411, 118, 412, 413, 117, 119, 414, 301, 302, 303, 178, 179, 180, 128, 129, 130, 415, 416, 417, 418, 419, 420, 421, 422, 423, 116, 424, 425, 426, 427, 428, 981, 982, 983, 984, 985, 986, 987, 988, 989, 990, 991, 992, 993, 994, 1029, 1030, 1031, 1032, 1033, 1034, 1035, 1036, 1037, 1038, 1039, 1040, 1041, 1042, 1043] (by decide +kernel) (by decide +kernel)
set_option maxRecDepth 20000 in
theorem gL_law_X3_thought : GoodIn wsL_law (wsV RL 64 RX3 yX3_thought wsX3_thought) := goodIn_app (goodIn_of _ (by decide +kernel)) ggL_law_X3_thought
set_option maxRecDepth 20000 in
theorem ggL_law_X4_thought : GoodIn wsL_law wsX4_thought := goodIn_r _ [458, 239, 80, 433, 434, 5, 435, 459, 460, 461, 462, 66, 463, 464, 465, 466, 467, 240, 70, 241, 72, 73, 468, 469, 470, 471, 67, 312, 313, 314, 436, 437, 438, 439, 440, 441, 442, 443, 444, 445, 995, 996, 997, 998, 999, 1000, 1001, 1002, 1003, 1004, 1005, 1006, 1007, 1008, 1009, 1010, 1011, 1012, 1013, 1014, 1015, 1016, 1017, 1018, 1019, 1020, 1021, 1022, 1023, 1024, 1025, 1026, 1027, 1028] (by decide +kernel) (by decide +kernel)
set_option maxRecDepth 20000 in
theorem gL_law_X4_thought : GoodIn wsL_law (wsV RL 68 RX4 yX4_thought wsX4_thought) := goodIn_app (goodIn_of _ (by decide +kernel)) ggL_law_X4_thought
set_option maxRecDepth 20000 in
theorem ggL_law_X3_likely : GoodIn wsL_law wsX3_likely := goodIn_r _ [475, 33, 93, 94, 2, 95, 350, 351, 352, 353, 15, 197, 14, 198, 199, 42, 140, 141, 142, 143, 41, 40, 450, 451, 452, 453, 454, 96, 97, 98, 99, 24, 400, 401, 402, 403, 28, 144, 27, 145, 146, 53, 54, 55, 56, 147, 148, 149, 150, 404, 32, 405, 406, 61, 407, 408, 409, 410, 411, 118, 412, 413, 117, 119, 414, 301, 302, 303, 178, 179, 180, 128, 129, 130, 415, 416, 417, 418, 419, 420, 421, 422, 423, 116, 424, 425, 426, 427, 428, 476, 477, 478, 479, 480, 481, 482, 483, 484, 981, 982, 983, 984, 985, 986, 987, 988, 989, 990, 991, 992, 993, 994, 1029, 1030, 1031, 1032, 1033, 1034, 1035, 1036, 1037, 1038, 1039, 1040, 1041, 1042, 1043] (by decide +kernel) (by decide +kernel)
set_option maxRecDepth 20000 in
theorem gL_law_X3_likely : GoodIn wsL_law (wsV RL 69 RX3 yX3_likely wsX3_likely) := goodIn_app (goodIn_of _ (by decide +kernel)) ggL_law_X3_likely
set_option maxRecDepth 20000 in
theorem ggL_law_X4_likely : GoodIn wsL_law wsX4_likely := goodIn_r _ [488, 239, 80, 433, 434, 5, 435, 230, 231, 232, 459, 460, 461, 462, 66, 463, 464, 465, 466, 467, 240, 70, 241, 72, 73, 468, 469, 470, 471, 67, 312, 313, 314, 436, 437, 438, 439, 440, 441, 442, 443, 444, 445, 489, 490, 491, 492, 493, 494, 495, 496, 497, 498, 995, 996, 997, 998, 999, 1000, 1001, 1002, 1003, 1004, 1005, 1006, 1007, 1008, 1009, 1010, 1011, 1012, 1013, 1014, 1015, 1016, 1017, 1018, 1019, 1020, 1021, 1022, 1023, 1024, 1025, 1026, 1027, 1028] (by decide +kernel) (by decide +kernel)
set_option maxRecDepth 20000 in
theorem gL_law_X4_likely : GoodIn wsL_law (wsV RL 73 RX4 yX4_likely wsX4_likely) := goodIn_app (goodIn_of _ (by decide +kernel)) ggL_law_X4_likely
set_option maxRecDepth 20000 in
theorem ggL_law_X3_good : GoodIn wsL_law wsX3_good := goodIn_r _ [502, 33, 93, 94, 2, 95, 350, 351, 352, 353, 15, 197, 14, 198, 199, 42, 140, 141, 142, 143, 41, 40, 450, 451, 452, 453, 454, 96, 97, 98, 99, 24, 400, 401, 402, 403, 28, 144, 27, 145, 146, 53, 54, 55, 56, 147, 148, 149, 150, 404, 32, 405, 406, 61, 407, 408, 409, 410, 411, 118, 412, 413, 117, 119, 414, 301, 302, 303, 178, 179, 180, 128, 129, 130, 415, 416, 417, 418, 419, 420, 421, 422, 423, 116, 424, 425, 426, 427, 428, 476, 477, 478, 479, 480, 481, 482, 483, 484, 981, 982, 983, 984, 985, 986, 987, 988, 989, 990, 991, 992, 993, 994, 1029, 1030, 1031, 1032, 1033, 1034, 1035, 1036, 1037, 1038, 1039, 1040, 1041, 1042, 1043] (by decide +kernel) (by decide +kernel)
set_option maxRecDepth 20000 in
theorem gL_law_X3_good : GoodIn wsL_law (wsV RL 74 RX3 yX3_good wsX3_good) := goodIn_app (goodIn_of _ (by decide +kernel)) ggL_law_X3_good
set_option maxRecDepth 20000 in
theorem ggL_law_X4_good : GoodIn wsL_law wsX4_good := goodIn_r _ [506, 239, 80, 230, 231, 5, 232, 459, 460, 461, 462, 66, 463, 464, 465, 466, 467, 240, 70, 241, 72, 73, 468, 469, 470, 471, 67, 312, 313, 314, 436, 437, 438, 439, 440, 441, 442, 443, 444, 445, 489, 490, 491, 492, 493, 494, 495, 496, 497, 498, 995, 996, 997, 998, 999, 1000, 1001, 1002, 1003, 1004, 1005, 1006, 1007, 1008, 1009, 1010, 1011, 1012, 1013, 1014, 1015, 1016, 1017, 1018, 1019, 1020, 1021, 1022, 1023, 1024, 1025, 1026, 1027, 1028] (by decide +kernel) (by decide +kernel)
set_option maxRecDepth 20000 in
theorem gL_law_X4_good : GoodIn wsL_law (wsV RL 77 RX4 yX4_good wsX4_good) := goodIn_app (goodIn_of _ (by decide +kernel)) ggL_law_X4_good
set_option maxRecDepth 20000 in
theorem ggL_law_X3_mean : GoodIn wsL_law wsX3_mean := goodIn_r _ [510, 28, 15, 33, 93, 94, 2, 95, 350, 351, 352, 353, 197, 14, 198, 199, 42, 140, 141, 142, 143, 41, 40, 450, 451, 452, 453, 454, 96, 97, 98, 99, 24, 400, 401, 402, 403, 144, 27, 145, 146, 53, 54, 55, 56, 147, 148, 149, 150, 404, 32, 405, 406, 61, 407, 408, 409, 410, 411, 118, 412, 413, 117, 119, 414, 301, 302, 303, 178, 179, 180, 128, 129, 130, 415, 416, 417, 418, 419, 420, 421, 422, 423, 116, 424, 425, 426, 427, 428, 511, 512, 513, 514, 515, 516, 517, 47, 476, 477, 478, 479, 480, 481, 482, 483, 484, 981, 982, 983, 984, 985, 986, 987, 988, 989, 990, 991, 992, 993, 994, 1039, 1040, 1041, 1042, 1029, 1030, 1031, 1032, 1033, 1034, 1035, 1036, 1037, 1038, 1043] (by decide +kernel) (by decide +kernel)
set_option maxRecDepth 20000 in
theorem gL_law_X3_mean : GoodIn wsL_law (wsV RL 78 RX3 yX3_mean wsX3_mean) := goodIn_app (goodIn_of _ (by decide +kernel)) ggL_law_X3_mean
set_option maxRecDepth 20000 in
theorem ggL_law_X4_mean : GoodIn wsL_law wsX4_mean := goodIn_r _ [521, 239, 80, 69, 240, 230, 231, 5, 232, 522, 523, 524, 459, 460, 461, 462, 66, 463, 464, 465, 466, 467, 70, 241, 72, 73, 468, 469, 470, 471, 67, 312, 313, 314, 436, 437, 438, 439, 440, 441, 442, 443, 444, 445, 525, 526, 527, 528, 529, 530, 531, 532, 533, 534, 535, 536, 85, 537, 538, 539, 540, 541, 542, 489, 490, 491, 492, 493, 494, 495, 496, 497, 498, 995, 996, 997, 998, 999, 1000, 1001, 1002, 1003, 1004, 1005, 1006, 1007, 1008, 1009, 1010, 1011, 1012, 1013, 1014, 1015, 1016, 1017, 1018, 1019, 1020, 1021, 1022, 1023, 1024, 1025, 1026, 1027, 1028] (by decide +kernel) (by decide +kernel)
set_option maxRecDepth 20000 in
theorem gL_law_X4_mean : GoodIn wsL_law (wsV RL 82 RX4 yX4_mean wsX4_mean) := goodIn_app (goodIn_of _ (by decide +kernel)) ggL_law_X4_mean
set_option maxRecDepth 20000 in
theorem ggL_law_X3_best : GoodIn wsL_law wsX3_best := goodIn_r _ [546, 15, 33, 93, 94, 2, 95, 350, 351, 352, 353, 197, 14, 198, 199, 42, 140, 141, 142, 143, 41, 40, 96, 97, 98, 99, 24, 400, 401, 402, 403, 28, 144, 27, 145, 146, 53, 54, 55, 56, 147, 148, 149, 150, 404, 32, 405, 406, 61, 407, 408, 409, 410, 411, 118, 412, 413, 117, 119, 414, 301, 302, 303, 178, 179, 180, 128, 129, 130, 415, 416, 417, 418, 419, 420, 421, 422, 423, 116, 424, 425, 426, 427, 428, 547, 548, 549, 550, 511, 512, 513, 514, 515, 516, 517, 47, 981, 982, 983, 984, 985, 986, 987, 988, 989, 990, 991, 992, 993, 994, 1029, 1030, 1031, 1032, 1033, 1034, 1035, 1036, 1037, 1038, 1039, 1040, 1041, 1042, 1043] (by decide +kernel) (by decide +kernel)
set_option maxRecDepth 20000 in
theorem gL_law_X3_best : GoodIn wsL_law (wsV RL 83 RX3 yX3_best wsX3_best) := goodIn_app (goodIn_of _ (by decide +kernel)) ggL_law_X3_best
set_option maxRecDepth 20000 in
theorem ggL_law_X4_best : GoodIn wsL_law wsX4_best := goodIn_r _ [554, 80, 555, 556, 557, 5, 558, 239, 522, 523, 524, 108, 109, 110, 111, 66, 464, 465, 466, 467, 240, 70, 241, 72, 73, 468, 469, 470, 471, 67, 312, 313, 314, 436, 437, 438, 439, 440, 441, 442, 443, 444, 445, 559, 560, 561, 562, 525, 526, 527, 528, 529, 530, 531, 532, 533, 534, 535, 536, 85, 537, 538, 539, 540, 541, 542, 995, 996, 997, 998, 999, 1000, 1001, 1002, 1003, 1004, 1005, 1006, 1007, 1008, 1009, 1010, 1011, 1012, 1013, 1014, 1015, 1016, 1017, 1018, 1019, 1020, 1021, 1022, 1023, 1024, 1025, 1026, 1027, 1028] (by decide +kernel) (by decide +kernel)
set_option maxRecDepth 20000 in
theorem gL_law_X4_best : GoodIn wsL_law (wsV RL 86 RX4 yX4_best wsX4_best) := goodIn_app (goodIn_of _ (by decide +kernel)) ggL_law_X4_best
set_option maxRecDepth 20000 in
theorem ggL_law_X3_sure : GoodIn wsL_law wsX3_sure := goodIn_r _ [566, 33, 93, 94, 2, 95, 350, 351, 352, 353, 15, 197, 14, 198, 199, 42, 140, 141, 142, 143, 41, 40, 96, 97, 98, 99, 24, 400, 401, 402, 403, 28, 144, 27, 145, 146, 53, 54, 55, 56, 147, 148, 149, 150, 404, 32, 405, 406, 61, 407, 408, 409, 410, 411, 118, 412, 413, 117, 119, 414, 301, 302, 303, 178, 179, 180, 128, 129, 130, 415, 416, 417, 418, 419, 420, 421, 422, 423, 116, 424, 425, 426, 427, 428, 567, 568, 569, 570, 571, 572, 573, 981, 982, 983, 984, 985, 986, 987, 988, 989, 990, 991, 992, 993, 994, 1029, 1030, 1031, 1032, 1033, 1034, 1035, 1036, 1037, 1038, 1039, 1040, 1041, 1042, 1043] (by decide +kernel) (by decide +kernel)
set_option maxRecDepth 20000 in
theorem gL_law_X3_sure : GoodIn wsL_law (wsV RL 87 RX3 yX3_sure wsX3_sure) := goodIn_app (goodIn_of _ (by decide +kernel)) ggL_law_X3_sure
set_option maxRecDepth 20000 in
theorem ggL_law_X4_sure : GoodIn wsL_law wsX4_sure := goodIn_r _ [577, 555, 556, 557, 5, 558, 239, 522, 523, 524, 108, 109, 110, 111, 66, 464, 465, 466, 467, 80, 240, 70, 241, 72, 73, 468, 469, 470, 471, 67, 312, 313, 314, 436, 437, 438, 439, 440, 441, 442, 443, 444, 445, 578, 579, 580, 581, 537, 538, 539, 995, 996, 997, 998, 999, 1000, 1001, 1002, 1003, 1004, 1005, 1006, 1007, 1008, 1009, 1010, 1011, 1012, 1013, 1014, 1015, 1016, 1017, 1018, 1019, 1020, 1021, 1022, 1023, 1024, 1025, 1026, 1027, 1028] (by decide +kernel) (by decide +kernel)
set_option maxRecDepth 20000 in
theorem gL_law_X4_sure : GoodIn wsL_law (wsV RL 90 RX4 yX4_sure wsX4_sure) := goodIn_app (goodIn_of _ (by decide +kernel)) ggL_law_X4_sure
set_option maxRecDepth 20000 in
theorem ggL_law_X3_looking : GoodIn wsL_law wsX3_looking := goodIn_r _ [585, 33, 586, 93, 94, 2, 95, 350, 351, 352, 353, 15, 197, 14, 198, 199, 42, 140, 141, 142, 143, 41, 40, 450, 451, 452, 453, 454, 96, 97, 98, 99, 24, 400, 401, 402, 403, 28, 144, 27, 145, 146, 53, 54, 55, 56, 147, 148, 149, 150, 404, 32, 405, 406, 61, 407, 408, 409, 410, 411, 118, 412, 413, 117, 119, 414, 301, 302, 303, 178, 179, 180, 128, 129, 130, 415, 416, 417, 418, 419, 420, 421, 422, 423, 116, 424, 425, 426, 427, 428, 587, 588, 589, 590, 35, 591, 592, 593, 594, 595, 596, 550, 511, 512, 513, 514, 515, 516, 517, 47, 381, 382, 383, 46, 476, 477, 478, 479, 480, 481, 482, 483, 484, 981, 982, 983, 984, 985, 986, 987, 988, 989, 990, 991, 992, 993, 994, 1029, 1030, 1031, 1032, 1033, 1034, 1035, 1036, 1037, 1038, 1039, 1040, 1041, 1042, 1043] (by decide +kernel) (by decide +kernel)
set_option maxRecDepth 20000 in
theorem gL_law_X3_looking : GoodIn wsL_law (wsV RL 91 RX3 yX3_looking wsX3_looking) := goodIn_app (goodIn_of _ (by decide +kernel)) ggL_law_X3_looking
set_option maxRecDepth 20000 in
theorem ggL_law_X4_looking : GoodIn wsL_law wsX4_looking := goodIn_r _ [600, 239, 601, 358, 359, 5, 360, 522, 523, 524, 230, 231, 232, 459, 460, 461, 462, 66, 463, 464, 465, 466, 467, 80, 240, 70, 241, 72, 73, 468, 469, 470, 471, 67, 312, 313, 314, 436, 437, 438, 439, 440, 441, 442, 443, 444, 445, 602, 603, 604, 605, 69, 71, 606, 607, 608, 609, 559, 560, 561, 562, 525, 526, 527, 528, 529, 530, 531, 532, 533, 534, 535, 536, 85, 537, 538, 539, 540, 541, 542, 610, 611, 612, 613, 82, 614, 615, 616, 617, 489, 490, 491, 492, 493, 494, 495, 496, 497, 498, 995, 996, 997, 998, 999, 1000, 1001, 1002, 1003, 1004, 1005, 1006, 1007, 1008, 1009, 1010, 1011, 1012, 1013, 1014, 1015, 1016, 1017, 1018, 1019, 1020, 1021, 1022, 1023, 1024, 1025, 1026, 1027, 1028] (by decide +kernel) (by decide +kernel)
set_option maxRecDepth 20000 in
theorem gL_law_X4_looking : GoodIn wsL_law (wsV RL 94 RX4 yX4_looking wsX4_looking) := goodIn_app (goodIn_of _ (by decide +kernel)) ggL_law_X4_looking
set_option maxRecDepth 20000 in
theorem ggL_law_X3_bestTest : GoodIn wsL_law wsX3_bestTest := goodIn_r _ [621, 33, 93, 94, 2, 95, 350, 351, 352, 353, 15, 197, 14, 198, 199, 42, 140, 141, 142, 143, 41, 40, 96, 97, 98, 99, 24, 400, 401, 402, 403, 28, 144, 27, 145, 146, 53, 54, 55, 56, 147, 148, 149, 150, 404, 32, 405, 406, 61, 407, 408, 409, 410, 411, 118, 412, 413, 117, 119, 414, 301, 302, 303, 178, 179, 180, 128, 129, 130, 415, 416, 417, 418, 419, 420, 421, 422, 423, 116, 424, 425, 426, 427, 428, 587, 588, 589, 590, 35, 591, 592, 593, 594, 595, 596, 550, 511, 512, 513, 514, 515, 516, 517, 47, 381, 382, 383, 46, 476, 477, 478, 981, 982, 983, 984, 985, 986, 987, 988, 989, 990, 991, 992, 993, 994, 1029, 1030, 1031, 1032, 1033, 1034, 1035, 1036, 1037, 1038, 1039, 1040, 1041, 1042, 1043] (by decide +kernel) (by decide +kernel)
set_option maxRecDepth 20000 in
theorem gL_law_X3_bestTest : GoodIn wsL_law (wsV RL 95 RX3 yX3_bestTest wsX3_bestTest) := goodIn_app (goodIn_of _ (by decide +kernel)) ggL_law_X3_bestTest
set_option maxRecDepth 20000 in
theorem ggL_law_X4_bestTest : GoodIn wsL_law wsX4_bestTest := goodIn_r _ [625, 555, 556, 557, 5, 558, 239, 522, 523, 524, 108, 109, 110, 111, 66, 464, 465, 466, 467, 80, 240, 70, 241, 72, 73, 468, 469, 470, 471, 67, 312, 313, 314, 436, 437, 438, 439, 440, 441, 442, 443, 444, 445, 602, 603, 604, 605, 601, 69, 71, 606, 607, 608, 609, 559, 560, 561, 562, 525, 526, 527, 528, 529, 530, 531, 532, 533, 534, 535, 536, 85, 537, 538, 539, 540, 541, 542, 610, 611, 612, 613, 82, 614, 615, 616, 617, 489, 490, 491, 492, 995, 996, 997, 998, 999, 1000, 1001, 1002, 1003, 1004, 1005, 1006, 1007, 1008, 1009, 1010, 1011, 1012, 1013, 1014, 1015, 1016, 1017, 1018, 1019, 1020, 1021, 1022, 1023, 1024, 1025, 1026, 1027, 1028] (by decide +kernel) (by decide +kernel)
set_option maxRecDepth 20000 in
theorem gL_law_X4_bestTest : GoodIn wsL_law (wsV RL 98 RX4 yX4_bestTest wsX4_bestTest) := goodIn_app (goodIn_of _ (by decide +kernel)) ggL_law_X4_bestTest
set_option maxRecDepth 20000 in
theorem ggL_law_X3_two : GoodIn wsL_law wsX3_two := goodIn_r _ [629, 93, 94, 2, 95, 350, 351, 352, 353, 15, 197, 14, 198, 199, 42, 140, 141, 142, 143, 41, 40, 96, 97, 98, 99, 24, 400, 401, 402, 403, 28, 33, 144, 27, 145, 146, 53, 54, 55, 56, 147, 148, 149, 150, 404, 32, 405, 406, 61, 407, 408, 409, 410, 411, 118, 412, 413, 117, 119, 414, 301, 302, 303, 178, 179, 180, 128, 129, 130, 415, 416, 417, 418, 419, 420, 421, 422, 423, 116, 424, 425, 426, 427, 428, 630, 631, 632, 633, 586, 34, 587, 588, 589, 590, 35, 591, 592, 593, 594, 595, 596, 550, 511, 512, 513, 514, 515, 516, 517, 47, 381, 382, 383, 46, 476, 477, 478, 981, 982, 983, 984, 985, 986, 987, 988, 989, 990, 991, 992, 993, 994, 1029, 1030, 1031, 1032, 1033, 1034, 1035, 1036, 1037, 1038, 1039, 1040, 1041, 1042, 1043] (by decide +kernel) (by decide +kernel)
set_option maxRecDepth 20000 in
theorem gL_law_X3_two : GoodIn wsL_law (wsV RL 99 RX3 yX3_two wsX3_two) := goodIn_app (goodIn_of _ (by decide +kernel)) ggL_law_X3_two
set_option maxRecDepth 20000 in
theorem ggL_law_X4_two : GoodIn wsL_law wsX4_two := goodIn_r _ [637, 555, 556, 557, 5, 558, 239, 522, 523, 524, 108, 109, 110, 111, 66, 464, 465, 466, 467, 80, 240, 70, 241, 72, 73, 468, 469, 470, 471, 67, 312, 313, 314, 436, 437, 438, 439, 440, 441, 442, 443, 444, 445, 638, 639, 640, 641, 642, 643, 644, 645, 81, 646, 69, 71, 647, 648, 649, 650, 82, 614, 615, 616, 617, 610, 611, 612, 613, 606, 607, 608, 609, 559, 560, 561, 562, 525, 526, 527, 528, 529, 530, 531, 532, 533, 534, 535, 536, 85, 537, 538, 539, 540, 541, 542, 489, 490, 491, 492, 995, 996, 997, 998, 999, 1000, 1001, 1002, 1003, 1004, 1005, 1006, 1007, 1008, 1009, 1010, 1011, 1012, 1013, 1014, 1015, 1016, 1017, 1018, 1019, 1020, 1021, 1022, 1023, 1024, 1025, 1026, 1027, 1028] (by decide +kernel) (by decide +kernel)
set_option maxRecDepth 20000 in
theorem gL_law_X4_two : GoodIn wsL_law (wsV RL 102 RX4 yX4_two wsX4_two) := goodIn_app (goodIn_of _ (by decide +kernel)) ggL_law_X4_two
set_option maxRecDepth 20000 in
theorem ggL_law_X3_twoWorth : GoodIn wsL_law wsX3_twoWorth := goodIn_r _ [654, 655, 595, 118, 596, 656, 33, 93, 94, 2, 95, 350, 351, 352, 353, 15, 197, 14, 198, 199, 42, 140, 141, 142, 143, 41, 40, 450, 451, 452, 453, 454, 96, 97, 98, 99, 24, 400, 401, 402, 403, 28, 144, 27, 145, 146, 53, 54, 55, 56, 147, 148, 149, 150, 404, 32, 405, 406, 61, 407, 408, 409, 410, 411, 412, 413, 117, 119, 414, 301, 302, 303, 178, 179, 180, 128, 129, 130, 415, 416, 417, 418, 419, 420, 421, 422, 423, 116, 424, 425, 426, 427, 428, 630, 631, 632, 633, 586, 34, 587, 588, 589, 590, 35, 591, 592, 593, 594, 550, 511, 512, 513, 514, 515, 516, 517, 47, 381, 382, 383, 46, 476, 477, 478, 479, 480, 481, 482, 483, 484, 981, 982, 983, 984, 985, 986, 987, 988, 989, 990, 991, 992, 993, 994, 1029, 1030, 1031, 1032, 1033, 1034, 1035, 1036, 1037, 1038, 1039, 1040, 1041, 1042, 1043] (by decide +kernel) (by decide +kernel)
set_option maxRecDepth 20000 in
theorem gL_law_X3_twoWorth : GoodIn wsL_law (wsV RL 103 RX3 yX3_twoWorth wsX3_twoWorth) := goodIn_app (goodIn_of _ (by decide +kernel)) ggL_law_X3_twoWorth
set_option maxRecDepth 20000 in
theorem ggL_law_X4_twoWorth : GoodIn wsL_law wsX4_twoWorth := goodIn_r _ [660, 646, 661, 662, 663, 5, 664, 239, 522, 523, 524, 230, 231, 232, 459, 460, 461, 462, 66, 463, 464, 465, 466, 467, 80, 240, 70, 241, 72, 73, 468, 469, 470, 471, 67, 312, 313, 314, 436, 437, 438, 439, 440, 441, 442, 443, 444, 445, 638, 639, 640, 641, 642, 643, 644, 645, 81, 69, 71, 647, 648, 649, 650, 82, 614, 615, 616, 617, 610, 611, 612, 613, 606, 607, 608, 609, 559, 560, 561, 562, 525, 526, 527, 528, 529, 530, 531, 532, 533, 534, 535, 536, 85, 537, 538, 539, 540, 541, 542, 489, 490, 491, 492, 493, 494, 495, 496, 497, 498, 995, 996, 997, 998, 999, 1000, 1001, 1002, 1003, 1004, 1005, 1006, 1007, 1008, 1009, 1010, 1011, 1012, 1013, 1014, 1015, 1016, 1017, 1018, 1019, 1020, 1021, 1022, 1023, 1024, 1025, 1026, 1027, 1028] (by decide +kernel) (by decide +kernel)
set_option maxRecDepth 20000 in
theorem gL_law_X4_twoWorth : GoodIn wsL_law (wsV RL 106 RX4 yX4_twoWorth wsX4_twoWorth) := goodIn_app (goodIn_of _ (by decide +kernel)) ggL_law_X4_twoWorth
set_option maxRecDepth 20000 in
theorem ggL_law_X3_free : GoodIn wsL_law wsX3_free := goodIn_r _ [668, 93, 94, 2, 95, 350, 351, 352, 353, 15, 197, 14, 198, 199, 42, 140, 141, 142, 143, 41, 40, 96, 97, 98, 99, 24, 400, 401, 402, 403, 28, 33, 144, 27, 145, 146, 53, 54, 55, 56, 147, 148, 149, 150, 404, 32, 405, 406, 61, 407, 408, 409, 410, 411, 118, 412, 413, 117, 119, 414, 301, 302, 303, 178, 179, 180, 128, 129, 130, 415, 416, 417, 418, 419, 420, 421, 422, 423, 116, 424, 425, 426, 427, 428, 669, 670, 671, 672, 586, 34, 655, 595, 596, 587, 588, 589, 590, 35, 591, 592, 593, 594, 550, 511, 512, 513, 514, 515, 516, 517, 47, 381, 382, 383, 46, 476, 477, 478, 981, 982, 983, 984, 985, 986, 987, 988, 989, 990, 991, 992, 993, 994, 1029, 1030, 1031, 1032, 1033, 1034, 1035, 1036, 1037, 1038, 1039, 1040, 1041, 1042, 1043] (by decide +kernel) (by decide +kernel)
set_option maxRecDepth 20000 in
theorem gL_law_X3_free : GoodIn wsL_law (wsV RL 107 RX3 yX3_free wsX3_free) := goodIn_app (goodIn_of _ (by decide +kernel)) ggL_law_X3_free
set_option maxRecDepth 20000 in
theorem ggL_law_X4_free : GoodIn wsL_law wsX4_free := goodIn_r _ [676, 555, 556, 557, 5, 558, 239, 522, 523, 524, 108, 109, 110, 111, 66, 464, 465, 466, 467, 80, 240, 70, 241, 72, 73, 468, 469, 470, 471, 67, 312, 313, 314, 436, 437, 438, 439, 440, 441, 442, 443, 444, 445, 677, 678, 679, 680, 681, 682, 683, 684, 601, 81, 69, 71, 646, 647, 648, 649, 650, 82, 614, 615, 616, 617, 606, 607, 608, 609, 559, 560, 561, 562, 525, 526, 527, 528, 529, 530, 531, 532, 533, 534, 535, 536, 85, 537, 538, 539, 540, 541, 542, 610, 611, 612, 613, 685, 686, 687, 688, 489, 490, 491, 492, 995, 996, 997, 998, 999, 1000, 1001, 1002, 1003, 1004, 1005, 1006, 1007, 1008, 1009, 1010, 1011, 1012, 1013, 1014, 1015, 1016, 1017, 1018, 1019, 1020, 1021, 1022, 1023, 1024, 1025, 1026, 1027, 1028] (by decide +kernel) (by decide +kernel)
set_option maxRecDepth 20000 in
theorem gL_law_X4_free : GoodIn wsL_law (wsV RL 110 RX4 yX4_free wsX4_free) := goodIn_app (goodIn_of _ (by decide +kernel)) ggL_law_X4_free
set_option maxRecDepth 20000 in
theorem ggL_law_X3_freeWorth : GoodIn wsL_law wsX3_freeWorth := goodIn_r _ [692, 655, 595, 118, 596, 656, 33, 93, 94, 2, 95, 350, 351, 352, 353, 15, 197, 14, 198, 199, 42, 140, 141, 142, 143, 41, 40, 450, 451, 452, 453, 454, 96, 97, 98, 99, 24, 400, 401, 402, 403, 28, 144, 27, 145, 146, 53, 54, 55, 56, 147, 148, 149, 150, 404, 32, 405, 406, 61, 407, 408, 409, 410, 411, 412, 413, 117, 119, 414, 301, 302, 303, 178, 179, 180, 128, 129, 130, 415, 416, 417, 418, 419, 420, 421, 422, 423, 116, 424, 425, 426, 427, 428, 669, 670, 671, 672, 586, 34, 587, 588, 589, 590, 35, 591, 592, 593, 594, 550, 511, 512, 513, 514, 515, 516, 517, 47, 381, 382, 383, 46, 476, 477, 478, 479, 480, 481, 482, 483, 484, 981, 982, 983, 984, 985, 986, 987, 988, 989, 990, 991, 992, 993, 994, 1029, 1030, 1031, 1032, 1033, 1034, 1035, 1036, 1037, 1038, 1039, 1040, 1041, 1042, 1043] (by decide +kernel) (by decide +kernel)
set_option maxRecDepth 20000 in
theorem gL_law_X3_freeWorth : GoodIn wsL_law (wsV RL 111 RX3 yX3_freeWorth wsX3_freeWorth) := goodIn_app (goodIn_of _ (by decide +kernel)) ggL_law_X3_freeWorth
set_option maxRecDepth 20000 in
theorem ggL_law_X4_freeWorth : GoodIn wsL_law wsX4_freeWorth := goodIn_r _ [696, 646, 661, 662, 663, 5, 664, 239, 522, 523, 524, 230, 231, 232, 459, 460, 461, 462, 66, 463, 464, 465, 466, 467, 80, 240, 70, 241, 72, 73, 468, 469, 470, 471, 67, 312, 313, 314, 436, 437, 438, 439, 440, 441, 442, 443, 444, 445, 677, 678, 679, 680, 681, 682, 683, 684, 601, 81, 69, 71, 647, 648, 649, 650, 82, 614, 615, 616, 617, 606, 607, 608, 609, 559, 560, 561, 562, 525, 526, 527, 528, 529, 530, 531, 532, 533, 534, 535, 536, 85, 537, 538, 539, 540, 541, 542, 610, 611, 612, 613, 685, 686, 687, 688, 489, 490, 491, 492, 493, 494, 495, 496, 497, 498, 995, 996, 997, 998, 999, 1000, 1001, 1002, 1003, 1004, 1005, 1006, 1007, 1008, 1009, 1010, 1011, 1012, 1013, 1014, 1015, 1016, 1017, 1018, 1019, 1020, 1021, 1022, 1023, 1024, 1025, 1026, 1027, 1028] (by decide +kernel) (by decide +kernel)
set_option maxRecDepth 20000 in
theorem gL_law_X4_freeWorth : GoodIn wsL_law (wsV RL 114 RX4 yX4_freeWorth wsX4_freeWorth) := goodIn_app (goodIn_of _ (by decide +kernel)) ggL_law_X4_freeWorth
set_option maxRecDepth 20000 in
theorem ggL_law_X3_useless : GoodIn wsL_law wsX3_useless := goodIn_r _ [700, 15, 33, 93, 94, 2, 95, 350, 351, 352, 353, 197, 14, 198, 199, 42, 140, 141, 142, 143, 41, 40, 96, 97, 98, 99, 24, 400, 401, 402, 403, 28, 144, 27, 145, 146, 53, 54, 55, 56, 147, 148, 149, 150, 404, 32, 405, 406, 61, 407, 408, 409, 410, 411, 118, 412, 413, 117, 119, 414, 301, 302, 303, 178, 179, 180, 128, 129, 130, 415, 416, 417, 418, 419, 420, 421, 422, 423, 116, 424, 425, 426, 427, 428, 547, 548, 549, 550, 511, 512, 513, 514, 515, 516, 517, 47, 701, 702, 703, 704, 34, 476, 477, 478, 981, 982, 983, 984, 985, 986, 987, 988, 989, 990, 991, 992, 993, 994, 1029, 1030, 1031, 1032, 1033, 1034, 1035, 1036, 1037, 1038, 1039, 1040, 1041, 1042, 1043] (by decide +kernel) (by decide +kernel)
set_option maxRecDepth 20000 in
theorem gL_law_X3_useless : GoodIn wsL_law (wsV RL 115 RX3 yX3_useless wsX3_useless) := goodIn_app (goodIn_of _ (by decide +kernel)) ggL_law_X3_useless
set_option maxRecDepth 20000 in
theorem ggL_law_X4_useless : GoodIn wsL_law wsX4_useless := goodIn_r _ [708, 80, 81, 555, 556, 557, 5, 558, 239, 522, 523, 524, 108, 109, 110, 111, 66, 464, 465, 466, 467, 240, 70, 241, 72, 73, 468, 469, 470, 471, 67, 312, 313, 314, 436, 437, 438, 439, 440, 441, 442, 443, 444, 445, 559, 560, 561, 562, 525, 526, 527, 528, 529, 530, 531, 532, 533, 534, 535, 536, 85, 537, 538, 539, 540, 541, 542, 647, 648, 649, 650, 82, 614, 615, 616, 617, 685, 686, 687, 688, 995, 996, 997, 998, 999, 1000, 1001, 1002, 1003, 1004, 1005, 1006, 1007, 1008, 1009, 1010, 1011, 1012, 1013, 1014, 1015, 1016, 1017, 1018, 1019, 1020, 1021, 1022, 1023, 1024, 1025, 1026, 1027, 1028] (by decide +kernel) (by decide +kernel)
set_option maxRecDepth 20000 in
theorem gL_law_X4_useless : GoodIn wsL_law (wsV RL 118 RX4 yX4_useless wsX4_useless) := goodIn_app (goodIn_of _ (by decide +kernel)) ggL_law_X4_useless
set_option maxRecDepth 20000 in
theorem ggL_law_X3_person : GoodIn wsL_law wsX3_person := goodIn_r _ [712, 15, 93, 94, 2, 95, 96, 97, 98, 99, 24, 713, 14, 714, 715, 49, 48, 981, 982, 983, 984, 985, 986, 987, 988, 989, 990, 991, 992, 993, 994, 1029, 1030, 1031, 1032, 1033, 1034, 1035, 1036, 1037, 1038] (by decide +kernel) (by decide +kernel)
set_option maxRecDepth 20000 in
theorem gL_law_X3_person : GoodIn wsL_law (wsV RL 119 RX3 yX3_person wsX3_person) := goodIn_app (goodIn_of _ (by decide +kernel)) ggL_law_X3_person
set_option maxRecDepth 20000 in
theorem ggL_law_X4_person : GoodIn wsL_law wsX4_person := goodIn_r _ [719, 242, 74, 230, 231, 5, 232, 108, 109, 110, 111, 66, 995, 996, 997, 998, 999, 1000, 1001, 1002, 1003, 1004, 1005, 1006, 1007, 1008, 1009, 1010, 1011, 1012, 1013, 1014, 1015, 1016, 1017, 1018, 1019, 1020, 1021, 1022, 1023, 1024, 1025, 1026, 1027, 1028] (by decide +kernel) (by decide +kernel)
set_option maxRecDepth 20000 in
theorem gL_law_X4_person : GoodIn wsL_law (wsV RL 122 RX4 yX4_person wsX4_person) := goodIn_app (goodIn_of _ (by decide +kernel)) ggL_law_X4_person
set_option maxRecDepth 20000 in
theorem ggL_law_X3_nobody : GoodIn wsL_law wsX3_nobody := goodIn_r _ [723, 15, 981, 982, 983, 984, 985, 986, 987, 988, 989, 990, 991, 992, 993, 994, 1029, 1030, 1031, 1032, 1033, 1034, 1035, 1036, 1037, 1038] (by decide +kernel) (by decide +kernel)
set_option maxRecDepth 20000 in
theorem gL_law_X3_nobody : GoodIn wsL_law (wsV RL 123 RX3 yX3_nobody wsX3_nobody) := goodIn_app (goodIn_of _ (by decide +kernel)) ggL_law_X3_nobody
set_option maxRecDepth 20000 in
theorem ggL_law_X4_nobody : GoodIn wsL_law wsX4_nobody := goodIn_r _ [727, 242, 995, 996, 997, 998, 999, 1000, 1001, 1002, 1003, 1004, 1005, 1006, 1007, 1008, 1009, 1010, 1011, 1012, 1013, 1014, 1015, 1016, 1017, 1018, 1019, 1020, 1021, 1022, 1023, 1024, 1025, 1026, 1027, 1028] (by decide +kernel) (by decide +kernel)
set_option maxRecDepth 20000 in
theorem gL_law_X4_nobody : GoodIn wsL_law (wsV RL 126 RX4 yX4_nobody wsX4_nobody) := goodIn_app (goodIn_of _ (by decide +kernel)) ggL_law_X4_nobody
set_option maxRecDepth 20000 in
theorem ggL_law_X3_said : GoodIn wsL_law wsX3_said := goodIn_r _ [731, 15, 33, 586, 93, 94, 2, 95, 350, 351, 352, 353, 197, 14, 198, 199, 42, 140, 141, 142, 143, 41, 40, 450, 451, 452, 453, 454, 96, 97, 98, 99, 24, 400, 401, 402, 403, 28, 144, 27, 145, 146, 53, 54, 55, 56, 147, 148, 149, 150, 404, 32, 405, 406, 61, 407, 408, 409, 410, 411, 118, 412, 413, 117, 119, 414, 301, 302, 303, 178, 179, 180, 128, 129, 130, 415, 416, 417, 418, 419, 420, 421, 422, 423, 116, 424, 425, 426, 427, 428, 476, 477, 478, 732, 733, 734, 735, 736, 737, 738, 739, 740, 741, 742, 743, 479, 480, 481, 482, 483, 484, 981, 982, 983, 984, 985, 986, 987, 988, 989, 990, 991, 992, 993, 994, 1029, 1030, 1031, 1032, 1033, 1034, 1035, 1036, 1037, 1038, 1039, 1040, 1041, 1042, 1043] (by decide +kernel) (by decide +kernel)
set_option maxRecDepth 20000 in
theorem gL_law_X3_said : GoodIn wsL_law (wsV RL 127 RX3 yX3_said wsX3_said) := goodIn_app (goodIn_of _ (by decide +kernel)) ggL_law_X3_said
set_option maxRecDepth 20000 in
theorem ggL_law_X4_said : GoodIn wsL_law wsX4_said := goodIn_r _ [747, 242, 239, 81, 80, 601, 230, 231, 5, 232, 459, 460, 461, 462, 66, 463, 464, 465, 466, 467, 240, 70, 241, 72, 73, 468, 469, 470, 471, 67, 312, 313, 314, 436, 437, 438, 439, 440, 441, 442, 443, 444, 445, 489, 490, 491, 492, 748, 749, 750, 751, 74, 685, 686, 687, 688, 493, 494, 495, 496, 497, 498, 995, 996, 997, 998, 999, 1000, 1001, 1002, 1003, 1004, 1005, 1006, 1007, 1008, 1009, 1010, 1011, 1012, 1013, 1014, 1015, 1016, 1017, 1018, 1019, 1020, 1021, 1022, 1023, 1024, 1025, 1026, 1027, 1028] (by decide +kernel) (by decide +kernel)
set_option maxRecDepth 20000 in
theorem gL_law_X4_said : GoodIn wsL_law (wsV RL 130 RX4 yX4_said wsX4_said) := goodIn_app (goodIn_of _ (by decide +kernel)) ggL_law_X4_said
set_option maxRecDepth 20000 in
theorem ggL_law_X3_ask : GoodIn wsL_law wsX3_ask := goodIn_r _ [755, 756, 15, 350, 351, 352, 2, 353, 197, 14, 198, 199, 42, 140, 141, 142, 143, 41, 40, 94, 95, 96, 97, 98, 99, 24, 128, 129, 130, 757, 758, 759, 760, 33, 400, 401, 402, 403, 28, 144, 27, 145, 146, 53, 54, 55, 56, 147, 148, 149, 150, 404, 32, 405, 406, 61, 407, 408, 409, 410, 411, 118, 412, 413, 117, 119, 414, 301, 302, 303, 178, 179, 180, 415, 416, 417, 418, 419, 420, 421, 422, 423, 116, 424, 425, 426, 427, 428, 736, 737, 738, 739, 740, 741, 742, 743, 476, 477, 478, 981, 982, 983, 984, 985, 986, 987, 988, 989, 990, 991, 992, 993, 994, 1029, 1030, 1031, 1032, 1033, 1034, 1035, 1036, 1037, 1038, 1039, 1040, 1041, 1042, 1043] (by decide +kernel) (by decide +kernel)
set_option maxRecDepth 20000 in
theorem gL_law_X3_ask : GoodIn wsL_law (wsV RL 131 RX3 yX3_ask wsX3_ask) := goodIn_app (goodIn_of _ (by decide +kernel)) ggL_law_X3_ask
set_option maxRecDepth 20000 in
theorem ggL_law_X4_ask : GoodIn wsL_law wsX4_ask := goodIn_r _ [764, 239, 242, 108, 109, 110, 5, 111, 66, 464, 465, 466, 467, 80, 240, 70, 241, 72, 73, 468, 469, 470, 471, 67, 312, 313, 314, 436, 437, 438, 439, 440, 441, 442, 443, 444, 445, 765, 766, 767, 768, 748, 749, 750, 751, 74, 995, 996, 997, 998, 999, 1000, 1001, 1002, 1003, 1004, 1005, 1006, 1007, 1008, 1009, 1010, 1011, 1012, 1013, 1014, 1015, 1016, 1017, 1018, 1019, 1020, 1021, 1022, 1023, 1024, 1025, 1026, 1027, 1028] (by decide +kernel) (by decide +kernel)
set_option maxRecDepth 20000 in
theorem gL_law_X4_ask : GoodIn wsL_law (wsV RL 134 RX4 yX4_ask wsX4_ask) := goodIn_app (goodIn_of _ (by decide +kernel)) ggL_law_X4_ask
set_option maxRecDepth 20000 in
theorem ggL_law_X3_keep : GoodIn wsL_law wsX3_keep := goodIn_r _ [772, 29, 28, 34, 15, 93, 94, 2, 95, 350, 351, 352, 353, 197, 14, 198, 199, 42, 140, 141, 142, 143, 41, 40, 96, 97, 98, 99, 24, 400, 401, 402, 403, 33, 144, 27, 145, 146, 53, 54, 55, 56, 147, 148, 149, 150, 404, 32, 405, 406, 61, 407, 408, 409, 410, 411, 118, 412, 413, 117, 119, 414, 301, 302, 303, 178, 179, 180, 128, 129, 130, 415, 416, 417, 418, 419, 420, 421, 422, 423, 116, 424, 425, 426, 427, 428, 476, 477, 478, 591, 592, 593, 594, 595, 596, 550, 511, 512, 513, 514, 515, 516, 517, 47, 172, 173, 174, 175, 176, 177, 981, 982, 983, 984, 985, 986, 987, 988, 989, 990, 991, 992, 993, 994, 1039, 1040, 1041, 1042, 1029, 1030, 1031, 1032, 1033, 1034, 1035, 1036, 1037, 1038, 1043] (by decide +kernel) (by decide +kernel)
set_option maxRecDepth 20000 in
theorem gL_law_X3_keep : GoodIn wsL_law (wsV RL 135 RX3 yX3_keep wsX3_keep) := goodIn_app (goodIn_of _ (by decide +kernel)) ggL_law_X3_keep
set_option maxRecDepth 20000 in
theorem ggL_law_X4_keep : GoodIn wsL_law wsX4_keep := goodIn_r _ [776, 81, 240, 70, 67, 69, 555, 556, 557, 5, 558, 239, 522, 523, 524, 108, 109, 110, 111, 66, 263, 264, 265, 270, 271, 272, 777, 778, 779, 780, 468, 469, 470, 471, 312, 313, 314, 685, 686, 687, 688, 606, 607, 608, 609, 559, 560, 561, 562, 525, 526, 527, 528, 529, 530, 531, 532, 533, 534, 535, 536, 85, 537, 538, 539, 540, 541, 542, 995, 996, 997, 998, 999, 1000, 1001, 1002, 1003, 1004, 1005, 1006, 1007, 1008, 1009, 1010, 1011, 1012, 1013, 1014, 1015, 1016, 1017, 1018, 1019, 1020, 1021, 1022, 1023, 1024, 1025, 1026, 1027, 1028] (by decide +kernel) (by decide +kernel)
set_option maxRecDepth 20000 in
theorem gL_law_X4_keep : GoodIn wsL_law (wsV RL 139 RX4 yX4_keep wsX4_keep) := goodIn_app (goodIn_of _ (by decide +kernel)) ggL_law_X4_keep
set_option maxRecDepth 20000 in
theorem ggL_law_X3_seldom : GoodIn wsL_law wsX3_seldom := goodIn_r _ [784, 33, 15, 656, 93, 94, 2, 95, 350, 351, 352, 353, 197, 14, 198, 199, 42, 140, 141, 142, 143, 41, 40, 90, 91, 92, 96, 97, 98, 99, 24, 400, 401, 402, 403, 28, 144, 27, 145, 146, 53, 54, 55, 56, 147, 148, 149, 150, 404, 32, 405, 406, 61, 407, 408, 409, 410, 411, 118, 412, 413, 117, 119, 414, 301, 302, 303, 178, 179, 180, 128, 129, 130, 415, 416, 417, 418, 419, 420, 421, 422, 423, 116, 424, 425, 426, 427, 428, 476, 477, 478, 511, 512, 513, 514, 515, 516, 517, 47, 567, 568, 569, 570, 571, 572, 573, 981, 982, 983, 984, 985, 986, 987, 988, 989, 990, 991, 992, 993, 994, 1029, 1030, 1031, 1032, 1033, 1034, 1035, 1036, 1037, 1038, 1039, 1040, 1041, 1042, 1043] (by decide +kernel) (by decide +kernel)
set_option maxRecDepth 20000 in
theorem gL_law_X3_seldom : GoodIn wsL_law (wsV RL 140 RX3 yX3_seldom wsX3_seldom) := goodIn_app (goodIn_of _ (by decide +kernel)) ggL_law_X3_seldom
set_option maxRecDepth 20000 in
theorem ggL_law_X4_seldom : GoodIn wsL_law wsX4_seldom := goodIn_r _ [788, 646, 80, 555, 556, 557, 5, 558, 239, 522, 523, 524, 105, 106, 107, 108, 109, 110, 111, 66, 464, 465, 466, 467, 240, 70, 241, 72, 73, 468, 469, 470, 471, 67, 312, 313, 314, 436, 437, 438, 439, 440, 441, 442, 443, 444, 445, 578, 579, 580, 581, 537, 538, 539, 489, 490, 491, 492, 525, 526, 527, 528, 529, 530, 531, 532, 533, 534, 535, 536, 85, 540, 541, 542, 995, 996, 997, 998, 999, 1000, 1001, 1002, 1003, 1004, 1005, 1006, 1007, 1008, 1009, 1010, 1011, 1012, 1013, 1014, 1015, 1016, 1017, 1018, 1019, 1020, 1021, 1022, 1023, 1024, 1025, 1026, 1027, 1028] (by decide +kernel) (by decide +kernel)
set_option maxRecDepth 20000 in
theorem gL_law_X4_seldom : GoodIn wsL_law (wsV RL 143 RX4 yX4_seldom wsX4_seldom) := goodIn_app (goodIn_of _ (by decide +kernel)) ggL_law_X4_seldom
set_option maxRecDepth 20000 in
theorem ggL_law_X3_join : GoodIn wsL_law wsX3_join := goodIn_r _ [792, 15, 34, 35, 33, 141, 14, 142, 143, 41, 40, 94, 2, 95, 93, 450, 451, 452, 453, 454, 96, 97, 98, 99, 24, 404, 32, 405, 406, 61, 407, 27, 408, 409, 410, 411, 118, 412, 413, 117, 119, 53, 414, 301, 302, 303, 56, 178, 179, 180, 793, 794, 795, 424, 425, 426, 427, 428, 476, 477, 478, 591, 592, 593, 594, 595, 596, 550, 511, 512, 513, 514, 515, 516, 517, 47, 129, 130, 479, 480, 481, 482, 483, 484, 981, 982, 983, 984, 985, 986, 987, 988, 989, 990, 991, 992, 993, 994, 1039, 1040, 1041, 1042, 1029, 1030, 1031, 1032, 1033, 1034, 1035, 1036, 1037, 1038, 1043] (by decide +kernel) (by decide +kernel)
set_option maxRecDepth 20000 in
theorem gL_law_X3_join : GoodIn wsL_law (wsV RL 144 RX3 yX3_join wsX3_join) := goodIn_app (goodIn_of _ (by decide +kernel)) ggL_law_X3_join
set_option maxRecDepth 20000 in
theorem ggL_law_X4_join : GoodIn wsL_law wsX4_join := goodIn_r _ [799, 81, 70, 69, 82, 80, 273, 274, 275, 5, 276, 239, 522, 523, 524, 230, 231, 232, 459, 460, 461, 462, 66, 463, 777, 778, 779, 780, 468, 469, 470, 471, 67, 312, 313, 314, 685, 686, 687, 688, 606, 607, 608, 609, 559, 560, 561, 562, 525, 526, 527, 528, 529, 530, 531, 532, 533, 534, 535, 536, 85, 537, 538, 539, 540, 541, 542, 493, 494, 495, 496, 497, 498, 995, 996, 997, 998, 999, 1000, 1001, 1002, 1003, 1004, 1005, 1006, 1007, 1008, 1009, 1010, 1011, 1012, 1013, 1014, 1015, 1016, 1017, 1018, 1019, 1020, 1021, 1022, 1023, 1024, 1025, 1026, 1027, 1028] (by decide +kernel) (by decide +kernel)
set_option maxRecDepth 20000 in
theorem gL_law_X4_join : GoodIn wsL_law (wsV RL 148 RX4 yX4_join wsX4_join) := goodIn_app (goodIn_of _ (by decide +kernel)) ggL_law_X4_join
set_option maxRecDepth 20000 in
theorem ggL_law_X3_larder : GoodIn wsL_law wsX3_larder := goodIn_r _ [803, 23, 96, 97, 98, 2, 99, 24, 804, 805, 806, 807, 22, 423, 179, 118, 180, 15, 128, 129, 130, 981, 982, 983, 984, 985, 986, 987, 988, 989, 990, 991, 992, 993, 994, 1029, 1030, 1031, 1032, 1033, 1034, 1035, 1036, 1037, 1038] (by decide +kernel) (by decide +kernel)
set_option maxRecDepth 20000 in
theorem gL_law_X3_larder : GoodIn wsL_law (wsV RL 149 RX3 yX3_larder wsX3_larder) := goodIn_app (goodIn_of _ (by decide +kernel)) ggL_law_X3_larder
set_option maxRecDepth 20000 in
theorem ggL_law_X4_larder : GoodIn wsL_law wsX4_larder := goodIn_r _ [811, 812, 108, 109, 110, 5, 111, 66, 813, 814, 815, 816, 84, 83, 85, 995, 996, 997, 998, 999, 1000, 1001, 1002, 1003, 1004, 1005, 1006, 1007, 1008, 1009, 1010, 1011, 1012, 1013, 1014, 1015, 1016, 1017, 1018, 1019, 1020, 1021, 1022, 1023, 1024, 1025, 1026, 1027, 1028] (by decide +kernel) (by decide +kernel)
set_option maxRecDepth 20000 in
theorem gL_law_X4_larder : GoodIn wsL_law (wsV RL 153 RX4 yX4_larder wsX4_larder) := goodIn_app (goodIn_of _ (by decide +kernel)) ggL_law_X4_larder
set_option maxRecDepth 20000 in
theorem ggL_law_X3_buy : GoodIn wsL_law wsX3_buy := goodIn_r _ [820, 23, 96, 97, 98, 2, 99, 24, 804, 805, 806, 807, 22, 423, 179, 118, 180, 15, 128, 129, 130, 981, 982, 983, 984, 985, 986, 987, 988, 989, 990, 991, 992, 993, 994, 1029, 1030, 1031, 1032, 1033, 1034, 1035, 1036, 1037, 1038] (by decide +kernel) (by decide +kernel)
set_option maxRecDepth 20000 in
theorem gL_law_X3_buy : GoodIn wsL_law (wsV RL 154 RX3 yX3_buy wsX3_buy) := goodIn_app (goodIn_of _ (by decide +kernel)) ggL_law_X3_buy
set_option maxRecDepth 20000 in
theorem ggL_law_X4_buy : GoodIn wsL_law wsX4_buy := goodIn_r _ [824, 812, 108, 109, 110, 5, 111, 66, 813, 814, 815, 816, 84, 83, 85, 230, 231, 232, 995, 996, 997, 998, 999, 1000, 1001, 1002, 1003, 1004, 1005, 1006, 1007, 1008, 1009, 1010, 1011, 1012, 1013, 1014, 1015, 1016, 1017, 1018, 1019, 1020, 1021, 1022, 1023, 1024, 1025, 1026, 1027, 1028] (by decide +kernel) (by decide +kernel)
set_option maxRecDepth 20000 in
theorem gL_law_X4_buy : GoodIn wsL_law (wsV RL 157 RX4 yX4_buy wsX4_buy) := goodIn_app (goodIn_of _ (by decide +kernel)) ggL_law_X4_buy
set_option maxRecDepth 20000 in
theorem ggL_law_X3_rule : GoodIn wsL_law wsX3_rule := goodIn_r _ [828, 15, 141, 14, 142, 143, 41, 40, 94, 2, 95, 93, 829, 830, 831, 832, 833, 96, 97, 98, 99, 24, 834, 835, 836, 837, 34, 301, 27, 302, 303, 56, 178, 179, 118, 180, 838, 839, 840, 570, 571, 572, 573, 128, 129, 130, 404, 32, 405, 406, 61, 407, 408, 409, 410, 411, 412, 413, 117, 119, 53, 414, 547, 548, 549, 550, 511, 512, 513, 514, 515, 516, 517, 47, 425, 426, 427, 428, 841, 842, 843, 844, 981, 982, 983, 984, 985, 986, 987, 988, 989, 990, 991, 992, 993, 994, 1029, 1030, 1031, 1032, 1033, 1034, 1035, 1036, 1037, 1038, 1039, 1040, 1041, 1042, 1043] (by decide +kernel) (by decide +kernel)
set_option maxRecDepth 20000 in
theorem gL_law_X3_rule : GoodIn wsL_law (wsV RL 158 RX3 yX3_rule wsX3_rule) := goodIn_app (goodIn_of _ (by decide +kernel)) ggL_law_X3_rule
set_option maxRecDepth 20000 in
theorem ggL_law_X4_rule : GoodIn wsL_law wsX4_rule := goodIn_r _ [848, 273, 274, 275, 5, 276, 239, 522, 523, 524, 230, 231, 232, 849, 850, 851, 852, 66, 853, 854, 855, 856, 857, 70, 68, 81, 308, 309, 310, 311, 312, 313, 314, 537, 538, 539, 777, 778, 779, 780, 468, 469, 470, 471, 67, 559, 560, 561, 562, 525, 526, 527, 528, 529, 530, 531, 532, 533, 534, 535, 536, 85, 540, 541, 542, 858, 859, 860, 861, 69, 995, 996, 997, 998, 999, 1000, 1001, 1002, 1003, 1004, 1005, 1006, 1007, 1008, 1009, 1010, 1011, 1012, 1013, 1014, 1015, 1016, 1017, 1018, 1019, 1020, 1021, 1022, 1023, 1024, 1025, 1026, 1027, 1028] (by decide +kernel) (by decide +kernel)
set_option maxRecDepth 20000 in
theorem gL_law_X4_rule : GoodIn wsL_law (wsV RL 161 RX4 yX4_rule wsX4_rule) := goodIn_app (goodIn_of _ (by decide +kernel)) ggL_law_X4_rule
set_option maxRecDepth 20000 in
theorem ggL_law_X3_bestRule : GoodIn wsL_law wsX3_bestRule := goodIn_r _ [865, 15, 93, 94, 2, 95, 96, 97, 98, 99, 24, 141, 14, 142, 143, 41, 40, 834, 835, 836, 837, 34, 301, 27, 302, 303, 56, 178, 179, 118, 180, 838, 839, 840, 570, 571, 572, 573, 128, 129, 130, 404, 32, 405, 406, 61, 407, 408, 409, 410, 411, 412, 413, 117, 119, 53, 414, 547, 548, 549, 550, 511, 512, 513, 514, 515, 516, 517, 47, 425, 426, 427, 428, 841, 842, 843, 844, 981, 982, 983, 984, 985, 986, 987, 988, 989, 990, 991, 992, 993, 994, 1029, 1030, 1031, 1032, 1033, 1034, 1035, 1036, 1037, 1038, 1039, 1040, 1041, 1042, 1043] (by decide +kernel) (by decide +kernel)
set_option maxRecDepth 20000 in
theorem gL_law_X3_bestRule : GoodIn wsL_law (wsV RL 162 RX3 yX3_bestRule wsX3_bestRule) := goodIn_app (goodIn_of _ (by decide +kernel)) ggL_law_X3_bestRule
set_option maxRecDepth 20000 in
theorem ggL_law_X4_bestRule : GoodIn wsL_law wsX4_bestRule := goodIn_r _ [869, 522, 523, 5, 524, 108, 109, 110, 111, 66, 870, 871, 872, 873, 239, 858, 859, 860, 861, 69, 854, 855, 856, 857, 70, 68, 81, 308, 309, 310, 311, 312, 313, 314, 537, 538, 539, 777, 778, 779, 780, 468, 469, 470, 471, 67, 559, 560, 561, 562, 525, 526, 527, 528, 529, 530, 531, 532, 533, 534, 535, 536, 85, 540, 541, 542, 995, 996, 997, 998, 999, 1000, 1001, 1002, 1003, 1004, 1005, 1006, 1007, 1008, 1009, 1010, 1011, 1012, 1013, 1014, 1015, 1016, 1017, 1018, 1019, 1020, 1021, 1022, 1023, 1024, 1025, 1026, 1027, 1028] (by decide +kernel) (by decide +kernel)
set_option maxRecDepth 20000 in
theorem gL_law_X4_bestRule : GoodIn wsL_law (wsV RL 165 RX4 yX4_bestRule wsX4_bestRule) := goodIn_app (goodIn_of _ (by decide +kernel)) ggL_law_X4_bestRule
set_option maxRecDepth 20000 in
theorem ggL_law_X3_ill : GoodIn wsL_law wsX3_ill := goodIn_r _ [877, 23, 28, 22, 93, 94, 2, 95, 350, 351, 352, 353, 15, 197, 14, 198, 199, 42, 140, 141, 142, 143, 41, 40, 878, 879, 880, 881, 128, 129, 130, 96, 97, 98, 99, 24, 400, 401, 402, 403, 33, 144, 27, 145, 146, 53, 54, 55, 56, 147, 148, 149, 150, 404, 32, 405, 406, 61, 407, 408, 409, 410, 411, 118, 412, 413, 117, 119, 414, 301, 302, 303, 178, 179, 180, 415, 416, 417, 418, 419, 420, 421, 422, 423, 116, 424, 425, 426, 427, 428, 882, 883, 884, 885, 29, 172, 173, 174, 175, 176, 177, 981, 982, 983, 984, 985, 986, 987, 988, 989, 990, 991, 992, 993, 994, 1039, 1040, 1041, 1042, 1029, 1030, 1031, 1032, 1033, 1034, 1035, 1036, 1037, 1038, 1043] (by decide +kernel) (by decide +kernel)
set_option maxRecDepth 20000 in
theorem gL_law_X3_ill : GoodIn wsL_law (wsV RL 166 RX3 yX3_ill wsX3_ill) := goodIn_app (goodIn_of _ (by decide +kernel)) ggL_law_X3_ill
set_option maxRecDepth 20000 in
theorem ggL_law_X4_ill : GoodIn wsL_law wsX4_ill := goodIn_r _ [889, 239, 812, 230, 231, 5, 232, 890, 891, 892, 893, 83, 108, 109, 110, 111, 66, 894, 895, 896, 897, 263, 264, 265, 270, 271, 272, 312, 313, 314, 995, 996, 997, 998, 999, 1000, 1001, 1002, 1003, 1004, 1005, 1006, 1007, 1008, 1009, 1010, 1011, 1012, 1013, 1014, 1015, 1016, 1017, 1018, 1019, 1020, 1021, 1022, 1023, 1024, 1025, 1026, 1027, 1028] (by decide +kernel) (by decide +kernel)
set_option maxRecDepth 20000 in
theorem gL_law_X4_ill : GoodIn wsL_law (wsV RL 169 RX4 yX4_ill wsX4_ill) := goodIn_app (goodIn_of _ (by decide +kernel)) ggL_law_X4_ill
set_option maxRecDepth 20000 in
theorem ggL_law_X3_row : GoodIn wsL_law wsX3_row := goodIn_r _ [901, 23, 22, 90, 91, 2, 92, 93, 94, 95, 96, 97, 98, 99, 24, 981, 982, 983, 984, 985, 986, 987, 988, 989, 990, 991, 992, 993, 994] (by decide +kernel) (by decide +kernel)
set_option maxRecDepth 20000 in
theorem gL_law_X3_row : GoodIn wsL_law (wsV RL 170 RX3 yX3_row wsX3_row) := goodIn_app (goodIn_of _ (by decide +kernel)) ggL_law_X3_row
set_option maxRecDepth 20000 in
theorem ggL_law_X4_row : GoodIn wsL_law wsX4_row := goodIn_r _ [905, 812, 83, 105, 106, 5, 107, 108, 109, 110, 111, 66, 995, 996, 997, 998, 999, 1000, 1001, 1002, 1003, 1004, 1005, 1006, 1007, 1008, 1009, 1010, 1011, 1012, 1013, 1014, 1015, 1016, 1017, 1018, 1019, 1020, 1021, 1022, 1023, 1024, 1025, 1026, 1027, 1028] (by decide +kernel) (by decide +kernel)
set_option maxRecDepth 20000 in
theorem gL_law_X4_row : GoodIn wsL_law (wsV RL 173 RX4 yX4_row wsX4_row) := goodIn_app (goodIn_of _ (by decide +kernel)) ggL_law_X4_row
set_option maxRecDepth 20000 in
theorem ggL_law_X3_judge : GoodIn wsL_law wsX3_judge := goodIn_r _ [909, 29, 28, 23, 22, 350, 351, 352, 2, 353, 15, 197, 14, 198, 199, 42, 140, 141, 142, 143, 41, 40, 94, 95, 96, 97, 98, 99, 24, 400, 401, 402, 403, 33, 144, 27, 145, 146, 53, 54, 55, 56, 147, 148, 149, 150, 404, 32, 405, 406, 61, 407, 408, 409, 410, 411, 118, 412, 413, 117, 119, 414, 301, 302, 303, 178, 179, 180, 128, 129, 130, 415, 416, 417, 418, 419, 420, 421, 422, 423, 116, 424, 425, 426, 427, 428, 172, 173, 174, 175, 176, 177, 981, 982, 983, 984, 985, 986, 987, 988, 989, 990, 991, 992, 993, 994, 1029, 1030, 1031, 1032, 1033, 1034, 1035, 1036, 1037, 1038, 1039, 1040, 1041, 1042, 1043] (by decide +kernel) (by decide +kernel)
set_option maxRecDepth 20000 in
theorem gL_law_X3_judge : GoodIn wsL_law (wsV RL 174 RX3 yX3_judge wsX3_judge) := goodIn_app (goodIn_of _ (by decide +kernel)) ggL_law_X3_judge
set_option maxRecDepth 20000 in
theorem ggL_law_X4_judge : GoodIn wsL_law wsX4_judge := goodIn_r _ [913, 239, 812, 70, 240, 67, 83, 108, 109, 110, 5, 111, 66, 263, 264, 265, 270, 271, 272, 312, 313, 314, 995, 996, 997, 998, 999, 1000, 1001, 1002, 1003, 1004, 1005, 1006, 1007, 1008, 1009, 1010, 1011, 1012, 1013, 1014, 1015, 1016, 1017, 1018, 1019, 1020, 1021, 1022, 1023, 1024, 1025, 1026, 1027, 1028] (by decide +kernel) (by decide +kernel)
set_option maxRecDepth 20000 in
theorem gL_law_X4_judge : GoodIn wsL_law (wsV RL 177 RX4 yX4_judge wsX4_judge) := goodIn_app (goodIn_of _ (by decide +kernel)) ggL_law_X4_judge
set_option maxRecDepth 20000 in
theorem ggL_law_X3_clear : GoodIn wsL_law wsX3_clear := goodIn_r _ [917, 23, 981, 982, 983, 984, 985, 986, 987, 988, 989, 990, 991, 992, 993, 994] (by decide +kernel) (by decide +kernel)
set_option maxRecDepth 20000 in
theorem gL_law_X3_clear : GoodIn wsL_law (wsV RL 178 RX3 yX3_clear wsX3_clear) := goodIn_app (goodIn_of _ (by decide +kernel)) ggL_law_X3_clear
set_option maxRecDepth 20000 in
theorem ggL_law_X4_clear : GoodIn wsL_law wsX4_clear := goodIn_r _ [921, 812, 995, 996, 997, 998, 999, 1000, 1001, 1002, 1003, 1004, 1005, 1006, 1007, 1008, 1009, 1010, 1011, 1012, 1013, 1014, 1015, 1016, 1017, 1018, 1019, 1020, 1021, 1022, 1023, 1024, 1025, 1026, 1027, 1028] (by decide +kernel) (by decide +kernel)
set_option maxRecDepth 20000 in
theorem gL_law_X4_clear : GoodIn wsL_law (wsV RL 181 RX4 yX4_clear wsX4_clear) := goodIn_app (goodIn_of _ (by decide +kernel)) ggL_law_X4_clear
set_option maxRecDepth 20000 in
theorem ggL_law_X3_seeds : GoodIn wsL_law wsX3_seeds := goodIn_r _ [925, 29, 28, 34, 15, 93, 94, 2, 95, 350, 351, 352, 353, 197, 14, 198, 199, 42, 140, 141, 142, 143, 41, 40, 90, 91, 92, 829, 830, 831, 832, 833, 96, 97, 98, 99, 24, 400, 401, 402, 403, 33, 144, 27, 145, 146, 53, 54, 55, 56, 147, 148, 149, 150, 404, 32, 405, 406, 61, 407, 408, 409, 410, 411, 118, 412, 413, 117, 119, 414, 301, 302, 303, 178, 179, 180, 128, 129, 130, 415, 416, 417, 418, 419, 420, 421, 422, 423, 116, 424, 425, 426, 427, 428, 926, 927, 928, 929, 930, 931, 932, 933, 934, 184, 185, 186, 172, 173, 174, 175, 176, 177, 547, 548, 549, 550, 511, 512, 513, 514, 515, 516, 517, 47, 841, 842, 843, 844, 981, 982, 983, 984, 985, 986, 987, 988, 989, 990, 991, 992, 993, 994, 1029, 1030, 1031, 1032, 1033, 1034, 1035, 1036, 1037, 1038, 1039, 1040, 1041, 1042, 1043] (by decide +kernel) (by decide +kernel)
set_option maxRecDepth 20000 in
theorem gL_law_X3_seeds : GoodIn wsL_law (wsV RL 182 RX3 yX3_seeds wsX3_seeds) := goodIn_app (goodIn_of _ (by decide +kernel)) ggL_law_X3_seeds
set_option maxRecDepth 20000 in
theorem ggL_law_X4_seeds : GoodIn wsL_law wsX4_seeds := goodIn_r _ [938, 70, 240, 939, 940, 941, 555, 556, 557, 5, 558, 239, 522, 523, 524, 105, 106, 107, 230, 231, 232, 849, 850, 851, 852, 66, 853, 942, 943, 944, 945, 946, 947, 948, 67, 69, 277, 278, 279, 280, 68, 266, 267, 268, 269, 270, 271, 272, 263, 264, 265, 854, 855, 856, 857, 81, 308, 309, 310, 311, 312, 313, 314, 537, 538, 539, 777, 778, 779, 780, 468, 469, 470, 471, 559, 560, 561, 562, 525, 526, 527, 528, 529, 530, 531, 532, 533, 534, 535, 536, 85, 540, 541, 542, 995, 996, 997, 998, 999, 1000, 1001, 1002, 1003, 1004, 1005, 1006, 1007, 1008, 1009, 1010, 1011, 1012, 1013, 1014, 1015, 1016, 1017, 1018, 1019, 1020, 1021, 1022, 1023, 1024, 1025, 1026, 1027, 1028] (by decide +kernel) (by decide +kernel)
set_option maxRecDepth 20000 in
theorem gL_law_X4_seeds : GoodIn wsL_law (wsV RL 185 RX4 yX4_seeds wsX4_seeds) := goodIn_app (goodIn_of _ (by decide +kernel)) ggL_law_X4_seeds
set_option maxRecDepth 20000 in
theorem ggL_law_X3_image : GoodIn wsL_law wsX3_image := goodIn_r _ [952, 17, 15, 18, 137, 14, 138, 139, 40, 43, 44, 46, 48, 41, 42, 45, 47, 49, 140, 141, 142, 143, 94, 2, 95, 144, 27, 145, 146, 53, 54, 55, 56, 147, 148, 149, 150, 151, 152, 153, 981, 982, 983, 984, 985, 986, 987, 988, 989, 990, 991, 992, 993, 994, 1029, 1030, 1031, 1032, 1033, 1034, 1035, 1036, 1037, 1038, 1039, 1040, 1041, 1042] (by decide +kernel) (by decide +kernel)
set_option maxRecDepth 20000 in
theorem gL_law_X3_image : GoodIn wsL_law (wsV RL 186 RX3 yX3_image wsX3_image) := goodIn_app (goodIn_of _ (by decide +kernel)) ggL_law_X3_image
set_option maxRecDepth 20000 in
theorem ggL_law_X4_image : GoodIn wsL_law wsX4_image := goodIn_r _ [956, 957, 239, 233, 234, 235, 5, 236, 237, 238, 67, 68, 69, 70, 71, 72, 73, 74, 240, 241, 242, 85, 243, 244, 245, 246, 79, 247, 248, 249, 250, 995, 996, 997, 998, 999, 1000, 1001, 1002, 1003, 1004, 1005, 1006, 1007, 1008, 1009, 1010, 1011, 1012, 1013, 1014, 1015, 1016, 1017, 1018, 1019, 1020, 1021, 1022, 1023, 1024, 1025, 1026, 1027, 1028] (by decide +kernel) (by decide +kernel)
set_option maxRecDepth 20000 in
theorem gL_law_X4_image : GoodIn wsL_law (wsV RL 189 RX4 yX4_image wsX4_image) := goodIn_app (goodIn_of _ (by decide +kernel)) ggL_law_X4_image
set_option maxRecDepth 20000 in
theorem ggL_law_X3_restore : GoodIn wsL_law wsX3_restore := goodIn_r _ [961, 18, 15, 17, 96, 97, 98, 2, 99, 24, 137, 14, 138, 139, 40, 43, 44, 46, 48, 41, 42, 45, 47, 49, 140, 141, 142, 143, 94, 95, 144, 27, 145, 146, 53, 54, 55, 56, 147, 148, 149, 150, 151, 152, 153, 981, 982, 983, 984, 985, 986, 987, 988, 989, 990, 991, 992, 993, 994, 1029, 1030, 1031, 1032, 1033, 1034, 1035, 1036, 1037, 1038, 1039, 1040, 1041, 1042] (by decide +kernel) (by decide +kernel)
set_option maxRecDepth 20000 in
theorem gL_law_X3_restore : GoodIn wsL_law (wsV RL 190 RX3 yX3_restore wsX3_restore) := goodIn_app (goodIn_of _ (by decide +kernel)) ggL_law_X3_restore
set_option maxRecDepth 20000 in
theorem ggL_law_X4_restore : GoodIn wsL_law wsX4_restore := goodIn_r _ [965, 957, 239, 108, 109, 110, 5, 111, 66, 233, 234, 235, 236, 237, 238, 67, 68, 69, 70, 71, 72, 73, 74, 240, 241, 242, 85, 243, 244, 245, 246, 79, 247, 248, 249, 250, 995, 996, 997, 998, 999, 1000, 1001, 1002, 1003, 1004, 1005, 1006, 1007, 1008, 1009, 1010, 1011, 1012, 1013, 1014, 1015, 1016, 1017, 1018, 1019, 1020, 1021, 1022, 1023, 1024, 1025, 1026, 1027, 1028] (by decide +kernel) (by decide +kernel)
set_option maxRecDepth 20000 in
theorem gL_law_X4_restore : GoodIn wsL_law (wsV RL 193 RX4 yX4_restore wsX4_restore) := goodIn_app (goodIn_of _ (by decide +kernel)) ggL_law_X4_restore
set_option maxRecDepth 20000 in
theorem ggL_law_X3_count : GoodIn wsL_law wsX3_count := goodIn_r _ [969, 24, 15, 21, 23, 128, 129, 2, 130, 381, 14, 382, 383, 46, 970, 971, 972, 41, 140, 141, 142, 143, 40, 94, 95, 319, 320, 321, 981, 982, 983, 984, 985, 986, 987, 988, 989, 990, 991, 992, 993, 994, 1029, 1030, 1031, 1032, 1033, 1034, 1035, 1036, 1037, 1038, 1039, 1040, 1041, 1042] (by decide +kernel) (by decide +kernel)
set_option maxRecDepth 20000 in
theorem gL_law_X3_count : GoodIn wsL_law (wsV RL 194 RX3 yX3_count wsX3_count) := goodIn_app (goodIn_of _ (by decide +kernel)) ggL_law_X3_count
set_option maxRecDepth 20000 in
theorem ggL_law_X4_count : GoodIn wsL_law wsX4_count := goodIn_r _ [976, 66, 71, 239, 240, 241, 242, 85, 104, 812, 230, 231, 5, 232, 977, 978, 979, 980, 69, 326, 327, 328, 329, 70, 995, 996, 997, 998, 999, 1000, 1001, 1002, 1003, 1004, 1005, 1006, 1007, 1008, 1009, 1010, 1011, 1012, 1013, 1014, 1015, 1016, 1017, 1018, 1019, 1020, 1021, 1022, 1023, 1024, 1025, 1026, 1027, 1028] (by decide +kernel) (by decide +kernel)
set_option maxRecDepth 20000 in
theorem gL_law_X4_count : GoodIn wsL_law (wsV RL 197 RX4 yX4_count wsX4_count) := goodIn_app (goodIn_of _ (by decide +kernel)) ggL_law_X4_count
