set_option maxRecDepth 20000 in
theorem ggL_law_L_cell : GoodIn wsL_law wsL_cell := goodIn_r _ [10] (by decide +kernel) (by decide +kernel)
set_option maxRecDepth 20000 in
theorem gL_law_L_cell : GoodIn wsL_law (va_wsS RL 9 yL_cell wsL_cell) := goodIn_app (goodIn_of _ (by decide +kernel)) ggL_law_L_cell
set_option maxRecDepth 20000 in
theorem ggL_law_X4_init : GoodIn wsL_law wsX4_init := goodIn_r _ [13, 14, 15, 16, 17, 18, 19, 20, 21, 22, 23, 24, 25, 26, 27, 28, 29, 30, 31, 32, 33, 34, 35, 36, 37, 38, 39, 40, 41, 42, 43, 44, 45, 46, 47, 48, 49, 50, 51, 52, 53, 54, 55, 56, 57, 58, 59, 60, 61, 62, 63, 64, 65, 66, 67, 68, 69, 70, 71, 72, 73, 74, 75, 76, 77, 78, 79, 80, 81, 82, 83, 84, 85, 86, 87, 88, 653, 654, 655, 656, 657, 678, 679, 680, 681, 682, 683, 684, 685, 686, 687, 688, 689, 690, 691, 692, 693, 694, 695, 696] (by decide +kernel) (by decide +kernel)
set_option maxRecDepth 20000 in
theorem gL_law_X4_init : GoodIn wsL_law (wsX4_init) := ggL_law_X4_init
set_option maxRecDepth 20000 in
theorem ggL_law_X5_init : GoodIn wsL_law wsX5_init := goodIn_r _ [91, 92, 15, 16, 47, 93, 94, 63, 95, 96, 97, 98, 99, 100, 101, 102, 54, 103, 104, 105, 106, 107, 108, 109, 110, 658, 659, 660, 661, 662, 663, 664, 665, 666, 667, 668, 669, 670, 671, 672, 673, 674, 675, 676, 677] (by decide +kernel) (by decide +kernel)
set_option maxRecDepth 20000 in
theorem gL_law_X5_init : GoodIn wsL_law (wsX5_init) := ggL_law_X5_init
set_option maxRecDepth 20000 in
theorem ggL_law_X4_hash : GoodIn wsL_law wsX4_hash := goodIn_r _ [114, 115, 116, 2, 117, 118, 119, 120] (by decide +kernel) (by decide +kernel)
set_option maxRecDepth 20000 in
theorem gL_law_X4_hash : GoodIn wsL_law (wsV RL 21 RX4 yX4_hash wsX4_hash) := goodIn_app (goodIn_of _ (by decide +kernel)) ggL_law_X4_hash
set_option maxRecDepth 20000 in
theorem ggL_law_X5_hash : GoodIn wsL_law wsX5_hash := goodIn_r _ [124, 125, 126, 127] (by decide +kernel) (by decide +kernel)
set_option maxRecDepth 20000 in
theorem gL_law_X5_hash : GoodIn wsL_law (wsV RL 25 RX5 yX5_hash wsX5_hash) := goodIn_app (goodIn_of _ (by decide +kernel)) ggL_law_X5_hash
set_option maxRecDepth 20000 in
theorem ggL_law_X4_pick : GoodIn wsL_law wsX4_pick := goodIn_r _ [131, 132, 133, 134, 2, 135, 136, 137, 138, 139, 140, 141, 142, 143, 144, 145, 146, 147, 115, 116, 117, 118, 119, 120] (by decide +kernel) (by decide +kernel)
set_option maxRecDepth 20000 in
theorem gL_law_X4_pick : GoodIn wsL_law (wsV RL 28 RX4 yX4_pick wsX4_pick) := goodIn_app (goodIn_of _ (by decide +kernel)) ggL_law_X4_pick
set_option maxRecDepth 20000 in
theorem ggL_law_X5_pick : GoodIn wsL_law wsX5_pick := goodIn_r _ [151, 152, 153, 154, 155, 156, 5, 157, 158, 159, 160, 161, 162, 163, 164, 122, 123, 124, 125, 126, 127, 658, 659, 660, 661, 662, 663, 664, 665, 666, 667, 668, 669, 670, 671, 672, 673, 674, 675, 676, 677] (by decide +kernel) (by decide +kernel)
set_option maxRecDepth 20000 in
theorem gL_law_X5_pick : GoodIn wsL_law (wsV RL 32 RX5 yX5_pick wsX5_pick) := goodIn_app (goodIn_of _ (by decide +kernel)) ggL_law_X5_pick
set_option maxRecDepth 20000 in
theorem ggL_law_X4_tries : GoodIn wsL_law wsX4_tries := goodIn_r _ [168, 133, 134, 2, 135, 136, 137, 138, 139, 140, 141, 142, 143, 144, 145, 146, 147, 115, 116, 117, 118, 119, 120] (by decide +kernel) (by decide +kernel)
set_option maxRecDepth 20000 in
theorem gL_law_X4_tries : GoodIn wsL_law (wsV RL 33 RX4 yX4_tries wsX4_tries) := goodIn_app (goodIn_of _ (by decide +kernel)) ggL_law_X4_tries
set_option maxRecDepth 20000 in
theorem ggL_law_X5_tries : GoodIn wsL_law wsX5_tries := goodIn_r _ [172, 152, 162, 155, 156, 5, 157, 158, 159, 160, 161, 154, 163, 164, 122, 123, 124, 125, 126, 127, 658, 659, 660, 661, 662, 663, 664, 665, 666, 667, 668, 669, 670, 671, 672, 673, 674, 675, 676, 677] (by decide +kernel) (by decide +kernel)
set_option maxRecDepth 20000 in
theorem gL_law_X5_tries : GoodIn wsL_law (wsV RL 37 RX5 yX5_tries wsX5_tries) := goodIn_app (goodIn_of _ (by decide +kernel)) ggL_law_X5_tries
set_option maxRecDepth 20000 in
theorem ggL_law_X4_rule : GoodIn wsL_law wsX4_rule := goodIn_r _ [176, 28, 177, 178, 179, 2, 180, 24, 181, 182, 183, 184, 185, 186, 27, 187, 48, 653, 654, 655, 656, 657, 678, 679, 680, 681, 682, 683, 684] (by decide +kernel) (by decide +kernel)
set_option maxRecDepth 20000 in
theorem gL_law_X4_rule : GoodIn wsL_law (wsV RL 38 RX4 yX4_rule wsX4_rule) := goodIn_app (goodIn_of _ (by decide +kernel)) ggL_law_X4_rule
set_option maxRecDepth 20000 in
theorem ggL_law_X5_rule : GoodIn wsL_law wsX5_rule := goodIn_r _ [191, 192, 93, 193, 194, 195, 5, 196, 110, 155, 156, 157, 658, 659, 660, 661, 662, 663, 664, 665, 666, 667, 668, 669, 670, 671, 672, 673, 674, 675, 676, 677] (by decide +kernel) (by decide +kernel)
set_option maxRecDepth 20000 in
theorem gL_law_X5_rule : GoodIn wsL_law (wsV RL 42 RX5 yX5_rule wsX5_rule) := goodIn_app (goodIn_of _ (by decide +kernel)) ggL_law_X5_rule
set_option maxRecDepth 20000 in
theorem ggL_law_X4_taken : GoodIn wsL_law wsX4_taken := goodIn_r _ [200, 28, 181, 182, 2, 183, 177, 178, 179, 180, 24, 201, 202, 203, 27, 204, 48, 205, 206, 115, 116, 117, 118, 119, 120, 653, 654, 655, 656, 657, 678, 679, 680, 681, 682, 683, 684] (by decide +kernel) (by decide +kernel)
set_option maxRecDepth 20000 in
theorem gL_law_X4_taken : GoodIn wsL_law (wsV RL 43 RX4 yX4_taken wsX4_taken) := goodIn_app (goodIn_of _ (by decide +kernel)) ggL_law_X4_taken
set_option maxRecDepth 20000 in
theorem ggL_law_X5_taken : GoodIn wsL_law wsX5_taken := goodIn_r _ [210, 93, 211, 212, 5, 213, 214, 155, 156, 157, 193, 194, 195, 196, 110, 215, 216, 217, 218, 164, 122, 123, 124, 125, 126, 127, 658, 659, 660, 661, 662, 663, 664, 665, 666, 667, 668, 669, 670, 671, 672, 673, 674, 675, 676, 677] (by decide +kernel) (by decide +kernel)
set_option maxRecDepth 20000 in
theorem gL_law_X5_taken : GoodIn wsL_law (wsV RL 46 RX5 yX5_taken wsX5_taken) := goodIn_app (goodIn_of _ (by decide +kernel)) ggL_law_X5_taken
set_option maxRecDepth 20000 in
theorem ggL_law_X4_past : GoodIn wsL_law wsX4_past := goodIn_r _ [222, 28, 181, 182, 2, 183, 223, 224, 225, 27, 226, 45, 49, 205, 206, 115, 116, 117, 118, 119, 120, 227, 228, 229, 230, 50, 48, 231, 232, 233, 234, 235, 236, 237, 238, 239, 240, 241, 201, 202, 203, 204, 653, 654, 655, 656, 657, 678, 679, 680, 681, 682, 683, 684] (by decide +kernel) (by decide +kernel)
set_option maxRecDepth 20000 in
theorem gL_law_X4_past : GoodIn wsL_law (wsV RL 47 RX4 yX4_past wsX4_past) := goodIn_app (goodIn_of _ (by decide +kernel)) ggL_law_X4_past
set_option maxRecDepth 20000 in
theorem ggL_law_X5_past : GoodIn wsL_law wsX5_past := goodIn_r _ [245, 99, 211, 212, 5, 213, 214, 155, 156, 157, 246, 247, 248, 249, 110, 215, 216, 217, 218, 164, 122, 123, 124, 125, 126, 127, 250, 251, 252, 253, 100, 93, 254, 255, 256, 257, 658, 659, 660, 661, 662, 663, 664, 665, 666, 667, 668, 669, 670, 671, 672, 673, 674, 675, 676, 677] (by decide +kernel) (by decide +kernel)
set_option maxRecDepth 20000 in
theorem gL_law_X5_past : GoodIn wsL_law (wsV RL 50 RX5 yX5_past wsX5_past) := goodIn_app (goodIn_of _ (by decide +kernel)) ggL_law_X5_past
set_option maxRecDepth 20000 in
theorem ggL_law_X4_fold : GoodIn wsL_law wsX4_fold := goodIn_r _ [261, 28, 181, 182, 2, 183, 223, 224, 225, 27, 226, 45, 49, 205, 206, 115, 116, 117, 118, 119, 120, 227, 228, 229, 230, 50, 48, 231, 232, 233, 234, 235, 236, 237, 238, 653, 654, 655, 656, 657, 678, 679, 680, 681, 682, 683, 684] (by decide +kernel) (by decide +kernel)
set_option maxRecDepth 20000 in
theorem gL_law_X4_fold : GoodIn wsL_law (wsV RL 51 RX4 yX4_fold wsX4_fold) := goodIn_app (goodIn_of _ (by decide +kernel)) ggL_law_X4_fold
set_option maxRecDepth 20000 in
theorem ggL_law_X5_fold : GoodIn wsL_law wsX5_fold := goodIn_r _ [265, 211, 212, 5, 213, 214, 155, 156, 157, 246, 247, 248, 249, 110, 99, 215, 216, 217, 218, 164, 122, 123, 124, 125, 126, 127, 250, 251, 252, 253, 100, 93, 254, 255, 256, 257, 658, 659, 660, 661, 662, 663, 664, 665, 666, 667, 668, 669, 670, 671, 672, 673, 674, 675, 676, 677] (by decide +kernel) (by decide +kernel)
set_option maxRecDepth 20000 in
theorem gL_law_X5_fold : GoodIn wsL_law (wsV RL 54 RX5 yX5_fold wsX5_fold) := goodIn_app (goodIn_of _ (by decide +kernel)) ggL_law_X5_fold
set_option maxRecDepth 20000 in
theorem ggL_law_X4_bounding : GoodIn wsL_law wsX4_bounding := goodIn_r _ [269, 28, 181, 182, 2, 183, 270, 271, 272, 27, 273, 274, 275, 276, 277, 45, 48, 278, 18, 19, 20, 279, 22, 23, 205, 206, 115, 116, 117, 118, 119, 120, 653, 654, 655, 656, 657, 678, 679, 680, 681, 682, 683, 684] (by decide +kernel) (by decide +kernel)
set_option maxRecDepth 20000 in
theorem gL_law_X4_bounding : GoodIn wsL_law (wsV RL 55 RX4 yX4_bounding wsX4_bounding) := goodIn_app (goodIn_of _ (by decide +kernel)) ggL_law_X4_bounding
