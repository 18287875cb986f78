set_option maxRecDepth 20000 in
theorem ggL_law_X5_bounding : GoodIn wsL_law wsX5_bounding := goodIn_r _ [283, 284, 101, 110, 102, 155, 156, 5, 157, 215, 216, 217, 218, 164, 122, 123, 124, 125, 126, 127, 285, 286, 287, 288, 93, 658, 659, 660, 661, 662, 663, 664, 665, 666, 667, 668, 669, 670, 671, 672, 673, 674, 675, 676, 677] (by decide +kernel) (by decide +kernel)
set_option maxRecDepth 20000 in
theorem gL_law_X5_bounding : GoodIn wsL_law (wsV RL 58 RX5 yX5_bounding wsX5_bounding) := goodIn_app (goodIn_of _ (by decide +kernel)) ggL_law_X5_bounding
set_option maxRecDepth 20000 in
theorem ggL_law_X4_monotone : GoodIn wsL_law wsX4_monotone := goodIn_r _ [292, 28, 293, 294, 295, 27, 296, 45, 48, 653, 654, 655, 656, 657, 678, 679, 680, 681, 682, 683, 684] (by decide +kernel) (by decide +kernel)
set_option maxRecDepth 20000 in
theorem gL_law_X4_monotone : GoodIn wsL_law (wsV RL 59 RX4 yX4_monotone wsX4_monotone) := goodIn_app (goodIn_of _ (by decide +kernel)) ggL_law_X4_monotone
set_option maxRecDepth 20000 in
theorem ggL_law_X5_monotone : GoodIn wsL_law wsX5_monotone := goodIn_r _ [300, 110, 93, 658, 659, 660, 661, 662, 663, 664, 665, 666, 667, 668, 669, 670, 671, 672, 673, 674, 675, 676, 677] (by decide +kernel) (by decide +kernel)
set_option maxRecDepth 20000 in
theorem gL_law_X5_monotone : GoodIn wsL_law (wsV RL 63 RX5 yX5_monotone wsX5_monotone) := goodIn_app (goodIn_of _ (by decide +kernel)) ggL_law_X5_monotone
set_option maxRecDepth 20000 in
theorem ggL_law_X4_counted : GoodIn wsL_law wsX4_counted := goodIn_r _ [304, 24, 28, 181, 182, 2, 183, 305, 306, 307, 27, 308, 51, 309, 68, 69, 70, 310, 311, 312, 313, 45, 314, 315, 316, 317, 52, 231, 232, 233, 234, 318, 319, 320, 321, 48, 322, 323, 324, 653, 654, 655, 656, 657, 678, 679, 680, 681, 682, 683, 684] (by decide +kernel) (by decide +kernel)
set_option maxRecDepth 20000 in
theorem gL_law_X4_counted : GoodIn wsL_law (wsV RL 64 RX4 yX4_counted wsX4_counted) := goodIn_app (goodIn_of _ (by decide +kernel)) ggL_law_X4_counted
set_option maxRecDepth 20000 in
theorem ggL_law_X5_counted : GoodIn wsL_law wsX5_counted := goodIn_r _ [328, 329, 99, 155, 156, 5, 157, 193, 194, 195, 196, 110, 246, 247, 248, 249, 330, 331, 332, 333, 93, 254, 255, 256, 257, 658, 659, 660, 661, 662, 663, 664, 665, 666, 667, 668, 669, 670, 671, 672, 673, 674, 675, 676, 677] (by decide +kernel) (by decide +kernel)
set_option maxRecDepth 20000 in
theorem gL_law_X5_counted : GoodIn wsL_law (wsV RL 67 RX5 yX5_counted wsX5_counted) := goodIn_app (goodIn_of _ (by decide +kernel)) ggL_law_X5_counted
set_option maxRecDepth 20000 in
theorem ggL_law_X4_trees : GoodIn wsL_law wsX4_trees := goodIn_r _ [337, 24, 132, 28, 181, 182, 2, 183, 338, 339, 340, 27, 341, 45, 342, 343, 344, 345, 346, 347, 348, 349, 55, 48, 350, 351, 352, 353, 354, 69, 355, 356, 357, 358, 359, 360, 653, 654, 655, 656, 657, 678, 679, 680, 681, 682, 683, 684] (by decide +kernel) (by decide +kernel)
set_option maxRecDepth 20000 in
theorem gL_law_X4_trees : GoodIn wsL_law (wsV RL 68 RX4 yX4_trees wsX4_trees) := goodIn_app (goodIn_of _ (by decide +kernel)) ggL_law_X4_trees
set_option maxRecDepth 20000 in
theorem ggL_law_X5_trees : GoodIn wsL_law wsX5_trees := goodIn_r _ [364, 153, 110, 193, 194, 195, 5, 196, 155, 156, 157, 365, 366, 367, 368, 103, 369, 370, 371, 372, 93, 373, 374, 375, 376, 658, 659, 660, 661, 662, 663, 664, 665, 666, 667, 668, 669, 670, 671, 672, 673, 674, 675, 676, 677] (by decide +kernel) (by decide +kernel)
set_option maxRecDepth 20000 in
theorem gL_law_X5_trees : GoodIn wsL_law (wsV RL 72 RX5 yX5_trees wsX5_trees) := goodIn_app (goodIn_of _ (by decide +kernel)) ggL_law_X5_trees
set_option maxRecDepth 20000 in
theorem ggL_law_X4_once : GoodIn wsL_law wsX4_once := goodIn_r _ [380, 28, 181, 182, 2, 183, 381, 382, 383, 27, 384, 385, 386, 387, 388, 310, 311, 312, 313, 45, 322, 323, 324, 205, 206, 115, 116, 117, 118, 119, 120, 318, 319, 320, 321, 48, 389, 390, 391, 392, 653, 654, 655, 656, 657, 678, 679, 680, 681, 682, 683, 684] (by decide +kernel) (by decide +kernel)
set_option maxRecDepth 20000 in
theorem gL_law_X4_once : GoodIn wsL_law (wsV RL 73 RX4 yX4_once wsX4_once) := goodIn_app (goodIn_of _ (by decide +kernel)) ggL_law_X4_once
set_option maxRecDepth 20000 in
theorem ggL_law_X5_once : GoodIn wsL_law wsX5_once := goodIn_r _ [396, 284, 397, 99, 155, 156, 5, 157, 246, 247, 248, 249, 110, 215, 216, 217, 218, 164, 122, 123, 124, 125, 126, 127, 330, 331, 332, 333, 93, 254, 255, 256, 257, 658, 659, 660, 661, 662, 663, 664, 665, 666, 667, 668, 669, 670, 671, 672, 673, 674, 675, 676, 677] (by decide +kernel) (by decide +kernel)
set_option maxRecDepth 20000 in
theorem gL_law_X5_once : GoodIn wsL_law (wsV RL 76 RX5 yX5_once wsX5_once) := goodIn_app (goodIn_of _ (by decide +kernel)) ggL_law_X5_once
set_option maxRecDepth 20000 in
theorem ggL_law_X4_lead : GoodIn wsL_law wsX4_lead := goodIn_r _ [401, 32, 177, 178, 179, 2, 180, 24, 181, 182, 183, 402, 403, 404, 31, 405, 62, 653, 654, 655, 656, 657, 685, 686, 687, 688] (by decide +kernel) (by decide +kernel)
set_option maxRecDepth 20000 in
theorem gL_law_X4_lead : GoodIn wsL_law (wsV RL 77 RX4 yX4_lead wsX4_lead) := goodIn_app (goodIn_of _ (by decide +kernel)) ggL_law_X4_lead
set_option maxRecDepth 20000 in
theorem ggL_law_X5_lead : GoodIn wsL_law wsX5_lead := goodIn_r _ [409, 410, 94, 193, 194, 195, 5, 196, 110, 155, 156, 157, 658, 659, 660, 661, 662, 663, 664, 665, 666, 667, 668, 669, 670, 671, 672, 673, 674, 675, 676, 677] (by decide +kernel) (by decide +kernel)
set_option maxRecDepth 20000 in
theorem gL_law_X5_lead : GoodIn wsL_law (wsV RL 80 RX5 yX5_lead wsX5_lead) := goodIn_app (goodIn_of _ (by decide +kernel)) ggL_law_X5_lead
set_option maxRecDepth 20000 in
theorem ggL_law_X4_end : GoodIn wsL_law wsX4_end := goodIn_r _ [414, 32, 177, 178, 179, 2, 180, 24, 415, 416, 417, 31, 418, 64, 653, 654, 655, 656, 657, 685, 686, 687, 688] (by decide +kernel) (by decide +kernel)
set_option maxRecDepth 20000 in
theorem gL_law_X4_end : GoodIn wsL_law (wsV RL 81 RX4 yX4_end wsX4_end) := goodIn_app (goodIn_of _ (by decide +kernel)) ggL_law_X4_end
set_option maxRecDepth 20000 in
theorem ggL_law_X5_end : GoodIn wsL_law wsX5_end := goodIn_r _ [422, 95, 193, 194, 195, 5, 196, 110, 155, 156, 157, 658, 659, 660, 661, 662, 663, 664, 665, 666, 667, 668, 669, 670, 671, 672, 673, 674, 675, 676, 677] (by decide +kernel) (by decide +kernel)
set_option maxRecDepth 20000 in
theorem gL_law_X5_end : GoodIn wsL_law (wsV RL 85 RX5 yX5_end wsX5_end) := goodIn_app (goodIn_of _ (by decide +kernel)) ggL_law_X5_end
set_option maxRecDepth 20000 in
theorem ggL_law_X4_words : GoodIn wsL_law wsX4_words := goodIn_r _ [426, 132, 32, 181, 182, 2, 183, 427, 428, 429, 31, 430, 60, 66, 64, 431, 432, 433, 434, 435, 436, 437, 438, 62, 653, 654, 655, 656, 657, 685, 686, 687, 688] (by decide +kernel) (by decide +kernel)
set_option maxRecDepth 20000 in
theorem gL_law_X4_words : GoodIn wsL_law (wsV RL 86 RX4 yX4_words wsX4_words) := goodIn_app (goodIn_of _ (by decide +kernel)) ggL_law_X4_words
set_option maxRecDepth 20000 in
theorem ggL_law_X5_words : GoodIn wsL_law wsX5_words := goodIn_r _ [442, 443, 153, 104, 155, 156, 5, 157, 444, 445, 446, 447, 110, 95, 94, 658, 659, 660, 661, 662, 663, 664, 665, 666, 667, 668, 669, 670, 671, 672, 673, 674, 675, 676, 677] (by decide +kernel) (by decide +kernel)
set_option maxRecDepth 20000 in
theorem gL_law_X5_words : GoodIn wsL_law (wsV RL 89 RX5 yX5_words wsX5_words) := goodIn_app (goodIn_of _ (by decide +kernel)) ggL_law_X5_words
set_option maxRecDepth 20000 in
theorem ggL_law_X4_word : GoodIn wsL_law wsX4_word := goodIn_r _ [451, 32, 181, 182, 2, 183, 427, 428, 429, 31, 430, 60, 66, 64, 431, 432, 433, 434, 435, 436, 437, 438, 62, 452, 453, 454, 455, 456, 457, 458, 459, 653, 654, 655, 656, 657, 685, 686, 687, 688] (by decide +kernel) (by decide +kernel)
set_option maxRecDepth 20000 in
theorem gL_law_X4_word : GoodIn wsL_law (wsV RL 90 RX4 yX4_word wsX4_word) := goodIn_app (goodIn_of _ (by decide +kernel)) ggL_law_X4_word
set_option maxRecDepth 20000 in
theorem ggL_law_X5_word : GoodIn wsL_law wsX5_word := goodIn_r _ [463, 443, 104, 94, 155, 156, 5, 157, 444, 445, 446, 447, 110, 95, 464, 465, 466, 467, 658, 659, 660, 661, 662, 663, 664, 665, 666, 667, 668, 669, 670, 671, 672, 673, 674, 675, 676, 677] (by decide +kernel) (by decide +kernel)
set_option maxRecDepth 20000 in
theorem gL_law_X5_word : GoodIn wsL_law (wsV RL 94 RX5 yX5_word wsX5_word) := goodIn_app (goodIn_of _ (by decide +kernel)) ggL_law_X5_word
set_option maxRecDepth 20000 in
theorem ggL_law_X4_rank : GoodIn wsL_law wsX4_rank := goodIn_r _ [471, 132, 32, 181, 182, 2, 183, 427, 428, 429, 31, 430, 60, 66, 64, 431, 432, 433, 434, 435, 436, 437, 438, 62, 472, 473, 474, 475, 476, 653, 654, 655, 656, 657, 685, 686, 687, 688] (by decide +kernel) (by decide +kernel)
set_option maxRecDepth 20000 in
theorem gL_law_X4_rank : GoodIn wsL_law (wsV RL 95 RX4 yX4_rank wsX4_rank) := goodIn_app (goodIn_of _ (by decide +kernel)) ggL_law_X4_rank
set_option maxRecDepth 20000 in
theorem ggL_law_X5_rank : GoodIn wsL_law wsX5_rank := goodIn_r _ [480, 443, 153, 410, 94, 481, 95, 155, 156, 5, 157, 444, 445, 446, 447, 110, 104, 464, 465, 466, 467, 658, 659, 660, 661, 662, 663, 664, 665, 666, 667, 668, 669, 670, 671, 672, 673, 674, 675, 676, 677] (by decide +kernel) (by decide +kernel)
set_option maxRecDepth 20000 in
theorem gL_law_X5_rank : GoodIn wsL_law (wsV RL 98 RX5 yX5_rank wsX5_rank) := goodIn_app (goodIn_of _ (by decide +kernel)) ggL_law_X5_rank
set_option maxRecDepth 20000 in
theorem ggL_law_X4_allow : GoodIn wsL_law wsX4_allow := goodIn_r _ [485, 36, 181, 182, 2, 183, 486, 487, 488, 35, 489, 75, 653, 654, 655, 656, 657, 689, 690] (by decide +kernel) (by decide +kernel)
set_option maxRecDepth 20000 in
theorem gL_law_X4_allow : GoodIn wsL_law (wsV RL 99 RX4 yX4_allow wsX4_allow) := goodIn_app (goodIn_of _ (by decide +kernel)) ggL_law_X4_allow
set_option maxRecDepth 20000 in
theorem ggL_law_X5_allow : GoodIn wsL_law wsX5_allow := goodIn_r _ [493, 192, 96, 155, 156, 5, 157, 658, 659, 660, 661, 662, 663, 664, 665, 666, 667, 668, 669, 670, 671, 672, 673, 674, 675, 676, 677] (by decide +kernel) (by decide +kernel)
set_option maxRecDepth 20000 in
theorem gL_law_X5_allow : GoodIn wsL_law (wsV RL 103 RX5 yX5_allow wsX5_allow) := goodIn_app (goodIn_of _ (by decide +kernel)) ggL_law_X5_allow
set_option maxRecDepth 20000 in
theorem ggL_law_X4_permutations : GoodIn wsL_law wsX4_permutations := goodIn_r _ [497, 36, 181, 182, 2, 183, 498, 499, 500, 35, 501, 76, 502, 503, 504, 505, 506, 507, 508, 509, 75, 510, 511, 512, 513, 514, 515, 516, 653, 654, 655, 656, 657, 689, 690] (by decide +kernel) (by decide +kernel)
set_option maxRecDepth 20000 in
theorem gL_law_X4_permutations : GoodIn wsL_law (wsV RL 104 RX4 yX4_permutations wsX4_permutations) := goodIn_app (goodIn_of _ (by decide +kernel)) ggL_law_X4_permutations
set_option maxRecDepth 20000 in
theorem ggL_law_X5_permutations : GoodIn wsL_law wsX5_permutations := goodIn_r _ [520, 521, 105, 155, 156, 5, 157, 522, 523, 524, 525, 96, 658, 659, 660, 661, 662, 663, 664, 665, 666, 667, 668, 669, 670, 671, 672, 673, 674, 675, 676, 677] (by decide +kernel) (by decide +kernel)
set_option maxRecDepth 20000 in
theorem gL_law_X5_permutations : GoodIn wsL_law (wsV RL 108 RX5 yX5_permutations wsX5_permutations) := goodIn_app (goodIn_of _ (by decide +kernel)) ggL_law_X5_permutations
set_option maxRecDepth 20000 in
theorem ggL_law_X4_permutation : GoodIn wsL_law wsX4_permutation := goodIn_r _ [529, 36, 181, 182, 2, 183, 498, 499, 500, 35, 501, 76, 502, 503, 504, 505, 506, 507, 508, 509, 75, 510, 511, 512, 513, 514, 515, 516, 530, 531, 532, 533, 534, 535, 536, 537, 653, 654, 655, 656, 657, 689, 690] (by decide +kernel) (by decide +kernel)
set_option maxRecDepth 20000 in
theorem gL_law_X4_permutation : GoodIn wsL_law (wsV RL 109 RX4 yX4_permutation wsX4_permutation) := goodIn_app (goodIn_of _ (by decide +kernel)) ggL_law_X4_permutation
set_option maxRecDepth 20000 in
theorem ggL_law_X5_permutation : GoodIn wsL_law wsX5_permutation := goodIn_r _ [541, 521, 105, 155, 156, 5, 157, 522, 523, 524, 525, 96, 542, 543, 544, 545, 658, 659, 660, 661, 662, 663, 664, 665, 666, 667, 668, 669, 670, 671, 672, 673, 674, 675, 676, 677] (by decide +kernel) (by decide +kernel)
set_option maxRecDepth 20000 in
theorem gL_law_X5_permutation : GoodIn wsL_law (wsV RL 112 RX5 yX5_permutation wsX5_permutation) := goodIn_app (goodIn_of _ (by decide +kernel)) ggL_law_X5_permutation
set_option maxRecDepth 20000 in
theorem ggL_law_X4_place : GoodIn wsL_law wsX4_place := goodIn_r _ [549, 36, 181, 182, 2, 183, 498, 499, 500, 35, 501, 76, 502, 503, 504, 505, 506, 507, 508, 509, 75, 510, 511, 512, 513, 514, 515, 516, 550, 551, 552, 553, 653, 654, 655, 656, 657, 689, 690] (by decide +kernel) (by decide +kernel)
set_option maxRecDepth 20000 in
theorem gL_law_X4_place : GoodIn wsL_law (wsV RL 113 RX4 yX4_place wsX4_place) := goodIn_app (goodIn_of _ (by decide +kernel)) ggL_law_X4_place
set_option maxRecDepth 20000 in
theorem ggL_law_X5_place : GoodIn wsL_law wsX5_place := goodIn_r _ [557, 521, 96, 155, 156, 5, 157, 522, 523, 524, 525, 105, 542, 543, 544, 545, 658, 659, 660, 661, 662, 663, 664, 665, 666, 667, 668, 669, 670, 671, 672, 673, 674, 675, 676, 677] (by decide +kernel) (by decide +kernel)
set_option maxRecDepth 20000 in
theorem gL_law_X5_place : GoodIn wsL_law (wsV RL 116 RX5 yX5_place wsX5_place) := goodIn_app (goodIn_of _ (by decide +kernel)) ggL_law_X5_place
set_option maxRecDepth 20000 in
theorem ggL_law_X4_things : GoodIn wsL_law wsX4_things := goodIn_r _ [561, 40, 181, 182, 2, 183, 562, 563, 564, 39, 565, 87, 82, 88, 68, 69, 70, 653, 654, 655, 656, 657, 691, 692, 693, 694, 695, 696] (by decide +kernel) (by decide +kernel)
set_option maxRecDepth 20000 in
theorem gL_law_X4_things : GoodIn wsL_law (wsV RL 117 RX4 yX4_things wsX4_things) := goodIn_app (goodIn_of _ (by decide +kernel)) ggL_law_X4_things
set_option maxRecDepth 20000 in
theorem ggL_law_X5_things : GoodIn wsL_law wsX5_things := goodIn_r _ [569, 570, 97, 98, 155, 156, 5, 157, 658, 659, 660, 661, 662, 663, 664, 665, 666, 667, 668, 669, 670, 671, 672, 673, 674, 675, 676, 677] (by decide +kernel) (by decide +kernel)
set_option maxRecDepth 20000 in
theorem gL_law_X5_things : GoodIn wsL_law (wsV RL 120 RX5 yX5_things wsX5_things) := goodIn_app (goodIn_of _ (by decide +kernel)) ggL_law_X5_things
set_option maxRecDepth 20000 in
theorem ggL_law_X4_weight : GoodIn wsL_law wsX4_weight := goodIn_r _ [574, 40, 575, 576, 577, 39, 578, 87, 181, 182, 2, 183, 579, 580, 581, 582, 82, 653, 654, 655, 656, 657, 691, 692, 693, 694, 695, 696] (by decide +kernel) (by decide +kernel)
set_option maxRecDepth 20000 in
theorem gL_law_X4_weight : GoodIn wsL_law (wsV RL 121 RX4 yX4_weight wsX4_weight) := goodIn_app (goodIn_of _ (by decide +kernel)) ggL_law_X4_weight
set_option maxRecDepth 20000 in
theorem ggL_law_X5_weight : GoodIn wsL_law wsX5_weight := goodIn_r _ [586, 587, 98, 588, 589, 590, 5, 591, 97, 155, 156, 157, 658, 659, 660, 661, 662, 663, 664, 665, 666, 667, 668, 669, 670, 671, 672, 673, 674, 675, 676, 677] (by decide +kernel) (by decide +kernel)
set_option maxRecDepth 20000 in
theorem gL_law_X5_weight : GoodIn wsL_law (wsV RL 124 RX5 yX5_weight wsX5_weight) := goodIn_app (goodIn_of _ (by decide +kernel)) ggL_law_X5_weight
set_option maxRecDepth 20000 in
theorem ggL_law_X4_cell : GoodIn wsL_law wsX4_cell := goodIn_r _ [595, 40, 575, 576, 577, 39, 578, 87, 181, 182, 2, 183, 596, 597, 598, 599, 82, 600, 601, 602, 603, 83, 84, 85, 86, 604, 605, 606, 607, 608, 609, 610, 611, 612, 613, 614, 615, 616, 617, 618, 619, 653, 654, 655, 656, 657, 691, 692, 693, 694, 695, 696] (by decide +kernel) (by decide +kernel)
set_option maxRecDepth 20000 in
theorem gL_law_X4_cell : GoodIn wsL_law (wsV RL 125 RX4 yX4_cell wsX4_cell) := goodIn_app (goodIn_of _ (by decide +kernel)) ggL_law_X4_cell
set_option maxRecDepth 20000 in
theorem ggL_law_X5_cell : GoodIn wsL_law wsX5_cell := goodIn_r _ [623, 624, 106, 107, 588, 589, 590, 5, 591, 97, 155, 156, 157, 625, 626, 627, 628, 98, 629, 630, 631, 632, 108, 109, 633, 634, 635, 636, 658, 659, 660, 661, 662, 663, 664, 665, 666, 667, 668, 669, 670, 671, 672, 673, 674, 675, 676, 677] (by decide +kernel) (by decide +kernel)
set_option maxRecDepth 20000 in
theorem gL_law_X5_cell : GoodIn wsL_law (wsV RL 127 RX5 yX5_cell wsX5_cell) := goodIn_app (goodIn_of _ (by decide +kernel)) ggL_law_X5_cell
set_option maxRecDepth 20000 in
theorem ggL_law_X4_tell : GoodIn wsL_law wsX4_tell := goodIn_r _ [640, 40, 596, 597, 598, 39, 599, 87, 82, 641, 642, 643, 644, 575, 576, 577, 578, 600, 601, 602, 603, 83, 84, 85, 86, 604, 605, 606, 607, 608, 609, 610, 611, 645, 646, 647, 648, 653, 654, 655, 656, 657, 691, 692, 693, 694, 695, 696] (by decide +kernel) (by decide +kernel)
set_option maxRecDepth 20000 in
theorem gL_law_X4_tell : GoodIn wsL_law (wsV RL 128 RX4 yX4_tell wsX4_tell) := goodIn_app (goodIn_of _ (by decide +kernel)) ggL_law_X4_tell
set_option maxRecDepth 20000 in
theorem ggL_law_X5_tell : GoodIn wsL_law wsX5_tell := goodIn_r _ [652, 97, 106, 107, 625, 626, 627, 5, 628, 98, 155, 156, 157, 629, 630, 631, 632, 108, 109, 633, 634, 635, 636, 658, 659, 660, 661, 662, 663, 664, 665, 666, 667, 668, 669, 670, 671, 672, 673, 674, 675, 676, 677] (by decide +kernel) (by decide +kernel)
set_option maxRecDepth 20000 in
theorem gL_law_X5_tell : GoodIn wsL_law (wsV RL 131 RX5 yX5_tell wsX5_tell) := goodIn_app (goodIn_of _ (by decide +kernel)) ggL_law_X5_tell
