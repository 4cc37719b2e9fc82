set_option maxRecDepth 20000 in
theorem ggL_law_X2_init : GoodIn wsL_law wsX2_init := goodIn_r _ [9, 10, 11, 12, 13, 14, 15, 16, 17, 18, 19, 20, 21, 22, 23, 24, 25, 26, 27, 28, 29, 30, 31, 32, 33, 34, 650, 651, 652, 653, 654, 655, 656, 657, 678, 679, 680, 681, 682] (by decide +kernel) (by decide +kernel)
set_option maxRecDepth 20000 in
theorem gL_law_X2_init : GoodIn wsL_law (wsX2_init) := ggL_law_X2_init
set_option maxRecDepth 20000 in
theorem ggL_law_X3_init : GoodIn wsL_law wsX3_init := goodIn_r _ [37, 38, 11, 12, 29, 39, 40, 41, 31, 42, 43, 44, 45, 46, 47, 48, 658, 659, 660, 661, 662, 663, 664, 665, 666, 667, 668, 669, 670, 671, 672, 673, 674, 675, 676, 677] (by decide +kernel) (by decide +kernel)
set_option maxRecDepth 20000 in
theorem gL_law_X3_init : GoodIn wsL_law (wsX3_init) := ggL_law_X3_init
set_option maxRecDepth 20000 in
theorem ggL_law_X2_pair : GoodIn wsL_law wsX2_pair := goodIn_r _ [52, 17, 53, 54, 55, 2, 56, 57, 58, 59, 16, 60, 61, 30, 32, 33, 34, 650, 651, 652, 653, 654, 655, 656, 657, 678, 679, 680, 681, 682] (by decide +kernel) (by decide +kernel)
set_option maxRecDepth 20000 in
theorem gL_law_X2_pair : GoodIn wsL_law (wsV RL 13 RX2 yX2_pair wsX2_pair) := goodIn_app (goodIn_of _ (by decide +kernel)) ggL_law_X2_pair
set_option maxRecDepth 20000 in
theorem ggL_law_X3_pair : GoodIn wsL_law wsX3_pair := goodIn_r _ [65, 66, 41, 67, 68, 5, 69, 70, 71, 72, 73, 658, 659, 660, 661, 662, 663, 664, 665, 666, 667, 668, 669, 670, 671, 672, 673, 674, 675, 676, 677] (by decide +kernel) (by decide +kernel)
set_option maxRecDepth 20000 in
theorem gL_law_X3_pair : GoodIn wsL_law (wsV RL 17 RX3 yX3_pair wsX3_pair) := goodIn_app (goodIn_of _ (by decide +kernel)) ggL_law_X3_pair
set_option maxRecDepth 20000 in
theorem ggL_law_X2_clear : GoodIn wsL_law wsX2_clear := goodIn_r _ [77, 17, 53, 650, 651, 652, 653, 654, 655, 656, 657, 678, 679, 680, 681, 682] (by decide +kernel) (by decide +kernel)
set_option maxRecDepth 20000 in
theorem gL_law_X2_clear : GoodIn wsL_law (wsV RL 18 RX2 yX2_clear wsX2_clear) := goodIn_app (goodIn_of _ (by decide +kernel)) ggL_law_X2_clear
set_option maxRecDepth 20000 in
theorem ggL_law_X3_clear : GoodIn wsL_law wsX3_clear := goodIn_r _ [81, 66, 658, 659, 660, 661, 662, 663, 664, 665, 666, 667, 668, 669, 670, 671, 672, 673, 674, 675, 676, 677] (by decide +kernel) (by decide +kernel)
set_option maxRecDepth 20000 in
theorem gL_law_X3_clear : GoodIn wsL_law (wsV RL 22 RX3 yX3_clear wsX3_clear) := goodIn_app (goodIn_of _ (by decide +kernel)) ggL_law_X3_clear
set_option maxRecDepth 20000 in
theorem ggL_law_X2_make : GoodIn wsL_law wsX2_make := goodIn_r _ [85, 17, 20, 19, 53, 14, 86, 87, 2, 88, 89, 90, 91, 92, 93, 94, 95, 57, 58, 59, 16, 60, 61, 30, 32, 33, 34, 96, 97, 98, 99, 100, 101, 102, 103, 104, 105, 106, 107, 108, 109, 110, 111, 112, 113, 114, 115, 116, 117, 118, 119, 120, 121, 122, 123, 124, 125, 126, 127, 128, 129, 650, 651, 652, 653, 654, 655, 656, 657, 678, 679, 680, 681, 682] (by decide +kernel) (by decide +kernel)
set_option maxRecDepth 20000 in
theorem gL_law_X2_make : GoodIn wsL_law (wsV RL 23 RX2 yX2_make wsX2_make) := goodIn_app (goodIn_of _ (by decide +kernel)) ggL_law_X2_make
set_option maxRecDepth 20000 in
theorem ggL_law_X3_make : GoodIn wsL_law wsX3_make := goodIn_r _ [133, 134, 66, 41, 135, 136, 5, 137, 138, 71, 72, 73, 139, 140, 141, 142, 143, 144, 145, 146, 147, 42, 148, 149, 150, 151, 152, 153, 154, 155, 156, 157, 158, 159, 160, 161, 162, 163, 164, 165, 166, 167, 168, 169, 170, 171, 172, 39, 40, 658, 659, 660, 661, 662, 663, 664, 665, 666, 667, 668, 669, 670, 671, 672, 673, 674, 675, 676, 677] (by decide +kernel) (by decide +kernel)
set_option maxRecDepth 20000 in
theorem gL_law_X3_make : GoodIn wsL_law (wsV RL 27 RX3 yX3_make wsX3_make) := goodIn_app (goodIn_of _ (by decide +kernel)) ggL_law_X3_make
set_option maxRecDepth 20000 in
theorem ggL_law_X2_strong : GoodIn wsL_law wsX2_strong := goodIn_r _ [176, 14, 53, 86, 87, 2, 88, 177, 178, 179, 180, 181, 182, 57, 58, 59, 16, 60, 61, 30, 32, 33, 34, 650, 651, 652, 653, 654, 655, 656, 657, 678, 679, 680, 681, 682] (by decide +kernel) (by decide +kernel)
set_option maxRecDepth 20000 in
theorem gL_law_X2_strong : GoodIn wsL_law (wsV RL 28 RX2 yX2_strong wsX2_strong) := goodIn_app (goodIn_of _ (by decide +kernel)) ggL_law_X2_strong
set_option maxRecDepth 20000 in
theorem ggL_law_X3_strong : GoodIn wsL_law wsX3_strong := goodIn_r _ [186, 187, 134, 135, 136, 5, 137, 138, 71, 72, 73, 188, 189, 190, 191, 144, 145, 146, 147, 42, 157, 158, 159, 160, 161, 162, 163, 164, 165, 166, 167, 168, 169, 170, 171, 172, 39, 40, 658, 659, 660, 661, 662, 663, 664, 665, 666, 667, 668, 669, 670, 671, 672, 673, 674, 675, 676, 677] (by decide +kernel) (by decide +kernel)
set_option maxRecDepth 20000 in
theorem gL_law_X3_strong : GoodIn wsL_law (wsV RL 32 RX3 yX3_strong wsX3_strong) := goodIn_app (goodIn_of _ (by decide +kernel)) ggL_law_X3_strong
set_option maxRecDepth 20000 in
theorem ggL_law_X2_then : GoodIn wsL_law wsX2_then := goodIn_r _ [195, 14, 18, 53, 86, 87, 2, 88, 196, 197, 198, 199, 200, 201, 202, 203, 204, 205, 16, 206, 33, 34, 104, 105, 207, 208, 209, 210, 211, 212, 213, 214, 61, 100, 101, 102, 103, 30, 32, 115, 215, 216, 217, 94, 92, 95, 93, 120, 121, 122, 123, 124, 125, 58, 59, 60, 126, 127, 128, 129, 218, 219, 220, 57, 650, 651, 652, 653, 654, 655, 656, 657, 678, 679, 680, 681, 682] (by decide +kernel) (by decide +kernel)
set_option maxRecDepth 20000 in
theorem gL_law_X2_then : GoodIn wsL_law (wsV RL 33 RX2 yX2_then wsX2_then) := goodIn_app (goodIn_of _ (by decide +kernel)) ggL_law_X2_then
set_option maxRecDepth 20000 in
theorem ggL_law_X3_then : GoodIn wsL_law wsX3_then := goodIn_r _ [224, 134, 135, 136, 5, 137, 138, 71, 72, 73, 225, 226, 227, 228, 39, 229, 230, 231, 232, 40, 144, 145, 146, 147, 42, 233, 234, 235, 236, 237, 43, 238, 239, 240, 241, 47, 148, 149, 150, 151, 152, 153, 154, 155, 156, 157, 158, 159, 160, 161, 162, 163, 164, 165, 166, 167, 168, 169, 170, 171, 172, 658, 659, 660, 661, 662, 663, 664, 665, 666, 667, 668, 669, 670, 671, 672, 673, 674, 675, 676, 677] (by decide +kernel) (by decide +kernel)
set_option maxRecDepth 20000 in
theorem gL_law_X3_then : GoodIn wsL_law (wsV RL 37 RX3 yX3_then wsX3_then) := goodIn_app (goodIn_of _ (by decide +kernel)) ggL_law_X3_then
set_option maxRecDepth 20000 in
theorem ggL_law_X2_turn : GoodIn wsL_law wsX2_turn := goodIn_r _ [245, 14, 20, 53, 86, 87, 2, 88, 196, 197, 198, 199, 89, 90, 91, 92, 93, 94, 95, 57, 58, 59, 16, 60, 61, 30, 32, 33, 34, 96, 97, 98, 99, 100, 101, 102, 103, 104, 105, 106, 107, 108, 109, 110, 111, 218, 219, 220, 650, 651, 652, 653, 654, 655, 656, 657, 678, 679, 680, 681, 682] (by decide +kernel) (by decide +kernel)
set_option maxRecDepth 20000 in
theorem gL_law_X2_turn : GoodIn wsL_law (wsV RL 38 RX2 yX2_turn wsX2_turn) := goodIn_app (goodIn_of _ (by decide +kernel)) ggL_law_X2_turn
set_option maxRecDepth 20000 in
theorem ggL_law_X3_turn : GoodIn wsL_law wsX3_turn := goodIn_r _ [249, 134, 135, 136, 5, 137, 138, 71, 72, 73, 225, 226, 227, 228, 39, 229, 230, 231, 232, 40, 144, 145, 146, 147, 42, 250, 251, 252, 253, 157, 158, 159, 160, 161, 162, 163, 164, 165, 166, 167, 168, 169, 170, 171, 172, 658, 659, 660, 661, 662, 663, 664, 665, 666, 667, 668, 669, 670, 671, 672, 673, 674, 675, 676, 677] (by decide +kernel) (by decide +kernel)
set_option maxRecDepth 20000 in
theorem gL_law_X3_turn : GoodIn wsL_law (wsV RL 41 RX3 yX3_turn wsX3_turn) := goodIn_app (goodIn_of _ (by decide +kernel)) ggL_law_X3_turn
set_option maxRecDepth 20000 in
theorem ggL_law_X2_power : GoodIn wsL_law wsX2_power := goodIn_r _ [257, 14, 19, 53, 86, 87, 2, 88, 196, 197, 198, 199, 258, 259, 260, 261, 20, 262, 263, 27, 264, 89, 90, 91, 92, 93, 94, 95, 57, 58, 59, 16, 60, 61, 30, 32, 33, 34, 96, 97, 98, 99, 100, 101, 102, 103, 104, 105, 106, 107, 108, 109, 110, 111, 265, 266, 267, 268, 125, 269, 270, 271, 272, 18, 200, 201, 202, 203, 204, 205, 206, 207, 208, 209, 210, 211, 212, 213, 214, 115, 215, 216, 217, 120, 121, 122, 123, 124, 126, 127, 128, 129, 218, 219, 220, 650, 651, 652, 653, 654, 655, 656, 657, 678, 679, 680, 681, 682] (by decide +kernel) (by decide +kernel)
set_option maxRecDepth 20000 in
theorem gL_law_X2_power : GoodIn wsL_law (wsV RL 42 RX2 yX2_power wsX2_power) := goodIn_app (goodIn_of _ (by decide +kernel)) ggL_law_X2_power
set_option maxRecDepth 20000 in
theorem ggL_law_X3_power : GoodIn wsL_law wsX3_power := goodIn_r _ [276, 277, 278, 134, 135, 136, 5, 137, 138, 71, 72, 73, 225, 226, 227, 228, 39, 279, 280, 281, 282, 144, 145, 146, 147, 42, 233, 234, 235, 236, 237, 43, 229, 230, 231, 232, 40, 250, 251, 252, 253, 157, 158, 159, 160, 161, 162, 163, 164, 165, 166, 167, 168, 238, 239, 240, 241, 47, 148, 149, 150, 151, 152, 153, 154, 155, 156, 169, 170, 171, 172, 658, 659, 660, 661, 662, 663, 664, 665, 666, 667, 668, 669, 670, 671, 672, 673, 674, 675, 676, 677] (by decide +kernel) (by decide +kernel)
set_option maxRecDepth 20000 in
theorem gL_law_X3_power : GoodIn wsL_law (wsV RL 45 RX3 yX3_power wsX3_power) := goodIn_app (goodIn_of _ (by decide +kernel)) ggL_law_X3_power
set_option maxRecDepth 20000 in
theorem ggL_law_X2_drop : GoodIn wsL_law wsX2_drop := goodIn_r _ [286, 14, 53, 196, 197, 198, 2, 199, 86, 87, 88, 650, 651, 652, 653, 654, 655, 656, 657, 678, 679, 680, 681, 682] (by decide +kernel) (by decide +kernel)
set_option maxRecDepth 20000 in
theorem gL_law_X2_drop : GoodIn wsL_law (wsV RL 46 RX2 yX2_drop wsX2_drop) := goodIn_app (goodIn_of _ (by decide +kernel)) ggL_law_X2_drop
set_option maxRecDepth 20000 in
theorem ggL_law_X3_drop : GoodIn wsL_law wsX3_drop := goodIn_r _ [290, 39, 225, 226, 227, 5, 228, 135, 136, 137, 138, 71, 72, 73, 658, 659, 660, 661, 662, 663, 664, 665, 666, 667, 668, 669, 670, 671, 672, 673, 674, 675, 676, 677] (by decide +kernel) (by decide +kernel)
set_option maxRecDepth 20000 in
theorem gL_law_X3_drop : GoodIn wsL_law (wsV RL 49 RX3 yX3_drop wsX3_drop) := goodIn_app (goodIn_of _ (by decide +kernel)) ggL_law_X3_drop
set_option maxRecDepth 20000 in
theorem ggL_law_X2_leaves : GoodIn wsL_law wsX2_leaves := goodIn_r _ [294, 14, 53, 196, 197, 198, 2, 199, 86, 87, 88, 650, 651, 652, 653, 654, 655, 656, 657, 678, 679, 680, 681, 682] (by decide +kernel) (by decide +kernel)
set_option maxRecDepth 20000 in
theorem gL_law_X2_leaves : GoodIn wsL_law (wsV RL 50 RX2 yX2_leaves wsX2_leaves) := goodIn_app (goodIn_of _ (by decide +kernel)) ggL_law_X2_leaves
set_option maxRecDepth 20000 in
theorem ggL_law_X3_leaves : GoodIn wsL_law wsX3_leaves := goodIn_r _ [298, 39, 225, 226, 227, 5, 228, 135, 136, 137, 138, 71, 72, 73, 658, 659, 660, 661, 662, 663, 664, 665, 666, 667, 668, 669, 670, 671, 672, 673, 674, 675, 676, 677] (by decide +kernel) (by decide +kernel)
set_option maxRecDepth 20000 in
theorem gL_law_X3_leaves : GoodIn wsL_law (wsV RL 53 RX3 yX3_leaves wsX3_leaves) := goodIn_app (goodIn_of _ (by decide +kernel)) ggL_law_X3_leaves
set_option maxRecDepth 20000 in
theorem ggL_law_X2_sort : GoodIn wsL_law wsX2_sort := goodIn_r _ [302, 14, 196, 197, 198, 2, 199, 53, 86, 87, 88, 303, 304, 305, 203, 204, 205, 16, 206, 33, 34, 104, 105, 207, 208, 209, 210, 116, 650, 651, 652, 653, 654, 655, 656, 657, 678, 679, 680, 681, 682] (by decide +kernel) (by decide +kernel)
set_option maxRecDepth 20000 in
theorem gL_law_X2_sort : GoodIn wsL_law (wsV RL 54 RX2 yX2_sort wsX2_sort) := goodIn_app (goodIn_of _ (by decide +kernel)) ggL_law_X2_sort
set_option maxRecDepth 20000 in
theorem ggL_law_X3_sort : GoodIn wsL_law wsX3_sort := goodIn_r _ [309, 225, 226, 227, 5, 228, 39, 135, 136, 137, 138, 71, 72, 73, 310, 311, 312, 313, 134, 229, 230, 231, 232, 40, 144, 145, 146, 147, 42, 161, 162, 163, 164, 658, 659, 660, 661, 662, 663, 664, 665, 666, 667, 668, 669, 670, 671, 672, 673, 674, 675, 676, 677] (by decide +kernel) (by decide +kernel)
set_option maxRecDepth 20000 in
theorem gL_law_X3_sort : GoodIn wsL_law (wsV RL 57 RX3 yX3_sort wsX3_sort) := goodIn_app (goodIn_of _ (by decide +kernel)) ggL_law_X3_sort
set_option maxRecDepth 20000 in
theorem ggL_law_X2_leaf : GoodIn wsL_law wsX2_leaf := goodIn_r _ [317, 14, 53, 196, 197, 198, 2, 199, 86, 87, 88, 318, 319, 320, 16, 321, 30, 32, 33, 34, 650, 651, 652, 653, 654, 655, 656, 657, 678, 679, 680, 681, 682] (by decide +kernel) (by decide +kernel)
set_option maxRecDepth 20000 in
theorem gL_law_X2_leaf : GoodIn wsL_law (wsV RL 58 RX2 yX2_leaf wsX2_leaf) := goodIn_app (goodIn_of _ (by decide +kernel)) ggL_law_X2_leaf
set_option maxRecDepth 20000 in
theorem ggL_law_X3_leaf : GoodIn wsL_law wsX3_leaf := goodIn_r _ [325, 39, 326, 40, 225, 226, 227, 5, 228, 135, 136, 137, 138, 71, 72, 73, 658, 659, 660, 661, 662, 663, 664, 665, 666, 667, 668, 669, 670, 671, 672, 673, 674, 675, 676, 677] (by decide +kernel) (by decide +kernel)
set_option maxRecDepth 20000 in
theorem gL_law_X3_leaf : GoodIn wsL_law (wsV RL 61 RX3 yX3_leaf wsX3_leaf) := goodIn_app (goodIn_of _ (by decide +kernel)) ggL_law_X3_leaf
set_option maxRecDepth 20000 in
theorem ggL_law_X2_same : GoodIn wsL_law wsX2_same := goodIn_r _ [330, 14, 196, 197, 198, 2, 199, 53, 86, 87, 88, 331, 332, 333, 318, 319, 320, 16, 321, 30, 32, 33, 34, 650, 651, 652, 653, 654, 655, 656, 657, 678, 679, 680, 681, 682] (by decide +kernel) (by decide +kernel)
set_option maxRecDepth 20000 in
theorem gL_law_X2_same : GoodIn wsL_law (wsV RL 62 RX2 yX2_same wsX2_same) := goodIn_app (goodIn_of _ (by decide +kernel)) ggL_law_X2_same
set_option maxRecDepth 20000 in
theorem ggL_law_X3_same : GoodIn wsL_law wsX3_same := goodIn_r _ [337, 39, 40, 225, 226, 227, 5, 228, 135, 136, 137, 138, 71, 72, 73, 658, 659, 660, 661, 662, 663, 664, 665, 666, 667, 668, 669, 670, 671, 672, 673, 674, 675, 676, 677] (by decide +kernel) (by decide +kernel)
set_option maxRecDepth 20000 in
theorem gL_law_X3_same : GoodIn wsL_law (wsV RL 65 RX3 yX3_same wsX3_same) := goodIn_app (goodIn_of _ (by decide +kernel)) ggL_law_X3_same
set_option maxRecDepth 20000 in
theorem ggL_law_X2_commute : GoodIn wsL_law wsX2_commute := goodIn_r _ [341, 14, 19, 18, 53, 196, 197, 198, 2, 199, 86, 87, 88, 200, 201, 202, 203, 204, 205, 16, 206, 33, 34, 104, 105, 207, 208, 209, 210, 211, 212, 213, 214, 61, 100, 101, 102, 103, 30, 32, 115, 215, 216, 217, 94, 92, 95, 93, 120, 121, 122, 123, 124, 125, 58, 59, 60, 126, 127, 128, 129, 331, 332, 333, 318, 319, 320, 321, 650, 651, 652, 653, 654, 655, 656, 657, 678, 679, 680, 681, 682] (by decide +kernel) (by decide +kernel)
set_option maxRecDepth 20000 in
theorem gL_law_X2_commute : GoodIn wsL_law (wsV RL 66 RX2 yX2_commute wsX2_commute) := goodIn_app (goodIn_of _ (by decide +kernel)) ggL_law_X2_commute
set_option maxRecDepth 20000 in
theorem ggL_law_X3_commute : GoodIn wsL_law wsX3_commute := goodIn_r _ [345, 134, 48, 42, 225, 226, 227, 5, 228, 39, 135, 136, 137, 138, 71, 72, 73, 229, 230, 231, 232, 40, 144, 145, 146, 147, 233, 234, 235, 236, 237, 43, 238, 239, 240, 241, 47, 148, 149, 150, 151, 152, 153, 154, 155, 156, 157, 158, 159, 160, 161, 162, 163, 164, 165, 166, 167, 168, 658, 659, 660, 661, 662, 663, 664, 665, 666, 667, 668, 669, 670, 671, 672, 673, 674, 675, 676, 677] (by decide +kernel) (by decide +kernel)
set_option maxRecDepth 20000 in
theorem gL_law_X3_commute : GoodIn wsL_law (wsV RL 69 RX3 yX3_commute wsX3_commute) := goodIn_app (goodIn_of _ (by decide +kernel)) ggL_law_X3_commute
set_option maxRecDepth 20000 in
theorem ggL_law_X2_order : GoodIn wsL_law wsX2_order := goodIn_r _ [349, 19, 14, 53, 196, 197, 198, 2, 199, 86, 87, 88, 265, 266, 267, 16, 268, 61, 125, 58, 59, 60, 30, 32, 33, 34, 269, 270, 271, 272, 18, 200, 201, 202, 203, 204, 205, 206, 104, 105, 207, 208, 209, 210, 211, 212, 213, 214, 100, 101, 102, 103, 115, 215, 216, 217, 94, 92, 95, 93, 120, 121, 122, 123, 124, 126, 127, 128, 129, 218, 219, 220, 57, 650, 651, 652, 653, 654, 655, 656, 657, 678, 679, 680, 681, 682] (by decide +kernel) (by decide +kernel)
set_option maxRecDepth 20000 in
theorem gL_law_X2_order : GoodIn wsL_law (wsV RL 70 RX2 yX2_order wsX2_order) := goodIn_app (goodIn_of _ (by decide +kernel)) ggL_law_X2_order
set_option maxRecDepth 20000 in
theorem ggL_law_X3_order : GoodIn wsL_law wsX3_order := goodIn_r _ [353, 134, 225, 226, 227, 5, 228, 39, 135, 136, 137, 138, 71, 72, 73, 279, 280, 281, 282, 144, 145, 146, 147, 42, 233, 234, 235, 236, 237, 43, 229, 230, 231, 232, 40, 238, 239, 240, 241, 47, 148, 149, 150, 151, 152, 153, 154, 155, 156, 157, 158, 159, 160, 161, 162, 163, 164, 165, 166, 167, 168, 354, 355, 356, 357, 658, 659, 660, 661, 662, 663, 664, 665, 666, 667, 668, 669, 670, 671, 672, 673, 674, 675, 676, 677] (by decide +kernel) (by decide +kernel)
set_option maxRecDepth 20000 in
theorem gL_law_X3_order : GoodIn wsL_law (wsV RL 73 RX3 yX3_order wsX3_order) := goodIn_app (goodIn_of _ (by decide +kernel)) ggL_law_X3_order
set_option maxRecDepth 20000 in
theorem ggL_law_X2_length : GoodIn wsL_law wsX2_length := goodIn_r _ [361, 14, 362, 196, 197, 198, 2, 199, 53, 86, 87, 88, 363, 364, 365, 366, 367, 368, 369, 370, 371, 372, 373, 374, 19, 375, 376, 18, 377, 378, 379, 380, 11, 12, 381, 382, 383, 384, 29, 385, 386, 387, 388, 389, 390, 391, 392, 393, 394, 395, 396, 397, 398, 399, 400, 401, 402, 403, 13, 15, 16, 21, 22, 23, 24, 25, 26, 27, 28, 30, 31, 32, 33, 34, 177, 178, 179, 180, 181, 182, 57, 58, 59, 60, 61, 89, 90, 91, 92, 93, 94, 95, 96, 97, 98, 99, 100, 101, 102, 103, 104, 105, 106, 107, 108, 109, 110, 111, 265, 266, 267, 268, 125, 404, 405, 406, 407, 408, 409, 410, 411, 412, 413, 414, 415, 416, 417, 418, 419, 420, 421, 422, 423, 424, 425, 426, 427, 428, 429, 430, 431, 432, 433, 434, 435, 332, 333, 318, 319, 320, 321, 436, 219, 220, 437, 438, 439, 440, 441, 442, 443, 444, 445, 446, 447, 448, 449, 450, 451, 452, 453, 454, 455, 456, 457, 458, 459, 460, 461, 462, 463, 464, 465, 466, 467, 468, 469, 470, 471, 472, 473, 474, 475, 476, 477, 478, 479, 480, 481, 482, 483, 484, 485, 486, 200, 201, 202, 203, 204, 205, 206, 207, 208, 209, 210, 211, 212, 213, 214, 115, 215, 216, 217, 120, 121, 122, 123, 124, 126, 127, 128, 129, 487, 488, 650, 651, 652, 653, 654, 655, 656, 657, 683, 684, 678, 679, 680, 681, 682, 685, 686, 687] (by decide +kernel) (by decide +kernel)
set_option maxRecDepth 20000 in
theorem gL_law_X2_length : GoodIn wsL_law (wsV RL 74 RX2 yX2_length wsX2_length) := goodIn_app (goodIn_of _ (by decide +kernel)) ggL_law_X2_length
set_option maxRecDepth 20000 in
theorem ggL_law_X3_length : GoodIn wsL_law wsX3_length := goodIn_r _ [492, 46, 225, 226, 227, 5, 228, 39, 135, 136, 137, 138, 71, 72, 73, 493, 494, 495, 496, 497, 498, 279, 280, 281, 282, 134, 144, 145, 146, 147, 42, 499, 500, 501, 502, 44, 45, 503, 504, 505, 506, 507, 508, 509, 510, 233, 234, 235, 236, 237, 43, 188, 189, 190, 191, 157, 158, 159, 160, 161, 162, 163, 164, 165, 166, 167, 168, 250, 251, 252, 253, 238, 239, 240, 241, 47, 148, 149, 150, 151, 152, 153, 154, 155, 156, 229, 230, 231, 232, 40, 658, 659, 660, 661, 662, 663, 664, 665, 666, 667, 668, 669, 670, 671, 672, 673, 674, 675, 676, 677] (by decide +kernel) (by decide +kernel)
set_option maxRecDepth 20000 in
theorem gL_law_X3_length : GoodIn wsL_law (wsV RL 77 RX3 yX3_length wsX3_length) := goodIn_app (goodIn_of _ (by decide +kernel)) ggL_law_X3_length
set_option maxRecDepth 20000 in
theorem ggL_law_X2_ball : GoodIn wsL_law wsX2_ball := goodIn_r _ [514, 362, 363, 364, 365, 2, 366, 367, 368, 369, 370, 371, 372, 373, 374, 19, 375, 376, 18, 377, 378, 379, 380, 11, 12, 381, 382, 383, 384, 29, 385, 386, 387, 388, 389, 390, 391, 392, 393, 394, 395, 396, 397, 398, 399, 400, 401, 402, 403, 13, 15, 16, 21, 22, 23, 24, 25, 26, 27, 28, 30, 31, 32, 33, 34, 177, 178, 179, 53, 180, 181, 182, 57, 58, 59, 60, 61, 89, 90, 91, 92, 93, 94, 95, 96, 97, 98, 99, 100, 101, 102, 103, 104, 105, 106, 107, 108, 109, 110, 111, 265, 266, 267, 268, 125, 404, 405, 406, 407, 408, 409, 410, 411, 412, 413, 414, 415, 416, 417, 418, 419, 420, 421, 422, 423, 424, 425, 426, 427, 428, 429, 430, 431, 432, 433, 434, 435, 332, 333, 318, 319, 320, 321, 436, 219, 220, 437, 438, 439, 440, 441, 442, 443, 444, 445, 446, 447, 448, 449, 450, 451, 452, 453, 454, 455, 456, 457, 458, 459, 460, 461, 462, 463, 464, 465, 466, 467, 468, 469, 470, 471, 472, 473, 474, 475, 476, 477, 478, 479, 480, 481, 482, 483, 484, 485, 486, 200, 201, 202, 203, 204, 205, 206, 207, 208, 209, 210, 211, 212, 213, 214, 115, 215, 216, 217, 120, 121, 122, 123, 124, 126, 127, 128, 129, 487, 683, 684, 650, 651, 652, 653, 654, 655, 656, 657, 685, 686, 687, 678, 679, 680, 681, 682] (by decide +kernel) (by decide +kernel)
set_option maxRecDepth 20000 in
theorem gL_law_X2_ball : GoodIn wsL_law (wsV RL 78 RX2 yX2_ball wsX2_ball) := goodIn_app (goodIn_of _ (by decide +kernel)) ggL_law_X2_ball
set_option maxRecDepth 20000 in
theorem ggL_law_X3_ball : GoodIn wsL_law wsX3_ball := goodIn_r _ [518, 519, 46, 71, 72, 5, 73, 493, 494, 495, 496, 497, 498, 279, 280, 281, 282, 134, 144, 145, 146, 147, 42, 499, 500, 501, 502, 44, 45, 503, 504, 505, 506, 507, 508, 509, 510, 233, 234, 235, 236, 237, 43, 188, 189, 190, 191, 157, 158, 159, 160, 161, 162, 163, 164, 165, 166, 167, 168, 250, 251, 252, 253, 238, 239, 240, 241, 47, 148, 149, 150, 151, 152, 153, 154, 155, 156, 658, 659, 660, 661, 662, 663, 664, 665, 666, 667, 668, 669, 670, 671, 672, 673, 674, 675, 676, 677] (by decide +kernel) (by decide +kernel)
set_option maxRecDepth 20000 in
theorem gL_law_X3_ball : GoodIn wsL_law (wsV RL 81 RX3 yX3_ball wsX3_ball) := goodIn_app (goodIn_of _ (by decide +kernel)) ggL_law_X3_ball
set_option maxRecDepth 20000 in
theorem ggL_law_X2_go : GoodIn wsL_law wsX2_go := goodIn_r _ [523, 14, 94, 92, 95, 93, 196, 197, 198, 2, 199, 53, 86, 87, 88, 211, 212, 213, 16, 214, 61, 100, 101, 102, 103, 30, 32, 104, 105, 524, 525, 526, 527, 180, 528, 529, 650, 651, 652, 653, 654, 655, 656, 657, 678, 679, 680, 681, 682] (by decide +kernel) (by decide +kernel)
set_option maxRecDepth 20000 in
theorem gL_law_X2_go : GoodIn wsL_law (wsV RL 84 RX2 yX2_go wsX2_go) := goodIn_app (goodIn_of _ (by decide +kernel)) ggL_law_X2_go
set_option maxRecDepth 20000 in
theorem ggL_law_X3_go : GoodIn wsL_law wsX3_go := goodIn_r _ [533, 534, 39, 40, 535, 536, 152, 225, 226, 227, 5, 228, 135, 136, 137, 138, 71, 72, 73, 658, 659, 660, 661, 662, 663, 664, 665, 666, 667, 668, 669, 670, 671, 672, 673, 674, 675, 676, 677] (by decide +kernel) (by decide +kernel)
set_option maxRecDepth 20000 in
theorem gL_law_X3_go : GoodIn wsL_law (wsV RL 88 RX3 yX3_go wsX3_go) := goodIn_app (goodIn_of _ (by decide +kernel)) ggL_law_X3_go
set_option maxRecDepth 20000 in
theorem ggL_law_X2_seen : GoodIn wsL_law wsX2_seen := goodIn_r _ [540, 528, 529, 541, 650, 651, 652, 653, 654, 655, 656, 657] (by decide +kernel) (by decide +kernel)
set_option maxRecDepth 20000 in
theorem gL_law_X2_seen : GoodIn wsL_law (wsV RL 89 RX2 yX2_seen wsX2_seen) := goodIn_app (goodIn_of _ (by decide +kernel)) ggL_law_X2_seen
set_option maxRecDepth 20000 in
theorem ggL_law_X3_seen : GoodIn wsL_law wsX3_seen := goodIn_r _ [545, 535, 536, 546, 658, 659, 660, 661, 662, 663, 664, 665, 666, 667, 668, 669, 670, 671, 672, 673, 674, 675, 676, 677] (by decide +kernel) (by decide +kernel)
set_option maxRecDepth 20000 in
theorem gL_law_X3_seen : GoodIn wsL_law (wsV RL 93 RX3 yX3_seen wsX3_seen) := goodIn_app (goodIn_of _ (by decide +kernel)) ggL_law_X3_seen
set_option maxRecDepth 20000 in
theorem ggL_law_X2_bend : GoodIn wsL_law wsX2_bend := goodIn_r _ [550, 14, 53, 196, 197, 198, 2, 199, 86, 87, 88, 551, 552, 553, 16, 554, 30, 33, 650, 651, 652, 653, 654, 655, 656, 657, 678, 679, 680, 681, 682] (by decide +kernel) (by decide +kernel)
set_option maxRecDepth 20000 in
theorem gL_law_X2_bend : GoodIn wsL_law (wsV RL 94 RX2 yX2_bend wsX2_bend) := goodIn_app (goodIn_of _ (by decide +kernel)) ggL_law_X2_bend
set_option maxRecDepth 20000 in
theorem ggL_law_X3_bend : GoodIn wsL_law wsX3_bend := goodIn_r _ [558, 39, 225, 226, 227, 5, 228, 135, 136, 137, 138, 71, 72, 73, 559, 560, 561, 562, 40, 658, 659, 660, 661, 662, 663, 664, 665, 666, 667, 668, 669, 670, 671, 672, 673, 674, 675, 676, 677] (by decide +kernel) (by decide +kernel)
set_option maxRecDepth 20000 in
theorem gL_law_X3_bend : GoodIn wsL_law (wsV RL 97 RX3 yX3_bend wsX3_bend) := goodIn_app (goodIn_of _ (by decide +kernel)) ggL_law_X3_bend
set_option maxRecDepth 20000 in
theorem ggL_law_X2_still : GoodIn wsL_law wsX2_still := goodIn_r _ [566, 14, 53, 94, 92, 95, 93, 196, 197, 198, 2, 199, 86, 87, 88, 650, 651, 652, 653, 654, 655, 656, 657, 678, 679, 680, 681, 682] (by decide +kernel) (by decide +kernel)
set_option maxRecDepth 20000 in
theorem gL_law_X2_still : GoodIn wsL_law (wsV RL 98 RX2 yX2_still wsX2_still) := goodIn_app (goodIn_of _ (by decide +kernel)) ggL_law_X2_still
set_option maxRecDepth 20000 in
theorem ggL_law_X3_still : GoodIn wsL_law wsX3_still := goodIn_r _ [570, 39, 40, 225, 226, 227, 5, 228, 135, 136, 137, 138, 71, 72, 73, 658, 659, 660, 661, 662, 663, 664, 665, 666, 667, 668, 669, 670, 671, 672, 673, 674, 675, 676, 677] (by decide +kernel) (by decide +kernel)
set_option maxRecDepth 20000 in
theorem gL_law_X3_still : GoodIn wsL_law (wsV RL 101 RX3 yX3_still wsX3_still) := goodIn_app (goodIn_of _ (by decide +kernel)) ggL_law_X3_still
set_option maxRecDepth 20000 in
theorem ggL_law_X2_single : GoodIn wsL_law wsX2_single := goodIn_r _ [574, 14, 53, 196, 197, 198, 2, 199, 86, 87, 88, 575, 576, 577, 94, 95, 92, 578, 579, 580, 93, 581, 582, 583, 584, 585, 27, 586, 650, 651, 652, 653, 654, 655, 656, 657, 678, 679, 680, 681, 682] (by decide +kernel) (by decide +kernel)
set_option maxRecDepth 20000 in
theorem gL_law_X2_single : GoodIn wsL_law (wsV RL 102 RX2 yX2_single wsX2_single) := goodIn_app (goodIn_of _ (by decide +kernel)) ggL_law_X2_single
set_option maxRecDepth 20000 in
theorem ggL_law_X3_single : GoodIn wsL_law wsX3_single := goodIn_r _ [590, 225, 226, 227, 5, 228, 39, 135, 136, 137, 138, 71, 72, 73, 591, 592, 593, 594, 595, 596, 597, 40, 598, 599, 600, 658, 659, 660, 661, 662, 663, 664, 665, 666, 667, 668, 669, 670, 671, 672, 673, 674, 675, 676, 677] (by decide +kernel) (by decide +kernel)
set_option maxRecDepth 20000 in
theorem gL_law_X3_single : GoodIn wsL_law (wsV RL 105 RX3 yX3_single wsX3_single) := goodIn_app (goodIn_of _ (by decide +kernel)) ggL_law_X3_single
set_option maxRecDepth 20000 in
theorem ggL_law_X2_point : GoodIn wsL_law wsX2_point := goodIn_r _ [604, 605, 541, 14, 53, 606, 196, 197, 198, 2, 199, 86, 87, 88, 575, 576, 577, 94, 95, 92, 578, 579, 580, 93, 581, 582, 583, 584, 585, 27, 586, 607, 608, 609, 610, 611, 612, 650, 651, 652, 653, 654, 655, 656, 657, 678, 679, 680, 681, 682] (by decide +kernel) (by decide +kernel)
set_option maxRecDepth 20000 in
theorem gL_law_X2_point : GoodIn wsL_law (wsV RL 106 RX2 yX2_point wsX2_point) := goodIn_app (goodIn_of _ (by decide +kernel)) ggL_law_X2_point
set_option maxRecDepth 20000 in
theorem ggL_law_X3_point : GoodIn wsL_law wsX3_point := goodIn_r _ [616, 617, 546, 596, 597, 225, 226, 227, 5, 228, 39, 135, 136, 137, 138, 71, 72, 73, 591, 592, 593, 594, 595, 40, 598, 599, 600, 658, 659, 660, 661, 662, 663, 664, 665, 666, 667, 668, 669, 670, 671, 672, 673, 674, 675, 676, 677] (by decide +kernel) (by decide +kernel)
set_option maxRecDepth 20000 in
theorem gL_law_X3_point : GoodIn wsL_law (wsV RL 110 RX3 yX3_point wsX3_point) := goodIn_app (goodIn_of _ (by decide +kernel)) ggL_law_X3_point
set_option maxRecDepth 20000 in
theorem ggL_law_X2_count : GoodIn wsL_law wsX2_count := goodIn_r _ [621, 17, 53, 622, 623, 624, 2, 625, 14, 196, 197, 198, 199, 86, 87, 88, 303, 304, 305, 203, 204, 205, 16, 206, 33, 34, 104, 105, 207, 208, 209, 210, 116, 650, 651, 652, 653, 654, 655, 656, 657, 678, 679, 680, 681, 682] (by decide +kernel) (by decide +kernel)
set_option maxRecDepth 20000 in
theorem gL_law_X2_count : GoodIn wsL_law (wsV RL 111 RX2 yX2_count wsX2_count) := goodIn_app (goodIn_of _ (by decide +kernel)) ggL_law_X2_count
set_option maxRecDepth 20000 in
theorem ggL_law_X3_count : GoodIn wsL_law wsX3_count := goodIn_r _ [629, 66, 152, 519, 39, 71, 72, 5, 73, 310, 311, 312, 313, 134, 229, 230, 231, 232, 40, 144, 145, 146, 147, 42, 161, 162, 163, 164, 658, 659, 660, 661, 662, 663, 664, 665, 666, 667, 668, 669, 670, 671, 672, 673, 674, 675, 676, 677] (by decide +kernel) (by decide +kernel)
set_option maxRecDepth 20000 in
theorem gL_law_X3_count : GoodIn wsL_law (wsV RL 114 RX3 yX3_count wsX3_count) := goodIn_app (goodIn_of _ (by decide +kernel)) ggL_law_X3_count
set_option maxRecDepth 20000 in
theorem ggL_law_X2_digest : GoodIn wsL_law wsX2_digest := goodIn_r _ [633, 634, 635, 14, 53, 17, 528, 529, 196, 197, 198, 2, 199, 86, 87, 88, 636, 637, 638, 318, 319, 320, 16, 321, 30, 32, 33, 34, 650, 651, 652, 653, 654, 655, 656, 657, 678, 679, 680, 681, 682] (by decide +kernel) (by decide +kernel)
set_option maxRecDepth 20000 in
theorem gL_law_X2_digest : GoodIn wsL_law (wsV RL 115 RX2 yX2_digest wsX2_digest) := goodIn_app (goodIn_of _ (by decide +kernel)) ggL_law_X2_digest
set_option maxRecDepth 20000 in
theorem ggL_law_X3_digest : GoodIn wsL_law wsX3_digest := goodIn_r _ [642, 643, 644, 39, 595, 40, 66, 41, 535, 536, 645, 646, 647, 5, 648, 649, 658, 659, 660, 661, 662, 663, 664, 665, 666, 667, 668, 669, 670, 671, 672, 673, 674, 675, 676, 677] (by decide +kernel) (by decide +kernel)
set_option maxRecDepth 20000 in
theorem gL_law_X3_digest : GoodIn wsL_law (wsV RL 119 RX3 yX3_digest wsX3_digest) := goodIn_app (goodIn_of _ (by decide +kernel)) ggL_law_X3_digest
