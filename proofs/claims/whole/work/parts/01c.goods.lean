set_option maxRecDepth 20000 in
theorem ggX2_hasSingle_X2_singleBelow : GoodIn wsX2_hasSingle wsX2_singleBelow := goodIn_r _ [11, 3, 1, 12, 13, 14, 15, 16, 17, 18, 19, 20] (by decide +kernel) (by decide +kernel)
set_option maxRecDepth 20000 in
theorem gX2_hasSingle_X2_singleBelow : GoodIn wsX2_hasSingle (va_wsS RX2 231 yX2_singleBelow wsX2_singleBelow) := goodIn_app (goodIn_of _ (by decide +kernel)) ggX2_hasSingle_X2_singleBelow
set_option maxRecDepth 20000 in
theorem ggX2_partOfSingle_X2_singleAbove : GoodIn wsX2_partOfSingle wsX2_singleAbove := goodIn_r _ [5, 6, 7, 8, 9, 20, 21, 22, 23, 24] (by decide +kernel) (by decide +kernel)
set_option maxRecDepth 20000 in
theorem gX2_partOfSingle_X2_singleAbove : GoodIn wsX2_partOfSingle (va_wsS RX2 227 yX2_singleAbove wsX2_singleAbove) := goodIn_app (goodIn_of _ (by decide +kernel)) ggX2_partOfSingle_X2_singleAbove
set_option maxRecDepth 20000 in
theorem ggX2_partOfSingle_X2_singleBelow : GoodIn wsX2_partOfSingle wsX2_singleBelow := goodIn_r _ [12, 8, 9, 13, 14, 15, 16, 20, 21, 22, 23, 24] (by decide +kernel) (by decide +kernel)
set_option maxRecDepth 20000 in
theorem gX2_partOfSingle_X2_singleBelow : GoodIn wsX2_partOfSingle (va_wsS RX2 231 yX2_singleBelow wsX2_singleBelow) := goodIn_app (goodIn_of _ (by decide +kernel)) ggX2_partOfSingle_X2_singleBelow
set_option maxRecDepth 20000 in
theorem ggX2_partOfSingle_X2_commonOf : GoodIn wsX2_partOfSingle wsX2_commonOf := goodIn_r _ [19] (by decide +kernel) (by decide +kernel)
set_option maxRecDepth 20000 in
theorem gX2_partOfSingle_X2_commonOf : GoodIn wsX2_partOfSingle (va_wsS RX2 237 yX2_commonOf wsX2_commonOf) := goodIn_app (goodIn_of _ (by decide +kernel)) ggX2_partOfSingle_X2_commonOf
set_option maxRecDepth 20000 in
theorem ggX3_isSlot_X3_in : GoodIn wsX3_isSlot wsX3_in := goodIn_r _ [5] (by decide +kernel) (by decide +kernel)
set_option maxRecDepth 20000 in
theorem gX3_isSlot_X3_in : GoodIn wsX3_isSlot (va_wsS RX3 43 yX3_in wsX3_in) := goodIn_app (goodIn_of _ (by decide +kernel)) ggX3_isSlot_X3_in
set_option maxRecDepth 20000 in
theorem ggX3_isMap_X3_isSlot : GoodIn wsX3_isMap wsX3_isSlot := goodIn_r _ [5, 6, 7, 8, 4, 9] (by decide +kernel) (by decide +kernel)
set_option maxRecDepth 20000 in
theorem gX3_isMap_X3_isSlot : GoodIn wsX3_isMap (va_wsS RX3 47 yX3_isSlot wsX3_isSlot) := goodIn_app (goodIn_of _ (by decide +kernel)) ggX3_isMap_X3_isSlot
set_option maxRecDepth 20000 in
theorem ggX3_load_X3_put : GoodIn wsX3_load wsX3_put := goodIn_r _ [8, 9, 1, 10, 11, 12, 13, 14, 15, 16, 17, 18, 19, 20, 21, 22, 23, 24, 25, 26, 27, 28, 29] (by decide +kernel) (by decide +kernel)
set_option maxRecDepth 20000 in
theorem gX3_load_X3_put : GoodIn wsX3_load (wsV RX3 55 RX3 yX3_put wsX3_put) := goodIn_app (goodIn_of _ (by decide +kernel)) ggX3_load_X3_put
set_option maxRecDepth 20000 in
theorem ggX3_nothing_X3_put : GoodIn wsX3_nothing wsX3_put := goodIn_r _ [6, 7, 1, 8, 9, 10, 11, 12, 13, 14, 15, 16, 17, 18, 19, 20, 21, 22, 23, 24, 25, 26, 27] (by decide +kernel) (by decide +kernel)
set_option maxRecDepth 20000 in
theorem gX3_nothing_X3_put : GoodIn wsX3_nothing (wsV RX3 55 RX3 yX3_put wsX3_put) := goodIn_app (goodIn_of _ (by decide +kernel)) ggX3_nothing_X3_put
set_option maxRecDepth 20000 in
theorem ggX3_turnWork_X3_arrange : GoodIn wsX3_turnWork wsX3_arrange := goodIn_r _ [7, 1, 8, 9, 10, 6, 11, 2, 12, 13, 14, 15, 16, 17, 18, 19, 20, 21, 22, 23, 24, 25, 26, 27, 28, 29, 30, 31, 32, 33, 34, 35] (by decide +kernel) (by decide +kernel)
set_option maxRecDepth 20000 in
theorem gX3_turnWork_X3_arrange : GoodIn wsX3_turnWork (wsV RX3 62 RX3 yX3_arrange wsX3_arrange) := goodIn_app (goodIn_of _ (by decide +kernel)) ggX3_turnWork_X3_arrange
set_option maxRecDepth 20000 in
theorem ggX3_reduce_X3_remove : GoodIn wsX3_reduce wsX3_remove := goodIn_r _ [8, 1, 2, 21, 22, 23, 24, 25, 26, 27, 28, 29, 30, 31, 32, 33, 34, 35, 36, 37, 38, 39, 40] (by decide +kernel) (by decide +kernel)
set_option maxRecDepth 20000 in
theorem gX3_reduce_X3_remove : GoodIn wsX3_reduce (wsV RX3 67 RX3 yX3_remove wsX3_remove) := goodIn_app (goodIn_of _ (by decide +kernel)) ggX3_reduce_X3_remove
set_option maxRecDepth 20000 in
theorem ggX3_reduce_X3_arrange : GoodIn wsX3_reduce wsX3_arrange := goodIn_r _ [12, 1, 13, 14, 15, 7, 16, 2, 17, 18, 19, 20, 21, 22, 23, 24, 25, 26, 27, 28, 29, 30, 31, 32, 33, 34, 35, 36, 37, 38, 39, 40] (by decide +kernel) (by decide +kernel)
set_option maxRecDepth 20000 in
theorem gX3_reduce_X3_arrange : GoodIn wsX3_reduce (wsV RX3 62 RX3 yX3_arrange wsX3_arrange) := goodIn_app (goodIn_of _ (by decide +kernel)) ggX3_reduce_X3_arrange
set_option maxRecDepth 20000 in
theorem ggX3_arrange_X3_isLeft : GoodIn wsX3_arrange wsX3_isLeft := goodIn_r _ [6, 7, 12, 13, 14, 15, 16, 17, 18, 19, 20, 21, 22, 23, 24, 25, 26, 27, 28, 29, 30, 31] (by decide +kernel) (by decide +kernel)
set_option maxRecDepth 20000 in
theorem gX3_arrange_X3_isLeft : GoodIn wsX3_arrange (wsV RX3 71 RX3 yX3_isLeft wsX3_isLeft) := goodIn_app (goodIn_of _ (by decide +kernel)) ggX3_arrange_X3_isLeft
set_option maxRecDepth 20000 in
theorem ggX3_arrange_X3_swap : GoodIn wsX3_arrange wsX3_swap := goodIn_r _ [11, 7, 12, 13, 14, 15, 16, 17, 18, 19, 20, 21, 22, 23, 24, 25, 26, 27, 28, 29, 30, 31] (by decide +kernel) (by decide +kernel)
set_option maxRecDepth 20000 in
theorem gX3_arrange_X3_swap : GoodIn wsX3_arrange (wsV RX3 75 RX3 yX3_swap wsX3_swap) := goodIn_app (goodIn_of _ (by decide +kernel)) ggX3_arrange_X3_swap
set_option maxRecDepth 20000 in
theorem ggX3_follow_X3_reduce : GoodIn wsX3_follow wsX3_reduce := goodIn_r _ [10, 2, 4, 11, 12, 13, 14, 9, 15, 16, 17, 18, 19, 20, 21, 22, 23, 24, 25, 26, 27, 28, 29, 30, 31, 32, 33, 34, 35, 36, 37, 38, 39, 40, 41, 42, 43, 44, 45, 46, 47] (by decide +kernel) (by decide +kernel)
set_option maxRecDepth 20000 in
theorem gX3_follow_X3_reduce : GoodIn wsX3_follow (wsV RX3 79 RX3 yX3_reduce wsX3_reduce) := goodIn_app (goodIn_of _ (by decide +kernel)) ggX3_follow_X3_reduce
set_option maxRecDepth 20000 in
theorem ggX3_isLeaf_X3_in : GoodIn wsX3_isLeaf wsX3_in := goodIn_r _ [5] (by decide +kernel) (by decide +kernel)
set_option maxRecDepth 20000 in
theorem gX3_isLeaf_X3_in : GoodIn wsX3_isLeaf (va_wsS RX3 43 yX3_in wsX3_in) := goodIn_app (goodIn_of _ (by decide +kernel)) ggX3_isLeaf_X3_in
set_option maxRecDepth 20000 in
theorem ggX3_pair_X3_isLeaf : GoodIn wsX3_pair wsX3_isLeaf := goodIn_r _ [6, 7, 8, 9, 5, 10] (by decide +kernel) (by decide +kernel)
set_option maxRecDepth 20000 in
theorem gX3_pair_X3_isLeaf : GoodIn wsX3_pair (va_wsS RX3 84 yX3_isLeaf wsX3_isLeaf) := goodIn_app (goodIn_of _ (by decide +kernel)) ggX3_pair_X3_isLeaf
set_option maxRecDepth 20000 in
theorem ggX3_make_X3_isSlot : GoodIn wsX3_make wsX3_isSlot := goodIn_r _ [7, 8, 9, 10, 6, 11] (by decide +kernel) (by decide +kernel)
set_option maxRecDepth 20000 in
theorem gX3_make_X3_isSlot : GoodIn wsX3_make (va_wsS RX3 47 yX3_isSlot wsX3_isSlot) := goodIn_app (goodIn_of _ (by decide +kernel)) ggX3_make_X3_isSlot
set_option maxRecDepth 20000 in
theorem ggX3_make_X3_isCut : GoodIn wsX3_make wsX3_isCut := goodIn_r _ [15, 2, 3, 16, 49, 50, 51, 52, 53, 54, 55, 56, 57, 58, 59, 60, 61, 62, 63, 64, 65, 66, 67, 68] (by decide +kernel) (by decide +kernel)
set_option maxRecDepth 20000 in
theorem gX3_make_X3_isCut : GoodIn wsX3_make (wsV RX3 93 RX3 yX3_isCut wsX3_isCut) := goodIn_app (goodIn_of _ (by decide +kernel)) ggX3_make_X3_isCut
set_option maxRecDepth 20000 in
theorem ggX3_make_X3_put : GoodIn wsX3_make wsX3_put := goodIn_r _ [20, 21, 1, 49, 50, 51, 52, 53, 54, 55, 56, 57, 58, 59, 60, 61, 62, 63, 64, 65, 66, 67, 68] (by decide +kernel) (by decide +kernel)
set_option maxRecDepth 20000 in
theorem gX3_make_X3_put : GoodIn wsX3_make (wsV RX3 55 RX3 yX3_put wsX3_put) := goodIn_app (goodIn_of _ (by decide +kernel)) ggX3_make_X3_put
set_option maxRecDepth 20000 in
theorem ggX3_make_X3_reduce : GoodIn wsX3_make wsX3_reduce := goodIn_r _ [25, 1, 21, 26, 27, 28, 29, 6, 30, 31, 32, 33, 34, 35, 36, 37, 38, 39, 40, 41, 42, 49, 50, 51, 52, 53, 54, 55, 56, 57, 58, 59, 60, 61, 62, 63, 64, 65, 66, 67, 68] (by decide +kernel) (by decide +kernel)
set_option maxRecDepth 20000 in
theorem gX3_make_X3_reduce : GoodIn wsX3_make (wsV RX3 79 RX3 yX3_reduce wsX3_reduce) := goodIn_app (goodIn_of _ (by decide +kernel)) ggX3_make_X3_reduce
set_option maxRecDepth 20000 in
theorem ggX3_make_X3_store : GoodIn wsX3_make wsX3_store := goodIn_r _ [46, 47, 1, 48, 21, 49, 50, 51, 52, 53, 54, 55, 56, 57, 58, 59, 60, 61, 62, 63, 64, 65, 66, 67, 68] (by decide +kernel) (by decide +kernel)
set_option maxRecDepth 20000 in
theorem gX3_make_X3_store : GoodIn wsX3_make (wsV RX3 96 RX3 yX3_store wsX3_store) := goodIn_app (goodIn_of _ (by decide +kernel)) ggX3_make_X3_store
set_option maxRecDepth 20000 in
theorem ggX3_makeStrong_X3_put : GoodIn wsX3_makeStrong wsX3_put := goodIn_r _ [6, 7, 1, 20, 21, 22, 23, 24, 25, 26, 27, 28, 29, 30, 31, 32, 33, 34, 35, 36, 37, 38, 39] (by decide +kernel) (by decide +kernel)
set_option maxRecDepth 20000 in
theorem gX3_makeStrong_X3_put : GoodIn wsX3_makeStrong (wsV RX3 55 RX3 yX3_put wsX3_put) := goodIn_app (goodIn_of _ (by decide +kernel)) ggX3_makeStrong_X3_put
set_option maxRecDepth 20000 in
theorem ggX3_makeStrong_X3_arrange : GoodIn wsX3_makeStrong wsX3_arrange := goodIn_r _ [11, 1, 12, 13, 14, 5, 15, 7, 16, 17, 18, 19, 20, 21, 22, 23, 24, 25, 26, 27, 28, 29, 30, 31, 32, 33, 34, 35, 36, 37, 38, 39] (by decide +kernel) (by decide +kernel)
set_option maxRecDepth 20000 in
theorem gX3_makeStrong_X3_arrange : GoodIn wsX3_makeStrong (wsV RX3 62 RX3 yX3_arrange wsX3_arrange) := goodIn_app (goodIn_of _ (by decide +kernel)) ggX3_makeStrong_X3_arrange
set_option maxRecDepth 20000 in
theorem ggX3_strong_X3_isSlot : GoodIn wsX3_strong wsX3_isSlot := goodIn_r _ [6, 7, 8, 9, 5, 10] (by decide +kernel) (by decide +kernel)
set_option maxRecDepth 20000 in
theorem gX3_strong_X3_isSlot : GoodIn wsX3_strong (va_wsS RX3 47 yX3_isSlot wsX3_isSlot) := goodIn_app (goodIn_of _ (by decide +kernel)) ggX3_strong_X3_isSlot
set_option maxRecDepth 20000 in
theorem ggX3_strong_X3_in : GoodIn wsX3_strong wsX3_in := goodIn_r _ [10] (by decide +kernel) (by decide +kernel)
set_option maxRecDepth 20000 in
theorem gX3_strong_X3_in : GoodIn wsX3_strong (va_wsS RX3 43 yX3_in wsX3_in) := goodIn_app (goodIn_of _ (by decide +kernel)) ggX3_strong_X3_in
set_option maxRecDepth 20000 in
theorem ggX3_strong_X3_makeStrong : GoodIn wsX3_strong wsX3_makeStrong := goodIn_r _ [14, 2, 15, 16, 17, 5, 18, 19, 20, 21, 22, 23, 24, 25, 26, 27, 28, 29, 30, 31, 38, 39, 40, 41, 42, 43, 44, 45, 46, 47, 48, 49, 50, 51, 52, 53, 54, 55, 56, 57] (by decide +kernel) (by decide +kernel)
set_option maxRecDepth 20000 in
theorem gX3_strong_X3_makeStrong : GoodIn wsX3_strong (wsV RX3 101 RX3 yX3_makeStrong wsX3_makeStrong) := goodIn_app (goodIn_of _ (by decide +kernel)) ggX3_strong_X3_makeStrong
set_option maxRecDepth 20000 in
theorem ggX3_strong_X3_store : GoodIn wsX3_strong wsX3_store := goodIn_r _ [35, 36, 2, 37, 19, 38, 39, 40, 41, 42, 43, 44, 45, 46, 47, 48, 49, 50, 51, 52, 53, 54, 55, 56, 57] (by decide +kernel) (by decide +kernel)
set_option maxRecDepth 20000 in
theorem gX3_strong_X3_store : GoodIn wsX3_strong (wsV RX3 96 RX3 yX3_store wsX3_store) := goodIn_app (goodIn_of _ (by decide +kernel)) ggX3_strong_X3_store
set_option maxRecDepth 20000 in
theorem ggX3_then_X3_isSlot : GoodIn wsX3_then wsX3_isSlot := goodIn_r _ [5, 6, 7, 8, 4, 9] (by decide +kernel) (by decide +kernel)
set_option maxRecDepth 20000 in
theorem gX3_then_X3_isSlot : GoodIn wsX3_then (va_wsS RX3 47 yX3_isSlot wsX3_isSlot) := goodIn_app (goodIn_of _ (by decide +kernel)) ggX3_then_X3_isSlot
set_option maxRecDepth 20000 in
theorem ggX3_then_X3_isMap : GoodIn wsX3_then wsX3_isMap := goodIn_r _ [13, 14, 2, 3, 4, 5, 6, 7, 8, 9, 61, 62, 63, 64, 65, 66, 67, 68, 69, 70, 71, 72, 73, 74, 75, 76, 77, 78, 79, 80] (by decide +kernel) (by decide +kernel)
set_option maxRecDepth 20000 in
theorem gX3_then_X3_isMap : GoodIn wsX3_then (wsV RX3 104 RX3 yX3_isMap wsX3_isMap) := goodIn_app (goodIn_of _ (by decide +kernel)) ggX3_then_X3_isMap
set_option maxRecDepth 20000 in
theorem ggX3_then_X3_load : GoodIn wsX3_then wsX3_load := goodIn_r _ [18, 1, 14, 19, 20, 21, 22, 4, 23, 24, 61, 62, 63, 64, 65, 66, 67, 68, 69, 70, 71, 72, 73, 74, 75, 76, 77, 78, 79, 80] (by decide +kernel) (by decide +kernel)
set_option maxRecDepth 20000 in
theorem gX3_then_X3_load : GoodIn wsX3_then (wsV RX3 107 RX3 yX3_load wsX3_load) := goodIn_app (goodIn_of _ (by decide +kernel)) ggX3_then_X3_load
set_option maxRecDepth 20000 in
theorem ggX3_then_X3_aside : GoodIn wsX3_then wsX3_aside := goodIn_r _ [28, 1, 29, 30, 24, 61, 62, 63, 64, 65, 66, 67, 68, 69, 70, 71, 72, 73, 74, 75, 76, 77, 78, 79, 80] (by decide +kernel) (by decide +kernel)
set_option maxRecDepth 20000 in
theorem gX3_then_X3_aside : GoodIn wsX3_then (wsV RX3 110 RX3 yX3_aside wsX3_aside) := goodIn_app (goodIn_of _ (by decide +kernel)) ggX3_then_X3_aside
set_option maxRecDepth 20000 in
theorem ggX3_then_X3_follow : GoodIn wsX3_then wsX3_follow := goodIn_r _ [34, 29, 1, 30, 24, 35, 36, 37, 38, 4, 39, 40, 41, 42, 43, 44, 45, 46, 47, 48, 49, 50, 51, 52, 53, 54, 55, 56, 61, 62, 63, 64, 65, 66, 67, 68, 69, 70, 71, 72, 73, 74, 75, 76, 77, 78, 79, 80] (by decide +kernel) (by decide +kernel)
set_option maxRecDepth 20000 in
theorem gX3_then_X3_follow : GoodIn wsX3_then (wsV RX3 113 RX3 yX3_follow wsX3_follow) := goodIn_app (goodIn_of _ (by decide +kernel)) ggX3_then_X3_follow
set_option maxRecDepth 20000 in
theorem ggX3_then_X3_store : GoodIn wsX3_then wsX3_store := goodIn_r _ [60, 14, 1, 19, 24, 61, 62, 63, 64, 65, 66, 67, 68, 69, 70, 71, 72, 73, 74, 75, 76, 77, 78, 79, 80] (by decide +kernel) (by decide +kernel)
set_option maxRecDepth 20000 in
theorem gX3_then_X3_store : GoodIn wsX3_then (wsV RX3 96 RX3 yX3_store wsX3_store) := goodIn_app (goodIn_of _ (by decide +kernel)) ggX3_then_X3_store
set_option maxRecDepth 20000 in
theorem ggX3_turn_X3_isSlot : GoodIn wsX3_turn wsX3_isSlot := goodIn_r _ [5, 6, 7, 8, 4, 9] (by decide +kernel) (by decide +kernel)
set_option maxRecDepth 20000 in
theorem gX3_turn_X3_isSlot : GoodIn wsX3_turn (va_wsS RX3 47 yX3_isSlot wsX3_isSlot) := goodIn_app (goodIn_of _ (by decide +kernel)) ggX3_turn_X3_isSlot
set_option maxRecDepth 20000 in
theorem ggX3_turn_X3_isMap : GoodIn wsX3_turn wsX3_isMap := goodIn_r _ [13, 14, 2, 3, 4, 5, 6, 7, 8, 9, 45, 46, 47, 48, 49, 50, 51, 52, 53, 54, 55, 56, 57, 58, 59, 60, 61, 62, 63, 64] (by decide +kernel) (by decide +kernel)
set_option maxRecDepth 20000 in
theorem gX3_turn_X3_isMap : GoodIn wsX3_turn (wsV RX3 104 RX3 yX3_isMap wsX3_isMap) := goodIn_app (goodIn_of _ (by decide +kernel)) ggX3_turn_X3_isMap
set_option maxRecDepth 20000 in
theorem ggX3_turn_X3_load : GoodIn wsX3_turn wsX3_load := goodIn_r _ [18, 1, 14, 19, 20, 21, 22, 4, 23, 24, 45, 46, 47, 48, 49, 50, 51, 52, 53, 54, 55, 56, 57, 58, 59, 60, 61, 62, 63, 64] (by decide +kernel) (by decide +kernel)
set_option maxRecDepth 20000 in
theorem gX3_turn_X3_load : GoodIn wsX3_turn (wsV RX3 107 RX3 yX3_load wsX3_load) := goodIn_app (goodIn_of _ (by decide +kernel)) ggX3_turn_X3_load
set_option maxRecDepth 20000 in
theorem ggX3_turn_X3_turnWork : GoodIn wsX3_turn wsX3_turnWork := goodIn_r _ [28, 1, 24, 29, 30, 31, 4, 32, 33, 34, 35, 36, 37, 38, 39, 40, 45, 46, 47, 48, 49, 50, 51, 52, 53, 54, 55, 56, 57, 58, 59, 60, 61, 62, 63, 64] (by decide +kernel) (by decide +kernel)
set_option maxRecDepth 20000 in
theorem gX3_turn_X3_turnWork : GoodIn wsX3_turn (wsV RX3 116 RX3 yX3_turnWork wsX3_turnWork) := goodIn_app (goodIn_of _ (by decide +kernel)) ggX3_turn_X3_turnWork
set_option maxRecDepth 20000 in
theorem ggX3_turn_X3_store : GoodIn wsX3_turn wsX3_store := goodIn_r _ [44, 14, 1, 19, 24, 45, 46, 47, 48, 49, 50, 51, 52, 53, 54, 55, 56, 57, 58, 59, 60, 61, 62, 63, 64] (by decide +kernel) (by decide +kernel)
set_option maxRecDepth 20000 in
theorem gX3_turn_X3_store : GoodIn wsX3_turn (wsV RX3 96 RX3 yX3_store wsX3_store) := goodIn_app (goodIn_of _ (by decide +kernel)) ggX3_turn_X3_store
set_option maxRecDepth 20000 in
theorem ggX3_power_X3_isSlot : GoodIn wsX3_power wsX3_isSlot := goodIn_r _ [7, 8, 9, 10, 6, 11] (by decide +kernel) (by decide +kernel)
set_option maxRecDepth 20000 in
theorem gX3_power_X3_isSlot : GoodIn wsX3_power (va_wsS RX3 47 yX3_isSlot wsX3_isSlot) := goodIn_app (goodIn_of _ (by decide +kernel)) ggX3_power_X3_isSlot
set_option maxRecDepth 20000 in
theorem ggX3_power_X3_isMap : GoodIn wsX3_power wsX3_isMap := goodIn_r _ [15, 16, 4, 5, 6, 7, 8, 9, 10, 11, 71, 72, 73, 74, 75, 76, 77, 78, 79, 80, 81, 82, 83, 84, 85, 86, 87, 88, 89, 90] (by decide +kernel) (by decide +kernel)
set_option maxRecDepth 20000 in
theorem gX3_power_X3_isMap : GoodIn wsX3_power (wsV RX3 104 RX3 yX3_isMap wsX3_isMap) := goodIn_app (goodIn_of _ (by decide +kernel)) ggX3_power_X3_isMap
set_option maxRecDepth 20000 in
theorem ggX3_power_X3_in : GoodIn wsX3_power wsX3_in := goodIn_r _ [11] (by decide +kernel) (by decide +kernel)
set_option maxRecDepth 20000 in
theorem gX3_power_X3_in : GoodIn wsX3_power (va_wsS RX3 43 yX3_in wsX3_in) := goodIn_app (goodIn_of _ (by decide +kernel)) ggX3_power_X3_in
set_option maxRecDepth 20000 in
theorem ggX3_power_X3_nothing : GoodIn wsX3_power wsX3_nothing := goodIn_r _ [20, 3, 21, 22, 23, 6, 24, 25, 71, 72, 73, 74, 75, 76, 77, 78, 79, 80, 81, 82, 83, 84, 85, 86, 87, 88, 89, 90] (by decide +kernel) (by decide +kernel)
set_option maxRecDepth 20000 in
theorem gX3_power_X3_nothing : GoodIn wsX3_power (wsV RX3 123 RX3 yX3_nothing wsX3_nothing) := goodIn_app (goodIn_of _ (by decide +kernel)) ggX3_power_X3_nothing
set_option maxRecDepth 20000 in
theorem ggX3_power_X3_aside : GoodIn wsX3_power wsX3_aside := goodIn_r _ [29, 3, 30, 31, 25, 71, 72, 73, 74, 75, 76, 77, 78, 79, 80, 81, 82, 83, 84, 85, 86, 87, 88, 89, 90] (by decide +kernel) (by decide +kernel)
set_option maxRecDepth 20000 in
theorem gX3_power_X3_aside : GoodIn wsX3_power (wsV RX3 110 RX3 yX3_aside wsX3_aside) := goodIn_app (goodIn_of _ (by decide +kernel)) ggX3_power_X3_aside
set_option maxRecDepth 20000 in
theorem ggX3_power_X3_load : GoodIn wsX3_power wsX3_load := goodIn_r _ [35, 3, 16, 36, 21, 22, 23, 6, 24, 25, 71, 72, 73, 74, 75, 76, 77, 78, 79, 80, 81, 82, 83, 84, 85, 86, 87, 88, 89, 90] (by decide +kernel) (by decide +kernel)
set_option maxRecDepth 20000 in
theorem gX3_power_X3_load : GoodIn wsX3_power (wsV RX3 107 RX3 yX3_load wsX3_load) := goodIn_app (goodIn_of _ (by decide +kernel)) ggX3_power_X3_load
set_option maxRecDepth 20000 in
theorem ggX3_power_X3_turnWork : GoodIn wsX3_power wsX3_turnWork := goodIn_r _ [40, 3, 25, 41, 42, 43, 6, 44, 45, 46, 47, 48, 49, 50, 51, 52, 71, 72, 73, 74, 75, 76, 77, 78, 79, 80, 81, 82, 83, 84, 85, 86, 87, 88, 89, 90] (by decide +kernel) (by decide +kernel)
set_option maxRecDepth 20000 in
theorem gX3_power_X3_turnWork : GoodIn wsX3_power (wsV RX3 116 RX3 yX3_turnWork wsX3_turnWork) := goodIn_app (goodIn_of _ (by decide +kernel)) ggX3_power_X3_turnWork
set_option maxRecDepth 20000 in
theorem ggX3_power_X3_follow : GoodIn wsX3_power wsX3_follow := goodIn_r _ [56, 30, 3, 31, 25, 57, 58, 59, 60, 6, 61, 62, 63, 64, 65, 66, 41, 42, 43, 44, 45, 46, 47, 48, 49, 50, 51, 52, 71, 72, 73, 74, 75, 76, 77, 78, 79, 80, 81, 82, 83, 84, 85, 86, 87, 88, 89, 90] (by decide +kernel) (by decide +kernel)
set_option maxRecDepth 20000 in
theorem gX3_power_X3_follow : GoodIn wsX3_power (wsV RX3 113 RX3 yX3_follow wsX3_follow) := goodIn_app (goodIn_of _ (by decide +kernel)) ggX3_power_X3_follow
set_option maxRecDepth 20000 in
theorem ggX3_power_X3_store : GoodIn wsX3_power wsX3_store := goodIn_r _ [70, 16, 3, 36, 25, 71, 72, 73, 74, 75, 76, 77, 78, 79, 80, 81, 82, 83, 84, 85, 86, 87, 88, 89, 90] (by decide +kernel) (by decide +kernel)
set_option maxRecDepth 20000 in
theorem gX3_power_X3_store : GoodIn wsX3_power (wsV RX3 96 RX3 yX3_store wsX3_store) := goodIn_app (goodIn_of _ (by decide +kernel)) ggX3_power_X3_store
set_option maxRecDepth 20000 in
theorem ggX3_drop_X3_isMap : GoodIn wsX3_drop wsX3_isMap := goodIn_r _ [6, 1, 7, 8, 5, 9, 10, 11, 12, 13, 14, 15, 16, 17, 18, 19, 20, 21, 22, 23, 24, 25, 26, 27, 28, 29, 30, 31, 32, 33] (by decide +kernel) (by decide +kernel)
set_option maxRecDepth 20000 in
theorem gX3_drop_X3_isMap : GoodIn wsX3_drop (wsV RX3 104 RX3 yX3_isMap wsX3_isMap) := goodIn_app (goodIn_of _ (by decide +kernel)) ggX3_drop_X3_isMap
set_option maxRecDepth 20000 in
theorem ggX3_leaves_X3_isMap : GoodIn wsX3_leaves wsX3_isMap := goodIn_r _ [6, 1, 7, 8, 5, 9, 10, 11, 12, 13, 14, 15, 16, 17, 18, 19, 20, 21, 22, 23, 24, 25, 26, 27, 28, 29, 30, 31, 32, 33] (by decide +kernel) (by decide +kernel)
set_option maxRecDepth 20000 in
theorem gX3_leaves_X3_isMap : GoodIn wsX3_leaves (wsV RX3 104 RX3 yX3_isMap wsX3_isMap) := goodIn_app (goodIn_of _ (by decide +kernel)) ggX3_leaves_X3_isMap
set_option maxRecDepth 20000 in
theorem ggX3_sortOf_X3_load : GoodIn wsX3_sortOf wsX3_load := goodIn_r _ [6, 1, 7, 8, 9, 10, 11, 5, 12, 13, 18, 19, 20, 21, 22, 23, 24, 25, 26, 27, 28, 29, 30, 31, 32, 33, 34, 35, 36, 37] (by decide +kernel) (by decide +kernel)
set_option maxRecDepth 20000 in
theorem gX3_sortOf_X3_load : GoodIn wsX3_sortOf (wsV RX3 107 RX3 yX3_load wsX3_load) := goodIn_app (goodIn_of _ (by decide +kernel)) ggX3_sortOf_X3_load
set_option maxRecDepth 20000 in
theorem ggX3_sortOf_X3_isLeft : GoodIn wsX3_sortOf wsX3_isLeft := goodIn_r _ [17, 13, 18, 19, 20, 21, 22, 23, 24, 25, 26, 27, 28, 29, 30, 31, 32, 33, 34, 35, 36, 37] (by decide +kernel) (by decide +kernel)
set_option maxRecDepth 20000 in
theorem gX3_sortOf_X3_isLeft : GoodIn wsX3_sortOf (wsV RX3 71 RX3 yX3_isLeft wsX3_isLeft) := goodIn_app (goodIn_of _ (by decide +kernel)) ggX3_sortOf_X3_isLeft
set_option maxRecDepth 20000 in
theorem ggX3_sort_X3_isMap : GoodIn wsX3_sort wsX3_isMap := goodIn_r _ [5, 6, 7, 8, 4, 9, 10, 11, 12, 13, 33, 34, 35, 36, 37, 38, 39, 40, 41, 42, 43, 44, 45, 46, 47, 48, 49, 50, 51, 52] (by decide +kernel) (by decide +kernel)
set_option maxRecDepth 20000 in
theorem gX3_sort_X3_isMap : GoodIn wsX3_sort (wsV RX3 104 RX3 yX3_isMap wsX3_isMap) := goodIn_app (goodIn_of _ (by decide +kernel)) ggX3_sort_X3_isMap
set_option maxRecDepth 20000 in
theorem ggX3_sort_X3_sortOf : GoodIn wsX3_sort wsX3_sortOf := goodIn_r _ [17, 18, 19, 20, 21, 4, 22, 6, 23, 24, 25, 26, 27, 28, 29, 30, 31, 32, 33, 34, 35, 36, 37, 38, 39, 40, 41, 42, 43, 44, 45, 46, 47, 48, 49, 50, 51, 52] (by decide +kernel) (by decide +kernel)
set_option maxRecDepth 20000 in
theorem gX3_sort_X3_sortOf : GoodIn wsX3_sort (wsV RX3 126 RX3 yX3_sortOf wsX3_sortOf) := goodIn_app (goodIn_of _ (by decide +kernel)) ggX3_sort_X3_sortOf
set_option maxRecDepth 20000 in
theorem ggX3_leaf_X3_isMap : GoodIn wsX3_leaf wsX3_isMap := goodIn_r _ [8, 1, 9, 10, 7, 11, 12, 13, 14, 15, 16, 17, 18, 19, 20, 21, 22, 23, 24, 25, 26, 27, 28, 29, 30, 31, 32, 33, 34, 35] (by decide +kernel) (by decide +kernel)
set_option maxRecDepth 20000 in
theorem gX3_leaf_X3_isMap : GoodIn wsX3_leaf (wsV RX3 104 RX3 yX3_isMap wsX3_isMap) := goodIn_app (goodIn_of _ (by decide +kernel)) ggX3_leaf_X3_isMap
set_option maxRecDepth 20000 in
theorem ggX3_leaf_X3_in : GoodIn wsX3_leaf wsX3_in := goodIn_r _ [15] (by decide +kernel) (by decide +kernel)
set_option maxRecDepth 20000 in
theorem gX3_leaf_X3_in : GoodIn wsX3_leaf (va_wsS RX3 43 yX3_in wsX3_in) := goodIn_app (goodIn_of _ (by decide +kernel)) ggX3_leaf_X3_in
set_option maxRecDepth 20000 in
theorem ggX3_same_X3_isMap : GoodIn wsX3_same wsX3_isMap := goodIn_r _ [7, 1, 8, 9, 6, 10, 11, 12, 13, 14, 15, 16, 17, 18, 19, 20, 21, 22, 23, 24, 25, 26, 27, 28, 29, 30, 31, 32, 33, 34] (by decide +kernel) (by decide +kernel)
set_option maxRecDepth 20000 in
theorem gX3_same_X3_isMap : GoodIn wsX3_same (wsV RX3 104 RX3 yX3_isMap wsX3_isMap) := goodIn_app (goodIn_of _ (by decide +kernel)) ggX3_same_X3_isMap
set_option maxRecDepth 20000 in
theorem ggX3_commute_X3_isMap : GoodIn wsX3_commute wsX3_isMap := goodIn_r _ [8, 9, 10, 11, 7, 12, 13, 14, 15, 16, 58, 59, 60, 61, 62, 63, 64, 65, 66, 67, 68, 69, 70, 71, 72, 73, 74, 75, 76, 77] (by decide +kernel) (by decide +kernel)
set_option maxRecDepth 20000 in
theorem gX3_commute_X3_isMap : GoodIn wsX3_commute (wsV RX3 104 RX3 yX3_isMap wsX3_isMap) := goodIn_app (goodIn_of _ (by decide +kernel)) ggX3_commute_X3_isMap
set_option maxRecDepth 20000 in
theorem ggX3_commute_X3_load : GoodIn wsX3_commute wsX3_load := goodIn_r _ [20, 1, 9, 21, 22, 23, 24, 7, 25, 3, 58, 59, 60, 61, 62, 63, 64, 65, 66, 67, 68, 69, 70, 71, 72, 73, 74, 75, 76, 77] (by decide +kernel) (by decide +kernel)
set_option maxRecDepth 20000 in
theorem gX3_commute_X3_load : GoodIn wsX3_commute (wsV RX3 107 RX3 yX3_load wsX3_load) := goodIn_app (goodIn_of _ (by decide +kernel)) ggX3_commute_X3_load
set_option maxRecDepth 20000 in
theorem ggX3_commute_X3_aside : GoodIn wsX3_commute wsX3_aside := goodIn_r _ [29, 1, 30, 31, 3, 58, 59, 60, 61, 62, 63, 64, 65, 66, 67, 68, 69, 70, 71, 72, 73, 74, 75, 76, 77] (by decide +kernel) (by decide +kernel)
set_option maxRecDepth 20000 in
theorem gX3_commute_X3_aside : GoodIn wsX3_commute (wsV RX3 110 RX3 yX3_aside wsX3_aside) := goodIn_app (goodIn_of _ (by decide +kernel)) ggX3_commute_X3_aside
set_option maxRecDepth 20000 in
theorem ggX3_commute_X3_follow : GoodIn wsX3_commute wsX3_follow := goodIn_r _ [35, 30, 1, 31, 3, 36, 37, 38, 39, 7, 40, 41, 42, 43, 44, 45, 46, 47, 48, 49, 50, 51, 52, 53, 54, 55, 56, 57, 58, 59, 60, 61, 62, 63, 64, 65, 66, 67, 68, 69, 70, 71, 72, 73, 74, 75, 76, 77] (by decide +kernel) (by decide +kernel)
set_option maxRecDepth 20000 in
theorem gX3_commute_X3_follow : GoodIn wsX3_commute (wsV RX3 113 RX3 yX3_follow wsX3_follow) := goodIn_app (goodIn_of _ (by decide +kernel)) ggX3_commute_X3_follow
set_option maxRecDepth 20000 in
theorem ggX3_order_X3_isMap : GoodIn wsX3_order wsX3_isMap := goodIn_r _ [6, 7, 8, 9, 5, 10, 11, 12, 13, 14, 65, 66, 67, 68, 69, 70, 71, 72, 73, 74, 75, 76, 77, 78, 79, 80, 81, 82, 83, 84] (by decide +kernel) (by decide +kernel)
set_option maxRecDepth 20000 in
theorem gX3_order_X3_isMap : GoodIn wsX3_order (wsV RX3 104 RX3 yX3_isMap wsX3_isMap) := goodIn_app (goodIn_of _ (by decide +kernel)) ggX3_order_X3_isMap
set_option maxRecDepth 20000 in
theorem ggX3_order_X3_nothing : GoodIn wsX3_order wsX3_nothing := goodIn_r _ [18, 1, 19, 20, 21, 5, 22, 23, 65, 66, 67, 68, 69, 70, 71, 72, 73, 74, 75, 76, 77, 78, 79, 80, 81, 82, 83, 84] (by decide +kernel) (by decide +kernel)
set_option maxRecDepth 20000 in
theorem gX3_order_X3_nothing : GoodIn wsX3_order (wsV RX3 123 RX3 yX3_nothing wsX3_nothing) := goodIn_app (goodIn_of _ (by decide +kernel)) ggX3_order_X3_nothing
set_option maxRecDepth 20000 in
theorem ggX3_order_X3_aside : GoodIn wsX3_order wsX3_aside := goodIn_r _ [27, 1, 28, 29, 23, 65, 66, 67, 68, 69, 70, 71, 72, 73, 74, 75, 76, 77, 78, 79, 80, 81, 82, 83, 84] (by decide +kernel) (by decide +kernel)
set_option maxRecDepth 20000 in
theorem gX3_order_X3_aside : GoodIn wsX3_order (wsV RX3 110 RX3 yX3_aside wsX3_aside) := goodIn_app (goodIn_of _ (by decide +kernel)) ggX3_order_X3_aside
set_option maxRecDepth 20000 in
theorem ggX3_order_X3_load : GoodIn wsX3_order wsX3_load := goodIn_r _ [33, 1, 7, 34, 19, 20, 21, 5, 22, 23, 65, 66, 67, 68, 69, 70, 71, 72, 73, 74, 75, 76, 77, 78, 79, 80, 81, 82, 83, 84] (by decide +kernel) (by decide +kernel)
set_option maxRecDepth 20000 in
theorem gX3_order_X3_load : GoodIn wsX3_order (wsV RX3 107 RX3 yX3_load wsX3_load) := goodIn_app (goodIn_of _ (by decide +kernel)) ggX3_order_X3_load
set_option maxRecDepth 20000 in
theorem ggX3_order_X3_follow : GoodIn wsX3_order wsX3_follow := goodIn_r _ [38, 28, 1, 29, 23, 39, 40, 41, 42, 5, 43, 44, 45, 46, 47, 48, 49, 50, 51, 52, 53, 54, 55, 56, 57, 58, 59, 60, 65, 66, 67, 68, 69, 70, 71, 72, 73, 74, 75, 76, 77, 78, 79, 80, 81, 82, 83, 84] (by decide +kernel) (by decide +kernel)
set_option maxRecDepth 20000 in
theorem gX3_order_X3_follow : GoodIn wsX3_order (wsV RX3 113 RX3 yX3_follow wsX3_follow) := goodIn_app (goodIn_of _ (by decide +kernel)) ggX3_order_X3_follow
set_option maxRecDepth 20000 in
theorem ggX3_order_X3_isNothing : GoodIn wsX3_order wsX3_isNothing := goodIn_r _ [64, 1, 65, 66, 67, 68, 69, 70, 71, 72, 73, 74, 75, 76, 77, 78, 79, 80, 81, 82, 83, 84] (by decide +kernel) (by decide +kernel)
set_option maxRecDepth 20000 in
theorem gX3_order_X3_isNothing : GoodIn wsX3_order (wsV RX3 132 RX3 yX3_isNothing wsX3_isNothing) := goodIn_app (goodIn_of _ (by decide +kernel)) ggX3_order_X3_isNothing
set_option maxRecDepth 20000 in
theorem ggX3_note_X3_wordOf : GoodIn wsX3_note wsX3_wordOf := goodIn_r _ [10, 2, 1, 3, 4, 5, 11, 12, 13, 14, 15, 16, 17, 18, 19, 20, 21, 22, 23, 24, 25, 26, 27, 28, 29, 30] (by decide +kernel) (by decide +kernel)
set_option maxRecDepth 20000 in
theorem gX3_note_X3_wordOf : GoodIn wsX3_note (wsV RX3 139 RX3 yX3_wordOf wsX3_wordOf) := goodIn_app (goodIn_of _ (by decide +kernel)) ggX3_note_X3_wordOf
set_option maxRecDepth 20000 in
theorem ggX3_loadWord_X3_put : GoodIn wsX3_loadWord wsX3_put := goodIn_r _ [8, 9, 1, 10, 11, 12, 13, 14, 15, 16, 17, 18, 19, 20, 21, 22, 23, 24, 25, 26, 27, 28, 29] (by decide +kernel) (by decide +kernel)
set_option maxRecDepth 20000 in
theorem gX3_loadWord_X3_put : GoodIn wsX3_loadWord (wsV RX3 55 RX3 yX3_put wsX3_put) := goodIn_app (goodIn_of _ (by decide +kernel)) ggX3_loadWord_X3_put
set_option maxRecDepth 20000 in
theorem ggX3_makeBall_X3_nothing : GoodIn wsX3_makeBall wsX3_nothing := goodIn_r _ [8, 9, 10, 11, 12, 7, 13, 14, 69, 70, 71, 72, 73, 74, 75, 76, 77, 78, 79, 80, 81, 82, 83, 84, 85, 86, 87, 88] (by decide +kernel) (by decide +kernel)
set_option maxRecDepth 20000 in
theorem gX3_makeBall_X3_nothing : GoodIn wsX3_makeBall (wsV RX3 123 RX3 yX3_nothing wsX3_nothing) := goodIn_app (goodIn_of _ (by decide +kernel)) ggX3_makeBall_X3_nothing
set_option maxRecDepth 20000 in
theorem ggX3_makeBall_X3_note : GoodIn wsX3_makeBall wsX3_note := goodIn_r _ [18, 19, 3, 9, 20, 14, 21, 22, 23, 7, 24, 69, 70, 71, 72, 73, 74, 75, 76, 77, 78, 79, 80, 81, 82, 83, 84, 85, 86, 87, 88] (by decide +kernel) (by decide +kernel)
set_option maxRecDepth 20000 in
theorem gX3_makeBall_X3_note : GoodIn wsX3_makeBall (wsV RX3 147 RX3 yX3_note wsX3_note) := goodIn_app (goodIn_of _ (by decide +kernel)) ggX3_makeBall_X3_note
set_option maxRecDepth 20000 in
theorem ggX3_makeBall_X3_loadWord : GoodIn wsX3_makeBall wsX3_loadWord := goodIn_r _ [28, 9, 19, 20, 10, 11, 12, 7, 13, 14, 69, 70, 71, 72, 73, 74, 75, 76, 77, 78, 79, 80, 81, 82, 83, 84, 85, 86, 87, 88] (by decide +kernel) (by decide +kernel)
set_option maxRecDepth 20000 in
theorem gX3_makeBall_X3_loadWord : GoodIn wsX3_makeBall (wsV RX3 150 RX3 yX3_loadWord wsX3_loadWord) := goodIn_app (goodIn_of _ (by decide +kernel)) ggX3_makeBall_X3_loadWord
set_option maxRecDepth 20000 in
theorem ggX3_makeBall_X3_aside : GoodIn wsX3_makeBall wsX3_aside := goodIn_r _ [32, 9, 33, 34, 14, 69, 70, 71, 72, 73, 74, 75, 76, 77, 78, 79, 80, 81, 82, 83, 84, 85, 86, 87, 88] (by decide +kernel) (by decide +kernel)
set_option maxRecDepth 20000 in
theorem gX3_makeBall_X3_aside : GoodIn wsX3_makeBall (wsV RX3 110 RX3 yX3_aside wsX3_aside) := goodIn_app (goodIn_of _ (by decide +kernel)) ggX3_makeBall_X3_aside
set_option maxRecDepth 20000 in
theorem ggX3_makeBall_X3_makeStrong : GoodIn wsX3_makeBall wsX3_makeStrong := goodIn_r _ [38, 9, 10, 11, 12, 7, 13, 14, 39, 40, 41, 42, 43, 44, 45, 46, 47, 48, 49, 50, 69, 70, 71, 72, 73, 74, 75, 76, 77, 78, 79, 80, 81, 82, 83, 84, 85, 86, 87, 88] (by decide +kernel) (by decide +kernel)
set_option maxRecDepth 20000 in
theorem gX3_makeBall_X3_makeStrong : GoodIn wsX3_makeBall (wsV RX3 101 RX3 yX3_makeStrong wsX3_makeStrong) := goodIn_app (goodIn_of _ (by decide +kernel)) ggX3_makeBall_X3_makeStrong
set_option maxRecDepth 20000 in
theorem ggX3_makeBall_X3_turnWork : GoodIn wsX3_makeBall wsX3_turnWork := goodIn_r _ [54, 9, 14, 39, 40, 41, 7, 42, 43, 44, 45, 46, 47, 48, 49, 50, 69, 70, 71, 72, 73, 74, 75, 76, 77, 78, 79, 80, 81, 82, 83, 84, 85, 86, 87, 88] (by decide +kernel) (by decide +kernel)
set_option maxRecDepth 20000 in
theorem gX3_makeBall_X3_turnWork : GoodIn wsX3_makeBall (wsV RX3 116 RX3 yX3_turnWork wsX3_turnWork) := goodIn_app (goodIn_of _ (by decide +kernel)) ggX3_makeBall_X3_turnWork
set_option maxRecDepth 20000 in
theorem ggX3_makeBall_X3_follow : GoodIn wsX3_makeBall wsX3_follow := goodIn_r _ [58, 33, 9, 34, 14, 59, 60, 61, 62, 7, 63, 64, 65, 66, 67, 68, 39, 40, 41, 42, 43, 44, 45, 46, 47, 48, 49, 50, 69, 70, 71, 72, 73, 74, 75, 76, 77, 78, 79, 80, 81, 82, 83, 84, 85, 86, 87, 88] (by decide +kernel) (by decide +kernel)
set_option maxRecDepth 20000 in
theorem gX3_makeBall_X3_follow : GoodIn wsX3_makeBall (wsV RX3 113 RX3 yX3_follow wsX3_follow) := goodIn_app (goodIn_of _ (by decide +kernel)) ggX3_makeBall_X3_follow
set_option maxRecDepth 20000 in
theorem ggX3_length_X3_isMap : GoodIn wsX3_length wsX3_isMap := goodIn_r _ [6, 7, 8, 9, 5, 10, 11, 12, 13, 14, 90, 91, 92, 93, 94, 95, 96, 97, 98, 99, 100, 101, 102, 103, 104, 105, 106, 107, 108, 109] (by decide +kernel) (by decide +kernel)
set_option maxRecDepth 20000 in
theorem gX3_length_X3_isMap : GoodIn wsX3_length (wsV RX3 104 RX3 yX3_isMap wsX3_isMap) := goodIn_app (goodIn_of _ (by decide +kernel)) ggX3_length_X3_isMap
set_option maxRecDepth 20000 in
theorem ggX3_length_X3_makeBall : GoodIn wsX3_length wsX3_makeBall := goodIn_r _ [18, 19, 1, 20, 21, 22, 23, 5, 24, 25, 26, 27, 28, 29, 30, 31, 32, 33, 34, 35, 36, 37, 38, 39, 40, 41, 42, 43, 44, 45, 46, 47, 48, 49, 50, 51, 52, 53, 54, 55, 56, 57, 58, 59, 60, 61, 62, 63, 64, 65, 66, 67, 68, 69, 70, 71, 72, 73, 74, 75, 76, 77, 78, 79, 80, 81, 82, 83, 84, 90, 91, 92, 93, 94, 95, 96, 97, 98, 99, 100, 101, 102, 103, 104, 105, 106, 107, 108, 109] (by decide +kernel) (by decide +kernel)
set_option maxRecDepth 20000 in
theorem gX3_length_X3_makeBall : GoodIn wsX3_length (wsV RX3 153 RX3 yX3_makeBall wsX3_makeBall) := goodIn_app (goodIn_of _ (by decide +kernel)) ggX3_length_X3_makeBall
set_option maxRecDepth 20000 in
theorem ggX3_length_X3_load : GoodIn wsX3_length wsX3_load := goodIn_r _ [88, 25, 7, 89, 26, 27, 28, 5, 29, 30, 90, 91, 92, 93, 94, 95, 96, 97, 98, 99, 100, 101, 102, 103, 104, 105, 106, 107, 108, 109] (by decide +kernel) (by decide +kernel)
set_option maxRecDepth 20000 in
theorem gX3_length_X3_load : GoodIn wsX3_length (wsV RX3 107 RX3 yX3_load wsX3_load) := goodIn_app (goodIn_of _ (by decide +kernel)) ggX3_length_X3_load
set_option maxRecDepth 20000 in
theorem ggX3_length_X3_wordOf : GoodIn wsX3_length wsX3_wordOf := goodIn_r _ [40, 20, 35, 25, 36, 30, 90, 91, 92, 93, 94, 95, 96, 97, 98, 99, 100, 101, 102, 103, 104, 105, 106, 107, 108, 109] (by decide +kernel) (by decide +kernel)
set_option maxRecDepth 20000 in
theorem gX3_length_X3_wordOf : GoodIn wsX3_length (wsV RX3 139 RX3 yX3_wordOf wsX3_wordOf) := goodIn_app (goodIn_of _ (by decide +kernel)) ggX3_length_X3_wordOf
set_option maxRecDepth 20000 in
theorem ggX3_ball_X3_in : GoodIn wsX3_ball wsX3_in := goodIn_r _ [6] (by decide +kernel) (by decide +kernel)
set_option maxRecDepth 20000 in
theorem gX3_ball_X3_in : GoodIn wsX3_ball (va_wsS RX3 43 yX3_in wsX3_in) := goodIn_app (goodIn_of _ (by decide +kernel)) ggX3_ball_X3_in
set_option maxRecDepth 20000 in
theorem ggX3_ball_X3_makeBall : GoodIn wsX3_ball wsX3_makeBall := goodIn_r _ [10, 11, 2, 12, 13, 14, 15, 5, 16, 17, 18, 19, 20, 21, 22, 23, 24, 25, 26, 27, 28, 29, 30, 31, 32, 33, 34, 35, 36, 37, 38, 39, 40, 41, 42, 43, 44, 45, 46, 47, 48, 49, 50, 51, 52, 53, 54, 55, 56, 57, 58, 59, 60, 61, 62, 63, 64, 65, 66, 67, 68, 69, 70, 71, 72, 73, 74, 75, 76, 77, 78, 79, 80, 81, 82, 83, 84, 85, 86, 87, 88, 89, 90, 91, 92, 93, 94, 95, 96] (by decide +kernel) (by decide +kernel)
set_option maxRecDepth 20000 in
theorem gX3_ball_X3_makeBall : GoodIn wsX3_ball (wsV RX3 153 RX3 yX3_makeBall wsX3_makeBall) := goodIn_app (goodIn_of _ (by decide +kernel)) ggX3_ball_X3_makeBall
set_option maxRecDepth 20000 in
theorem ggX3_go_X3_isMap : GoodIn wsX3_go wsX3_isMap := goodIn_r _ [11, 2, 12, 13, 10, 14, 15, 16, 17, 18, 19, 20, 21, 22, 23, 24, 25, 26, 27, 28, 29, 30, 31, 32, 33, 34, 35, 36, 37, 38] (by decide +kernel) (by decide +kernel)
set_option maxRecDepth 20000 in
theorem gX3_go_X3_isMap : GoodIn wsX3_go (wsV RX3 104 RX3 yX3_isMap wsX3_isMap) := goodIn_app (goodIn_of _ (by decide +kernel)) ggX3_go_X3_isMap
set_option maxRecDepth 20000 in
theorem ggX3_go_X3_in : GoodIn wsX3_go wsX3_in := goodIn_r _ [18] (by decide +kernel) (by decide +kernel)
set_option maxRecDepth 20000 in
theorem gX3_go_X3_in : GoodIn wsX3_go (va_wsS RX3 43 yX3_in wsX3_in) := goodIn_app (goodIn_of _ (by decide +kernel)) ggX3_go_X3_in
set_option maxRecDepth 20000 in
theorem ggX3_bend_X3_isMap : GoodIn wsX3_bend wsX3_isMap := goodIn_r _ [6, 1, 7, 8, 5, 9, 10, 11, 12, 13, 19, 20, 21, 22, 23, 24, 25, 26, 27, 28, 29, 30, 31, 32, 33, 34, 35, 36, 37, 38] (by decide +kernel) (by decide +kernel)
set_option maxRecDepth 20000 in
theorem gX3_bend_X3_isMap : GoodIn wsX3_bend (wsV RX3 104 RX3 yX3_isMap wsX3_isMap) := goodIn_app (goodIn_of _ (by decide +kernel)) ggX3_bend_X3_isMap
set_option maxRecDepth 20000 in
theorem ggX3_bend_X3_in : GoodIn wsX3_bend wsX3_in := goodIn_r _ [13] (by decide +kernel) (by decide +kernel)
set_option maxRecDepth 20000 in
theorem gX3_bend_X3_in : GoodIn wsX3_bend (va_wsS RX3 43 yX3_in wsX3_in) := goodIn_app (goodIn_of _ (by decide +kernel)) ggX3_bend_X3_in
set_option maxRecDepth 20000 in
theorem ggX3_bend_X3_slope : GoodIn wsX3_bend wsX3_slope := goodIn_r _ [17, 18, 19, 20, 21, 22, 23, 24, 25, 26, 27, 28, 29, 30, 31, 32, 33, 34, 35, 36, 37, 38] (by decide +kernel) (by decide +kernel)
set_option maxRecDepth 20000 in
theorem gX3_bend_X3_slope : GoodIn wsX3_bend (wsV RX3 169 RX3 yX3_slope wsX3_slope) := goodIn_app (goodIn_of _ (by decide +kernel)) ggX3_bend_X3_slope
set_option maxRecDepth 20000 in
theorem ggX3_still_X3_isMap : GoodIn wsX3_still wsX3_isMap := goodIn_r _ [7, 1, 8, 9, 6, 10, 11, 12, 13, 14, 15, 16, 17, 18, 19, 20, 21, 22, 23, 24, 25, 26, 27, 28, 29, 30, 31, 32, 33, 34] (by decide +kernel) (by decide +kernel)
set_option maxRecDepth 20000 in
theorem gX3_still_X3_isMap : GoodIn wsX3_still (wsV RX3 104 RX3 yX3_isMap wsX3_isMap) := goodIn_app (goodIn_of _ (by decide +kernel)) ggX3_still_X3_isMap
set_option maxRecDepth 20000 in
theorem ggX3_seek_X3_common : GoodIn wsX3_seek wsX3_common := goodIn_r _ [9] (by decide +kernel) (by decide +kernel)
set_option maxRecDepth 20000 in
theorem gX3_seek_X3_common : GoodIn wsX3_seek (va_wsS RX3 181 yX3_common wsX3_common) := goodIn_app (goodIn_of _ (by decide +kernel)) ggX3_seek_X3_common
set_option maxRecDepth 20000 in
theorem ggX3_single_X3_isMap : GoodIn wsX3_single wsX3_isMap := goodIn_r _ [5, 6, 7, 8, 4, 9, 10, 11, 12, 13, 25, 26, 27, 28, 29, 30, 31, 32, 33, 34, 35, 36, 37, 38, 39, 40, 41, 42, 43, 44] (by decide +kernel) (by decide +kernel)
set_option maxRecDepth 20000 in
theorem gX3_single_X3_isMap : GoodIn wsX3_single (wsV RX3 104 RX3 yX3_isMap wsX3_isMap) := goodIn_app (goodIn_of _ (by decide +kernel)) ggX3_single_X3_isMap
set_option maxRecDepth 20000 in
theorem ggX3_single_X3_seek : GoodIn wsX3_single wsX3_seek := goodIn_r _ [17, 18, 19, 20, 6, 21, 22, 23, 4, 24, 25, 26, 27, 28, 29, 30, 31, 32, 33, 34, 35, 36, 37, 38, 39, 40, 41, 42, 43, 44] (by decide +kernel) (by decide +kernel)
set_option maxRecDepth 20000 in
theorem gX3_single_X3_seek : GoodIn wsX3_single (wsV RX3 185 RX3 yX3_seek wsX3_seek) := goodIn_app (goodIn_of _ (by decide +kernel)) ggX3_single_X3_seek
set_option maxRecDepth 20000 in
theorem ggX3_point_X3_isMap : GoodIn wsX3_point wsX3_isMap := goodIn_r _ [9, 10, 11, 12, 8, 13, 14, 15, 16, 17, 27, 28, 29, 30, 31, 32, 33, 34, 35, 36, 37, 38, 39, 40, 41, 42, 43, 44, 45, 46] (by decide +kernel) (by decide +kernel)
set_option maxRecDepth 20000 in
theorem gX3_point_X3_isMap : GoodIn wsX3_point (wsV RX3 104 RX3 yX3_isMap wsX3_isMap) := goodIn_app (goodIn_of _ (by decide +kernel)) ggX3_point_X3_isMap
set_option maxRecDepth 20000 in
theorem ggX3_point_X3_in : GoodIn wsX3_point wsX3_in := goodIn_r _ [17] (by decide +kernel) (by decide +kernel)
set_option maxRecDepth 20000 in
theorem gX3_point_X3_in : GoodIn wsX3_point (va_wsS RX3 43 yX3_in wsX3_in) := goodIn_app (goodIn_of _ (by decide +kernel)) ggX3_point_X3_in
set_option maxRecDepth 20000 in
theorem ggX3_point_X3_seek : GoodIn wsX3_point wsX3_seek := goodIn_r _ [21, 22, 3, 4, 10, 23, 24, 25, 8, 26, 27, 28, 29, 30, 31, 32, 33, 34, 35, 36, 37, 38, 39, 40, 41, 42, 43, 44, 45, 46] (by decide +kernel) (by decide +kernel)
set_option maxRecDepth 20000 in
theorem gX3_point_X3_seek : GoodIn wsX3_point (wsV RX3 185 RX3 yX3_seek wsX3_seek) := goodIn_app (goodIn_of _ (by decide +kernel)) ggX3_point_X3_seek
set_option maxRecDepth 20000 in
theorem ggX3_count_X3_in : GoodIn wsX3_count wsX3_in := goodIn_r _ [8] (by decide +kernel) (by decide +kernel)
set_option maxRecDepth 20000 in
theorem gX3_count_X3_in : GoodIn wsX3_count (va_wsS RX3 43 yX3_in wsX3_in) := goodIn_app (goodIn_of _ (by decide +kernel)) ggX3_count_X3_in
set_option maxRecDepth 20000 in
theorem ggX3_count_X3_sortOf : GoodIn wsX3_count wsX3_sortOf := goodIn_r _ [12, 13, 14, 15, 16, 7, 17, 4, 18, 19, 20, 21, 22, 23, 24, 25, 26, 27, 28, 29, 30, 31, 32, 33, 34, 35, 36, 37, 38, 39, 40, 41, 42, 43, 44, 45, 46, 47] (by decide +kernel) (by decide +kernel)
set_option maxRecDepth 20000 in
theorem gX3_count_X3_sortOf : GoodIn wsX3_count (wsV RX3 126 RX3 yX3_sortOf wsX3_sortOf) := goodIn_app (goodIn_of _ (by decide +kernel)) ggX3_count_X3_sortOf
set_option maxRecDepth 20000 in
theorem ggX3_digest_X3_mix : GoodIn wsX3_digest wsX3_mix := goodIn_r _ [14, 15, 2, 16, 17, 18, 19, 20, 21, 22, 23, 24, 25, 26, 27, 28, 29, 30, 31, 32, 33, 34, 35] (by decide +kernel) (by decide +kernel)
set_option maxRecDepth 20000 in
theorem gX3_digest_X3_mix : GoodIn wsX3_digest (wsV RX3 197 RX3 yX3_mix wsX3_mix) := goodIn_app (goodIn_of _ (by decide +kernel)) ggX3_digest_X3_mix
set_option maxRecDepth 20000 in
theorem ggJxc12de_init_da8c8_Jxa1e45_init_da8c8 : GoodIn wsJxc12de_init_da8c8 wsJxa1e45_init_da8c8 := goodIn_r _ [5, 6, 7, 8] (by decide +kernel) (by decide +kernel)
set_option maxRecDepth 20000 in
theorem gJxc12de_init_da8c8_Jxa1e45_init_da8c8 : GoodIn wsJxc12de_init_da8c8 (wsJxa1e45_init_da8c8) := ggJxc12de_init_da8c8_Jxa1e45_init_da8c8
set_option maxRecDepth 20000 in
theorem ggJx4a65c_init_da8c8_Jxc12de_init_da8c8 : GoodIn wsJx4a65c_init_da8c8 wsJxc12de_init_da8c8 := goodIn_r _ [6, 7, 8, 9, 10, 11, 12, 13, 14, 15, 16, 17] (by decide +kernel) (by decide +kernel)
set_option maxRecDepth 20000 in
theorem gJx4a65c_init_da8c8_Jxc12de_init_da8c8 : GoodIn wsJx4a65c_init_da8c8 (wsJxc12de_init_da8c8) := ggJx4a65c_init_da8c8_Jxc12de_init_da8c8
set_option maxRecDepth 20000 in
theorem ggJx4a65c_grow_92f84_J8_newLength_cabcc : GoodIn wsJx4a65c_grow_92f84 wsJ8_newLength_cabcc := goodIn_r _ [11, 12, 4, 5, 6, 13, 14, 15, 10, 16] (by decide +kernel) (by decide +kernel)
set_option maxRecDepth 20000 in
theorem gJx4a65c_grow_92f84_J8_newLength_cabcc : GoodIn wsJx4a65c_grow_92f84 (va_wsS RJx4a65c 73 yJ8_newLength_cabcc wsJ8_newLength_cabcc) := goodIn_app (goodIn_of _ (by decide +kernel)) ggJx4a65c_grow_92f84_J8_newLength_cabcc
set_option maxRecDepth 20000 in
theorem ggJx4a65c_grow_92f84_J7_copyOf_1904c : GoodIn wsJx4a65c_grow_92f84 wsJ7_copyOf_1904c := goodIn_r _ [20, 21, 22, 23, 24, 25, 26, 19, 27, 28, 29, 30, 31, 5, 32, 33, 34, 35, 36] (by decide +kernel) (by decide +kernel)
set_option maxRecDepth 20000 in
theorem gJx4a65c_grow_92f84_J7_copyOf_1904c : GoodIn wsJx4a65c_grow_92f84 (va_wsS RJx4a65c 66 yJ7_copyOf_1904c wsJ7_copyOf_1904c) := goodIn_app (goodIn_of _ (by decide +kernel)) ggJx4a65c_grow_92f84_J7_copyOf_1904c
set_option maxRecDepth 20000 in
theorem ggJx4a65c_grow_d5877_Jx4a65c_grow_92f84 : GoodIn wsJx4a65c_grow_d5877 wsJx4a65c_grow_92f84 := goodIn_r _ [6, 7, 8, 9, 10, 11, 12, 13, 14, 15, 16, 17, 18, 19, 20, 21, 22, 23, 24, 25, 26, 27, 28, 29, 30, 31, 32, 33, 34, 35, 36, 37, 38, 39, 40, 41, 42, 43, 44, 45] (by decide +kernel) (by decide +kernel)
set_option maxRecDepth 20000 in
theorem gJx4a65c_grow_d5877_Jx4a65c_grow_92f84 : GoodIn wsJx4a65c_grow_d5877 (wsV RJx4a65c 69 RJx4a65c yJx4a65c_grow_92f84 wsJx4a65c_grow_92f84) := goodIn_app (goodIn_of _ (by decide +kernel)) ggJx4a65c_grow_d5877_Jx4a65c_grow_92f84
set_option maxRecDepth 20000 in
theorem ggJx4a65c_get_915e3_J15_checkIndex_7cf53 : GoodIn wsJx4a65c_get_915e3 wsJ15_checkIndex_7cf53 := goodIn_r _ [5, 6, 7, 8, 9] (by decide +kernel) (by decide +kernel)
set_option maxRecDepth 20000 in
theorem gJx4a65c_get_915e3_J15_checkIndex_7cf53 : GoodIn wsJx4a65c_get_915e3 (va_wsS RJx4a65c 118 yJ15_checkIndex_7cf53 wsJ15_checkIndex_7cf53) := goodIn_app (goodIn_of _ (by decide +kernel)) ggJx4a65c_get_915e3_J15_checkIndex_7cf53
set_option maxRecDepth 20000 in
theorem ggJx4a65c_get_915e3_Jx4a65c_elementData_915e3 : GoodIn wsJx4a65c_get_915e3 wsJx4a65c_elementData_915e3 := goodIn_r _ [14, 15, 16, 17, 18] (by decide +kernel) (by decide +kernel)
set_option maxRecDepth 20000 in
theorem gJx4a65c_get_915e3_Jx4a65c_elementData_915e3 : GoodIn wsJx4a65c_get_915e3 (wsV RJx4a65c 123 RJx4a65c yJx4a65c_elementData_915e3 wsJx4a65c_elementData_915e3) := goodIn_app (goodIn_of _ (by decide +kernel)) ggJx4a65c_get_915e3_Jx4a65c_elementData_915e3
set_option maxRecDepth 20000 in
theorem ggJx4a65c_add_72be8_Jx4a65c_grow_d5877 : GoodIn wsJx4a65c_add_72be8 wsJx4a65c_grow_d5877 := goodIn_r _ [6, 1, 7, 8, 9, 5, 10, 11, 12, 13, 14, 15, 16, 17, 18, 19, 20, 21, 22, 23, 24, 25, 26, 27, 28, 29, 30, 31, 32, 33, 34, 35, 36, 37, 38, 39, 40, 41, 42, 43, 44, 45, 46, 47, 48, 49] (by decide +kernel) (by decide +kernel)
set_option maxRecDepth 20000 in
theorem gJx4a65c_add_72be8_Jx4a65c_grow_d5877 : GoodIn wsJx4a65c_add_72be8 (wsV RJx4a65c 129 RJx4a65c yJx4a65c_grow_d5877 wsJx4a65c_grow_d5877) := goodIn_app (goodIn_of _ (by decide +kernel)) ggJx4a65c_add_72be8_Jx4a65c_grow_d5877
set_option maxRecDepth 20000 in
theorem ggJx4a65c_add_9ea2d_Jx4a65c_add_72be8 : GoodIn wsJx4a65c_add_9ea2d wsJx4a65c_add_72be8 := goodIn_r _ [9, 4, 10, 11, 12, 8, 13, 14, 15, 16, 17, 3, 18, 19, 20, 21, 22, 23, 24, 25, 26, 27, 28, 29, 30, 31, 32, 33, 34, 35, 36, 37, 38, 39, 40, 41, 42, 43, 44, 45, 46, 47, 48, 49, 50, 51, 52, 53, 54, 55] (by decide +kernel) (by decide +kernel)
set_option maxRecDepth 20000 in
theorem gJx4a65c_add_9ea2d_Jx4a65c_add_72be8 : GoodIn wsJx4a65c_add_9ea2d (wsV RJx4a65c 131 RJx4a65c yJx4a65c_add_72be8 wsJx4a65c_add_72be8) := goodIn_app (goodIn_of _ (by decide +kernel)) ggJx4a65c_add_9ea2d_Jx4a65c_add_72be8
set_option maxRecDepth 20000 in
theorem ggJ7_copyOf_1904c_J7_copyOf_6403c : GoodIn wsJ7_copyOf_1904c wsJ7_copyOf_6403c := goodIn_r _ [8, 9, 10, 11, 12, 13, 14, 15, 16, 17, 18] (by decide +kernel) (by decide +kernel)
set_option maxRecDepth 20000 in
theorem gJ7_copyOf_1904c_J7_copyOf_6403c : GoodIn wsJ7_copyOf_1904c (va_wsS RJ7 300 yJ7_copyOf_6403c wsJ7_copyOf_6403c) := goodIn_app (goodIn_of _ (by decide +kernel)) ggJ7_copyOf_1904c_J7_copyOf_6403c
set_option maxRecDepth 20000 in
theorem ggJ15_checkIndex_7cf53_J3_checkIndex_8e157 : GoodIn wsJ15_checkIndex_7cf53 wsJ3_checkIndex_8e157 := goodIn_r _ [4] (by decide +kernel) (by decide +kernel)
set_option maxRecDepth 20000 in
theorem gJ15_checkIndex_7cf53_J3_checkIndex_8e157 : GoodIn wsJ15_checkIndex_7cf53 (va_wsS RJ15 105 yJ3_checkIndex_8e157 wsJ3_checkIndex_8e157) := goodIn_app (goodIn_of _ (by decide +kernel)) ggJ15_checkIndex_7cf53_J3_checkIndex_8e157
set_option maxRecDepth 20000 in
theorem ggJ8_newLength_cabcc_J8_hugeLength_7cf53 : GoodIn wsJ8_newLength_cabcc wsJ8_hugeLength_7cf53 := goodIn_r _ [9, 5] (by decide +kernel) (by decide +kernel)
set_option maxRecDepth 20000 in
theorem gJ8_newLength_cabcc_J8_hugeLength_7cf53 : GoodIn wsJ8_newLength_cabcc (va_wsS RJ8 201 yJ8_hugeLength_7cf53 wsJ8_hugeLength_7cf53) := goodIn_app (goodIn_of _ (by decide +kernel)) ggJ8_newLength_cabcc_J8_hugeLength_7cf53
