set_option maxRecDepth 20000 in
theorem ggX0_init_Jx4a65c_init_da8c8 : GoodIn wsX0_init wsJx4a65c_init_da8c8 := goodIn_r _ [12, 13, 14, 15, 16, 17, 18, 19, 20, 21, 22, 23, 24, 2, 3, 25, 26, 27] (by decide +kernel) (by decide +kernel)
set_option maxRecDepth 20000 in
theorem gX0_init_Jx4a65c_init_da8c8 : GoodIn wsX0_init (wsJx4a65c_init_da8c8) := ggX0_init_Jx4a65c_init_da8c8
set_option maxRecDepth 20000 in
theorem ggX0_addNew_X0_placeOf : GoodIn wsX0_addNew wsX0_placeOf := goodIn_r _ [10, 5, 11, 12, 13, 14, 15, 16, 17, 18, 19, 20, 21, 22, 23, 24, 25, 26, 27, 28, 29, 30, 31, 32, 33, 34, 35, 36, 37, 38, 39, 40, 41, 3, 42, 43, 44, 45, 46, 125, 126, 127, 128, 129, 120, 121, 122, 123, 124] (by decide +kernel) (by decide +kernel)
set_option maxRecDepth 20000 in
theorem gX0_addNew_X0_placeOf : GoodIn wsX0_addNew (wsV RX0 22 RX0 yX0_placeOf wsX0_placeOf) := goodIn_app (goodIn_of _ (by decide +kernel)) ggX0_addNew_X0_placeOf
set_option maxRecDepth 20000 in
theorem ggX0_addNew_X1_init : GoodIn wsX0_addNew wsX1_init := goodIn_r _ [49, 50, 51, 52, 53, 54, 55, 56, 57, 43, 58, 44, 45, 46, 120, 121, 122, 123, 124] (by decide +kernel) (by decide +kernel)
set_option maxRecDepth 20000 in
theorem gX0_addNew_X1_init : GoodIn wsX0_addNew (wsX1_init) := ggX0_addNew_X1_init
set_option maxRecDepth 20000 in
theorem ggX0_addNew_X2_putCopy : GoodIn wsX0_addNew wsX2_putCopy := goodIn_r _ [60, 38, 61, 62, 63, 64, 65, 66, 67, 3, 68, 69, 43, 44, 45, 46, 120, 121, 122, 123, 124] (by decide +kernel) (by decide +kernel)
set_option maxRecDepth 20000 in
theorem gX0_addNew_X2_putCopy_n35 : GoodIn wsX0_addNew (wsX2_putCopy) := ggX0_addNew_X2_putCopy
set_option maxRecDepth 20000 in
theorem ggX0_addNew_Jx4a65c_add_9ea2d : GoodIn wsX0_addNew wsJx4a65c_add_9ea2d := goodIn_r _ [73, 74, 75, 34, 17, 76, 77, 78, 15, 79, 80, 81, 82, 83, 84, 85, 86, 87, 88, 89, 54, 55, 56, 90, 91, 92, 93, 94, 95, 96, 97, 98, 99, 100, 101, 102, 103, 104, 105, 106, 107, 108, 109, 110, 111, 112, 113, 114, 115, 116, 117, 118, 119, 127, 128, 129] (by decide +kernel) (by decide +kernel)
set_option maxRecDepth 20000 in
theorem gX0_addNew_Jx4a65c_add_9ea2d_f39Jx4a65c : GoodIn wsX0_addNew (va_wsF RX0 39 RJx4a65c ⟨"java/util/List", "add", "(Ljava/lang/Object;)Z"⟩ yJx4a65c_add_9ea2d wsJx4a65c_add_9ea2d) := goodIn_app (goodIn_of _ (by decide +kernel)) ggX0_addNew_Jx4a65c_add_9ea2d
set_option maxRecDepth 20000 in
theorem ggX0_placeOf_Jx4a65c_size_8abf5 : GoodIn wsX0_placeOf wsJx4a65c_size_8abf5 := goodIn_r _ [7, 8, 41, 42, 43] (by decide +kernel) (by decide +kernel)
set_option maxRecDepth 20000 in
theorem gX0_placeOf_Jx4a65c_size_8abf5_f45Jx4a65c : GoodIn wsX0_placeOf (va_wsF RX0 45 RJx4a65c ⟨"java/util/List", "size", "()I"⟩ yJx4a65c_size_8abf5 wsJx4a65c_size_8abf5) := goodIn_app (goodIn_of _ (by decide +kernel)) ggX0_placeOf_Jx4a65c_size_8abf5
set_option maxRecDepth 20000 in
theorem ggX0_placeOf_Jx4a65c_get_915e3 : GoodIn wsX0_placeOf wsJx4a65c_get_915e3 := goodIn_r _ [12, 8, 13, 14, 15, 16, 17, 18, 19, 20, 21, 22, 23, 6, 24, 25, 41, 42, 43] (by decide +kernel) (by decide +kernel)
set_option maxRecDepth 20000 in
theorem gX0_placeOf_Jx4a65c_get_915e3_f48Jx4a65c : GoodIn wsX0_placeOf (va_wsF RX0 48 RJx4a65c ⟨"java/util/List", "get", "(I)Ljava/lang/Object;"⟩ yJx4a65c_get_915e3 wsJx4a65c_get_915e3) := goodIn_app (goodIn_of _ (by decide +kernel)) ggX0_placeOf_Jx4a65c_get_915e3
set_option maxRecDepth 20000 in
theorem ggX0_placeOf_X2_areAlike : GoodIn wsX0_placeOf wsX2_areAlike := goodIn_r _ [28, 29, 30, 31, 32, 33, 34, 35, 36, 37, 38, 44, 45, 46, 47, 48] (by decide +kernel) (by decide +kernel)
set_option maxRecDepth 20000 in
theorem gX0_placeOf_X2_areAlike_n52 : GoodIn wsX0_placeOf (wsX2_areAlike) := ggX0_placeOf_X2_areAlike
set_option maxRecDepth 20000 in
theorem ggX1_becomeNothing_X1_add : GoodIn wsX1_becomeNothing wsX1_add := goodIn_r _ [6, 1, 7, 8, 9, 10, 11, 12, 13, 14, 15] (by decide +kernel) (by decide +kernel)
set_option maxRecDepth 20000 in
theorem gX1_becomeNothing_X1_add : GoodIn wsX1_becomeNothing (wsV RX1 35 RX1 yX1_add wsX1_add) := goodIn_app (goodIn_of _ (by decide +kernel)) ggX1_becomeNothing_X1_add
set_option maxRecDepth 20000 in
theorem ggX1_push_X1_add : GoodIn wsX1_push wsX1_add := goodIn_r _ [11, 1, 2, 3, 5, 6, 16, 17, 18, 19, 20] (by decide +kernel) (by decide +kernel)
set_option maxRecDepth 20000 in
theorem gX1_push_X1_add : GoodIn wsX1_push (wsV RX1 35 RX1 yX1_add wsX1_add) := goodIn_app (goodIn_of _ (by decide +kernel)) ggX1_push_X1_add
set_option maxRecDepth 20000 in
theorem ggX1_push_X1_areLastHalves : GoodIn wsX1_push wsX1_areLastHalves := goodIn_r _ [15, 1, 2, 5, 3, 4, 6, 16, 17, 18, 19, 20] (by decide +kernel) (by decide +kernel)
set_option maxRecDepth 20000 in
theorem gX1_push_X1_areLastHalves : GoodIn wsX1_push (wsV RX1 39 RX1 yX1_areLastHalves wsX1_areLastHalves) := goodIn_app (goodIn_of _ (by decide +kernel)) ggX1_push_X1_areLastHalves
set_option maxRecDepth 20000 in
theorem ggX1_sinkLast_X1_firstStart : GoodIn wsX1_sinkLast wsX1_firstStart := goodIn_r _ [10, 2, 3, 11, 12, 13, 20, 21, 22, 23, 24] (by decide +kernel) (by decide +kernel)
set_option maxRecDepth 20000 in
theorem gX1_sinkLast_X1_firstStart : GoodIn wsX1_sinkLast (wsV RX1 45 RX1 yX1_firstStart wsX1_firstStart) := goodIn_app (goodIn_of _ (by decide +kernel)) ggX1_sinkLast_X1_firstStart
set_option maxRecDepth 20000 in
theorem ggX1_sinkLast_X1_exchange : GoodIn wsX1_sinkLast wsX1_exchange := goodIn_r _ [16] (by decide +kernel) (by decide +kernel)
set_option maxRecDepth 20000 in
theorem gX1_sinkLast_X1_exchange : GoodIn wsX1_sinkLast (va_wsS RX1 49 yX1_exchange wsX1_exchange) := goodIn_app (goodIn_of _ (by decide +kernel)) ggX1_sinkLast_X1_exchange
set_option maxRecDepth 20000 in
theorem ggX1_sinkLast_X1_exchange_ : GoodIn wsX1_sinkLast wsX1_exchange_ := goodIn_r _ [19] (by decide +kernel) (by decide +kernel)
set_option maxRecDepth 20000 in
theorem gX1_sinkLast_X1_exchange_ : GoodIn wsX1_sinkLast (va_wsS RX1 53 yX1_exchange_ wsX1_exchange_) := goodIn_app (goodIn_of _ (by decide +kernel)) ggX1_sinkLast_X1_exchange_
set_option maxRecDepth 20000 in
theorem ggX1_firstStart_X2_startOf : GoodIn wsX1_firstStart wsX2_startOf := goodIn_r _ [5] (by decide +kernel) (by decide +kernel)
set_option maxRecDepth 20000 in
theorem gX1_firstStart_X2_startOf_n56 : GoodIn wsX1_firstStart (wsX2_startOf) := ggX1_firstStart_X2_startOf
set_option maxRecDepth 20000 in
theorem ggX1_secondStart_X2_startOf : GoodIn wsX1_secondStart wsX2_startOf := goodIn_r _ [5] (by decide +kernel) (by decide +kernel)
set_option maxRecDepth 20000 in
theorem gX1_secondStart_X2_startOf_n56 : GoodIn wsX1_secondStart (wsX2_startOf) := ggX1_secondStart_X2_startOf
set_option maxRecDepth 20000 in
theorem ggX1_secondEnd_X2_startOf : GoodIn wsX1_secondEnd wsX2_startOf := goodIn_r _ [5] (by decide +kernel) (by decide +kernel)
set_option maxRecDepth 20000 in
theorem gX1_secondEnd_X2_startOf_n56 : GoodIn wsX1_secondEnd (wsX2_startOf) := ggX1_secondEnd_X2_startOf
set_option maxRecDepth 20000 in
theorem ggX1_holderOf_X1_firstStart : GoodIn wsX1_holderOf wsX1_firstStart := goodIn_r _ [6, 7, 8, 9, 10, 11, 12, 13, 14, 15, 16] (by decide +kernel) (by decide +kernel)
set_option maxRecDepth 20000 in
theorem gX1_holderOf_X1_firstStart : GoodIn wsX1_holderOf (wsV RX1 45 RX1 yX1_firstStart wsX1_firstStart) := goodIn_app (goodIn_of _ (by decide +kernel)) ggX1_holderOf_X1_firstStart
set_option maxRecDepth 20000 in
theorem ggX2_init_X1_init : GoodIn wsX2_init wsX1_init := goodIn_r _ [14, 15, 2, 3, 16, 17, 18, 19, 20, 21, 22, 23, 24, 25, 34, 35, 36, 37, 38] (by decide +kernel) (by decide +kernel)
set_option maxRecDepth 20000 in
theorem gX2_init_X1_init : GoodIn wsX2_init (wsX1_init) := ggX2_init_X1_init
set_option maxRecDepth 20000 in
theorem ggX2_pair_X2_isLeaf : GoodIn wsX2_pair wsX2_isLeaf := goodIn_r _ [6] (by decide +kernel) (by decide +kernel)
set_option maxRecDepth 20000 in
theorem gX2_pair_X2_isLeaf : GoodIn wsX2_pair (va_wsS RX2 31 yX2_isLeaf wsX2_isLeaf) := goodIn_app (goodIn_of _ (by decide +kernel)) ggX2_pair_X2_isLeaf
set_option maxRecDepth 20000 in
theorem ggX2_pair_X1_add : GoodIn wsX2_pair wsX1_add := goodIn_r _ [11, 12, 13, 14, 15, 16, 25, 26, 27, 28, 29] (by decide +kernel) (by decide +kernel)
set_option maxRecDepth 20000 in
theorem gX2_pair_X1_add : GoodIn wsX2_pair (wsV RX2 39 RX1 yX1_add wsX1_add) := goodIn_app (goodIn_of _ (by decide +kernel)) ggX2_pair_X1_add
set_option maxRecDepth 20000 in
theorem ggX2_make_X2_isNumber : GoodIn wsX2_make wsX2_isNumber := goodIn_r _ [9] (by decide +kernel) (by decide +kernel)
set_option maxRecDepth 20000 in
theorem gX2_make_X2_isNumber : GoodIn wsX2_make (va_wsS RX2 43 yX2_isNumber wsX2_isNumber) := goodIn_app (goodIn_of _ (by decide +kernel)) ggX2_make_X2_isNumber
set_option maxRecDepth 20000 in
theorem ggX2_make_X2_putTurned : GoodIn wsX2_make wsX2_putTurned := goodIn_r _ [12, 4, 13, 14, 15, 16, 17, 18, 19, 20, 21, 22, 23, 24, 25, 26, 27, 28, 29, 30, 31, 32, 33, 34, 35, 8, 36, 37, 38, 39, 40, 41, 42, 69, 70, 71, 72, 73] (by decide +kernel) (by decide +kernel)
set_option maxRecDepth 20000 in
theorem gX2_make_X2_putTurned : GoodIn wsX2_make (va_wsS RX2 47 yX2_putTurned wsX2_putTurned) := goodIn_app (goodIn_of _ (by decide +kernel)) ggX2_make_X2_putTurned
set_option maxRecDepth 20000 in
theorem ggX2_make_X2_isCut : GoodIn wsX2_make wsX2_isCut := goodIn_r _ [45, 4, 15, 16, 46, 32, 33, 20, 34, 23, 24, 35, 8, 36, 47, 69, 70, 71, 72, 73] (by decide +kernel) (by decide +kernel)
set_option maxRecDepth 20000 in
theorem gX2_make_X2_isCut : GoodIn wsX2_make (va_wsS RX2 51 yX2_isCut wsX2_isCut) := goodIn_app (goodIn_of _ (by decide +kernel)) ggX2_make_X2_isCut
set_option maxRecDepth 20000 in
theorem ggX2_make_X2_putReduced : GoodIn wsX2_make wsX2_putReduced := goodIn_r _ [50, 4, 15, 16, 13, 14, 51, 52, 53, 20, 54, 22, 23, 24, 55, 25, 26, 56, 18, 19, 21, 57, 58, 59, 60, 69, 70, 71, 72, 73] (by decide +kernel) (by decide +kernel)
set_option maxRecDepth 20000 in
theorem gX2_make_X2_putReduced : GoodIn wsX2_make (va_wsS RX2 55 yX2_putReduced wsX2_putReduced) := goodIn_app (goodIn_of _ (by decide +kernel)) ggX2_make_X2_putReduced
set_option maxRecDepth 20000 in
theorem ggX2_strong_X2_isNumber : GoodIn wsX2_strong wsX2_isNumber := goodIn_r _ [6] (by decide +kernel) (by decide +kernel)
set_option maxRecDepth 20000 in
theorem gX2_strong_X2_isNumber : GoodIn wsX2_strong (va_wsS RX2 43 yX2_isNumber wsX2_isNumber) := goodIn_app (goodIn_of _ (by decide +kernel)) ggX2_strong_X2_isNumber
set_option maxRecDepth 20000 in
theorem ggX2_strong_X2_putStrong : GoodIn wsX2_strong wsX2_putStrong := goodIn_r _ [9, 2, 10, 11, 12, 13, 14, 15, 16, 17, 18, 19, 20, 21, 22, 31, 32, 33, 34, 35] (by decide +kernel) (by decide +kernel)
set_option maxRecDepth 20000 in
theorem gX2_strong_X2_putStrong : GoodIn wsX2_strong (va_wsS RX2 58 yX2_putStrong wsX2_putStrong) := goodIn_app (goodIn_of _ (by decide +kernel)) ggX2_strong_X2_putStrong
set_option maxRecDepth 20000 in
theorem ggX2_then_X2_isNumber : GoodIn wsX2_then wsX2_isNumber := goodIn_r _ [7] (by decide +kernel) (by decide +kernel)
set_option maxRecDepth 20000 in
theorem gX2_then_X2_isNumber : GoodIn wsX2_then (va_wsS RX2 43 yX2_isNumber wsX2_isNumber) := goodIn_app (goodIn_of _ (by decide +kernel)) ggX2_then_X2_isNumber
set_option maxRecDepth 20000 in
theorem ggX2_then_X2_isThere : GoodIn wsX2_then wsX2_isThere := goodIn_r _ [11, 1, 3, 4, 5, 6, 7, 64, 65, 66, 67, 68, 69, 70, 71, 72, 73, 74, 75, 76] (by decide +kernel) (by decide +kernel)
set_option maxRecDepth 20000 in
theorem gX2_then_X2_isThere : GoodIn wsX2_then (wsV RX2 62 RX2 yX2_isThere wsX2_isThere) := goodIn_app (goodIn_of _ (by decide +kernel)) ggX2_then_X2_isThere
set_option maxRecDepth 20000 in
theorem ggX2_then_X2_putBehind : GoodIn wsX2_then wsX2_putBehind := goodIn_r _ [14, 3, 15, 16, 17, 18, 19, 20, 21, 22, 6, 23, 24, 25, 26, 27, 28, 29, 30, 31, 32, 33, 34, 35, 36, 37, 38, 39, 40, 41, 42, 43, 44, 45, 46, 47, 48, 49, 50, 51, 52, 53, 54, 55, 56, 57, 58, 59, 72, 73, 74, 75, 76] (by decide +kernel) (by decide +kernel)
set_option maxRecDepth 20000 in
theorem gX2_then_X2_putBehind : GoodIn wsX2_then (va_wsS RX2 65 yX2_putBehind wsX2_putBehind) := goodIn_app (goodIn_of _ (by decide +kernel)) ggX2_then_X2_putBehind
set_option maxRecDepth 20000 in
theorem ggX2_then_X2_putCopy : GoodIn wsX2_then wsX2_putCopy := goodIn_r _ [62, 3, 43, 45, 44, 46, 63, 53, 54, 18, 55, 32, 37, 38, 20, 21, 72, 73, 74, 75, 76] (by decide +kernel) (by decide +kernel)
set_option maxRecDepth 20000 in
theorem gX2_then_X2_putCopy : GoodIn wsX2_then (va_wsS RX2 69 yX2_putCopy wsX2_putCopy) := goodIn_app (goodIn_of _ (by decide +kernel)) ggX2_then_X2_putCopy
set_option maxRecDepth 20000 in
theorem ggX2_turn_X2_isNumber : GoodIn wsX2_turn wsX2_isNumber := goodIn_r _ [7] (by decide +kernel) (by decide +kernel)
set_option maxRecDepth 20000 in
theorem gX2_turn_X2_isNumber : GoodIn wsX2_turn (va_wsS RX2 43 yX2_isNumber wsX2_isNumber) := goodIn_app (goodIn_of _ (by decide +kernel)) ggX2_turn_X2_isNumber
set_option maxRecDepth 20000 in
theorem ggX2_turn_X2_isThere : GoodIn wsX2_turn wsX2_isThere := goodIn_r _ [11, 1, 3, 4, 5, 6, 7, 48, 49, 50, 51, 52, 53, 54, 55, 56, 57, 58, 59, 60] (by decide +kernel) (by decide +kernel)
set_option maxRecDepth 20000 in
theorem gX2_turn_X2_isThere : GoodIn wsX2_turn (wsV RX2 62 RX2 yX2_isThere wsX2_isThere) := goodIn_app (goodIn_of _ (by decide +kernel)) ggX2_turn_X2_isThere
set_option maxRecDepth 20000 in
theorem ggX2_turn_X2_putTurned : GoodIn wsX2_turn wsX2_putTurned := goodIn_r _ [14, 3, 15, 16, 17, 18, 19, 20, 21, 22, 23, 24, 25, 26, 27, 28, 29, 30, 31, 32, 33, 34, 35, 36, 37, 6, 38, 39, 40, 41, 42, 43, 44, 56, 57, 58, 59, 60] (by decide +kernel) (by decide +kernel)
set_option maxRecDepth 20000 in
theorem gX2_turn_X2_putTurned : GoodIn wsX2_turn (va_wsS RX2 47 yX2_putTurned wsX2_putTurned) := goodIn_app (goodIn_of _ (by decide +kernel)) ggX2_turn_X2_putTurned
set_option maxRecDepth 20000 in
theorem ggX2_turn_X2_putCopy : GoodIn wsX2_turn wsX2_putCopy := goodIn_r _ [47, 3, 17, 18, 15, 16, 19, 20, 21, 22, 23, 24, 25, 26, 27, 28, 56, 57, 58, 59, 60] (by decide +kernel) (by decide +kernel)
set_option maxRecDepth 20000 in
theorem gX2_turn_X2_putCopy : GoodIn wsX2_turn (va_wsS RX2 69 yX2_putCopy wsX2_putCopy) := goodIn_app (goodIn_of _ (by decide +kernel)) ggX2_turn_X2_putCopy
set_option maxRecDepth 20000 in
theorem ggX2_power_X2_isNumber : GoodIn wsX2_power wsX2_isNumber := goodIn_r _ [7] (by decide +kernel) (by decide +kernel)
set_option maxRecDepth 20000 in
theorem gX2_power_X2_isNumber : GoodIn wsX2_power (va_wsS RX2 43 yX2_isNumber wsX2_isNumber) := goodIn_app (goodIn_of _ (by decide +kernel)) ggX2_power_X2_isNumber
set_option maxRecDepth 20000 in
theorem ggX2_power_X2_isThere : GoodIn wsX2_power wsX2_isThere := goodIn_r _ [11, 1, 3, 4, 5, 6, 7, 95, 96, 97, 98, 99, 100, 101, 102, 103, 104, 105, 106, 107] (by decide +kernel) (by decide +kernel)
set_option maxRecDepth 20000 in
theorem gX2_power_X2_isThere : GoodIn wsX2_power (wsV RX2 62 RX2 yX2_isThere wsX2_isThere) := goodIn_app (goodIn_of _ (by decide +kernel)) ggX2_power_X2_isThere
set_option maxRecDepth 20000 in
theorem ggX2_power_X2_isRaised : GoodIn wsX2_power wsX2_isRaised := goodIn_r _ [15, 16, 2, 17, 18, 19, 20, 21, 22, 6, 23, 3, 24, 25, 26, 27, 28, 29, 30, 31, 32, 33, 34, 35, 36, 37, 38, 39, 40, 41, 42, 43, 44, 45, 46, 47, 48, 49, 50, 51, 52, 53, 54, 55, 56, 57, 58, 59, 60, 61, 62, 63, 64, 65, 66, 67, 68, 69, 70, 71, 72, 73, 74, 75, 76, 77, 78, 79, 80, 81, 82, 83, 84, 85, 86, 87, 88, 89, 90, 91, 92, 93, 94, 95, 96, 97, 98, 99, 100, 101, 102, 103, 104, 105, 106, 107] (by decide +kernel) (by decide +kernel)
set_option maxRecDepth 20000 in
theorem gX2_power_X2_isRaised : GoodIn wsX2_power (wsV RX2 72 RX2 yX2_isRaised wsX2_isRaised) := goodIn_app (goodIn_of _ (by decide +kernel)) ggX2_power_X2_isRaised
set_option maxRecDepth 20000 in
theorem ggX2_power_X2_putCopy : GoodIn wsX2_power wsX2_putCopy := goodIn_r _ [94, 3, 26, 27, 24, 25, 28, 29, 30, 31, 32, 33, 34, 35, 36, 37, 103, 104, 105, 106, 107] (by decide +kernel) (by decide +kernel)
set_option maxRecDepth 20000 in
theorem gX2_power_X2_putCopy : GoodIn wsX2_power (va_wsS RX2 69 yX2_putCopy wsX2_putCopy) := goodIn_app (goodIn_of _ (by decide +kernel)) ggX2_power_X2_putCopy
set_option maxRecDepth 20000 in
theorem ggX2_drop_X2_isThere : GoodIn wsX2_drop wsX2_isThere := goodIn_r _ [7, 1, 2, 8, 9, 6, 10, 11, 12, 13, 14, 15, 16, 17, 18, 19, 20, 21, 22, 23] (by decide +kernel) (by decide +kernel)
set_option maxRecDepth 20000 in
theorem gX2_drop_X2_isThere : GoodIn wsX2_drop (wsV RX2 62 RX2 yX2_isThere wsX2_isThere) := goodIn_app (goodIn_of _ (by decide +kernel)) ggX2_drop_X2_isThere
set_option maxRecDepth 20000 in
theorem ggX2_leaves_X2_isThere : GoodIn wsX2_leaves wsX2_isThere := goodIn_r _ [7, 1, 2, 8, 9, 6, 10, 11, 12, 13, 14, 15, 16, 17, 18, 19, 20, 21, 22, 23] (by decide +kernel) (by decide +kernel)
set_option maxRecDepth 20000 in
theorem gX2_leaves_X2_isThere : GoodIn wsX2_leaves (wsV RX2 62 RX2 yX2_isThere wsX2_isThere) := goodIn_app (goodIn_of _ (by decide +kernel)) ggX2_leaves_X2_isThere
set_option maxRecDepth 20000 in
theorem ggX2_sort_X2_isThere : GoodIn wsX2_sort wsX2_isThere := goodIn_r _ [6, 1, 7, 8, 9, 5, 10, 28, 29, 30, 31, 32, 33, 34, 35, 36, 37, 38, 39, 40] (by decide +kernel) (by decide +kernel)
set_option maxRecDepth 20000 in
theorem gX2_sort_X2_isThere : GoodIn wsX2_sort (wsV RX2 62 RX2 yX2_isThere wsX2_isThere) := goodIn_app (goodIn_of _ (by decide +kernel)) ggX2_sort_X2_isThere
set_option maxRecDepth 20000 in
theorem ggX2_sort_X2_kindOf : GoodIn wsX2_sort wsX2_kindOf := goodIn_r _ [13, 7, 14, 15, 16, 17, 18, 19, 20, 21, 5, 22, 23, 24, 25, 26, 27, 36, 37, 38, 39, 40] (by decide +kernel) (by decide +kernel)
set_option maxRecDepth 20000 in
theorem gX2_sort_X2_kindOf : GoodIn wsX2_sort (va_wsS RX2 76 yX2_kindOf wsX2_kindOf) := goodIn_app (goodIn_of _ (by decide +kernel)) ggX2_sort_X2_kindOf
set_option maxRecDepth 20000 in
theorem ggX2_leaf_X2_isThere : GoodIn wsX2_leaf wsX2_isThere := goodIn_r _ [7, 1, 2, 8, 9, 6, 10, 20, 21, 22, 23, 24, 25, 26, 27, 28, 29, 30, 31, 32] (by decide +kernel) (by decide +kernel)
set_option maxRecDepth 20000 in
theorem gX2_leaf_X2_isThere : GoodIn wsX2_leaf (wsV RX2 62 RX2 yX2_isThere wsX2_isThere) := goodIn_app (goodIn_of _ (by decide +kernel)) ggX2_leaf_X2_isThere
set_option maxRecDepth 20000 in
theorem ggX2_leaf_X1_told : GoodIn wsX2_leaf wsX1_told := goodIn_r _ [15, 16, 17, 18, 19, 28, 29, 30, 31, 32] (by decide +kernel) (by decide +kernel)
set_option maxRecDepth 20000 in
theorem gX2_leaf_X1_told : GoodIn wsX2_leaf (wsV RX2 80 RX1 yX1_told wsX1_told) := goodIn_app (goodIn_of _ (by decide +kernel)) ggX2_leaf_X1_told
set_option maxRecDepth 20000 in
theorem ggX2_same_X2_isThere : GoodIn wsX2_same wsX2_isThere := goodIn_r _ [6, 1, 7, 8, 9, 5, 10, 23, 24, 25, 26, 27, 28, 29, 30, 31, 32, 33, 34, 35] (by decide +kernel) (by decide +kernel)
set_option maxRecDepth 20000 in
theorem gX2_same_X2_isThere : GoodIn wsX2_same (wsV RX2 62 RX2 yX2_isThere wsX2_isThere) := goodIn_app (goodIn_of _ (by decide +kernel)) ggX2_same_X2_isThere
set_option maxRecDepth 20000 in
theorem ggX2_same_X2_areAlike : GoodIn wsX2_same wsX2_areAlike := goodIn_r _ [13, 7, 14, 15, 16, 17, 18, 19, 20, 21, 22, 31, 32, 33, 34, 35] (by decide +kernel) (by decide +kernel)
set_option maxRecDepth 20000 in
theorem gX2_same_X2_areAlike : GoodIn wsX2_same (va_wsS RX2 84 yX2_areAlike wsX2_areAlike) := goodIn_app (goodIn_of _ (by decide +kernel)) ggX2_same_X2_areAlike
set_option maxRecDepth 20000 in
theorem ggX2_commute_X2_isThere : GoodIn wsX2_commute wsX2_isThere := goodIn_r _ [9, 1, 4, 10, 11, 8, 12, 68, 69, 70, 71, 72, 73, 74, 75, 76, 77, 78, 79, 80] (by decide +kernel) (by decide +kernel)
set_option maxRecDepth 20000 in
theorem gX2_commute_X2_isThere : GoodIn wsX2_commute (wsV RX2 62 RX2 yX2_isThere wsX2_isThere) := goodIn_app (goodIn_of _ (by decide +kernel)) ggX2_commute_X2_isThere
set_option maxRecDepth 20000 in
theorem ggX2_commute_X2_putBehind : GoodIn wsX2_commute wsX2_putBehind := goodIn_r _ [15, 4, 16, 17, 18, 19, 20, 21, 22, 23, 8, 24, 25, 26, 27, 28, 29, 30, 31, 32, 33, 34, 35, 36, 37, 38, 39, 40, 41, 42, 43, 44, 45, 46, 47, 48, 49, 50, 51, 52, 53, 54, 55, 56, 57, 58, 59, 60, 76, 77, 78, 79, 80] (by decide +kernel) (by decide +kernel)
set_option maxRecDepth 20000 in
theorem gX2_commute_X2_putBehind : GoodIn wsX2_commute (va_wsS RX2 65 yX2_putBehind wsX2_putBehind) := goodIn_app (goodIn_of _ (by decide +kernel)) ggX2_commute_X2_putBehind
set_option maxRecDepth 20000 in
theorem ggX2_commute_X2_areAlike : GoodIn wsX2_commute wsX2_areAlike := goodIn_r _ [63, 4, 64, 65, 66, 19, 67, 38, 39, 21, 22, 76, 77, 78, 79, 80] (by decide +kernel) (by decide +kernel)
set_option maxRecDepth 20000 in
theorem gX2_commute_X2_areAlike : GoodIn wsX2_commute (va_wsS RX2 84 yX2_areAlike wsX2_areAlike) := goodIn_app (goodIn_of _ (by decide +kernel)) ggX2_commute_X2_areAlike
set_option maxRecDepth 20000 in
theorem ggX2_order_X2_isThere : GoodIn wsX2_order wsX2_isThere := goodIn_r _ [8, 2, 3, 9, 10, 7, 11, 73, 74, 75, 76, 77, 78, 79, 80, 81, 82, 83, 84, 85] (by decide +kernel) (by decide +kernel)
set_option maxRecDepth 20000 in
theorem gX2_order_X2_isThere : GoodIn wsX2_order (wsV RX2 62 RX2 yX2_isThere wsX2_isThere) := goodIn_app (goodIn_of _ (by decide +kernel)) ggX2_order_X2_isThere
set_option maxRecDepth 20000 in
theorem ggX2_order_X1_becomeNothing : GoodIn wsX2_order wsX1_becomeNothing := goodIn_r _ [16, 17, 18, 19, 20, 15, 21, 22, 23, 24, 25, 81, 82, 83, 84, 85] (by decide +kernel) (by decide +kernel)
set_option maxRecDepth 20000 in
theorem gX2_order_X1_becomeNothing : GoodIn wsX2_order (wsV RX2 88 RX1 yX1_becomeNothing wsX1_becomeNothing) := goodIn_app (goodIn_of _ (by decide +kernel)) ggX2_order_X1_becomeNothing
set_option maxRecDepth 20000 in
theorem ggX2_order_X2_isOneMore : GoodIn wsX2_order wsX2_isOneMore := goodIn_r _ [29, 1, 30, 3, 31, 32, 7, 33, 34, 35, 36, 15, 37, 24, 25, 38, 39, 40, 41, 42, 43, 44, 45, 46, 47, 17, 48, 49, 50, 51, 22, 23, 52, 53, 54, 55, 56, 57, 58, 59, 60, 61, 62, 63, 64, 18, 19, 20, 21, 65, 66, 67, 68, 69, 70, 71, 72, 73, 74, 75, 76, 77, 78, 79, 80, 81, 82, 83, 84, 85] (by decide +kernel) (by decide +kernel)
set_option maxRecDepth 20000 in
theorem gX2_order_X2_isOneMore : GoodIn wsX2_order (wsV RX2 91 RX2 yX2_isOneMore wsX2_isOneMore) := goodIn_app (goodIn_of _ (by decide +kernel)) ggX2_order_X2_isOneMore
set_option maxRecDepth 20000 in
theorem ggX2_length_X2_isThere : GoodIn wsX2_length wsX2_isThere := goodIn_r _ [7, 1, 8, 9, 10, 6, 11, 234, 235, 236, 237, 238, 239, 240, 241, 244, 245, 246, 247, 248] (by decide +kernel) (by decide +kernel)
set_option maxRecDepth 20000 in
theorem gX2_length_X2_isThere : GoodIn wsX2_length (wsV RX2 62 RX2 yX2_isThere wsX2_isThere) := goodIn_app (goodIn_of _ (by decide +kernel)) ggX2_length_X2_isThere
set_option maxRecDepth 20000 in
theorem ggX2_length_X2_nearOnes : GoodIn wsX2_length wsX2_nearOnes := goodIn_r _ [15, 16, 17, 18, 19, 6, 20, 21, 22, 23, 24, 2, 25, 26, 27, 28, 29, 30, 31, 32, 33, 34, 35, 36, 37, 38, 39, 40, 41, 42, 43, 44, 45, 46, 47, 48, 49, 50, 51, 52, 53, 54, 55, 56, 57, 58, 59, 60, 61, 62, 63, 64, 65, 66, 67, 68, 69, 70, 71, 72, 73, 74, 75, 76, 8, 77, 78, 79, 80, 81, 82, 83, 84, 85, 86, 87, 88, 89, 90, 91, 92, 93, 94, 95, 96, 97, 98, 99, 100, 101, 102, 103, 104, 105, 106, 107, 108, 109, 110, 111, 112, 113, 114, 115, 116, 117, 118, 119, 120, 121, 122, 123, 124, 125, 126, 127, 128, 129, 130, 131, 132, 133, 134, 135, 136, 137, 138, 139, 140, 141, 142, 143, 144, 145, 146, 147, 148, 149, 150, 151, 152, 153, 154, 155, 156, 157, 158, 159, 160, 161, 162, 163, 164, 165, 166, 167, 168, 169, 170, 171, 172, 173, 174, 175, 176, 177, 178, 179, 180, 181, 182, 183, 184, 185, 186, 187, 188, 189, 190, 191, 192, 193, 194, 195, 196, 197, 198, 199, 200, 201, 202, 203, 204, 205, 206, 207, 208, 209, 210, 211, 212, 213, 214, 215, 216, 217, 218, 219, 220, 221, 222, 223, 224, 225, 226, 227, 228, 229, 230, 231, 232, 234, 235, 236, 237, 238, 239, 240, 241, 242, 243, 249, 250, 251, 244, 245, 246, 247, 248] (by decide +kernel) (by decide +kernel)
set_option maxRecDepth 20000 in
theorem gX2_length_X2_nearOnes : GoodIn wsX2_length (wsV RX2 94 RX2 yX2_nearOnes wsX2_nearOnes) := goodIn_app (goodIn_of _ (by decide +kernel)) ggX2_length_X2_nearOnes
set_option maxRecDepth 20000 in
theorem ggX2_length_X0_placeOf : GoodIn wsX2_length wsX0_placeOf := goodIn_r _ [122, 37, 123, 124, 125, 126, 36, 127, 128, 129, 130, 131, 132, 133, 134, 135, 136, 137, 138, 139, 140, 141, 142, 143, 144, 44, 145, 6, 146, 8, 147, 148, 149, 60, 150, 69, 71, 72, 73, 242, 243, 249, 250, 251, 244, 245, 246, 247, 248] (by decide +kernel) (by decide +kernel)
set_option maxRecDepth 20000 in
theorem gX2_length_X0_placeOf : GoodIn wsX2_length (wsV RX2 98 RX0 yX0_placeOf wsX0_placeOf) := goodIn_app (goodIn_of _ (by decide +kernel)) ggX2_length_X0_placeOf
set_option maxRecDepth 20000 in
theorem ggX2_ball_X2_nearOnes : GoodIn wsX2_ball wsX2_nearOnes := goodIn_r _ [6, 7, 8, 9, 10, 5, 11, 12, 13, 14, 15, 1, 16, 17, 18, 19, 20, 21, 22, 23, 24, 25, 26, 27, 28, 29, 30, 31, 32, 33, 34, 35, 36, 37, 38, 39, 40, 41, 42, 43, 44, 45, 46, 47, 48, 49, 50, 51, 52, 53, 54, 55, 56, 57, 58, 59, 60, 61, 62, 63, 64, 65, 66, 67, 68, 69, 70, 71, 72, 73, 74, 75, 76, 77, 78, 79, 80, 81, 82, 83, 84, 85, 86, 87, 88, 89, 90, 91, 92, 93, 94, 95, 96, 97, 98, 99, 100, 101, 102, 103, 104, 105, 106, 107, 108, 109, 110, 111, 112, 113, 114, 115, 116, 117, 118, 119, 120, 121, 122, 123, 124, 125, 126, 127, 128, 129, 130, 131, 132, 133, 134, 135, 136, 137, 138, 139, 140, 141, 142, 143, 144, 145, 146, 147, 148, 149, 150, 151, 152, 153, 154, 155, 156, 157, 158, 159, 160, 161, 162, 163, 164, 165, 166, 167, 168, 169, 170, 171, 172, 173, 174, 175, 176, 177, 178, 179, 180, 181, 182, 183, 184, 185, 186, 187, 188, 189, 190, 191, 192, 193, 194, 195, 196, 197, 198, 199, 200, 201, 202, 203, 204, 205, 206, 207, 208, 209, 210, 211, 212, 213, 214, 215, 216, 217, 218, 219, 220, 221, 222, 223, 224, 227, 228, 229, 230, 231, 232, 233, 234, 225, 226, 235, 236, 237, 238, 239, 240, 241, 242] (by decide +kernel) (by decide +kernel)
set_option maxRecDepth 20000 in
theorem gX2_ball_X2_nearOnes : GoodIn wsX2_ball (wsV RX2 94 RX2 yX2_nearOnes wsX2_nearOnes) := goodIn_app (goodIn_of _ (by decide +kernel)) ggX2_ball_X2_nearOnes
set_option maxRecDepth 20000 in
theorem ggX2_go_X2_isThere : GoodIn wsX2_go wsX2_isThere := goodIn_r _ [10, 1, 11, 12, 13, 9, 14, 36, 37, 38, 39, 40, 41, 42, 43, 44, 45, 46, 47, 48] (by decide +kernel) (by decide +kernel)
set_option maxRecDepth 20000 in
theorem gX2_go_X2_isThere : GoodIn wsX2_go (wsV RX2 62 RX2 yX2_isThere wsX2_isThere) := goodIn_app (goodIn_of _ (by decide +kernel)) ggX2_go_X2_isThere
set_option maxRecDepth 20000 in
theorem ggX2_go_X1_holderOf : GoodIn wsX2_go wsX1_holderOf := goodIn_r _ [19, 20, 21, 22, 23, 18, 24, 25, 26, 27, 9, 28, 44, 45, 46, 47, 48] (by decide +kernel) (by decide +kernel)
set_option maxRecDepth 20000 in
theorem gX2_go_X1_holderOf : GoodIn wsX2_go (wsV RX2 107 RX1 yX1_holderOf wsX1_holderOf) := goodIn_app (goodIn_of _ (by decide +kernel)) ggX2_go_X1_holderOf
set_option maxRecDepth 20000 in
theorem ggX2_go_X2_see : GoodIn wsX2_go wsX2_see := goodIn_r _ [32, 33, 34, 35, 36, 37, 38, 39, 40, 41, 42, 43] (by decide +kernel) (by decide +kernel)
set_option maxRecDepth 20000 in
theorem gX2_go_X2_see : GoodIn wsX2_go (wsV RX2 124 RX2 yX2_see wsX2_see) := goodIn_app (goodIn_of _ (by decide +kernel)) ggX2_go_X2_see
set_option maxRecDepth 20000 in
theorem ggX2_bend_X2_isThere : GoodIn wsX2_bend wsX2_isThere := goodIn_r _ [7, 1, 2, 8, 9, 6, 10, 18, 19, 20, 21, 22, 23, 24, 25, 26, 27, 28, 29, 30] (by decide +kernel) (by decide +kernel)
set_option maxRecDepth 20000 in
theorem gX2_bend_X2_isThere : GoodIn wsX2_bend (wsV RX2 62 RX2 yX2_isThere wsX2_isThere) := goodIn_app (goodIn_of _ (by decide +kernel)) ggX2_bend_X2_isThere
set_option maxRecDepth 20000 in
theorem ggX2_bend_X1_steepness : GoodIn wsX2_bend wsX1_steepness := goodIn_r _ [15, 16, 17, 26, 27, 28, 29, 30] (by decide +kernel) (by decide +kernel)
set_option maxRecDepth 20000 in
theorem gX2_bend_X1_steepness : GoodIn wsX2_bend (wsV RX2 137 RX1 yX1_steepness wsX1_steepness) := goodIn_app (goodIn_of _ (by decide +kernel)) ggX2_bend_X1_steepness
set_option maxRecDepth 20000 in
theorem ggX2_still_X2_isThere : GoodIn wsX2_still wsX2_isThere := goodIn_r _ [11, 1, 2, 12, 13, 10, 14, 15, 16, 17, 18, 19, 20, 21, 22, 23, 24, 25, 26, 27] (by decide +kernel) (by decide +kernel)
set_option maxRecDepth 20000 in
theorem gX2_still_X2_isThere : GoodIn wsX2_still (wsV RX2 62 RX2 yX2_isThere wsX2_isThere) := goodIn_app (goodIn_of _ (by decide +kernel)) ggX2_still_X2_isThere
set_option maxRecDepth 20000 in
theorem ggX2_single_X2_isThere : GoodIn wsX2_single wsX2_isThere := goodIn_r _ [7, 1, 2, 8, 9, 6, 10, 28, 29, 30, 31, 32, 33, 34, 35, 36, 37, 38, 39, 40] (by decide +kernel) (by decide +kernel)
set_option maxRecDepth 20000 in
theorem gX2_single_X2_isThere : GoodIn wsX2_single (wsV RX2 62 RX2 yX2_isThere wsX2_isThere) := goodIn_app (goodIn_of _ (by decide +kernel)) ggX2_single_X2_isThere
set_option maxRecDepth 20000 in
theorem ggX2_single_X2_hasSingle : GoodIn wsX2_single wsX2_hasSingle := goodIn_r _ [13, 14, 15, 16, 17, 18, 6, 19, 20, 21, 22, 23, 24, 25, 26, 27, 36, 37, 38, 39, 40] (by decide +kernel) (by decide +kernel)
set_option maxRecDepth 20000 in
theorem gX2_single_X2_hasSingle : GoodIn wsX2_single (va_wsS RX2 141 yX2_hasSingle wsX2_hasSingle) := goodIn_app (goodIn_of _ (by decide +kernel)) ggX2_single_X2_hasSingle
set_option maxRecDepth 20000 in
theorem ggX2_point_X2_isThere : GoodIn wsX2_point wsX2_isThere := goodIn_r _ [10, 3, 4, 11, 12, 9, 13, 37, 38, 39, 40, 41, 42, 43, 44, 45, 46, 47, 48, 49] (by decide +kernel) (by decide +kernel)
set_option maxRecDepth 20000 in
theorem gX2_point_X2_isThere : GoodIn wsX2_point (wsV RX2 62 RX2 yX2_isThere wsX2_isThere) := goodIn_app (goodIn_of _ (by decide +kernel)) ggX2_point_X2_isThere
set_option maxRecDepth 20000 in
theorem ggX2_point_X2_hasSingle : GoodIn wsX2_point wsX2_hasSingle := goodIn_r _ [16, 17, 18, 19, 20, 21, 9, 22, 23, 24, 25, 26, 27, 28, 29, 30, 45, 46, 47, 48, 49] (by decide +kernel) (by decide +kernel)
set_option maxRecDepth 20000 in
theorem gX2_point_X2_hasSingle : GoodIn wsX2_point (va_wsS RX2 141 yX2_hasSingle wsX2_hasSingle) := goodIn_app (goodIn_of _ (by decide +kernel)) ggX2_point_X2_hasSingle
set_option maxRecDepth 20000 in
theorem ggX2_point_X2_partOfSingle : GoodIn wsX2_point wsX2_partOfSingle := goodIn_r _ [33, 5, 20, 21, 9, 22, 23, 18, 19, 17, 24, 25, 26, 27, 28, 29, 30, 34, 35, 36, 45, 46, 47, 48, 49] (by decide +kernel) (by decide +kernel)
set_option maxRecDepth 20000 in
theorem gX2_point_X2_partOfSingle : GoodIn wsX2_point (va_wsS RX2 146 yX2_partOfSingle wsX2_partOfSingle) := goodIn_app (goodIn_of _ (by decide +kernel)) ggX2_point_X2_partOfSingle
set_option maxRecDepth 20000 in
theorem ggX2_count_X2_mapsOfKind : GoodIn wsX2_count wsX2_mapsOfKind := goodIn_r _ [7, 8, 9, 10, 11, 6, 12, 2, 13, 14, 15, 16, 17, 18, 19, 20, 21, 22, 23, 24, 25, 26, 27, 28, 29, 30, 31, 32, 33, 34, 35, 36, 37, 38, 39, 40, 41, 42, 43, 44, 45] (by decide +kernel) (by decide +kernel)
set_option maxRecDepth 20000 in
theorem gX2_count_X2_mapsOfKind : GoodIn wsX2_count (wsV RX2 152 RX2 yX2_mapsOfKind wsX2_mapsOfKind) := goodIn_app (goodIn_of _ (by decide +kernel)) ggX2_count_X2_mapsOfKind
set_option maxRecDepth 20000 in
theorem ggX2_digest_X2_isThere : GoodIn wsX2_digest wsX2_isThere := goodIn_r _ [12, 3, 4, 13, 14, 11, 15, 28, 29, 30, 31, 32, 33, 34, 35, 36, 37, 38, 39, 40] (by decide +kernel) (by decide +kernel)
set_option maxRecDepth 20000 in
theorem gX2_digest_X2_isThere : GoodIn wsX2_digest (wsV RX2 62 RX2 yX2_isThere wsX2_isThere) := goodIn_app (goodIn_of _ (by decide +kernel)) ggX2_digest_X2_isThere
set_option maxRecDepth 20000 in
theorem ggX2_digest_X2_mixedIn : GoodIn wsX2_digest wsX2_mixedIn := goodIn_r _ [18, 4, 2, 19, 20, 21, 22, 23, 24, 25, 26, 27, 36, 37, 38, 39, 40] (by decide +kernel) (by decide +kernel)
set_option maxRecDepth 20000 in
theorem gX2_digest_X2_mixedIn : GoodIn wsX2_digest (va_wsS RX2 159 yX2_mixedIn wsX2_mixedIn) := goodIn_app (goodIn_of _ (by decide +kernel)) ggX2_digest_X2_mixedIn
set_option maxRecDepth 20000 in
theorem ggX2_mixedIn_X1_told : GoodIn wsX2_mixedIn wsX1_told := goodIn_r _ [7, 8, 9, 10, 11, 12, 13, 14, 15, 16] (by decide +kernel) (by decide +kernel)
set_option maxRecDepth 20000 in
theorem gX2_mixedIn_X1_told : GoodIn wsX2_mixedIn (wsV RX2 80 RX1 yX1_told wsX1_told) := goodIn_app (goodIn_of _ (by decide +kernel)) ggX2_mixedIn_X1_told
set_option maxRecDepth 20000 in
theorem ggX2_isThere_X2_isNumber : GoodIn wsX2_isThere wsX2_isNumber := goodIn_r _ [6] (by decide +kernel) (by decide +kernel)
set_option maxRecDepth 20000 in
theorem gX2_isThere_X2_isNumber : GoodIn wsX2_isThere (va_wsS RX2 43 yX2_isNumber wsX2_isNumber) := goodIn_app (goodIn_of _ (by decide +kernel)) ggX2_isThere_X2_isNumber
set_option maxRecDepth 20000 in
theorem ggX2_mapsOfKind_X2_isThere : GoodIn wsX2_mapsOfKind wsX2_isThere := goodIn_r _ [6, 1, 7, 8, 9, 5, 10, 28, 29, 30, 31, 32, 33, 34, 35, 36, 37, 38, 39, 40] (by decide +kernel) (by decide +kernel)
set_option maxRecDepth 20000 in
theorem gX2_mapsOfKind_X2_isThere : GoodIn wsX2_mapsOfKind (wsV RX2 62 RX2 yX2_isThere wsX2_isThere) := goodIn_app (goodIn_of _ (by decide +kernel)) ggX2_mapsOfKind_X2_isThere
set_option maxRecDepth 20000 in
theorem ggX2_mapsOfKind_X2_kindOf : GoodIn wsX2_mapsOfKind wsX2_kindOf := goodIn_r _ [13, 7, 14, 15, 16, 17, 18, 19, 20, 21, 5, 22, 23, 24, 25, 26, 27, 36, 37, 38, 39, 40] (by decide +kernel) (by decide +kernel)
set_option maxRecDepth 20000 in
theorem gX2_mapsOfKind_X2_kindOf : GoodIn wsX2_mapsOfKind (va_wsS RX2 76 yX2_kindOf wsX2_kindOf) := goodIn_app (goodIn_of _ (by decide +kernel)) ggX2_mapsOfKind_X2_kindOf
set_option maxRecDepth 20000 in
theorem ggX2_kindOf_X1_secondEnd : GoodIn wsX2_kindOf wsX1_secondEnd := goodIn_r _ [6, 7, 8, 9, 10, 11, 17, 18, 19, 20, 21] (by decide +kernel) (by decide +kernel)
set_option maxRecDepth 20000 in
theorem gX2_kindOf_X1_secondEnd : GoodIn wsX2_kindOf (wsV RX2 163 RX1 yX1_secondEnd wsX1_secondEnd) := goodIn_app (goodIn_of _ (by decide +kernel)) ggX2_kindOf_X1_secondEnd
set_option maxRecDepth 20000 in
theorem ggX2_kindOf_X1_secondStart : GoodIn wsX2_kindOf wsX1_secondStart := goodIn_r _ [15, 7, 8, 9, 10, 11, 17, 18, 19, 20, 21] (by decide +kernel) (by decide +kernel)
set_option maxRecDepth 20000 in
theorem gX2_kindOf_X1_secondStart : GoodIn wsX2_kindOf (wsV RX2 167 RX1 yX1_secondStart wsX1_secondStart) := goodIn_app (goodIn_of _ (by decide +kernel)) ggX2_kindOf_X1_secondStart
set_option maxRecDepth 20000 in
theorem ggX2_kindOf_X2_startOf : GoodIn wsX2_kindOf wsX2_startOf := goodIn_r _ [11] (by decide +kernel) (by decide +kernel)
set_option maxRecDepth 20000 in
theorem gX2_kindOf_X2_startOf : GoodIn wsX2_kindOf (va_wsS RX2 170 yX2_startOf wsX2_startOf) := goodIn_app (goodIn_of _ (by decide +kernel)) ggX2_kindOf_X2_startOf
set_option maxRecDepth 20000 in
theorem ggX2_isCut_X1_firstStart : GoodIn wsX2_isCut wsX1_firstStart := goodIn_r _ [8, 9, 10, 11, 12, 13, 15, 16, 17, 18, 19] (by decide +kernel) (by decide +kernel)
set_option maxRecDepth 20000 in
theorem gX2_isCut_X1_firstStart : GoodIn wsX2_isCut (wsV RX2 174 RX1 yX1_firstStart wsX1_firstStart) := goodIn_app (goodIn_of _ (by decide +kernel)) ggX2_isCut_X1_firstStart
set_option maxRecDepth 20000 in
theorem ggX2_isCut_X2_startOf : GoodIn wsX2_isCut wsX2_startOf := goodIn_r _ [13] (by decide +kernel) (by decide +kernel)
set_option maxRecDepth 20000 in
theorem gX2_isCut_X2_startOf : GoodIn wsX2_isCut (va_wsS RX2 170 yX2_startOf wsX2_startOf) := goodIn_app (goodIn_of _ (by decide +kernel)) ggX2_isCut_X2_startOf
set_option maxRecDepth 20000 in
theorem ggX2_areAlike_X1_told : GoodIn wsX2_areAlike wsX1_told := goodIn_r _ [6, 7, 8, 9, 10, 11, 12, 13, 14, 15] (by decide +kernel) (by decide +kernel)
set_option maxRecDepth 20000 in
theorem gX2_areAlike_X1_told : GoodIn wsX2_areAlike (wsV RX2 80 RX1 yX1_told wsX1_told) := goodIn_app (goodIn_of _ (by decide +kernel)) ggX2_areAlike_X1_told
set_option maxRecDepth 20000 in
theorem ggX2_putCopy_X1_add : GoodIn wsX2_putCopy wsX1_add := goodIn_r _ [10, 11, 12, 13, 14, 15, 16, 17, 18, 19, 20] (by decide +kernel) (by decide +kernel)
set_option maxRecDepth 20000 in
theorem gX2_putCopy_X1_add : GoodIn wsX2_putCopy (wsV RX2 39 RX1 yX1_add wsX1_add) := goodIn_app (goodIn_of _ (by decide +kernel)) ggX2_putCopy_X1_add
set_option maxRecDepth 20000 in
theorem ggX2_putReduced_X1_push : GoodIn wsX2_putReduced wsX1_push := goodIn_r _ [10, 11, 12, 13, 14, 15, 16, 17, 18, 19, 9, 20, 21, 22, 23, 24, 25, 26, 27, 28, 29] (by decide +kernel) (by decide +kernel)
set_option maxRecDepth 20000 in
theorem gX2_putReduced_X1_push : GoodIn wsX2_putReduced (wsV RX2 177 RX1 yX1_push wsX1_push) := goodIn_app (goodIn_of _ (by decide +kernel)) ggX2_putReduced_X1_push
set_option maxRecDepth 20000 in
theorem ggX2_putTurned_X1_add : GoodIn wsX2_putTurned wsX1_add := goodIn_r _ [10, 11, 12, 13, 14, 15, 33, 34, 35, 36, 37] (by decide +kernel) (by decide +kernel)
set_option maxRecDepth 20000 in
theorem gX2_putTurned_X1_add : GoodIn wsX2_putTurned (wsV RX2 39 RX1 yX1_add wsX1_add) := goodIn_app (goodIn_of _ (by decide +kernel)) ggX2_putTurned_X1_add
set_option maxRecDepth 20000 in
theorem ggX2_putTurned_X1_sinkLast : GoodIn wsX2_putTurned wsX1_sinkLast := goodIn_r _ [19, 11, 12, 13, 14, 15, 20, 21, 22, 9, 23, 24, 25, 26, 27, 28, 29, 30, 31, 32, 33, 34, 35, 36, 37] (by decide +kernel) (by decide +kernel)
set_option maxRecDepth 20000 in
theorem gX2_putTurned_X1_sinkLast : GoodIn wsX2_putTurned (wsV RX2 180 RX1 yX1_sinkLast wsX1_sinkLast) := goodIn_app (goodIn_of _ (by decide +kernel)) ggX2_putTurned_X1_sinkLast
set_option maxRecDepth 20000 in
theorem ggX2_putStrong_X1_add : GoodIn wsX2_putStrong wsX1_add := goodIn_r _ [9, 10, 11, 12, 13, 14, 15, 16, 17, 18, 19] (by decide +kernel) (by decide +kernel)
set_option maxRecDepth 20000 in
theorem gX2_putStrong_X1_add : GoodIn wsX2_putStrong (wsV RX2 39 RX1 yX1_add wsX1_add) := goodIn_app (goodIn_of _ (by decide +kernel)) ggX2_putStrong_X1_add
set_option maxRecDepth 20000 in
theorem ggX2_putBehind_X1_secondEnd : GoodIn wsX2_putBehind wsX1_secondEnd := goodIn_r _ [6, 7, 8, 9, 10, 11, 48, 49, 50, 51, 52] (by decide +kernel) (by decide +kernel)
set_option maxRecDepth 20000 in
theorem gX2_putBehind_X1_secondEnd : GoodIn wsX2_putBehind (wsV RX2 163 RX1 yX1_secondEnd wsX1_secondEnd) := goodIn_app (goodIn_of _ (by decide +kernel)) ggX2_putBehind_X1_secondEnd
set_option maxRecDepth 20000 in
theorem ggX2_putBehind_X1_secondStart : GoodIn wsX2_putBehind wsX1_secondStart := goodIn_r _ [15, 7, 8, 9, 10, 11, 48, 49, 50, 51, 52] (by decide +kernel) (by decide +kernel)
set_option maxRecDepth 20000 in
theorem gX2_putBehind_X1_secondStart : GoodIn wsX2_putBehind (wsV RX2 167 RX1 yX1_secondStart wsX1_secondStart) := goodIn_app (goodIn_of _ (by decide +kernel)) ggX2_putBehind_X1_secondStart
set_option maxRecDepth 20000 in
theorem ggX2_putBehind_X1_holderOf : GoodIn wsX2_putBehind wsX1_holderOf := goodIn_r _ [19, 20, 21, 22, 23, 5, 24, 25, 26, 9, 10, 11, 48, 49, 50, 51, 52] (by decide +kernel) (by decide +kernel)
set_option maxRecDepth 20000 in
theorem gX2_putBehind_X1_holderOf : GoodIn wsX2_putBehind (wsV RX2 107 RX1 yX1_holderOf wsX1_holderOf) := goodIn_app (goodIn_of _ (by decide +kernel)) ggX2_putBehind_X1_holderOf
set_option maxRecDepth 20000 in
theorem ggX2_putBehind_X1_firstStart : GoodIn wsX2_putBehind wsX1_firstStart := goodIn_r _ [24, 25, 26, 9, 10, 11, 48, 49, 50, 51, 52] (by decide +kernel) (by decide +kernel)
set_option maxRecDepth 20000 in
theorem gX2_putBehind_X1_firstStart : GoodIn wsX2_putBehind (wsV RX2 174 RX1 yX1_firstStart wsX1_firstStart) := goodIn_app (goodIn_of _ (by decide +kernel)) ggX2_putBehind_X1_firstStart
set_option maxRecDepth 20000 in
theorem ggX2_putBehind_X2_putPiece : GoodIn wsX2_putBehind wsX2_putPiece := goodIn_r _ [30, 31, 32, 33, 34, 35, 36, 37, 5, 38, 20, 25, 26, 39, 7, 8, 40, 41, 42, 43, 44, 45, 46, 47, 48, 49, 50, 51, 52] (by decide +kernel) (by decide +kernel)
set_option maxRecDepth 20000 in
theorem gX2_putBehind_X2_putPiece : GoodIn wsX2_putBehind (va_wsS RX2 189 yX2_putPiece wsX2_putPiece) := goodIn_app (goodIn_of _ (by decide +kernel)) ggX2_putBehind_X2_putPiece
set_option maxRecDepth 20000 in
theorem ggX2_putPiece_X1_push : GoodIn wsX2_putPiece wsX1_push := goodIn_r _ [9, 10, 11, 12, 13, 14, 15, 16, 17, 18, 8, 19, 20, 21, 22, 23, 24, 25, 26, 27, 28] (by decide +kernel) (by decide +kernel)
set_option maxRecDepth 20000 in
theorem gX2_putPiece_X1_push : GoodIn wsX2_putPiece (wsV RX2 177 RX1 yX1_push wsX1_push) := goodIn_app (goodIn_of _ (by decide +kernel)) ggX2_putPiece_X1_push
set_option maxRecDepth 20000 in
theorem ggX2_isRaised_X2_putTurned : GoodIn wsX2_isRaised wsX2_putTurned := goodIn_r _ [10, 11, 12, 13, 14, 15, 16, 17, 18, 19, 20, 21, 22, 23, 24, 25, 26, 27, 28, 29, 30, 31, 32, 33, 34, 9, 35, 36, 37, 38, 39, 40, 41, 91, 92, 93, 94, 95] (by decide +kernel) (by decide +kernel)
set_option maxRecDepth 20000 in
theorem gX2_isRaised_X2_putTurned : GoodIn wsX2_isRaised (va_wsS RX2 47 yX2_putTurned wsX2_putTurned) := goodIn_app (goodIn_of _ (by decide +kernel)) ggX2_isRaised_X2_putTurned
set_option maxRecDepth 20000 in
theorem ggX2_isRaised_X1_becomeNothing : GoodIn wsX2_isRaised wsX1_becomeNothing := goodIn_r _ [45, 21, 46, 17, 18, 19, 20, 22, 23, 24, 25, 91, 92, 93, 94, 95] (by decide +kernel) (by decide +kernel)
set_option maxRecDepth 20000 in
theorem gX2_isRaised_X1_becomeNothing : GoodIn wsX2_isRaised (wsV RX2 88 RX1 yX1_becomeNothing wsX1_becomeNothing) := goodIn_app (goodIn_of _ (by decide +kernel)) ggX2_isRaised_X1_becomeNothing
set_option maxRecDepth 20000 in
theorem ggX2_isRaised_X2_isOneMore : GoodIn wsX2_isRaised wsX2_isOneMore := goodIn_r _ [50, 2, 51, 11, 52, 53, 9, 54, 55, 56, 57, 19, 58, 24, 25, 34, 35, 59, 60, 61, 62, 63, 64, 65, 66, 21, 30, 31, 32, 33, 22, 23, 67, 68, 69, 70, 14, 12, 15, 13, 71, 72, 73, 74, 75, 46, 17, 18, 20, 76, 77, 78, 79, 80, 81, 82, 16, 83, 84, 85, 86, 87, 88, 89, 90, 91, 92, 93, 94, 95] (by decide +kernel) (by decide +kernel)
set_option maxRecDepth 20000 in
theorem gX2_isRaised_X2_isOneMore : GoodIn wsX2_isRaised (wsV RX2 91 RX2 yX2_isOneMore wsX2_isOneMore) := goodIn_app (goodIn_of _ (by decide +kernel)) ggX2_isRaised_X2_isOneMore
set_option maxRecDepth 20000 in
theorem ggX2_isOneMore_X2_putBehind : GoodIn wsX2_isOneMore wsX2_putBehind := goodIn_r _ [7, 3, 8, 9, 10, 11, 12, 13, 14, 15, 6, 16, 17, 18, 19, 20, 21, 22, 23, 24, 25, 26, 27, 28, 29, 30, 31, 32, 33, 34, 35, 36, 37, 38, 39, 40, 41, 42, 43, 44, 45, 46, 47, 48, 49, 50, 51, 52, 65, 66, 67, 68, 69] (by decide +kernel) (by decide +kernel)
set_option maxRecDepth 20000 in
theorem gX2_isOneMore_X2_putBehind : GoodIn wsX2_isOneMore (va_wsS RX2 65 yX2_putBehind wsX2_putBehind) := goodIn_app (goodIn_of _ (by decide +kernel)) ggX2_isOneMore_X2_putBehind
set_option maxRecDepth 20000 in
theorem ggX2_isOneMore_X2_putCopy : GoodIn wsX2_isOneMore wsX2_putCopy := goodIn_r _ [55, 3, 36, 38, 37, 39, 56, 46, 47, 11, 48, 25, 30, 31, 13, 14, 65, 66, 67, 68, 69] (by decide +kernel) (by decide +kernel)
set_option maxRecDepth 20000 in
theorem gX2_isOneMore_X2_putCopy : GoodIn wsX2_isOneMore (va_wsS RX2 69 yX2_putCopy wsX2_putCopy) := goodIn_app (goodIn_of _ (by decide +kernel)) ggX2_isOneMore_X2_putCopy
set_option maxRecDepth 20000 in
theorem ggX2_nearOnes_X2_grownBall : GoodIn wsX2_nearOnes wsX2_grownBall := goodIn_r _ [6, 7, 8, 9, 10, 11, 12, 13, 14, 15, 16, 17, 18, 19, 20, 21, 22, 23, 24, 25, 26, 27, 28, 29, 30, 31, 32, 33, 34, 35, 36, 37, 38, 39, 40, 41, 42, 43, 5, 44, 45, 46, 47, 48, 49, 50, 51, 52, 53, 54, 55, 56, 57, 58, 59, 60, 61, 62, 63, 64, 65, 66, 67, 68, 69, 70, 71, 72, 73, 74, 75, 76, 77, 78, 79, 80, 81, 82, 83, 84, 85, 86, 87, 88, 89, 90, 91, 92, 93, 94, 95, 96, 97, 98, 99, 100, 101, 102, 103, 104, 105, 106, 107, 108, 109, 110, 111, 112, 113, 114, 115, 116, 117, 118, 119, 120, 121, 122, 123, 124, 125, 126, 127, 128, 129, 130, 131, 132, 133, 134, 135, 136, 137, 138, 139, 140, 141, 142, 143, 144, 145, 146, 147, 148, 149, 150, 151, 152, 153, 154, 155, 156, 157, 158, 159, 160, 161, 162, 163, 164, 165, 166, 167, 168, 169, 170, 171, 172, 173, 174, 175, 176, 177, 178, 179, 180, 181, 182, 183, 184, 185, 186, 187, 188, 189, 190, 191, 192, 193, 194, 195, 196, 197, 198, 199, 200, 201, 202, 203, 204, 205, 206, 207, 208, 209, 210, 211, 212, 213, 214, 215, 216, 217, 218, 219, 220, 229, 230, 221, 222, 223, 224, 225, 226, 227, 228, 231, 232, 233, 234, 235, 236, 237, 238] (by decide +kernel) (by decide +kernel)
set_option maxRecDepth 20000 in
theorem gX2_nearOnes_X2_grownBall : GoodIn wsX2_nearOnes (wsV RX2 202 RX2 yX2_grownBall wsX2_grownBall) := goodIn_app (goodIn_of _ (by decide +kernel)) ggX2_nearOnes_X2_grownBall
set_option maxRecDepth 20000 in
theorem ggX2_grownBall_X0_init : GoodIn wsX2_grownBall wsX0_init := goodIn_r _ [11, 12, 13, 14, 15, 16, 17, 18, 19, 20, 21, 22, 23, 24, 25, 26, 27, 28, 29, 30, 31, 32, 33, 34, 35, 226, 227, 228, 216, 217] (by decide +kernel) (by decide +kernel)
set_option maxRecDepth 20000 in
theorem gX2_grownBall_X0_init : GoodIn wsX2_grownBall (wsX0_init) := ggX2_grownBall_X0_init
set_option maxRecDepth 20000 in
theorem ggX2_grownBall_X2_stepsOfLength : GoodIn wsX2_grownBall wsX2_stepsOfLength := goodIn_r _ [39, 40, 41, 42, 43, 44, 45, 46, 13, 14, 47, 48, 49, 50, 19, 51, 52, 53, 54, 55, 56, 57, 38, 58, 59, 60, 61, 62, 63, 64, 65, 66, 67, 68, 69, 70, 71, 72, 73, 74, 75, 76, 77, 78, 79, 80, 81, 82, 83, 84, 85, 86, 87, 88, 89, 90, 229, 230, 231, 232, 233] (by decide +kernel) (by decide +kernel)
set_option maxRecDepth 20000 in
theorem gX2_grownBall_X2_stepsOfLength : GoodIn wsX2_grownBall (va_wsS RX2 206 yX2_stepsOfLength wsX2_stepsOfLength) := goodIn_app (goodIn_of _ (by decide +kernel)) ggX2_grownBall_X2_stepsOfLength
set_option maxRecDepth 20000 in
theorem ggX2_grownBall_X1_becomeNothing : GoodIn wsX2_grownBall wsX1_becomeNothing := goodIn_r _ [94, 67, 95, 64, 65, 42, 66, 51, 53, 54, 55, 229, 230, 231, 232, 233] (by decide +kernel) (by decide +kernel)
set_option maxRecDepth 20000 in
theorem gX2_grownBall_X1_becomeNothing : GoodIn wsX2_grownBall (wsV RX2 88 RX1 yX1_becomeNothing wsX1_becomeNothing) := goodIn_app (goodIn_of _ (by decide +kernel)) ggX2_grownBall_X1_becomeNothing
set_option maxRecDepth 20000 in
theorem ggX2_grownBall_X0_addNew : GoodIn wsX2_grownBall wsX0_addNew := goodIn_r _ [99, 100, 41, 42, 101, 18, 102, 103, 104, 3, 105, 106, 107, 108, 109, 17, 110, 111, 112, 113, 114, 115, 116, 117, 118, 119, 120, 121, 122, 123, 124, 125, 126, 127, 25, 128, 38, 129, 59, 130, 131, 132, 133, 51, 53, 54, 55, 134, 44, 45, 46, 13, 14, 47, 48, 49, 50, 19, 52, 135, 136, 73, 74, 71, 72, 63, 64, 65, 66, 67, 137, 138, 139, 140, 141, 142, 143, 144, 145, 146, 147, 148, 149, 150, 151, 152, 153, 154, 24, 155, 156, 157, 158, 159, 160, 161, 162, 163, 164, 165, 166, 167, 168, 169, 170, 171, 172, 173, 174, 175, 176, 177, 178, 179, 180, 181, 182, 183, 184, 185, 229, 230, 231, 232, 233, 216, 217, 226, 227, 228] (by decide +kernel) (by decide +kernel)
set_option maxRecDepth 20000 in
theorem gX2_grownBall_X0_addNew : GoodIn wsX2_grownBall (wsV RX2 210 RX0 yX0_addNew wsX0_addNew) := goodIn_app (goodIn_of _ (by decide +kernel)) ggX2_grownBall_X0_addNew
set_option maxRecDepth 20000 in
theorem ggX2_grownBall_Jx4a65c_get_915e3 : GoodIn wsX2_grownBall wsJx4a65c_get_915e3 := goodIn_r _ [115, 111, 116, 117, 118, 119, 120, 121, 122, 123, 124, 125, 126, 17, 127, 25, 226, 227, 228] (by decide +kernel) (by decide +kernel)
set_option maxRecDepth 20000 in
theorem gX2_grownBall_Jx4a65c_get_915e3_f218Jx4a65c : GoodIn wsX2_grownBall (va_wsF RX2 218 RJx4a65c ⟨"java/util/List", "get", "(I)Ljava/lang/Object;"⟩ yJx4a65c_get_915e3 wsJx4a65c_get_915e3) := goodIn_app (goodIn_of _ (by decide +kernel)) ggX2_grownBall_Jx4a65c_get_915e3
set_option maxRecDepth 20000 in
theorem ggX2_grownBall_X2_putBehind : GoodIn wsX2_grownBall wsX2_putBehind := goodIn_r _ [189, 59, 190, 191, 192, 42, 193, 54, 55, 83, 38, 84, 194, 195, 196, 197, 198, 199, 200, 201, 67, 79, 80, 81, 82, 51, 53, 202, 203, 204, 205, 73, 71, 74, 72, 206, 207, 208, 209, 210, 95, 64, 65, 66, 211, 212, 213, 214, 229, 230, 231, 232, 233] (by decide +kernel) (by decide +kernel)
set_option maxRecDepth 20000 in
theorem gX2_grownBall_X2_putBehind : GoodIn wsX2_grownBall (va_wsS RX2 65 yX2_putBehind wsX2_putBehind) := goodIn_app (goodIn_of _ (by decide +kernel)) ggX2_grownBall_X2_putBehind
set_option maxRecDepth 20000 in
theorem ggX2_grownBall_Jx4a65c_size_8abf5 : GoodIn wsX2_grownBall wsJx4a65c_size_8abf5 := goodIn_r _ [110, 111, 226, 227, 228] (by decide +kernel) (by decide +kernel)
set_option maxRecDepth 20000 in
theorem gX2_grownBall_Jx4a65c_size_8abf5_f224Jx4a65c : GoodIn wsX2_grownBall (va_wsF RX2 224 RJx4a65c ⟨"java/util/List", "size", "()I"⟩ yJx4a65c_size_8abf5 wsJx4a65c_size_8abf5) := goodIn_app (goodIn_of _ (by decide +kernel)) ggX2_grownBall_Jx4a65c_size_8abf5
set_option maxRecDepth 20000 in
theorem ggX2_stepsOfLength_X1_init : GoodIn wsX2_stepsOfLength wsX1_init := goodIn_r _ [6, 7, 8, 9, 10, 11, 12, 13, 14, 15, 16, 17, 18, 19, 56, 57, 58, 59, 60] (by decide +kernel) (by decide +kernel)
set_option maxRecDepth 20000 in
theorem gX2_stepsOfLength_X1_init : GoodIn wsX2_stepsOfLength (wsX1_init) := ggX2_stepsOfLength_X1_init
set_option maxRecDepth 20000 in
theorem ggX2_stepsOfLength_X2_putStrong : GoodIn wsX2_stepsOfLength wsX2_putStrong := goodIn_r _ [23, 24, 25, 26, 27, 28, 29, 30, 3, 31, 32, 15, 17, 18, 19, 56, 57, 58, 59, 60] (by decide +kernel) (by decide +kernel)
set_option maxRecDepth 20000 in
theorem gX2_stepsOfLength_X2_putStrong : GoodIn wsX2_stepsOfLength (va_wsS RX2 58 yX2_putStrong wsX2_putStrong) := goodIn_app (goodIn_of _ (by decide +kernel)) ggX2_stepsOfLength_X2_putStrong
set_option maxRecDepth 20000 in
theorem ggX2_stepsOfLength_X2_putTurned : GoodIn wsX2_stepsOfLength wsX2_putTurned := goodIn_r _ [35, 24, 36, 37, 38, 39, 28, 29, 30, 3, 31, 32, 15, 17, 18, 19, 40, 41, 42, 43, 44, 45, 46, 47, 48, 22, 49, 50, 51, 52, 53, 54, 55, 56, 57, 58, 59, 60] (by decide +kernel) (by decide +kernel)
set_option maxRecDepth 20000 in
theorem gX2_stepsOfLength_X2_putTurned : GoodIn wsX2_stepsOfLength (va_wsS RX2 47 yX2_putTurned wsX2_putTurned) := goodIn_app (goodIn_of _ (by decide +kernel)) ggX2_stepsOfLength_X2_putTurned
set_option maxRecDepth 20000 in
theorem ggX2_hasSingle_X2_singleAbove : GoodIn wsX2_hasSingle wsX2_singleAbove := goodIn_r _ [7, 8, 2, 3, 1, 16, 17, 18, 19, 20] (by decide +kernel) (by decide +kernel)
set_option maxRecDepth 20000 in
theorem gX2_hasSingle_X2_singleAbove : GoodIn wsX2_hasSingle (va_wsS RX2 227 yX2_singleAbove wsX2_singleAbove) := goodIn_app (goodIn_of _ (by decide +kernel)) ggX2_hasSingle_X2_singleAbove
