set_option maxRecDepth 20000 in
theorem ggX5_tune_X5_in : GoodIn wsX5_tune wsX5_in := goodIn_r _ [5] (by decide +kernel) (by decide +kernel)
set_option maxRecDepth 20000 in
theorem gX5_tune_X5_in : GoodIn wsX5_tune (va_wsS RX5 71 yX5_in wsX5_in) := goodIn_app (goodIn_of _ (by decide +kernel)) ggX5_tune_X5_in
set_option maxRecDepth 20000 in
theorem ggX5_tune_X5_step : GoodIn wsX5_tune wsX5_step := goodIn_r _ [9, 10, 11, 12, 13, 14, 15, 1, 16, 17, 18, 19, 20, 21, 22, 4, 23, 24, 25, 26, 27, 28, 29, 30, 31, 2, 3, 5, 32, 33, 34, 35, 36, 37, 38, 39, 40, 41, 42, 43, 44, 45, 46, 47, 48, 49, 50, 51, 52, 53, 54, 55, 56, 57, 58, 59, 60, 61, 62, 63, 64, 65, 66, 67, 68] (by decide +kernel) (by decide +kernel)
set_option maxRecDepth 20000 in
theorem gX5_tune_X5_step : GoodIn wsX5_tune (wsV RX5 129 RX5 yX5_step wsX5_step) := goodIn_app (goodIn_of _ (by decide +kernel)) ggX5_tune_X5_step
set_option maxRecDepth 20000 in
theorem ggX5_tune_X5_size : GoodIn wsX5_tune wsX5_size := goodIn_r _ [31] (by decide +kernel) (by decide +kernel)
set_option maxRecDepth 20000 in
theorem gX5_tune_X5_size : GoodIn wsX5_tune (va_wsS RX5 88 yX5_size wsX5_size) := goodIn_app (goodIn_of _ (by decide +kernel)) ggX5_tune_X5_size
set_option maxRecDepth 20000 in
theorem ggX5_spread_X5_in : GoodIn wsX5_spread wsX5_in := goodIn_r _ [5] (by decide +kernel) (by decide +kernel)
set_option maxRecDepth 20000 in
theorem gX5_spread_X5_in : GoodIn wsX5_spread (va_wsS RX5 71 yX5_in wsX5_in) := goodIn_app (goodIn_of _ (by decide +kernel)) ggX5_spread_X5_in
set_option maxRecDepth 20000 in
theorem ggX5_shot_X5_in : GoodIn wsX5_shot wsX5_in := goodIn_r _ [7] (by decide +kernel) (by decide +kernel)
set_option maxRecDepth 20000 in
theorem gX5_shot_X5_in : GoodIn wsX5_shot (va_wsS RX5 71 yX5_in wsX5_in) := goodIn_app (goodIn_of _ (by decide +kernel)) ggX5_shot_X5_in
set_option maxRecDepth 20000 in
theorem ggX5_findLeft_X5_step : GoodIn wsX5_findLeft wsX5_step := goodIn_r _ [13, 14, 15, 16, 17, 18, 19, 3, 1, 20, 21, 22, 23, 24, 25, 12, 26, 27, 28, 29, 30, 31, 32, 33, 34, 35, 36, 37, 38, 39, 40, 41, 45, 46, 47, 48, 49, 50, 51, 52, 53, 54, 55, 56, 57, 58, 59, 60, 61, 62, 63, 64, 65, 66, 67, 68, 69, 70, 71, 72, 73, 74, 75, 76, 77] (by decide +kernel) (by decide +kernel)
set_option maxRecDepth 20000 in
theorem gX5_findLeft_X5_step : GoodIn wsX5_findLeft (wsV RX5 129 RX5 yX5_step wsX5_step) := goodIn_app (goodIn_of _ (by decide +kernel)) ggX5_findLeft_X5_step
set_option maxRecDepth 20000 in
theorem ggX5_findLeft_X5_lands : GoodIn wsX5_findLeft wsX5_lands := goodIn_r _ [44] (by decide +kernel) (by decide +kernel)
set_option maxRecDepth 20000 in
theorem gX5_findLeft_X5_lands : GoodIn wsX5_findLeft (va_wsS RX5 144 yX5_lands wsX5_lands) := goodIn_app (goodIn_of _ (by decide +kernel)) ggX5_findLeft_X5_lands
set_option maxRecDepth 20000 in
theorem ggX5_findLeft_X5_size : GoodIn wsX5_findLeft wsX5_size := goodIn_r _ [34] (by decide +kernel) (by decide +kernel)
set_option maxRecDepth 20000 in
theorem gX5_findLeft_X5_size : GoodIn wsX5_findLeft (va_wsS RX5 88 yX5_size wsX5_size) := goodIn_app (goodIn_of _ (by decide +kernel)) ggX5_findLeft_X5_size
set_option maxRecDepth 20000 in
theorem ggX5_left_X5_findLeft : GoodIn wsX5_left wsX5_findLeft := goodIn_r _ [5, 6, 7, 8, 9, 10, 11, 12, 13, 14, 15, 16, 4, 17, 18, 19, 20, 21, 22, 23, 24, 25, 26, 27, 28, 29, 30, 31, 32, 33, 34, 35, 36, 37, 38, 39, 40, 41, 42, 43, 44, 45, 46, 47, 48, 49, 50, 51, 52, 53, 54, 55, 56, 57, 58, 59, 60, 61, 62, 63, 64, 65, 66, 67, 68, 69, 70, 71, 72, 73, 74, 75, 76, 77, 78, 79, 80, 81] (by decide +kernel) (by decide +kernel)
set_option maxRecDepth 20000 in
theorem gX5_left_X5_findLeft : GoodIn wsX5_left (wsV RX5 147 RX5 yX5_findLeft wsX5_findLeft) := goodIn_app (goodIn_of _ (by decide +kernel)) ggX5_left_X5_findLeft
set_option maxRecDepth 20000 in
theorem ggX5_spanOf_X5_lands : GoodIn wsX5_spanOf wsX5_lands := goodIn_r _ [6] (by decide +kernel) (by decide +kernel)
set_option maxRecDepth 20000 in
theorem gX5_spanOf_X5_lands : GoodIn wsX5_spanOf (va_wsS RX5 144 yX5_lands wsX5_lands) := goodIn_app (goodIn_of _ (by decide +kernel)) ggX5_spanOf_X5_lands
set_option maxRecDepth 20000 in
theorem ggX5_span_X5_in : GoodIn wsX5_span wsX5_in := goodIn_r _ [4] (by decide +kernel) (by decide +kernel)
set_option maxRecDepth 20000 in
theorem gX5_span_X5_in : GoodIn wsX5_span (va_wsS RX5 71 yX5_in wsX5_in) := goodIn_app (goodIn_of _ (by decide +kernel)) ggX5_span_X5_in
set_option maxRecDepth 20000 in
theorem ggX5_span_X5_findLeft : GoodIn wsX5_span wsX5_findLeft := goodIn_r _ [8, 9, 10, 11, 12, 13, 14, 15, 16, 17, 18, 19, 3, 20, 21, 22, 23, 24, 25, 26, 27, 28, 29, 30, 31, 32, 33, 34, 35, 36, 37, 38, 39, 40, 41, 1, 2, 4, 42, 43, 44, 45, 46, 47, 48, 53, 54, 55, 56, 57, 58, 59, 60, 61, 62, 63, 64, 65, 66, 67, 68, 69, 70, 71, 72, 73, 74, 75, 76, 77, 78, 79, 80, 81, 82, 83, 84, 85] (by decide +kernel) (by decide +kernel)
set_option maxRecDepth 20000 in
theorem gX5_span_X5_findLeft : GoodIn wsX5_span (wsV RX5 147 RX5 yX5_findLeft wsX5_findLeft) := goodIn_app (goodIn_of _ (by decide +kernel)) ggX5_span_X5_findLeft
set_option maxRecDepth 20000 in
theorem ggX5_span_X5_spanOf : GoodIn wsX5_span wsX5_spanOf := goodIn_r _ [52, 12, 10, 46, 47, 3, 48, 53, 54, 55, 56, 57, 58, 59, 60, 61, 62, 63, 64, 65, 66, 67, 68, 69, 70, 71, 72, 73, 74, 75, 76, 77, 78, 79, 80, 81, 82, 83, 84, 85] (by decide +kernel) (by decide +kernel)
set_option maxRecDepth 20000 in
theorem gX5_span_X5_spanOf : GoodIn wsX5_span (wsV RX5 151 RX5 yX5_spanOf wsX5_spanOf) := goodIn_app (goodIn_of _ (by decide +kernel)) ggX5_span_X5_spanOf
set_option maxRecDepth 20000 in
theorem ggX5_next_X5_findLeft : GoodIn wsX5_next wsX5_findLeft := goodIn_r _ [6, 7, 1, 8, 9, 10, 11, 12, 13, 14, 15, 16, 5, 17, 18, 19, 20, 21, 22, 23, 24, 25, 26, 27, 28, 29, 30, 31, 32, 33, 34, 35, 36, 37, 38, 39, 40, 41, 42, 43, 44, 45, 46, 47, 48, 53, 54, 55, 56, 57, 58, 59, 60, 61, 62, 63, 64, 65, 66, 67, 68, 69, 70, 71, 72, 73, 74, 75, 76, 77, 78, 79, 80, 81, 82, 83, 84, 85] (by decide +kernel) (by decide +kernel)
set_option maxRecDepth 20000 in
theorem gX5_next_X5_findLeft : GoodIn wsX5_next (wsV RX5 147 RX5 yX5_findLeft wsX5_findLeft) := goodIn_app (goodIn_of _ (by decide +kernel)) ggX5_next_X5_findLeft
set_option maxRecDepth 20000 in
theorem ggX5_next_X5_spanOf : GoodIn wsX5_next wsX5_spanOf := goodIn_r _ [52, 9, 1, 46, 47, 5, 48, 53, 54, 55, 56, 57, 58, 59, 60, 61, 62, 63, 64, 65, 66, 67, 68, 69, 70, 71, 72, 73, 74, 75, 76, 77, 78, 79, 80, 81, 82, 83, 84, 85] (by decide +kernel) (by decide +kernel)
set_option maxRecDepth 20000 in
theorem gX5_next_X5_spanOf : GoodIn wsX5_next (wsV RX5 151 RX5 yX5_spanOf wsX5_spanOf) := goodIn_app (goodIn_of _ (by decide +kernel)) ggX5_next_X5_spanOf
set_option maxRecDepth 20000 in
theorem ggX5_surest_X5_in : GoodIn wsX5_surest wsX5_in := goodIn_r _ [5] (by decide +kernel) (by decide +kernel)
set_option maxRecDepth 20000 in
theorem gX5_surest_X5_in : GoodIn wsX5_surest (va_wsS RX5 71 yX5_in wsX5_in) := goodIn_app (goodIn_of _ (by decide +kernel)) ggX5_surest_X5_in
set_option maxRecDepth 20000 in
theorem ggX5_surest_X5_findLeft : GoodIn wsX5_surest wsX5_findLeft := goodIn_r _ [9, 10, 1, 11, 12, 13, 14, 15, 16, 17, 18, 19, 4, 20, 21, 22, 23, 24, 25, 26, 27, 28, 29, 30, 31, 32, 33, 34, 35, 36, 37, 38, 39, 40, 41, 2, 3, 5, 42, 43, 44, 45, 46, 47, 48, 53, 54, 55, 56, 57, 58, 59, 60, 61, 62, 63, 64, 65, 66, 67, 68, 69, 70, 71, 72, 73, 74, 75, 76, 77, 78, 79, 80, 81, 82, 83, 84, 85] (by decide +kernel) (by decide +kernel)
set_option maxRecDepth 20000 in
theorem gX5_surest_X5_findLeft : GoodIn wsX5_surest (wsV RX5 147 RX5 yX5_findLeft wsX5_findLeft) := goodIn_app (goodIn_of _ (by decide +kernel)) ggX5_surest_X5_findLeft
set_option maxRecDepth 20000 in
theorem ggX5_surest_X5_spanOf : GoodIn wsX5_surest wsX5_spanOf := goodIn_r _ [52, 12, 1, 46, 47, 4, 48, 53, 54, 55, 56, 57, 58, 59, 60, 61, 62, 63, 64, 65, 66, 67, 68, 69, 70, 71, 72, 73, 74, 75, 76, 77, 78, 79, 80, 81, 82, 83, 84, 85] (by decide +kernel) (by decide +kernel)
set_option maxRecDepth 20000 in
theorem gX5_surest_X5_spanOf : GoodIn wsX5_surest (wsV RX5 151 RX5 yX5_spanOf wsX5_spanOf) := goodIn_app (goodIn_of _ (by decide +kernel)) ggX5_surest_X5_spanOf
set_option maxRecDepth 20000 in
theorem ggX5_surest_X5_size : GoodIn wsX5_surest wsX5_size := goodIn_r _ [41] (by decide +kernel) (by decide +kernel)
set_option maxRecDepth 20000 in
theorem gX5_surest_X5_size : GoodIn wsX5_surest (va_wsS RX5 88 yX5_size wsX5_size) := goodIn_app (goodIn_of _ (by decide +kernel)) ggX5_surest_X5_size
set_option maxRecDepth 20000 in
theorem ggX5_wall_X5_in : GoodIn wsX5_wall wsX5_in := goodIn_r _ [6] (by decide +kernel) (by decide +kernel)
set_option maxRecDepth 20000 in
theorem gX5_wall_X5_in : GoodIn wsX5_wall (va_wsS RX5 71 yX5_in wsX5_in) := goodIn_app (goodIn_of _ (by decide +kernel)) ggX5_wall_X5_in
set_option maxRecDepth 20000 in
theorem ggX5_wall_X5_newWall : GoodIn wsX5_wall wsX5_newWall := goodIn_r _ [10, 11, 12, 13, 14, 15, 16, 17, 18, 19, 20, 21, 22, 23, 24, 25, 26, 27, 28, 29, 30, 31, 32, 33, 34, 35, 36, 37, 38, 39, 40, 41, 42, 43, 44, 45, 46] (by decide +kernel) (by decide +kernel)
set_option maxRecDepth 20000 in
theorem gX5_wall_X5_newWall : GoodIn wsX5_wall (wsV RX5 68 RX5 yX5_newWall wsX5_newWall) := goodIn_app (goodIn_of _ (by decide +kernel)) ggX5_wall_X5_newWall
set_option maxRecDepth 20000 in
theorem ggX5_isCell_X5_in : GoodIn wsX5_isCell wsX5_in := goodIn_r _ [6] (by decide +kernel) (by decide +kernel)
set_option maxRecDepth 20000 in
theorem gX5_isCell_X5_in : GoodIn wsX5_isCell (va_wsS RX5 71 yX5_in wsX5_in) := goodIn_app (goodIn_of _ (by decide +kernel)) ggX5_isCell_X5_in
set_option maxRecDepth 20000 in
theorem ggX5_strength_X5_isCell : GoodIn wsX5_strength wsX5_isCell := goodIn_r _ [8, 1, 9, 10, 11, 7, 12, 13, 14, 15, 16, 17, 18, 19, 20, 21, 22, 23, 24, 25, 26, 27, 28, 29, 30, 31, 32, 33, 34, 35, 36, 37, 38, 39, 40, 41, 42, 43, 44, 45] (by decide +kernel) (by decide +kernel)
set_option maxRecDepth 20000 in
theorem gX5_strength_X5_isCell : GoodIn wsX5_strength (wsV RX5 155 RX5 yX5_isCell wsX5_isCell) := goodIn_app (goodIn_of _ (by decide +kernel)) ggX5_strength_X5_isCell
set_option maxRecDepth 20000 in
theorem ggX5_strength_X5_in : GoodIn wsX5_strength wsX5_in := goodIn_r _ [12] (by decide +kernel) (by decide +kernel)
set_option maxRecDepth 20000 in
theorem gX5_strength_X5_in : GoodIn wsX5_strength (va_wsS RX5 71 yX5_in wsX5_in) := goodIn_app (goodIn_of _ (by decide +kernel)) ggX5_strength_X5_in
set_option maxRecDepth 20000 in
theorem ggX5_prop_X5_isCell : GoodIn wsX5_prop wsX5_isCell := goodIn_r _ [8, 1, 9, 10, 11, 7, 12, 13, 14, 15, 16, 17, 18, 19, 20, 21, 22, 23, 24, 25, 26, 27, 28, 29, 30, 31, 32, 33, 34, 35, 36, 37, 38, 39, 40, 41, 42, 43, 44, 45] (by decide +kernel) (by decide +kernel)
set_option maxRecDepth 20000 in
theorem gX5_prop_X5_isCell : GoodIn wsX5_prop (wsV RX5 155 RX5 yX5_isCell wsX5_isCell) := goodIn_app (goodIn_of _ (by decide +kernel)) ggX5_prop_X5_isCell
set_option maxRecDepth 20000 in
theorem ggX5_strike_X5_isCell : GoodIn wsX5_strike wsX5_isCell := goodIn_r _ [10, 2, 5, 11, 12, 9, 13, 14, 15, 16, 17, 18, 19, 20, 21, 22, 23, 24, 25, 26, 27, 28, 29, 30, 31, 32, 33, 34, 35, 36, 37, 38, 39, 40, 41, 42, 43, 44, 45, 46] (by decide +kernel) (by decide +kernel)
set_option maxRecDepth 20000 in
theorem gX5_strike_X5_isCell : GoodIn wsX5_strike (wsV RX5 155 RX5 yX5_isCell wsX5_isCell) := goodIn_app (goodIn_of _ (by decide +kernel)) ggX5_strike_X5_isCell
set_option maxRecDepth 20000 in
theorem ggX5_isForce_X5_in : GoodIn wsX5_isForce wsX5_in := goodIn_r _ [4] (by decide +kernel) (by decide +kernel)
set_option maxRecDepth 20000 in
theorem gX5_isForce_X5_in : GoodIn wsX5_isForce (va_wsS RX5 71 yX5_in wsX5_in) := goodIn_app (goodIn_of _ (by decide +kernel)) ggX5_isForce_X5_in
set_option maxRecDepth 20000 in
theorem ggX5_hit_X5_isCell : GoodIn wsX5_hit wsX5_isCell := goodIn_r _ [7, 2, 8, 9, 10, 6, 11, 21, 22, 23, 24, 25, 26, 27, 28, 29, 30, 31, 32, 33, 34, 35, 36, 37, 38, 39, 40, 41, 42, 43, 44, 45, 46, 47, 48, 49, 50, 51, 52, 53] (by decide +kernel) (by decide +kernel)
set_option maxRecDepth 20000 in
theorem gX5_hit_X5_isCell : GoodIn wsX5_hit (wsV RX5 155 RX5 yX5_isCell wsX5_isCell) := goodIn_app (goodIn_of _ (by decide +kernel)) ggX5_hit_X5_isCell
set_option maxRecDepth 20000 in
theorem ggX5_hit_X5_isForce : GoodIn wsX5_hit wsX5_isForce := goodIn_r _ [14, 9, 10, 6, 11] (by decide +kernel) (by decide +kernel)
set_option maxRecDepth 20000 in
theorem gX5_hit_X5_isForce : GoodIn wsX5_hit (va_wsS RX5 159 yX5_isForce wsX5_isForce) := goodIn_app (goodIn_of _ (by decide +kernel)) ggX5_hit_X5_isForce
set_option maxRecDepth 20000 in
theorem ggX5_hit_X5_strike : GoodIn wsX5_hit wsX5_strike := goodIn_r _ [18, 1, 2, 19, 20, 8, 3, 4, 5, 6, 7, 9, 10, 11, 21, 22, 23, 24, 25, 26, 27, 28, 29, 30, 31, 32, 33, 34, 35, 36, 37, 38, 39, 40, 41, 42, 43, 44, 45, 46, 47, 48, 49, 50, 51, 52, 53] (by decide +kernel) (by decide +kernel)
set_option maxRecDepth 20000 in
theorem gX5_hit_X5_strike : GoodIn wsX5_hit (wsV RX5 163 RX5 yX5_strike wsX5_strike) := goodIn_app (goodIn_of _ (by decide +kernel)) ggX5_hit_X5_strike
set_option maxRecDepth 20000 in
theorem ggX5_cell_X5_isCell : GoodIn wsX5_cell wsX5_isCell := goodIn_r _ [9, 1, 10, 11, 12, 8, 13, 14, 15, 16, 17, 18, 19, 20, 21, 22, 23, 24, 25, 26, 27, 28, 29, 30, 31, 32, 33, 34, 35, 36, 37, 38, 39, 40, 41, 42, 43, 44, 45, 46] (by decide +kernel) (by decide +kernel)
set_option maxRecDepth 20000 in
theorem gX5_cell_X5_isCell : GoodIn wsX5_cell (wsV RX5 155 RX5 yX5_isCell wsX5_isCell) := goodIn_app (goodIn_of _ (by decide +kernel)) ggX5_cell_X5_isCell
set_option maxRecDepth 20000 in
theorem ggX5_cell_X5_in : GoodIn wsX5_cell wsX5_in := goodIn_r _ [13] (by decide +kernel) (by decide +kernel)
set_option maxRecDepth 20000 in
theorem gX5_cell_X5_in : GoodIn wsX5_cell (va_wsS RX5 71 yX5_in wsX5_in) := goodIn_app (goodIn_of _ (by decide +kernel)) ggX5_cell_X5_in
set_option maxRecDepth 20000 in
theorem ggX5_level_X5_in : GoodIn wsX5_level wsX5_in := goodIn_r _ [5] (by decide +kernel) (by decide +kernel)
set_option maxRecDepth 20000 in
theorem gX5_level_X5_in : GoodIn wsX5_level (va_wsS RX5 71 yX5_in wsX5_in) := goodIn_app (goodIn_of _ (by decide +kernel)) ggX5_level_X5_in
set_option maxRecDepth 20000 in
theorem ggX5_open_X5_standing : GoodIn wsX5_open wsX5_standing := goodIn_r _ [7, 8, 9, 1, 10, 11, 12, 13, 14, 15, 16, 17, 18, 19, 20, 21, 22, 23, 24, 25, 26, 27, 28, 29, 30, 31, 32, 33, 34, 35, 36, 37, 38, 39, 40, 41, 42] (by decide +kernel) (by decide +kernel)
set_option maxRecDepth 20000 in
theorem gX5_open_X5_standing : GoodIn wsX5_open (wsV RX5 170 RX5 yX5_standing wsX5_standing) := goodIn_app (goodIn_of _ (by decide +kernel)) ggX5_open_X5_standing
set_option maxRecDepth 20000 in
theorem ggX5_fewest_X5_cheaper : GoodIn wsX5_fewest wsX5_cheaper := goodIn_r _ [14, 5, 15, 16, 17, 18, 19, 20, 21, 22, 23, 24, 25, 26, 27, 28, 29, 30, 31, 32, 33, 34, 35, 36, 37, 38, 39, 40, 41, 42, 43, 44, 45, 46, 47] (by decide +kernel) (by decide +kernel)
set_option maxRecDepth 20000 in
theorem gX5_fewest_X5_cheaper : GoodIn wsX5_fewest (wsV RX5 174 RX5 yX5_cheaper wsX5_cheaper) := goodIn_app (goodIn_of _ (by decide +kernel)) ggX5_fewest_X5_cheaper
set_option maxRecDepth 20000 in
theorem ggX5_soonest_X5_isForce : GoodIn wsX5_soonest wsX5_isForce := goodIn_r _ [5, 6, 7, 4, 8] (by decide +kernel) (by decide +kernel)
set_option maxRecDepth 20000 in
theorem gX5_soonest_X5_isForce : GoodIn wsX5_soonest (va_wsS RX5 159 yX5_isForce wsX5_isForce) := goodIn_app (goodIn_of _ (by decide +kernel)) ggX5_soonest_X5_isForce
set_option maxRecDepth 20000 in
theorem ggX5_soonest_X5_in : GoodIn wsX5_soonest wsX5_in := goodIn_r _ [8] (by decide +kernel) (by decide +kernel)
set_option maxRecDepth 20000 in
theorem gX5_soonest_X5_in : GoodIn wsX5_soonest (va_wsS RX5 71 yX5_in wsX5_in) := goodIn_app (goodIn_of _ (by decide +kernel)) ggX5_soonest_X5_in
set_option maxRecDepth 20000 in
theorem ggX5_soonest_X5_fewest : GoodIn wsX5_soonest wsX5_fewest := goodIn_r _ [12, 13, 14, 15, 1, 16, 17, 18, 19, 20, 21, 22, 23, 4, 24, 25, 26, 27, 28, 29, 30, 31, 32, 33, 34, 35, 36, 37, 38, 39, 40, 41, 42, 43, 44, 45, 46, 47, 48, 49, 50, 51, 52, 53, 54, 55, 56, 57] (by decide +kernel) (by decide +kernel)
set_option maxRecDepth 20000 in
theorem gX5_soonest_X5_fewest : GoodIn wsX5_soonest (wsV RX5 177 RX5 yX5_fewest wsX5_fewest) := goodIn_app (goodIn_of _ (by decide +kernel)) ggX5_soonest_X5_fewest
set_option maxRecDepth 20000 in
theorem ggX5_scatter_X5_in : GoodIn wsX5_scatter wsX5_in := goodIn_r _ [5] (by decide +kernel) (by decide +kernel)
set_option maxRecDepth 20000 in
theorem gX5_scatter_X5_in : GoodIn wsX5_scatter (va_wsS RX5 71 yX5_in wsX5_in) := goodIn_app (goodIn_of _ (by decide +kernel)) ggX5_scatter_X5_in
set_option maxRecDepth 20000 in
theorem ggX5_worthOf_X5_keep : GoodIn wsX5_worthOf wsX5_keep := goodIn_r _ [6, 7, 8, 9, 10, 11, 12, 30, 31, 32, 33, 34, 35, 36, 37, 38, 39, 40, 41, 42, 43, 44, 45, 46, 47, 48, 49, 50, 51, 52, 53, 54, 55, 56, 57, 58, 59, 60, 61, 62] (by decide +kernel) (by decide +kernel)
set_option maxRecDepth 20000 in
theorem gX5_worthOf_X5_keep : GoodIn wsX5_worthOf (wsV RX5 180 RX5 yX5_keep wsX5_keep) := goodIn_app (goodIn_of _ (by decide +kernel)) ggX5_worthOf_X5_keep
set_option maxRecDepth 20000 in
theorem ggX5_worthOf_X5_strike : GoodIn wsX5_worthOf wsX5_strike := goodIn_r _ [16, 8, 17, 10, 12, 18, 19, 20, 21, 5, 22, 23, 24, 25, 30, 31, 32, 33, 34, 35, 36, 37, 38, 39, 40, 41, 42, 43, 44, 45, 46, 47, 48, 49, 50, 51, 52, 53, 54, 55, 56, 57, 58, 59, 60, 61, 62] (by decide +kernel) (by decide +kernel)
set_option maxRecDepth 20000 in
theorem gX5_worthOf_X5_strike : GoodIn wsX5_worthOf (wsV RX5 163 RX5 yX5_strike wsX5_strike) := goodIn_app (goodIn_of _ (by decide +kernel)) ggX5_worthOf_X5_strike
set_option maxRecDepth 20000 in
theorem ggX5_worthOf_X5_giveBack : GoodIn wsX5_worthOf wsX5_giveBack := goodIn_r _ [29, 8, 7, 10, 9, 12, 11, 30, 31, 32, 33, 34, 35, 36, 37, 38, 39, 40, 41, 42, 43, 44, 45, 46, 47, 48, 49, 50, 51, 52, 53, 54, 55, 56, 57, 58, 59, 60, 61, 62] (by decide +kernel) (by decide +kernel)
set_option maxRecDepth 20000 in
theorem gX5_worthOf_X5_giveBack : GoodIn wsX5_worthOf (wsV RX5 183 RX5 yX5_giveBack wsX5_giveBack) := goodIn_app (goodIn_of _ (by decide +kernel)) ggX5_worthOf_X5_giveBack
set_option maxRecDepth 20000 in
theorem ggX5_worth_X5_isCell : GoodIn wsX5_worth wsX5_isCell := goodIn_r _ [5, 6, 7, 8, 9, 4, 10, 37, 38, 39, 40, 41, 42, 43, 44, 45, 46, 47, 48, 49, 50, 51, 52, 53, 54, 55, 56, 57, 58, 59, 60, 61, 62, 63, 64, 65, 66, 67, 68, 69] (by decide +kernel) (by decide +kernel)
set_option maxRecDepth 20000 in
theorem gX5_worth_X5_isCell : GoodIn wsX5_worth (wsV RX5 155 RX5 yX5_isCell wsX5_isCell) := goodIn_app (goodIn_of _ (by decide +kernel)) ggX5_worth_X5_isCell
set_option maxRecDepth 20000 in
theorem ggX5_worth_X5_isForce : GoodIn wsX5_worth wsX5_isForce := goodIn_r _ [13, 8, 9, 4, 10] (by decide +kernel) (by decide +kernel)
set_option maxRecDepth 20000 in
theorem gX5_worth_X5_isForce : GoodIn wsX5_worth (va_wsS RX5 159 yX5_isForce wsX5_isForce) := goodIn_app (goodIn_of _ (by decide +kernel)) ggX5_worth_X5_isForce
set_option maxRecDepth 20000 in
theorem ggX5_worth_X5_worthOf : GoodIn wsX5_worth wsX5_worthOf := goodIn_r _ [17, 18, 19, 20, 21, 4, 22, 23, 24, 25, 26, 27, 28, 29, 30, 31, 32, 6, 7, 1, 2, 3, 5, 8, 9, 10, 33, 34, 35, 36, 37, 38, 39, 40, 41, 42, 43, 44, 45, 46, 47, 48, 49, 50, 51, 52, 53, 54, 55, 56, 57, 58, 59, 60, 61, 62, 63, 64, 65, 66, 67, 68, 69] (by decide +kernel) (by decide +kernel)
set_option maxRecDepth 20000 in
theorem gX5_worth_X5_worthOf : GoodIn wsX5_worth (wsV RX5 186 RX5 yX5_worthOf wsX5_worthOf) := goodIn_app (goodIn_of _ (by decide +kernel)) ggX5_worth_X5_worthOf
set_option maxRecDepth 20000 in
theorem ggX5_aim_X5_isForce : GoodIn wsX5_aim wsX5_isForce := goodIn_r _ [6, 7, 8, 5, 9] (by decide +kernel) (by decide +kernel)
set_option maxRecDepth 20000 in
theorem gX5_aim_X5_isForce : GoodIn wsX5_aim (va_wsS RX5 159 yX5_isForce wsX5_isForce) := goodIn_app (goodIn_of _ (by decide +kernel)) ggX5_aim_X5_isForce
set_option maxRecDepth 20000 in
theorem ggX5_aim_X5_in : GoodIn wsX5_aim wsX5_in := goodIn_r _ [9] (by decide +kernel) (by decide +kernel)
set_option maxRecDepth 20000 in
theorem gX5_aim_X5_in : GoodIn wsX5_aim (va_wsS RX5 71 yX5_in wsX5_in) := goodIn_app (goodIn_of _ (by decide +kernel)) ggX5_aim_X5_in
set_option maxRecDepth 20000 in
theorem ggX5_aim_X5_worthOf : GoodIn wsX5_aim wsX5_worthOf := goodIn_r _ [13, 14, 15, 16, 17, 5, 18, 19, 20, 21, 22, 23, 24, 25, 26, 27, 28, 1, 2, 29, 30, 31, 32, 7, 8, 9, 33, 34, 35, 36, 37, 38, 39, 40, 41, 42, 43, 44, 45, 46, 47, 48, 49, 50, 51, 52, 53, 54, 55, 56, 57, 58, 59, 60, 61, 62, 63, 64, 65, 66, 67, 68, 69] (by decide +kernel) (by decide +kernel)
set_option maxRecDepth 20000 in
theorem gX5_aim_X5_worthOf : GoodIn wsX5_aim (wsV RX5 186 RX5 yX5_worthOf wsX5_worthOf) := goodIn_app (goodIn_of _ (by decide +kernel)) ggX5_aim_X5_worthOf
set_option maxRecDepth 20000 in
theorem ggX5_held_X5_isCell : GoodIn wsX5_held wsX5_isCell := goodIn_r _ [7, 8, 9, 10, 11, 6, 12, 43, 44, 45, 46, 47, 48, 49, 50, 51, 52, 53, 54, 55, 56, 57, 58, 59, 60, 61, 62, 63, 64, 65, 66, 67, 68, 69, 70, 71, 72, 73, 74, 75] (by decide +kernel) (by decide +kernel)
set_option maxRecDepth 20000 in
theorem gX5_held_X5_isCell : GoodIn wsX5_held (wsV RX5 155 RX5 yX5_isCell wsX5_isCell) := goodIn_app (goodIn_of _ (by decide +kernel)) ggX5_held_X5_isCell
set_option maxRecDepth 20000 in
theorem ggX5_held_X5_isForce : GoodIn wsX5_held wsX5_isForce := goodIn_r _ [15, 10, 11, 6, 12] (by decide +kernel) (by decide +kernel)
set_option maxRecDepth 20000 in
theorem gX5_held_X5_isForce : GoodIn wsX5_held (va_wsS RX5 159 yX5_isForce wsX5_isForce) := goodIn_app (goodIn_of _ (by decide +kernel)) ggX5_held_X5_isForce
set_option maxRecDepth 20000 in
theorem ggX5_held_X5_in : GoodIn wsX5_held wsX5_in := goodIn_r _ [12] (by decide +kernel) (by decide +kernel)
set_option maxRecDepth 20000 in
theorem gX5_held_X5_in : GoodIn wsX5_held (va_wsS RX5 71 yX5_in wsX5_in) := goodIn_app (goodIn_of _ (by decide +kernel)) ggX5_held_X5_in
set_option maxRecDepth 20000 in
theorem ggX5_held_X5_keep : GoodIn wsX5_held wsX5_keep := goodIn_r _ [19, 20, 21, 22, 23, 24, 25, 43, 44, 45, 46, 47, 48, 49, 50, 51, 52, 53, 54, 55, 56, 57, 58, 59, 60, 61, 62, 63, 64, 65, 66, 67, 68, 69, 70, 71, 72, 73, 74, 75] (by decide +kernel) (by decide +kernel)
set_option maxRecDepth 20000 in
theorem gX5_held_X5_keep : GoodIn wsX5_held (wsV RX5 180 RX5 yX5_keep wsX5_keep) := goodIn_app (goodIn_of _ (by decide +kernel)) ggX5_held_X5_keep
set_option maxRecDepth 20000 in
theorem ggX5_held_X5_strike : GoodIn wsX5_held wsX5_strike := goodIn_r _ [29, 21, 8, 23, 25, 9, 3, 4, 5, 6, 7, 10, 11, 12, 43, 44, 45, 46, 47, 48, 49, 50, 51, 52, 53, 54, 55, 56, 57, 58, 59, 60, 61, 62, 63, 64, 65, 66, 67, 68, 69, 70, 71, 72, 73, 74, 75] (by decide +kernel) (by decide +kernel)
set_option maxRecDepth 20000 in
theorem gX5_held_X5_strike : GoodIn wsX5_held (wsV RX5 163 RX5 yX5_strike wsX5_strike) := goodIn_app (goodIn_of _ (by decide +kernel)) ggX5_held_X5_strike
set_option maxRecDepth 20000 in
theorem ggX5_held_X5_open : GoodIn wsX5_held wsX5_open := goodIn_r _ [33, 8, 34, 35, 36, 37, 6, 38, 9, 21, 43, 44, 45, 46, 47, 48, 49, 50, 51, 52, 53, 54, 55, 56, 57, 58, 59, 60, 61, 62, 63, 64, 65, 66, 67, 68, 69, 70, 71, 72, 73, 74, 75] (by decide +kernel) (by decide +kernel)
set_option maxRecDepth 20000 in
theorem gX5_held_X5_open : GoodIn wsX5_held (wsV RX5 191 RX5 yX5_open wsX5_open) := goodIn_app (goodIn_of _ (by decide +kernel)) ggX5_held_X5_open
set_option maxRecDepth 20000 in
theorem ggX5_held_X5_giveBack : GoodIn wsX5_held wsX5_giveBack := goodIn_r _ [42, 21, 20, 23, 22, 25, 24, 43, 44, 45, 46, 47, 48, 49, 50, 51, 52, 53, 54, 55, 56, 57, 58, 59, 60, 61, 62, 63, 64, 65, 66, 67, 68, 69, 70, 71, 72, 73, 74, 75] (by decide +kernel) (by decide +kernel)
set_option maxRecDepth 20000 in
theorem gX5_held_X5_giveBack : GoodIn wsX5_held (wsV RX5 183 RX5 yX5_giveBack wsX5_giveBack) := goodIn_app (goodIn_of _ (by decide +kernel)) ggX5_held_X5_giveBack
set_option maxRecDepth 20000 in
theorem ggX5_near_X5_in : GoodIn wsX5_near wsX5_in := goodIn_r _ [5] (by decide +kernel) (by decide +kernel)
set_option maxRecDepth 20000 in
theorem gX5_near_X5_in : GoodIn wsX5_near (va_wsS RX5 71 yX5_in wsX5_in) := goodIn_app (goodIn_of _ (by decide +kernel)) ggX5_near_X5_in
set_option maxRecDepth 20000 in
theorem ggX5_loose_X5_isCell : GoodIn wsX5_loose wsX5_isCell := goodIn_r _ [10, 11, 12, 13, 14, 9, 15, 52, 53, 54, 55, 56, 57, 58, 59, 60, 61, 62, 63, 64, 65, 66, 67, 68, 69, 70, 71, 72, 73, 74, 75, 76, 77, 78, 79, 80, 81, 82, 83, 84] (by decide +kernel) (by decide +kernel)
set_option maxRecDepth 20000 in
theorem gX5_loose_X5_isCell : GoodIn wsX5_loose (wsV RX5 155 RX5 yX5_isCell wsX5_isCell) := goodIn_app (goodIn_of _ (by decide +kernel)) ggX5_loose_X5_isCell
set_option maxRecDepth 20000 in
theorem ggX5_loose_X5_in : GoodIn wsX5_loose wsX5_in := goodIn_r _ [15] (by decide +kernel) (by decide +kernel)
set_option maxRecDepth 20000 in
theorem gX5_loose_X5_in : GoodIn wsX5_loose (va_wsS RX5 71 yX5_in wsX5_in) := goodIn_app (goodIn_of _ (by decide +kernel)) ggX5_loose_X5_in
set_option maxRecDepth 20000 in
theorem ggX5_loose_X5_step : GoodIn wsX5_loose wsX5_step := goodIn_r _ [19, 20, 21, 22, 23, 24, 25, 5, 4, 26, 27, 28, 29, 30, 31, 9, 32, 33, 34, 35, 36, 37, 38, 39, 40, 13, 14, 15, 41, 42, 43, 44, 52, 53, 54, 55, 56, 57, 58, 59, 60, 61, 62, 63, 64, 65, 66, 67, 68, 69, 70, 71, 72, 73, 74, 75, 76, 77, 78, 79, 80, 81, 82, 83, 84] (by decide +kernel) (by decide +kernel)
set_option maxRecDepth 20000 in
theorem gX5_loose_X5_step : GoodIn wsX5_loose (wsV RX5 129 RX5 yX5_step wsX5_step) := goodIn_app (goodIn_of _ (by decide +kernel)) ggX5_loose_X5_step
set_option maxRecDepth 20000 in
theorem ggX5_loose_X5_size : GoodIn wsX5_loose wsX5_size := goodIn_r _ [40] (by decide +kernel) (by decide +kernel)
set_option maxRecDepth 20000 in
theorem gX5_loose_X5_size : GoodIn wsX5_loose (va_wsS RX5 88 yX5_size wsX5_size) := goodIn_app (goodIn_of _ (by decide +kernel)) ggX5_loose_X5_size
set_option maxRecDepth 20000 in
theorem ggX5_loose_X5_strike : GoodIn wsX5_loose wsX5_strike := goodIn_r _ [48, 49, 11, 50, 51, 12, 6, 7, 8, 9, 10, 13, 14, 15, 52, 53, 54, 55, 56, 57, 58, 59, 60, 61, 62, 63, 64, 65, 66, 67, 68, 69, 70, 71, 72, 73, 74, 75, 76, 77, 78, 79, 80, 81, 82, 83, 84] (by decide +kernel) (by decide +kernel)
set_option maxRecDepth 20000 in
theorem gX5_loose_X5_strike : GoodIn wsX5_loose (wsV RX5 163 RX5 yX5_strike wsX5_strike) := goodIn_app (goodIn_of _ (by decide +kernel)) ggX5_loose_X5_strike
set_option maxRecDepth 20000 in
theorem ggX5_store_X5_in : GoodIn wsX5_store wsX5_in := goodIn_r _ [5] (by decide +kernel) (by decide +kernel)
set_option maxRecDepth 20000 in
theorem gX5_store_X5_in : GoodIn wsX5_store (va_wsS RX5 71 yX5_in wsX5_in) := goodIn_app (goodIn_of _ (by decide +kernel)) ggX5_store_X5_in
set_option maxRecDepth 20000 in
theorem ggX5_wet_X5_in : GoodIn wsX5_wet wsX5_in := goodIn_r _ [6] (by decide +kernel) (by decide +kernel)
set_option maxRecDepth 20000 in
theorem gX5_wet_X5_in : GoodIn wsX5_wet (va_wsS RX5 71 yX5_in wsX5_in) := goodIn_app (goodIn_of _ (by decide +kernel)) ggX5_wet_X5_in
set_option maxRecDepth 20000 in
theorem ggX5_lasts_X5_in : GoodIn wsX5_lasts wsX5_in := goodIn_r _ [4] (by decide +kernel) (by decide +kernel)
set_option maxRecDepth 20000 in
theorem gX5_lasts_X5_in : GoodIn wsX5_lasts (va_wsS RX5 71 yX5_in wsX5_in) := goodIn_app (goodIn_of _ (by decide +kernel)) ggX5_lasts_X5_in
set_option maxRecDepth 20000 in
theorem ggX5_lasts_X5_lastsBy : GoodIn wsX5_lasts wsX5_lastsBy := goodIn_r _ [8, 9, 10, 11, 12, 13, 14, 15, 16, 17, 18, 19, 20, 21, 22, 23, 24, 25, 26, 27, 28, 29, 30, 31, 32, 33, 34, 35, 36, 37, 38, 39, 40, 41, 42, 43, 44, 45] (by decide +kernel) (by decide +kernel)
set_option maxRecDepth 20000 in
theorem gX5_lasts_X5_lastsBy : GoodIn wsX5_lasts (wsV RX5 200 RX5 yX5_lastsBy wsX5_lastsBy) := goodIn_app (goodIn_of _ (by decide +kernel)) ggX5_lasts_X5_lastsBy
set_option maxRecDepth 20000 in
theorem ggX5_rate_X5_in : GoodIn wsX5_rate wsX5_in := goodIn_r _ [4] (by decide +kernel) (by decide +kernel)
set_option maxRecDepth 20000 in
theorem gX5_rate_X5_in : GoodIn wsX5_rate (va_wsS RX5 71 yX5_in wsX5_in) := goodIn_app (goodIn_of _ (by decide +kernel)) ggX5_rate_X5_in
set_option maxRecDepth 20000 in
theorem ggX5_rate_X5_lastsBy : GoodIn wsX5_rate wsX5_lastsBy := goodIn_r _ [8, 9, 10, 11, 12, 13, 14, 15, 16, 17, 18, 19, 20, 21, 22, 23, 24, 25, 26, 27, 28, 29, 30, 31, 32, 33, 34, 35, 36, 37, 38, 39, 40, 41, 42, 43, 44, 45] (by decide +kernel) (by decide +kernel)
set_option maxRecDepth 20000 in
theorem gX5_rate_X5_lastsBy : GoodIn wsX5_rate (wsV RX5 200 RX5 yX5_lastsBy wsX5_lastsBy) := goodIn_app (goodIn_of _ (by decide +kernel)) ggX5_rate_X5_lastsBy
set_option maxRecDepth 20000 in
theorem ggX5_count_X5_standing : GoodIn wsX5_count wsX5_standing := goodIn_r _ [12, 3, 13, 2, 14, 15, 16, 17, 18, 19, 20, 21, 22, 23, 24, 25, 26, 27, 28, 29, 30, 31, 32, 33, 34, 35, 36, 37, 38, 39, 40, 41, 42, 43, 44, 45, 46] (by decide +kernel) (by decide +kernel)
set_option maxRecDepth 20000 in
theorem gX5_count_X5_standing : GoodIn wsX5_count (wsV RX5 170 RX5 yX5_standing wsX5_standing) := goodIn_app (goodIn_of _ (by decide +kernel)) ggX5_count_X5_standing
