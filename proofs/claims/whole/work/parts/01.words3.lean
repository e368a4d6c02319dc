set_option maxRecDepth 20000 in
theorem ggX4_hit_X3_stands : GoodIn wsX4_hit wsX3_stands := goodIn_r _ [16, 17, 18, 3, 4, 5, 6, 7, 8, 19, 20, 21, 50, 51, 52, 53, 54, 55, 56] (by decide +kernel) (by decide +kernel)
set_option maxRecDepth 20000 in
theorem gX4_hit_X3_stands : GoodIn wsX4_hit (wsV RX4 129 RX3 yX3_stands wsX3_stands) := goodIn_app (goodIn_of _ (by decide +kernel)) ggX4_hit_X3_stands
set_option maxRecDepth 20000 in
theorem ggX4_hit_X3_strike : GoodIn wsX4_hit wsX3_strike := goodIn_r _ [25, 17, 26, 27, 28, 14, 15, 5, 16, 18, 3, 4, 6, 7, 8, 19, 20, 21, 29, 30, 31, 32, 33, 34, 35, 36, 37, 38, 39, 40, 41, 42, 50, 51, 52, 53, 54, 55, 56] (by decide +kernel) (by decide +kernel)
set_option maxRecDepth 20000 in
theorem gX4_hit_X3_strike : GoodIn wsX4_hit (wsV RX4 139 RX3 yX3_strike wsX3_strike) := goodIn_app (goodIn_of _ (by decide +kernel)) ggX4_hit_X3_strike
set_option maxRecDepth 20000 in
theorem ggX4_cell_X3_has : GoodIn wsX4_cell wsX3_has := goodIn_r _ [6, 7, 8, 38, 39, 40, 41, 42, 43, 44] (by decide +kernel) (by decide +kernel)
set_option maxRecDepth 20000 in
theorem gX4_cell_X3_has : GoodIn wsX4_cell (wsV RX4 126 RX3 yX3_has wsX3_has) := goodIn_app (goodIn_of _ (by decide +kernel)) ggX4_cell_X3_has
set_option maxRecDepth 20000 in
theorem ggX4_cell_X3_stands : GoodIn wsX4_cell wsX3_stands := goodIn_r _ [12, 13, 14, 3, 4, 5, 6, 7, 8, 15, 16, 17, 38, 39, 40, 41, 42, 43, 44] (by decide +kernel) (by decide +kernel)
set_option maxRecDepth 20000 in
theorem gX4_cell_X3_stands : GoodIn wsX4_cell (wsV RX4 129 RX3 yX3_stands wsX3_stands) := goodIn_app (goodIn_of _ (by decide +kernel)) ggX4_cell_X3_stands
set_option maxRecDepth 20000 in
theorem ggX4_cell_X3_strengthAt : GoodIn wsX4_cell wsX3_strengthAt := goodIn_r _ [21, 22, 14, 3, 4, 5, 6, 7, 8, 23, 24, 25, 38, 39, 40, 41, 42, 43, 44] (by decide +kernel) (by decide +kernel)
set_option maxRecDepth 20000 in
theorem gX4_cell_X3_strengthAt : GoodIn wsX4_cell (wsV RX4 142 RX3 yX3_strengthAt wsX3_strengthAt) := goodIn_app (goodIn_of _ (by decide +kernel)) ggX4_cell_X3_strengthAt
set_option maxRecDepth 20000 in
theorem ggX4_cell_X3_isPropped : GoodIn wsX4_cell wsX3_isPropped := goodIn_r _ [29, 30, 14, 3, 4, 5, 6, 7, 8, 15, 16, 17, 38, 39, 40, 41, 42, 43, 44] (by decide +kernel) (by decide +kernel)
set_option maxRecDepth 20000 in
theorem gX4_cell_X3_isPropped : GoodIn wsX4_cell (wsV RX4 145 RX3 yX3_isPropped wsX3_isPropped) := goodIn_app (goodIn_of _ (by decide +kernel)) ggX4_cell_X3_isPropped
set_option maxRecDepth 20000 in
theorem ggX4_level_X4_within : GoodIn wsX4_level wsX4_within := goodIn_r _ [5] (by decide +kernel) (by decide +kernel)
set_option maxRecDepth 20000 in
theorem gX4_level_X4_within : GoodIn wsX4_level (va_wsS RX4 49 yX4_within wsX4_within) := goodIn_app (goodIn_of _ (by decide +kernel)) ggX4_level_X4_within
set_option maxRecDepth 20000 in
theorem ggX4_level_X3_putLevel : GoodIn wsX4_level wsX3_putLevel := goodIn_r _ [10, 11, 19, 20, 21, 22, 23, 24, 25] (by decide +kernel) (by decide +kernel)
set_option maxRecDepth 20000 in
theorem gX4_level_X3_putLevel : GoodIn wsX4_level (wsV RX4 148 RX3 yX3_putLevel wsX3_putLevel) := goodIn_app (goodIn_of _ (by decide +kernel)) ggX4_level_X3_putLevel
set_option maxRecDepth 20000 in
theorem ggX4_open_X3_firstOpen : GoodIn wsX4_open wsX3_firstOpen := goodIn_r _ [6, 7, 8, 9, 10, 5, 11, 12, 13, 14, 15, 16, 17, 18, 19, 20, 28, 29, 30, 31, 32, 33, 34] (by decide +kernel) (by decide +kernel)
set_option maxRecDepth 20000 in
theorem gX4_open_X3_firstOpen : GoodIn wsX4_open (wsV RX4 151 RX3 yX3_firstOpen wsX3_firstOpen) := goodIn_app (goodIn_of _ (by decide +kernel)) ggX4_open_X3_firstOpen
set_option maxRecDepth 20000 in
theorem ggX4_soonest_X4_within : GoodIn wsX4_soonest wsX4_within := goodIn_r _ [5] (by decide +kernel) (by decide +kernel)
set_option maxRecDepth 20000 in
theorem gX4_soonest_X4_within : GoodIn wsX4_soonest (va_wsS RX4 49 yX4_within wsX4_within) := goodIn_app (goodIn_of _ (by decide +kernel)) ggX4_soonest_X4_within
set_option maxRecDepth 20000 in
theorem ggX4_soonest_X3_soonestColumn : GoodIn wsX4_soonest wsX3_soonestColumn := goodIn_r _ [10, 11, 12, 13, 14, 9, 15, 16, 17, 18, 19, 20, 21, 22, 23, 3, 4, 5, 24, 25, 26, 27, 28, 29, 30, 31, 32, 33, 34, 35, 36, 37, 38, 39, 40, 41, 42, 43, 44, 45, 46, 47, 48, 57, 58, 59, 60, 61, 62, 63] (by decide +kernel) (by decide +kernel)
set_option maxRecDepth 20000 in
theorem gX4_soonest_X3_soonestColumn : GoodIn wsX4_soonest (wsV RX4 154 RX3 yX3_soonestColumn wsX3_soonestColumn) := goodIn_app (goodIn_of _ (by decide +kernel)) ggX4_soonest_X3_soonestColumn
set_option maxRecDepth 20000 in
theorem ggX4_soonest_X3_hitsToOpen : GoodIn wsX4_soonest wsX3_hitsToOpen := goodIn_r _ [15, 11, 16, 17, 18, 19, 20, 21, 22, 23, 3, 4, 5, 24, 25, 26, 27, 28, 29, 30, 31, 32, 33, 9, 34, 35, 36, 37, 38, 39, 40, 41, 42, 43, 44, 45, 46, 47, 48, 57, 58, 59, 60, 61, 62, 63] (by decide +kernel) (by decide +kernel)
set_option maxRecDepth 20000 in
theorem gX4_soonest_X3_hitsToOpen : GoodIn wsX4_soonest (wsV RX4 157 RX3 yX3_hitsToOpen wsX3_hitsToOpen) := goodIn_app (goodIn_of _ (by decide +kernel)) ggX4_soonest_X3_hitsToOpen
set_option maxRecDepth 20000 in
theorem ggX4_scatter_X4_within : GoodIn wsX4_scatter wsX4_within := goodIn_r _ [5] (by decide +kernel) (by decide +kernel)
set_option maxRecDepth 20000 in
theorem gX4_scatter_X4_within : GoodIn wsX4_scatter (va_wsS RX4 49 yX4_within wsX4_within) := goodIn_app (goodIn_of _ (by decide +kernel)) ggX4_scatter_X4_within
set_option maxRecDepth 20000 in
theorem ggX4_scatter_X3_putWeight : GoodIn wsX4_scatter wsX3_putWeight := goodIn_r _ [10, 11, 12, 13, 9, 14, 3, 4, 5, 22, 23, 24, 25, 26, 27, 28] (by decide +kernel) (by decide +kernel)
set_option maxRecDepth 20000 in
theorem gX4_scatter_X3_putWeight : GoodIn wsX4_scatter (wsV RX4 160 RX3 yX3_putWeight wsX3_putWeight) := goodIn_app (goodIn_of _ (by decide +kernel)) ggX4_scatter_X3_putWeight
set_option maxRecDepth 20000 in
theorem ggX4_worth_X3_has : GoodIn wsX4_worth wsX3_has := goodIn_r _ [6, 7, 8, 61, 62, 63, 64, 65, 66, 67] (by decide +kernel) (by decide +kernel)
set_option maxRecDepth 20000 in
theorem gX4_worth_X3_has : GoodIn wsX4_worth (wsV RX4 126 RX3 yX3_has wsX3_has) := goodIn_app (goodIn_of _ (by decide +kernel)) ggX4_worth_X3_has
set_option maxRecDepth 20000 in
theorem ggX4_worth_X4_within : GoodIn wsX4_worth wsX4_within := goodIn_r _ [12] (by decide +kernel) (by decide +kernel)
set_option maxRecDepth 20000 in
theorem gX4_worth_X4_within : GoodIn wsX4_worth (va_wsS RX4 49 yX4_within wsX4_within) := goodIn_app (goodIn_of _ (by decide +kernel)) ggX4_worth_X4_within
set_option maxRecDepth 20000 in
theorem ggX4_worth_X3_worthOf : GoodIn wsX4_worth wsX3_worthOf := goodIn_r _ [16, 17, 18, 19, 5, 20, 21, 22, 23, 24, 25, 26, 27, 28, 29, 30, 31, 32, 3, 4, 6, 7, 8, 33, 34, 35, 36, 37, 38, 39, 40, 41, 42, 43, 44, 45, 46, 47, 48, 49, 50, 51, 52, 53, 61, 62, 63, 64, 65, 66, 67] (by decide +kernel) (by decide +kernel)
set_option maxRecDepth 20000 in
theorem gX4_worth_X3_worthOf : GoodIn wsX4_worth (wsV RX4 163 RX3 yX3_worthOf wsX3_worthOf) := goodIn_app (goodIn_of _ (by decide +kernel)) ggX4_worth_X3_worthOf
set_option maxRecDepth 20000 in
theorem ggX4_aim_X4_within : GoodIn wsX4_aim wsX4_within := goodIn_r _ [5] (by decide +kernel) (by decide +kernel)
set_option maxRecDepth 20000 in
theorem gX4_aim_X4_within : GoodIn wsX4_aim (va_wsS RX4 49 yX4_within wsX4_within) := goodIn_app (goodIn_of _ (by decide +kernel)) ggX4_aim_X4_within
set_option maxRecDepth 20000 in
theorem ggX4_aim_X3_bestAim : GoodIn wsX4_aim wsX3_bestAim := goodIn_r _ [10, 11, 12, 13, 14, 15, 9, 16, 17, 18, 19, 20, 21, 22, 23, 24, 25, 26, 27, 28, 29, 30, 31, 32, 33, 34, 35, 36, 37, 38, 39, 40, 41, 42, 43, 44, 45, 46, 47, 48, 49, 50, 51, 52, 53, 54, 55, 56, 57, 58, 59, 60, 61, 62, 63, 64, 75, 76, 77, 78, 79, 80, 81] (by decide +kernel) (by decide +kernel)
set_option maxRecDepth 20000 in
theorem gX4_aim_X3_bestAim : GoodIn wsX4_aim (wsV RX4 166 RX3 yX3_bestAim wsX3_bestAim) := goodIn_app (goodIn_of _ (by decide +kernel)) ggX4_aim_X3_bestAim
set_option maxRecDepth 20000 in
theorem ggX4_aim_X3_columnOf : GoodIn wsX4_aim wsX3_columnOf := goodIn_r _ [16, 11, 75, 76, 77, 78, 79, 80, 81] (by decide +kernel) (by decide +kernel)
set_option maxRecDepth 20000 in
theorem gX4_aim_X3_columnOf : GoodIn wsX4_aim (wsV RX4 169 RX3 yX3_columnOf wsX3_columnOf) := goodIn_app (goodIn_of _ (by decide +kernel)) ggX4_aim_X3_columnOf
set_option maxRecDepth 20000 in
theorem ggX4_aim_X3_rowOf : GoodIn wsX4_aim wsX3_rowOf := goodIn_r _ [20, 11, 75, 76, 77, 78, 79, 80, 81] (by decide +kernel) (by decide +kernel)
set_option maxRecDepth 20000 in
theorem gX4_aim_X3_rowOf : GoodIn wsX4_aim (wsV RX4 172 RX3 yX3_rowOf wsX3_rowOf) := goodIn_app (goodIn_of _ (by decide +kernel)) ggX4_aim_X3_rowOf
set_option maxRecDepth 20000 in
theorem ggX4_aim_X3_worthOf : GoodIn wsX4_aim wsX3_worthOf := goodIn_r _ [24, 25, 26, 27, 9, 28, 29, 30, 31, 32, 33, 34, 35, 36, 37, 38, 39, 40, 41, 42, 43, 11, 12, 44, 45, 46, 47, 48, 49, 50, 51, 52, 53, 54, 55, 56, 57, 58, 59, 60, 61, 62, 63, 64, 75, 76, 77, 78, 79, 80, 81] (by decide +kernel) (by decide +kernel)
set_option maxRecDepth 20000 in
theorem gX4_aim_X3_worthOf : GoodIn wsX4_aim (wsV RX4 163 RX3 yX3_worthOf wsX3_worthOf) := goodIn_app (goodIn_of _ (by decide +kernel)) ggX4_aim_X3_worthOf
set_option maxRecDepth 20000 in
theorem ggX4_held_X3_has : GoodIn wsX4_held wsX3_has := goodIn_r _ [7, 8, 9, 66, 67, 68, 69, 70, 71, 72] (by decide +kernel) (by decide +kernel)
set_option maxRecDepth 20000 in
theorem gX4_held_X3_has : GoodIn wsX4_held (wsV RX4 126 RX3 yX3_has wsX3_has) := goodIn_app (goodIn_of _ (by decide +kernel)) ggX4_held_X3_has
set_option maxRecDepth 20000 in
theorem ggX4_held_X4_within : GoodIn wsX4_held wsX4_within := goodIn_r _ [13] (by decide +kernel) (by decide +kernel)
set_option maxRecDepth 20000 in
theorem gX4_held_X4_within : GoodIn wsX4_held (va_wsS RX4 49 yX4_within wsX4_within) := goodIn_app (goodIn_of _ (by decide +kernel)) ggX4_held_X4_within
set_option maxRecDepth 20000 in
theorem ggX4_held_X3_firstOpen : GoodIn wsX4_held wsX3_firstOpen := goodIn_r _ [17, 8, 18, 19, 20, 6, 21, 22, 23, 24, 25, 26, 27, 28, 29, 30, 66, 67, 68, 69, 70, 71, 72] (by decide +kernel) (by decide +kernel)
set_option maxRecDepth 20000 in
theorem gX4_held_X3_firstOpen : GoodIn wsX4_held (wsV RX4 151 RX3 yX3_firstOpen wsX3_firstOpen) := goodIn_app (goodIn_of _ (by decide +kernel)) ggX4_held_X3_firstOpen
set_option maxRecDepth 20000 in
theorem ggX4_held_X3_heldAfter : GoodIn wsX4_held wsX3_heldAfter := goodIn_r _ [32, 33, 34, 35, 6, 36, 22, 37, 38, 39, 40, 41, 42, 43, 4, 5, 7, 8, 9, 44, 45, 46, 47, 31, 48, 49, 50, 51, 52, 53, 54, 24, 25, 26, 27, 28, 29, 30, 55, 56, 57, 58, 18, 19, 20, 21, 23, 66, 67, 68, 69, 70, 71, 72] (by decide +kernel) (by decide +kernel)
set_option maxRecDepth 20000 in
theorem gX4_held_X3_heldAfter_n177 : GoodIn wsX4_held (wsX3_heldAfter) := ggX4_held_X3_heldAfter
set_option maxRecDepth 20000 in
theorem ggX4_near_X4_within : GoodIn wsX4_near wsX4_within := goodIn_r _ [5] (by decide +kernel) (by decide +kernel)
set_option maxRecDepth 20000 in
theorem gX4_near_X4_within : GoodIn wsX4_near (va_wsS RX4 49 yX4_within wsX4_within) := goodIn_app (goodIn_of _ (by decide +kernel)) ggX4_near_X4_within
set_option maxRecDepth 20000 in
theorem ggX4_loose_X3_has : GoodIn wsX4_loose wsX3_has := goodIn_r _ [14, 15, 16, 136, 137, 138, 139, 140, 141, 142] (by decide +kernel) (by decide +kernel)
set_option maxRecDepth 20000 in
theorem gX4_loose_X3_has : GoodIn wsX4_loose (wsV RX4 126 RX3 yX3_has wsX3_has) := goodIn_app (goodIn_of _ (by decide +kernel)) ggX4_loose_X3_has
set_option maxRecDepth 20000 in
theorem ggX4_loose_X4_within : GoodIn wsX4_loose wsX4_within := goodIn_r _ [20] (by decide +kernel) (by decide +kernel)
set_option maxRecDepth 20000 in
theorem gX4_loose_X4_within : GoodIn wsX4_loose (va_wsS RX4 49 yX4_within wsX4_within) := goodIn_app (goodIn_of _ (by decide +kernel)) ggX4_loose_X4_within
set_option maxRecDepth 20000 in
theorem ggX4_loose_X2_stones : GoodIn wsX4_loose wsX2_stones := goodIn_r _ [25, 26, 143, 144, 145] (by decide +kernel) (by decide +kernel)
set_option maxRecDepth 20000 in
theorem gX4_loose_X2_stones : GoodIn wsX4_loose (wsV RX4 181 RX2 yX2_stones wsX2_stones) := goodIn_app (goodIn_of _ (by decide +kernel)) ggX4_loose_X2_stones
set_option maxRecDepth 20000 in
theorem ggX4_loose_X2_spendStone : GoodIn wsX4_loose wsX2_spendStone := goodIn_r _ [30, 26, 31, 32, 8, 33, 143, 144, 145] (by decide +kernel) (by decide +kernel)
set_option maxRecDepth 20000 in
theorem gX4_loose_X2_spendStone : GoodIn wsX4_loose (wsV RX4 186 RX2 yX2_spendStone wsX2_spendStone) := goodIn_app (goodIn_of _ (by decide +kernel)) ggX4_loose_X2_spendStone
set_option maxRecDepth 20000 in
theorem ggX4_loose_X1_reckonOwn : GoodIn wsX4_loose wsX1_reckonOwn := goodIn_r _ [38, 39, 40, 41, 42, 37, 43, 44, 45, 46, 47, 48, 49, 50, 51, 52, 53, 19, 54, 55, 56, 57, 58, 59, 60, 61, 62, 63, 64, 65, 66, 32, 8, 33, 18, 20, 67, 68, 69, 70, 71, 72, 73, 74, 6, 7, 9, 75, 76, 77, 78, 79, 80, 81, 82, 83, 84, 85, 86, 87, 88, 89, 146, 147, 148, 149, 150, 151] (by decide +kernel) (by decide +kernel)
set_option maxRecDepth 20000 in
theorem gX4_loose_X1_reckonOwn : GoodIn wsX4_loose (wsV RX4 60 RX1 yX1_reckonOwn wsX1_reckonOwn) := goodIn_app (goodIn_of _ (by decide +kernel)) ggX4_loose_X1_reckonOwn
set_option maxRecDepth 20000 in
theorem ggX4_loose_X3_stands : GoodIn wsX4_loose wsX3_stands := goodIn_r _ [93, 94, 95, 11, 12, 13, 14, 15, 16, 96, 97, 98, 136, 137, 138, 139, 140, 141, 142] (by decide +kernel) (by decide +kernel)
set_option maxRecDepth 20000 in
theorem gX4_loose_X3_stands : GoodIn wsX4_loose (wsV RX4 129 RX3 yX3_stands wsX3_stands) := goodIn_app (goodIn_of _ (by decide +kernel)) ggX4_loose_X3_stands
set_option maxRecDepth 20000 in
theorem ggX4_loose_X1_forceAt : GoodIn wsX4_loose wsX1_forceAt := goodIn_r _ [102, 103, 39, 104, 105, 106, 8, 107, 71, 19, 72, 55, 56, 57, 58, 146, 147, 148, 149, 150, 151] (by decide +kernel) (by decide +kernel)
set_option maxRecDepth 20000 in
theorem gX4_loose_X1_forceAt : GoodIn wsX4_loose (wsV RX4 194 RX1 yX1_forceAt wsX1_forceAt) := goodIn_app (goodIn_of _ (by decide +kernel)) ggX4_loose_X1_forceAt
set_option maxRecDepth 20000 in
theorem ggX4_loose_X3_strike : GoodIn wsX4_loose wsX3_strike := goodIn_r _ [111, 94, 112, 113, 114, 91, 92, 13, 93, 95, 11, 12, 14, 15, 16, 96, 97, 98, 115, 116, 117, 118, 119, 120, 121, 122, 123, 124, 125, 126, 127, 128, 136, 137, 138, 139, 140, 141, 142] (by decide +kernel) (by decide +kernel)
set_option maxRecDepth 20000 in
theorem gX4_loose_X3_strike : GoodIn wsX4_loose (wsV RX4 139 RX3 yX3_strike wsX3_strike) := goodIn_app (goodIn_of _ (by decide +kernel)) ggX4_loose_X3_strike
set_option maxRecDepth 20000 in
theorem ggX4_store_X2_takes : GoodIn wsX4_store wsX2_takes := goodIn_r _ [6, 7, 8, 9, 10, 11] (by decide +kernel) (by decide +kernel)
set_option maxRecDepth 20000 in
theorem gX4_store_X2_takes : GoodIn wsX4_store (wsV RX4 197 RX2 yX2_takes wsX2_takes) := goodIn_app (goodIn_of _ (by decide +kernel)) ggX4_store_X2_takes
set_option maxRecDepth 20000 in
theorem ggX4_store_X2_put : GoodIn wsX4_store wsX2_put := goodIn_r _ [15, 16, 17, 3, 4, 5, 6, 7, 8, 9, 10, 11, 25, 26, 27] (by decide +kernel) (by decide +kernel)
set_option maxRecDepth 20000 in
theorem gX4_store_X2_put : GoodIn wsX4_store (wsV RX4 198 RX2 yX2_put wsX2_put) := goodIn_app (goodIn_of _ (by decide +kernel)) ggX4_store_X2_put
set_option maxRecDepth 20000 in
theorem ggX4_wet_X4_within : GoodIn wsX4_wet wsX4_within := goodIn_r _ [5] (by decide +kernel) (by decide +kernel)
set_option maxRecDepth 20000 in
theorem gX4_wet_X4_within : GoodIn wsX4_wet (va_wsS RX4 49 yX4_within wsX4_within) := goodIn_app (goodIn_of _ (by decide +kernel)) ggX4_wet_X4_within
set_option maxRecDepth 20000 in
theorem ggX4_wet_X2_putWet : GoodIn wsX4_wet wsX2_putWet := goodIn_r _ [10, 11, 12, 20, 21, 22] (by decide +kernel) (by decide +kernel)
set_option maxRecDepth 20000 in
theorem gX4_wet_X2_putWet : GoodIn wsX4_wet (wsV RX4 199 RX2 yX2_putWet wsX2_putWet) := goodIn_app (goodIn_of _ (by decide +kernel)) ggX4_wet_X2_putWet
set_option maxRecDepth 20000 in
theorem ggX4_lasts_X4_within : GoodIn wsX4_lasts wsX4_within := goodIn_r _ [6] (by decide +kernel) (by decide +kernel)
set_option maxRecDepth 20000 in
theorem gX4_lasts_X4_within : GoodIn wsX4_lasts (va_wsS RX4 49 yX4_within wsX4_within) := goodIn_app (goodIn_of _ (by decide +kernel)) ggX4_lasts_X4_within
set_option maxRecDepth 20000 in
theorem ggX4_lasts_X1_turnsOfShot : GoodIn wsX4_lasts wsX1_turnsOfShot := goodIn_r _ [11, 12, 13, 14, 5, 15, 16, 17, 18, 19, 40, 41, 42, 43, 44, 45] (by decide +kernel) (by decide +kernel)
set_option maxRecDepth 20000 in
theorem gX4_lasts_X1_turnsOfShot : GoodIn wsX4_lasts (wsV RX4 202 RX1 yX1_turnsOfShot wsX1_turnsOfShot) := goodIn_app (goodIn_of _ (by decide +kernel)) ggX4_lasts_X1_turnsOfShot
set_option maxRecDepth 20000 in
theorem ggX4_lasts_X2_wholeDays : GoodIn wsX4_lasts wsX2_wholeDays := goodIn_r _ [24, 25, 26, 27, 28, 29, 23, 30, 31, 32, 14, 5, 15, 16, 17, 18, 19, 46, 47, 48] (by decide +kernel) (by decide +kernel)
set_option maxRecDepth 20000 in
theorem gX4_lasts_X2_wholeDays : GoodIn wsX4_lasts (wsV RX4 205 RX2 yX2_wholeDays wsX2_wholeDays) := goodIn_app (goodIn_of _ (by decide +kernel)) ggX4_lasts_X2_wholeDays
set_option maxRecDepth 20000 in
theorem ggX4_rate_X4_within : GoodIn wsX4_rate wsX4_within := goodIn_r _ [6] (by decide +kernel) (by decide +kernel)
set_option maxRecDepth 20000 in
theorem gX4_rate_X4_within : GoodIn wsX4_rate (va_wsS RX4 49 yX4_within wsX4_within) := goodIn_app (goodIn_of _ (by decide +kernel)) ggX4_rate_X4_within
set_option maxRecDepth 20000 in
theorem ggX4_rate_X1_turnsOfShot : GoodIn wsX4_rate wsX1_turnsOfShot := goodIn_r _ [11, 12, 13, 14, 5, 15, 16, 17, 18, 19, 44, 45, 46, 47, 48, 49] (by decide +kernel) (by decide +kernel)
set_option maxRecDepth 20000 in
theorem gX4_rate_X1_turnsOfShot : GoodIn wsX4_rate (wsV RX4 202 RX1 yX1_turnsOfShot wsX1_turnsOfShot) := goodIn_app (goodIn_of _ (by decide +kernel)) ggX4_rate_X1_turnsOfShot
set_option maxRecDepth 20000 in
theorem ggX4_rate_X2_bestRate : GoodIn wsX4_rate wsX2_bestRate := goodIn_r _ [24, 25, 26, 27, 23, 28, 29, 30, 31, 32, 33, 34, 35, 36, 14, 5, 15, 16, 17, 18, 19, 50, 51, 52] (by decide +kernel) (by decide +kernel)
set_option maxRecDepth 20000 in
theorem gX4_rate_X2_bestRate : GoodIn wsX4_rate (wsV RX4 208 RX2 yX2_bestRate wsX2_bestRate) := goodIn_app (goodIn_of _ (by decide +kernel)) ggX4_rate_X2_bestRate
set_option maxRecDepth 20000 in
theorem ggX4_count_X3_wide : GoodIn wsX4_count wsX3_wide := goodIn_r _ [10, 11, 57, 58, 59, 60, 61, 62, 63] (by decide +kernel) (by decide +kernel)
set_option maxRecDepth 20000 in
theorem gX4_count_X3_wide : GoodIn wsX4_count (wsV RX4 211 RX3 yX3_wide wsX3_wide) := goodIn_app (goodIn_of _ (by decide +kernel)) ggX4_count_X3_wide
set_option maxRecDepth 20000 in
theorem ggX4_count_X3_high : GoodIn wsX4_count wsX3_high := goodIn_r _ [15, 16, 57, 58, 59, 60, 61, 62, 63] (by decide +kernel) (by decide +kernel)
set_option maxRecDepth 20000 in
theorem gX4_count_X3_high : GoodIn wsX4_count (wsV RX4 214 RX3 yX3_high wsX3_high) := goodIn_app (goodIn_of _ (by decide +kernel)) ggX4_count_X3_high
set_option maxRecDepth 20000 in
theorem ggX4_count_X3_standingCells : GoodIn wsX4_count wsX3_standingCells := goodIn_r _ [20, 11, 21, 22, 23, 24, 25, 26, 27, 28, 57, 58, 59, 60, 61, 62, 63] (by decide +kernel) (by decide +kernel)
set_option maxRecDepth 20000 in
theorem gX4_count_X3_standingCells : GoodIn wsX4_count (wsV RX4 217 RX3 yX3_standingCells wsX3_standingCells) := goodIn_app (goodIn_of _ (by decide +kernel)) ggX4_count_X3_standingCells
set_option maxRecDepth 20000 in
theorem ggX4_count_X0_told : GoodIn wsX4_count wsX0_told := goodIn_r _ [33, 34, 64, 65, 66, 67, 68, 69, 70] (by decide +kernel) (by decide +kernel)
set_option maxRecDepth 20000 in
theorem gX4_count_X0_told : GoodIn wsX4_count (wsV RX4 90 RX0 yX0_told wsX0_told) := goodIn_app (goodIn_of _ (by decide +kernel)) ggX4_count_X0_told
set_option maxRecDepth 20000 in
theorem ggX4_count_X2_stones : GoodIn wsX4_count wsX2_stones := goodIn_r _ [39, 40, 71, 72, 73] (by decide +kernel) (by decide +kernel)
set_option maxRecDepth 20000 in
theorem gX4_count_X2_stones : GoodIn wsX4_count (wsV RX4 181 RX2 yX2_stones wsX2_stones) := goodIn_app (goodIn_of _ (by decide +kernel)) ggX4_count_X2_stones
set_option maxRecDepth 20000 in
theorem ggX4_count_X3_openColumns : GoodIn wsX4_count wsX3_openColumns := goodIn_r _ [44, 11, 45, 46, 47, 9, 48, 21, 49, 22, 23, 24, 25, 26, 27, 28, 57, 58, 59, 60, 61, 62, 63] (by decide +kernel) (by decide +kernel)
set_option maxRecDepth 20000 in
theorem gX4_count_X3_openColumns : GoodIn wsX4_count (wsV RX4 220 RX3 yX3_openColumns wsX3_openColumns) := goodIn_app (goodIn_of _ (by decide +kernel)) ggX4_count_X3_openColumns
set_option maxRecDepth 20000 in
theorem ggX4_down_J9_floorDiv_f86c9 : GoodIn wsX4_down wsJ9_floorDiv_f86c9 := goodIn_r _ [4] (by decide +kernel) (by decide +kernel)
set_option maxRecDepth 20000 in
theorem gX4_down_J9_floorDiv_f86c9 : GoodIn wsX4_down (va_wsS RX4 223 yJ9_floorDiv_f86c9 wsJ9_floorDiv_f86c9) := goodIn_app (goodIn_of _ (by decide +kernel)) ggX4_down_J9_floorDiv_f86c9
set_option maxRecDepth 20000 in
theorem ggX4_up_J9_floorDiv_f86c9 : GoodIn wsX4_up wsJ9_floorDiv_f86c9 := goodIn_r _ [4] (by decide +kernel) (by decide +kernel)
set_option maxRecDepth 20000 in
theorem gX4_up_J9_floorDiv_f86c9 : GoodIn wsX4_up (va_wsS RX4 223 yJ9_floorDiv_f86c9 wsJ9_floorDiv_f86c9) := goodIn_app (goodIn_of _ (by decide +kernel)) ggX4_up_J9_floorDiv_f86c9
set_option maxRecDepth 20000 in
theorem ggX4_sineOf_X4_down : GoodIn wsX4_sineOf wsX4_down := goodIn_r _ [10, 11, 12, 13, 14] (by decide +kernel) (by decide +kernel)
set_option maxRecDepth 20000 in
theorem gX4_sineOf_X4_down : GoodIn wsX4_sineOf (va_wsS RX4 231 yX4_down wsX4_down) := goodIn_app (goodIn_of _ (by decide +kernel)) ggX4_sineOf_X4_down
set_option maxRecDepth 20000 in
theorem ggX5_init_X5_newWall : GoodIn wsX5_init wsX5_newWall := goodIn_r _ [28, 11, 12, 13, 29, 30, 31, 32, 33, 34, 35, 36, 37, 38, 39, 40, 41, 42, 43, 44, 45, 46, 47, 48, 49, 50, 51, 52, 53, 54, 55, 56, 57, 58, 59, 60, 61] (by decide +kernel) (by decide +kernel)
set_option maxRecDepth 20000 in
theorem gX5_init_X5_newWall : GoodIn wsX5_init (wsV RX5 68 RX5 yX5_newWall wsX5_newWall) := goodIn_app (goodIn_of _ (by decide +kernel)) ggX5_init_X5_newWall
set_option maxRecDepth 20000 in
theorem ggX5_set_X5_in : GoodIn wsX5_set wsX5_in := goodIn_r _ [6] (by decide +kernel) (by decide +kernel)
set_option maxRecDepth 20000 in
theorem gX5_set_X5_in : GoodIn wsX5_set (va_wsS RX5 71 yX5_in wsX5_in) := goodIn_app (goodIn_of _ (by decide +kernel)) ggX5_set_X5_in
set_option maxRecDepth 20000 in
theorem ggX5_set_X5_least : GoodIn wsX5_set wsX5_least := goodIn_r _ [9] (by decide +kernel) (by decide +kernel)
set_option maxRecDepth 20000 in
theorem gX5_set_X5_least : GoodIn wsX5_set (va_wsS RX5 75 yX5_least wsX5_least) := goodIn_app (goodIn_of _ (by decide +kernel)) ggX5_set_X5_least
set_option maxRecDepth 20000 in
theorem ggX5_set_X5_most : GoodIn wsX5_set wsX5_most := goodIn_r _ [12] (by decide +kernel) (by decide +kernel)
set_option maxRecDepth 20000 in
theorem gX5_set_X5_most : GoodIn wsX5_set (va_wsS RX5 79 yX5_most wsX5_most) := goodIn_app (goodIn_of _ (by decide +kernel)) ggX5_set_X5_most
set_option maxRecDepth 20000 in
theorem ggX5_wind_X5_in : GoodIn wsX5_wind wsX5_in := goodIn_r _ [5] (by decide +kernel) (by decide +kernel)
set_option maxRecDepth 20000 in
theorem gX5_wind_X5_in : GoodIn wsX5_wind (va_wsS RX5 71 yX5_in wsX5_in) := goodIn_app (goodIn_of _ (by decide +kernel)) ggX5_wind_X5_in
set_option maxRecDepth 20000 in
theorem ggX5_sineOf_X5_size : GoodIn wsX5_sineOf wsX5_size := goodIn_r _ [5] (by decide +kernel) (by decide +kernel)
set_option maxRecDepth 20000 in
theorem gX5_sineOf_X5_size : GoodIn wsX5_sineOf (va_wsS RX5 88 yX5_size wsX5_size) := goodIn_app (goodIn_of _ (by decide +kernel)) ggX5_sineOf_X5_size
set_option maxRecDepth 20000 in
theorem ggX5_sine_X5_in : GoodIn wsX5_sine wsX5_in := goodIn_r _ [4] (by decide +kernel) (by decide +kernel)
set_option maxRecDepth 20000 in
theorem gX5_sine_X5_in : GoodIn wsX5_sine (va_wsS RX5 71 yX5_in wsX5_in) := goodIn_app (goodIn_of _ (by decide +kernel)) ggX5_sine_X5_in
set_option maxRecDepth 20000 in
theorem ggX5_sine_X5_sineOf : GoodIn wsX5_sine wsX5_sineOf := goodIn_r _ [7, 8, 9, 10, 3, 11] (by decide +kernel) (by decide +kernel)
set_option maxRecDepth 20000 in
theorem gX5_sine_X5_sineOf : GoodIn wsX5_sine (va_wsS RX5 92 yX5_sineOf wsX5_sineOf) := goodIn_app (goodIn_of _ (by decide +kernel)) ggX5_sine_X5_sineOf
set_option maxRecDepth 20000 in
theorem ggX5_givenAt_X5_sineOf : GoodIn wsX5_givenAt wsX5_sineOf := goodIn_r _ [6, 7, 8, 9, 5, 10] (by decide +kernel) (by decide +kernel)
set_option maxRecDepth 20000 in
theorem gX5_givenAt_X5_sineOf : GoodIn wsX5_givenAt (va_wsS RX5 92 yX5_sineOf wsX5_sineOf) := goodIn_app (goodIn_of _ (by decide +kernel)) ggX5_givenAt_X5_sineOf
set_option maxRecDepth 20000 in
theorem ggX5_step_X5_givenAt : GoodIn wsX5_step wsX5_givenAt := goodIn_r _ [16, 8, 17, 18, 19, 15, 20, 21, 22, 23, 24, 32, 33, 34, 35, 36, 37, 38, 39, 40, 41, 42, 43, 44, 45, 46, 47, 48, 49, 50, 51, 52, 53, 54, 55, 56, 57, 58, 59, 60, 61, 62, 63, 64] (by decide +kernel) (by decide +kernel)
set_option maxRecDepth 20000 in
theorem gX5_step_X5_givenAt : GoodIn wsX5_step (wsV RX5 118 RX5 yX5_givenAt wsX5_givenAt) := goodIn_app (goodIn_of _ (by decide +kernel)) ggX5_step_X5_givenAt
set_option maxRecDepth 20000 in
theorem ggX5_step_X5_in : GoodIn wsX5_step wsX5_in := goodIn_r _ [27] (by decide +kernel) (by decide +kernel)
set_option maxRecDepth 20000 in
theorem gX5_step_X5_in : GoodIn wsX5_step (va_wsS RX5 71 yX5_in wsX5_in) := goodIn_app (goodIn_of _ (by decide +kernel)) ggX5_step_X5_in
set_option maxRecDepth 20000 in
theorem ggX5_step_X5_sineOf : GoodIn wsX5_step wsX5_sineOf := goodIn_r _ [20, 21, 22, 23, 15, 24] (by decide +kernel) (by decide +kernel)
set_option maxRecDepth 20000 in
theorem gX5_step_X5_sineOf : GoodIn wsX5_step (va_wsS RX5 92 yX5_sineOf wsX5_sineOf) := goodIn_app (goodIn_of _ (by decide +kernel)) ggX5_step_X5_sineOf
set_option maxRecDepth 20000 in
theorem ggX5_step_X5_flightOf : GoodIn wsX5_step wsX5_flightOf := goodIn_r _ [31, 8, 32, 33, 34, 35, 36, 37, 38, 39, 40, 41, 42, 43, 44, 45, 46, 47, 48, 49, 50, 51, 52, 53, 54, 55, 56, 57, 58, 59, 60, 61, 62, 63, 64] (by decide +kernel) (by decide +kernel)
set_option maxRecDepth 20000 in
theorem gX5_step_X5_flightOf : GoodIn wsX5_step (wsV RX5 125 RX5 yX5_flightOf wsX5_flightOf) := goodIn_app (goodIn_of _ (by decide +kernel)) ggX5_step_X5_flightOf
set_option maxRecDepth 20000 in
theorem ggX5_throwing_X5_step : GoodIn wsX5_throwing wsX5_step := goodIn_r _ [13, 2, 3, 4, 5, 6, 7, 8, 1, 14, 15, 16, 17, 18, 19, 12, 20, 21, 22, 23, 24, 25, 26, 27, 28, 29, 30, 31, 32, 33, 34, 35, 36, 37, 38, 39, 40, 41, 42, 43, 44, 45, 46, 47, 48, 49, 50, 51, 52, 53, 54, 55, 56, 57, 58, 59, 60, 61, 62, 63, 64, 65, 66, 67, 68] (by decide +kernel) (by decide +kernel)
set_option maxRecDepth 20000 in
theorem gX5_throwing_X5_step : GoodIn wsX5_throwing (wsV RX5 129 RX5 yX5_step wsX5_step) := goodIn_app (goodIn_of _ (by decide +kernel)) ggX5_throwing_X5_step
set_option maxRecDepth 20000 in
theorem ggX5_flight_X5_in : GoodIn wsX5_flight wsX5_in := goodIn_r _ [7] (by decide +kernel) (by decide +kernel)
set_option maxRecDepth 20000 in
theorem gX5_flight_X5_in : GoodIn wsX5_flight (va_wsS RX5 71 yX5_in wsX5_in) := goodIn_app (goodIn_of _ (by decide +kernel)) ggX5_flight_X5_in
set_option maxRecDepth 20000 in
theorem ggX5_flight_X5_flightOf : GoodIn wsX5_flight wsX5_flightOf := goodIn_r _ [11, 12, 13, 14, 15, 16, 17, 18, 19, 20, 21, 22, 23, 24, 25, 26, 27, 28, 29, 30, 31, 32, 33, 34, 35, 36, 37, 38, 39, 40, 41, 42, 43, 44, 45] (by decide +kernel) (by decide +kernel)
set_option maxRecDepth 20000 in
theorem gX5_flight_X5_flightOf : GoodIn wsX5_flight (wsV RX5 125 RX5 yX5_flightOf wsX5_flightOf) := goodIn_app (goodIn_of _ (by decide +kernel)) ggX5_flight_X5_flightOf
