set_option maxRecDepth 20000 in
theorem ggX3_hitsToOpen_X3_hitsToKeep : GoodIn wsX3_hitsToOpen wsX3_hitsToKeep := goodIn_r _ [24, 3, 25, 2, 4, 26, 27, 28, 23, 29, 30, 31, 32, 33, 11, 34, 35, 36, 37, 38, 39, 40, 41, 42, 43, 44, 45] (by decide +kernel) (by decide +kernel)
set_option maxRecDepth 20000 in
theorem gX3_hitsToOpen_X3_hitsToKeep : GoodIn wsX3_hitsToOpen (wsV RX3 74 RX3 yX3_hitsToKeep wsX3_hitsToKeep) := goodIn_app (goodIn_of _ (by decide +kernel)) ggX3_hitsToOpen_X3_hitsToKeep
set_option maxRecDepth 20000 in
theorem ggX3_hitsToKeep_X3_holds : GoodIn wsX3_hitsToKeep wsX3_holds := goodIn_r _ [9] (by decide +kernel) (by decide +kernel)
set_option maxRecDepth 20000 in
theorem gX3_hitsToKeep_X3_holds : GoodIn wsX3_hitsToKeep (va_wsS RX3 39 yX3_holds wsX3_holds) := goodIn_app (goodIn_of _ (by decide +kernel)) ggX3_hitsToKeep_X3_holds
set_option maxRecDepth 20000 in
theorem ggX3_hitsToKeep_X3_place : GoodIn wsX3_hitsToKeep wsX3_place := goodIn_r _ [12] (by decide +kernel) (by decide +kernel)
set_option maxRecDepth 20000 in
theorem gX3_hitsToKeep_X3_place : GoodIn wsX3_hitsToKeep (va_wsS RX3 42 yX3_place wsX3_place) := goodIn_app (goodIn_of _ (by decide +kernel)) ggX3_hitsToKeep_X3_place
set_option maxRecDepth 20000 in
theorem ggX3_hitsToKeep_X4_up : GoodIn wsX3_hitsToKeep wsX4_up := goodIn_r _ [15, 16, 17, 18, 19] (by decide +kernel) (by decide +kernel)
set_option maxRecDepth 20000 in
theorem gX3_hitsToKeep_X4_up_n83 : GoodIn wsX3_hitsToKeep (wsX4_up) := ggX3_hitsToKeep_X4_up
set_option maxRecDepth 20000 in
theorem ggX3_putWeight_X3_weightPlace : GoodIn wsX3_putWeight wsX3_weightPlace := goodIn_r _ [5] (by decide +kernel) (by decide +kernel)
set_option maxRecDepth 20000 in
theorem gX3_putWeight_X3_weightPlace : GoodIn wsX3_putWeight (va_wsS RX3 87 yX3_weightPlace wsX3_weightPlace) := goodIn_app (goodIn_of _ (by decide +kernel)) ggX3_putWeight_X3_weightPlace
set_option maxRecDepth 20000 in
theorem ggX3_putWeight_X4_within : GoodIn wsX3_putWeight wsX4_within := goodIn_r _ [8] (by decide +kernel) (by decide +kernel)
set_option maxRecDepth 20000 in
theorem gX3_putWeight_X4_within_n69 : GoodIn wsX3_putWeight (wsX4_within) := ggX3_putWeight_X4_within
set_option maxRecDepth 20000 in
theorem ggX3_worthOf_X3_weightPlace : GoodIn wsX3_worthOf wsX3_weightPlace := goodIn_r _ [5] (by decide +kernel) (by decide +kernel)
set_option maxRecDepth 20000 in
theorem gX3_worthOf_X3_weightPlace : GoodIn wsX3_worthOf (va_wsS RX3 87 yX3_weightPlace wsX3_weightPlace) := goodIn_app (goodIn_of _ (by decide +kernel)) ggX3_worthOf_X3_weightPlace
set_option maxRecDepth 20000 in
theorem ggX3_worthOf_X3_fallsBy : GoodIn wsX3_worthOf wsX3_fallsBy := goodIn_r _ [9, 10, 11, 12, 13, 14, 15, 4, 16, 17, 18, 19, 20, 21, 22, 23, 24, 25, 26, 27, 28, 29, 30, 31, 32, 33, 34, 35, 36, 37, 38, 39, 40, 41, 42, 43, 44, 45, 46, 47, 48, 49, 50] (by decide +kernel) (by decide +kernel)
set_option maxRecDepth 20000 in
theorem gX3_worthOf_X3_fallsBy : GoodIn wsX3_worthOf (wsV RX3 90 RX3 yX3_fallsBy wsX3_fallsBy) := goodIn_app (goodIn_of _ (by decide +kernel)) ggX3_worthOf_X3_fallsBy
set_option maxRecDepth 20000 in
theorem ggX3_fallsBy_X3_stands : GoodIn wsX3_fallsBy wsX3_stands := goodIn_r _ [8, 1, 9, 10, 11, 7, 12, 13, 14, 15, 16, 17, 36, 37, 38, 39, 40, 41, 42] (by decide +kernel) (by decide +kernel)
set_option maxRecDepth 20000 in
theorem gX3_fallsBy_X3_stands : GoodIn wsX3_fallsBy (wsV RX3 46 RX3 yX3_stands wsX3_stands) := goodIn_app (goodIn_of _ (by decide +kernel)) ggX3_fallsBy_X3_stands
set_option maxRecDepth 20000 in
theorem ggX3_fallsBy_X3_place : GoodIn wsX3_fallsBy wsX3_place := goodIn_r _ [20] (by decide +kernel) (by decide +kernel)
set_option maxRecDepth 20000 in
theorem gX3_fallsBy_X3_place : GoodIn wsX3_fallsBy (va_wsS RX3 42 yX3_place wsX3_place) := goodIn_app (goodIn_of _ (by decide +kernel)) ggX3_fallsBy_X3_place
set_option maxRecDepth 20000 in
theorem ggX3_fallsBy_X3_strike : GoodIn wsX3_fallsBy wsX3_strike := goodIn_r _ [24, 1, 3, 2, 4, 5, 6, 7, 8, 9, 10, 11, 12, 13, 14, 15, 16, 17, 25, 26, 27, 28, 29, 30, 31, 18, 19, 20, 32, 33, 34, 35, 36, 37, 38, 39, 40, 41, 42] (by decide +kernel) (by decide +kernel)
set_option maxRecDepth 20000 in
theorem gX3_fallsBy_X3_strike : GoodIn wsX3_fallsBy (wsV RX3 93 RX3 yX3_strike wsX3_strike) := goodIn_app (goodIn_of _ (by decide +kernel)) ggX3_fallsBy_X3_strike
set_option maxRecDepth 20000 in
theorem ggX3_bestAim_X3_columnOf : GoodIn wsX3_bestAim wsX3_columnOf := goodIn_r _ [7, 1, 56, 57, 58, 59, 60, 61, 62] (by decide +kernel) (by decide +kernel)
set_option maxRecDepth 20000 in
theorem gX3_bestAim_X3_columnOf : GoodIn wsX3_bestAim (wsV RX3 96 RX3 yX3_columnOf wsX3_columnOf) := goodIn_app (goodIn_of _ (by decide +kernel)) ggX3_bestAim_X3_columnOf
set_option maxRecDepth 20000 in
theorem ggX3_bestAim_X3_rowOf : GoodIn wsX3_bestAim wsX3_rowOf := goodIn_r _ [11, 1, 56, 57, 58, 59, 60, 61, 62] (by decide +kernel) (by decide +kernel)
set_option maxRecDepth 20000 in
theorem gX3_bestAim_X3_rowOf : GoodIn wsX3_bestAim (wsV RX3 99 RX3 yX3_rowOf wsX3_rowOf) := goodIn_app (goodIn_of _ (by decide +kernel)) ggX3_bestAim_X3_rowOf
set_option maxRecDepth 20000 in
theorem ggX3_bestAim_X3_worthOf : GoodIn wsX3_bestAim wsX3_worthOf := goodIn_r _ [15, 16, 17, 18, 6, 19, 20, 21, 22, 23, 24, 25, 26, 27, 28, 29, 30, 31, 32, 33, 34, 1, 2, 35, 36, 37, 38, 39, 40, 41, 42, 43, 44, 45, 46, 47, 48, 49, 50, 51, 52, 53, 54, 55, 56, 57, 58, 59, 60, 61, 62] (by decide +kernel) (by decide +kernel)
set_option maxRecDepth 20000 in
theorem gX3_bestAim_X3_worthOf : GoodIn wsX3_bestAim (wsV RX3 102 RX3 yX3_worthOf wsX3_worthOf) := goodIn_app (goodIn_of _ (by decide +kernel)) ggX3_bestAim_X3_worthOf
set_option maxRecDepth 20000 in
theorem ggX3_heldAfter_X3_heldBy : GoodIn wsX3_heldAfter wsX3_heldBy := goodIn_r _ [5, 6, 7, 8, 9, 10, 11, 4, 12, 13, 14, 15, 16, 17, 18, 19, 20, 21, 22, 23, 24, 25, 26, 27, 28, 29, 30, 31, 32, 33, 34, 35, 36, 37, 38, 39, 40, 41, 42, 43, 44, 45, 46, 0, 1, 2, 3, 47, 48, 49, 50, 51, 52, 53] (by decide +kernel) (by decide +kernel)
set_option maxRecDepth 20000 in
theorem gX3_heldAfter_X3_heldBy : GoodIn wsX3_heldAfter (va_wsS RX3 105 yX3_heldBy wsX3_heldBy) := goodIn_app (goodIn_of _ (by decide +kernel)) ggX3_heldAfter_X3_heldBy
set_option maxRecDepth 20000 in
theorem ggX3_heldBy_X3_stands : GoodIn wsX3_heldBy wsX3_stands := goodIn_r _ [8, 1, 9, 10, 11, 7, 12, 13, 14, 15, 16, 17, 47, 48, 49, 50, 51, 52, 53] (by decide +kernel) (by decide +kernel)
set_option maxRecDepth 20000 in
theorem gX3_heldBy_X3_stands : GoodIn wsX3_heldBy (wsV RX3 46 RX3 yX3_stands wsX3_stands) := goodIn_app (goodIn_of _ (by decide +kernel)) ggX3_heldBy_X3_stands
set_option maxRecDepth 20000 in
theorem ggX3_heldBy_X3_heldAfter : GoodIn wsX3_heldBy wsX3_heldAfter := goodIn_r _ [43, 44, 45, 46, 7, 0, 1, 2, 3, 4, 5, 6, 8, 9, 10, 11, 12, 13, 14, 15, 16, 17, 18, 19, 20, 21, 22, 23, 24, 25, 26, 27, 28, 29, 30, 31, 32, 33, 34, 35, 36, 37, 38, 39, 40, 41, 42, 47, 48, 49, 50, 51, 52, 53] (by decide +kernel) (by decide +kernel)
set_option maxRecDepth 20000 in
theorem gX3_heldBy_X3_heldAfter : GoodIn wsX3_heldBy (va_wsS RX3 109 yX3_heldAfter wsX3_heldAfter) := goodIn_app (goodIn_of _ (by decide +kernel)) ggX3_heldBy_X3_heldAfter
set_option maxRecDepth 20000 in
theorem ggX3_heldBy_X3_place : GoodIn wsX3_heldBy wsX3_place := goodIn_r _ [22] (by decide +kernel) (by decide +kernel)
set_option maxRecDepth 20000 in
theorem gX3_heldBy_X3_place : GoodIn wsX3_heldBy (va_wsS RX3 42 yX3_place wsX3_place) := goodIn_app (goodIn_of _ (by decide +kernel)) ggX3_heldBy_X3_place
set_option maxRecDepth 20000 in
theorem ggX3_heldBy_X3_strike : GoodIn wsX3_heldBy wsX3_strike := goodIn_r _ [26, 1, 3, 2, 4, 5, 6, 7, 8, 9, 10, 11, 12, 13, 14, 15, 16, 17, 27, 28, 29, 30, 31, 32, 33, 20, 21, 22, 34, 35, 36, 37, 47, 48, 49, 50, 51, 52, 53] (by decide +kernel) (by decide +kernel)
set_option maxRecDepth 20000 in
theorem gX3_heldBy_X3_strike : GoodIn wsX3_heldBy (wsV RX3 93 RX3 yX3_strike wsX3_strike) := goodIn_app (goodIn_of _ (by decide +kernel)) ggX3_heldBy_X3_strike
set_option maxRecDepth 20000 in
theorem ggX3_heldBy_X3_isOpen : GoodIn wsX3_heldBy wsX3_isOpen := goodIn_r _ [41, 1, 42, 27, 28, 29, 30, 31, 32, 33, 47, 48, 49, 50, 51, 52, 53] (by decide +kernel) (by decide +kernel)
set_option maxRecDepth 20000 in
theorem gX3_heldBy_X3_isOpen : GoodIn wsX3_heldBy (wsV RX3 62 RX3 yX3_isOpen wsX3_isOpen) := goodIn_app (goodIn_of _ (by decide +kernel)) ggX3_heldBy_X3_isOpen
set_option maxRecDepth 20000 in
theorem ggX4_init_X1_init : GoodIn wsX4_init wsX1_init := goodIn_r _ [23, 24, 2, 3, 25, 26, 27, 28, 29, 30, 31, 32, 6, 33, 34, 35, 36, 37, 38, 39, 40, 41, 42, 43, 44, 45, 46, 47, 48, 49, 50, 51, 82, 83, 84, 85, 86, 87] (by decide +kernel) (by decide +kernel)
set_option maxRecDepth 20000 in
theorem gX4_init_X1_init : GoodIn wsX4_init (wsX1_init) := ggX4_init_X1_init
set_option maxRecDepth 20000 in
theorem ggX4_init_X0_init : GoodIn wsX4_init wsX0_init := goodIn_r _ [54, 55, 2, 3, 25, 56, 57, 58, 59, 60, 61, 95, 96, 97, 98, 99, 100, 101] (by decide +kernel) (by decide +kernel)
set_option maxRecDepth 20000 in
theorem gX4_init_X0_init : GoodIn wsX4_init (wsX0_init) := ggX4_init_X0_init
set_option maxRecDepth 20000 in
theorem ggX4_init_X3_init : GoodIn wsX4_init wsX3_init := goodIn_r _ [64, 65, 2, 3, 25, 66, 67, 68, 69, 70, 71, 72, 14, 73, 74, 75, 102, 103, 104, 105, 106, 107, 108] (by decide +kernel) (by decide +kernel)
set_option maxRecDepth 20000 in
theorem gX4_init_X3_init : GoodIn wsX4_init (wsX3_init) := ggX4_init_X3_init
set_option maxRecDepth 20000 in
theorem ggX4_init_X2_init : GoodIn wsX4_init wsX2_init := goodIn_r _ [78, 79, 2, 3, 25, 80, 81, 109, 110, 111] (by decide +kernel) (by decide +kernel)
set_option maxRecDepth 20000 in
theorem gX4_init_X2_init : GoodIn wsX4_init (wsX2_init) := ggX4_init_X2_init
set_option maxRecDepth 20000 in
theorem ggX4_set_X1_takes : GoodIn wsX4_set wsX1_takes := goodIn_r _ [7, 8, 9, 10, 11, 12] (by decide +kernel) (by decide +kernel)
set_option maxRecDepth 20000 in
theorem gX4_set_X1_takes : GoodIn wsX4_set (wsV RX4 41 RX1 yX1_takes wsX1_takes) := goodIn_app (goodIn_of _ (by decide +kernel)) ggX4_set_X1_takes
set_option maxRecDepth 20000 in
theorem ggX4_set_X1_put : GoodIn wsX4_set wsX1_put := goodIn_r _ [16, 17, 18, 4, 5, 6, 7, 8, 9, 10, 11, 12, 19, 20, 21, 22, 23, 24, 25, 26, 27, 28, 29, 30, 31, 32, 33, 34, 35, 36, 37, 38, 39, 40, 48, 49, 50, 51, 52, 53] (by decide +kernel) (by decide +kernel)
set_option maxRecDepth 20000 in
theorem gX4_set_X1_put : GoodIn wsX4_set (wsV RX4 45 RX1 yX1_put wsX1_put) := goodIn_app (goodIn_of _ (by decide +kernel)) ggX4_set_X1_put
set_option maxRecDepth 20000 in
theorem ggX4_wind_X4_within : GoodIn wsX4_wind wsX4_within := goodIn_r _ [5] (by decide +kernel) (by decide +kernel)
set_option maxRecDepth 20000 in
theorem gX4_wind_X4_within : GoodIn wsX4_wind (va_wsS RX4 49 yX4_within wsX4_within) := goodIn_app (goodIn_of _ (by decide +kernel)) ggX4_wind_X4_within
set_option maxRecDepth 20000 in
theorem ggX4_wind_X1_putWind : GoodIn wsX4_wind wsX1_putWind := goodIn_r _ [10, 11, 19, 20, 21, 22, 23, 24] (by decide +kernel) (by decide +kernel)
set_option maxRecDepth 20000 in
theorem gX4_wind_X1_putWind : GoodIn wsX4_wind (wsV RX4 53 RX1 yX1_putWind wsX1_putWind) := goodIn_app (goodIn_of _ (by decide +kernel)) ggX4_wind_X1_putWind
set_option maxRecDepth 20000 in
theorem ggX4_sine_X4_within : GoodIn wsX4_sine wsX4_within := goodIn_r _ [4] (by decide +kernel) (by decide +kernel)
set_option maxRecDepth 20000 in
theorem gX4_sine_X4_within : GoodIn wsX4_sine (va_wsS RX4 49 yX4_within wsX4_within) := goodIn_app (goodIn_of _ (by decide +kernel)) ggX4_sine_X4_within
set_option maxRecDepth 20000 in
theorem ggX4_sine_X4_sineOf : GoodIn wsX4_sine wsX4_sineOf := goodIn_r _ [7, 8, 9, 10, 11, 12, 13, 14, 15, 3, 16, 17, 18, 19, 20] (by decide +kernel) (by decide +kernel)
set_option maxRecDepth 20000 in
theorem gX4_sine_X4_sineOf : GoodIn wsX4_sine (va_wsS RX4 57 yX4_sineOf wsX4_sineOf) := goodIn_app (goodIn_of _ (by decide +kernel)) ggX4_sine_X4_sineOf
set_option maxRecDepth 20000 in
theorem ggX4_throwing_X4_within : GoodIn wsX4_throwing wsX4_within := goodIn_r _ [5] (by decide +kernel) (by decide +kernel)
set_option maxRecDepth 20000 in
theorem gX4_throwing_X4_within : GoodIn wsX4_throwing (va_wsS RX4 49 yX4_within wsX4_within) := goodIn_app (goodIn_of _ (by decide +kernel)) ggX4_throwing_X4_within
set_option maxRecDepth 20000 in
theorem ggX4_throwing_X1_reckonOwn : GoodIn wsX4_throwing wsX1_reckonOwn := goodIn_r _ [10, 11, 12, 13, 14, 9, 15, 16, 17, 18, 19, 20, 21, 22, 23, 24, 25, 4, 26, 27, 28, 29, 30, 31, 32, 33, 34, 35, 36, 37, 38, 39, 40, 41, 3, 5, 42, 43, 44, 45, 46, 47, 48, 49, 50, 51, 52, 53, 54, 55, 56, 57, 58, 59, 60, 61, 62, 63, 64, 65, 66, 67, 79, 80, 81, 82, 83, 84] (by decide +kernel) (by decide +kernel)
set_option maxRecDepth 20000 in
theorem gX4_throwing_X1_reckonOwn : GoodIn wsX4_throwing (wsV RX4 60 RX1 yX1_reckonOwn wsX1_reckonOwn) := goodIn_app (goodIn_of _ (by decide +kernel)) ggX4_throwing_X1_reckonOwn
set_option maxRecDepth 20000 in
theorem ggX4_throwing_X1_reckoned : GoodIn wsX4_throwing wsX1_reckoned := goodIn_r _ [71, 16, 3, 4, 5, 79, 80, 81, 82, 83, 84] (by decide +kernel) (by decide +kernel)
set_option maxRecDepth 20000 in
theorem gX4_throwing_X1_reckoned : GoodIn wsX4_throwing (wsV RX4 64 RX1 yX1_reckoned wsX1_reckoned) := goodIn_app (goodIn_of _ (by decide +kernel)) ggX4_throwing_X1_reckoned
set_option maxRecDepth 20000 in
theorem ggX4_flight_X4_within : GoodIn wsX4_flight wsX4_within := goodIn_r _ [6] (by decide +kernel) (by decide +kernel)
set_option maxRecDepth 20000 in
theorem gX4_flight_X4_within : GoodIn wsX4_flight (va_wsS RX4 49 yX4_within wsX4_within) := goodIn_app (goodIn_of _ (by decide +kernel)) ggX4_flight_X4_within
set_option maxRecDepth 20000 in
theorem ggX4_flight_X1_bodiesAsked : GoodIn wsX4_flight wsX1_bodiesAsked := goodIn_r _ [10] (by decide +kernel) (by decide +kernel)
set_option maxRecDepth 20000 in
theorem gX4_flight_X1_bodiesAsked : GoodIn wsX4_flight (va_wsS RX4 71 yX1_bodiesAsked wsX1_bodiesAsked) := goodIn_app (goodIn_of _ (by decide +kernel)) ggX4_flight_X1_bodiesAsked
set_option maxRecDepth 20000 in
theorem ggX4_flight_X1_flightOf : GoodIn wsX4_flight wsX1_flightOf := goodIn_r _ [14, 15, 16, 17, 18, 19, 20, 21, 22, 23, 24, 25, 26, 5, 27, 28, 29, 30, 31, 32, 33, 41, 42, 43, 44, 45, 46] (by decide +kernel) (by decide +kernel)
set_option maxRecDepth 20000 in
theorem gX4_flight_X1_flightOf : GoodIn wsX4_flight (wsV RX4 74 RX1 yX1_flightOf wsX1_flightOf) := goodIn_app (goodIn_of _ (by decide +kernel)) ggX4_flight_X1_flightOf
set_option maxRecDepth 20000 in
theorem ggX4_tune_X1_takes : GoodIn wsX4_tune wsX1_takes := goodIn_r _ [6, 7, 8, 9, 10, 11] (by decide +kernel) (by decide +kernel)
set_option maxRecDepth 20000 in
theorem gX4_tune_X1_takes : GoodIn wsX4_tune (wsV RX4 41 RX1 yX1_takes wsX1_takes) := goodIn_app (goodIn_of _ (by decide +kernel)) ggX4_tune_X1_takes
set_option maxRecDepth 20000 in
theorem ggX4_tune_X4_within : GoodIn wsX4_tune wsX4_within := goodIn_r _ [11] (by decide +kernel) (by decide +kernel)
set_option maxRecDepth 20000 in
theorem gX4_tune_X4_within : GoodIn wsX4_tune (va_wsS RX4 49 yX4_within wsX4_within) := goodIn_app (goodIn_of _ (by decide +kernel)) ggX4_tune_X4_within
set_option maxRecDepth 20000 in
theorem ggX4_tune_X1_tuneTo : GoodIn wsX4_tune wsX1_tuneTo := goodIn_r _ [16, 17, 18, 19, 20, 21, 22, 23, 24, 5, 25, 26, 27, 28, 29, 30, 31, 32, 33, 34, 35, 36, 37, 38, 39, 40, 41, 10, 42, 43, 44, 45, 46, 47, 48, 49, 50, 51, 52, 53, 54, 55, 56, 9, 11, 57, 58, 59, 60, 61, 62, 63, 64, 65, 66, 67, 68, 69, 70, 71, 72, 73, 74, 75, 76, 77, 78, 79, 80, 92, 93, 94, 95, 96, 97] (by decide +kernel) (by decide +kernel)
set_option maxRecDepth 20000 in
theorem gX4_tune_X1_tuneTo : GoodIn wsX4_tune (wsV RX4 77 RX1 yX1_tuneTo wsX1_tuneTo) := goodIn_app (goodIn_of _ (by decide +kernel)) ggX4_tune_X1_tuneTo
set_option maxRecDepth 20000 in
theorem ggX4_tune_X1_tuned : GoodIn wsX4_tune wsX1_tuned := goodIn_r _ [84, 26, 9, 10, 11, 92, 93, 94, 95, 96, 97] (by decide +kernel) (by decide +kernel)
set_option maxRecDepth 20000 in
theorem gX4_tune_X1_tuned : GoodIn wsX4_tune (wsV RX4 81 RX1 yX1_tuned wsX1_tuned) := goodIn_app (goodIn_of _ (by decide +kernel)) ggX4_tune_X1_tuned
set_option maxRecDepth 20000 in
theorem ggX4_spread_X4_within : GoodIn wsX4_spread wsX4_within := goodIn_r _ [5] (by decide +kernel) (by decide +kernel)
set_option maxRecDepth 20000 in
theorem gX4_spread_X4_within : GoodIn wsX4_spread (va_wsS RX4 49 yX4_within wsX4_within) := goodIn_app (goodIn_of _ (by decide +kernel)) ggX4_spread_X4_within
set_option maxRecDepth 20000 in
theorem ggX4_spread_X0_putSpread : GoodIn wsX4_spread wsX0_putSpread := goodIn_r _ [10, 11, 19, 20, 21, 22, 23, 24, 25] (by decide +kernel) (by decide +kernel)
set_option maxRecDepth 20000 in
theorem gX4_spread_X0_putSpread : GoodIn wsX4_spread (wsV RX4 84 RX0 yX0_putSpread wsX0_putSpread) := goodIn_app (goodIn_of _ (by decide +kernel)) ggX4_spread_X0_putSpread
set_option maxRecDepth 20000 in
theorem ggX4_shot_X4_within : GoodIn wsX4_shot wsX4_within := goodIn_r _ [5] (by decide +kernel) (by decide +kernel)
set_option maxRecDepth 20000 in
theorem gX4_shot_X4_within : GoodIn wsX4_shot (va_wsS RX4 49 yX4_within wsX4_within) := goodIn_app (goodIn_of _ (by decide +kernel)) ggX4_shot_X4_within
set_option maxRecDepth 20000 in
theorem ggX4_shot_X0_tell : GoodIn wsX4_shot wsX0_tell := goodIn_r _ [10, 11, 12, 13, 25, 26, 27, 28, 29, 30, 31] (by decide +kernel) (by decide +kernel)
set_option maxRecDepth 20000 in
theorem gX4_shot_X0_tell : GoodIn wsX4_shot (wsV RX4 87 RX0 yX0_tell wsX0_tell) := goodIn_app (goodIn_of _ (by decide +kernel)) ggX4_shot_X0_tell
set_option maxRecDepth 20000 in
theorem ggX4_shot_X0_told : GoodIn wsX4_shot wsX0_told := goodIn_r _ [17, 11, 25, 26, 27, 28, 29, 30, 31] (by decide +kernel) (by decide +kernel)
set_option maxRecDepth 20000 in
theorem gX4_shot_X0_told : GoodIn wsX4_shot (wsV RX4 90 RX0 yX0_told wsX0_told) := goodIn_app (goodIn_of _ (by decide +kernel)) ggX4_shot_X0_told
set_option maxRecDepth 20000 in
theorem ggX4_clear_X0_forgetShots : GoodIn wsX4_clear wsX0_forgetShots := goodIn_r _ [6, 7, 15, 16, 17, 18, 19, 20, 21] (by decide +kernel) (by decide +kernel)
set_option maxRecDepth 20000 in
theorem gX4_clear_X0_forgetShots : GoodIn wsX4_clear (wsV RX4 93 RX0 yX0_forgetShots wsX0_forgetShots) := goodIn_app (goodIn_of _ (by decide +kernel)) ggX4_clear_X0_forgetShots
set_option maxRecDepth 20000 in
theorem ggX4_left_X0_study : GoodIn wsX4_left wsX0_study := goodIn_r _ [7, 8, 9, 10, 11, 12, 13, 14, 15, 16, 17, 18, 19, 20, 21, 22, 23, 24, 25, 26, 27, 28, 29, 30, 31, 32, 33, 34, 35, 36, 37, 38, 39, 40, 41, 42, 43, 44, 45, 46, 47, 48, 49, 50, 51, 52, 53, 54, 55, 56, 57, 58, 59, 60, 61, 62, 63, 64, 65, 66, 67, 68, 69, 70, 71, 72, 73, 74, 75, 76, 77, 78, 79, 80, 81, 6, 82, 83, 84, 85, 86, 87, 88, 89, 90, 91, 92, 108, 109, 110, 111, 112, 113, 114, 115, 116, 117, 118, 119, 120] (by decide +kernel) (by decide +kernel)
set_option maxRecDepth 20000 in
theorem gX4_left_X0_study : GoodIn wsX4_left (wsV RX4 96 RX0 yX0_study wsX0_study) := goodIn_app (goodIn_of _ (by decide +kernel)) ggX4_left_X0_study
set_option maxRecDepth 20000 in
theorem ggX4_left_X0_pairsLeft : GoodIn wsX4_left wsX0_pairsLeft := goodIn_r _ [96, 10, 9, 97, 98, 99, 6, 100, 108, 109, 110, 111, 112, 113, 114] (by decide +kernel) (by decide +kernel)
set_option maxRecDepth 20000 in
theorem gX4_left_X0_pairsLeft : GoodIn wsX4_left (wsV RX4 100 RX0 yX0_pairsLeft wsX0_pairsLeft) := goodIn_app (goodIn_of _ (by decide +kernel)) ggX4_left_X0_pairsLeft
set_option maxRecDepth 20000 in
theorem ggX4_span_X4_within : GoodIn wsX4_span wsX4_within := goodIn_r _ [6] (by decide +kernel) (by decide +kernel)
set_option maxRecDepth 20000 in
theorem gX4_span_X4_within : GoodIn wsX4_span (va_wsS RX4 49 yX4_within wsX4_within) := goodIn_app (goodIn_of _ (by decide +kernel)) ggX4_span_X4_within
set_option maxRecDepth 20000 in
theorem ggX4_span_X0_study : GoodIn wsX4_span wsX0_study := goodIn_r _ [11, 12, 13, 14, 15, 16, 17, 18, 19, 20, 21, 22, 23, 24, 25, 26, 27, 28, 29, 30, 31, 32, 33, 34, 35, 36, 37, 5, 38, 39, 40, 41, 42, 43, 44, 45, 46, 47, 48, 49, 50, 51, 52, 53, 4, 6, 54, 55, 56, 57, 58, 59, 60, 61, 62, 63, 64, 65, 66, 67, 68, 69, 70, 71, 72, 73, 74, 75, 76, 77, 78, 79, 80, 81, 82, 10, 83, 84, 85, 86, 87, 88, 89, 90, 91, 92, 93, 123, 124, 125, 126, 127, 128, 129, 130, 131, 132, 133, 134, 135] (by decide +kernel) (by decide +kernel)
set_option maxRecDepth 20000 in
theorem gX4_span_X0_study : GoodIn wsX4_span (wsV RX4 96 RX0 yX0_study wsX0_study) := goodIn_app (goodIn_of _ (by decide +kernel)) ggX4_span_X0_study
set_option maxRecDepth 20000 in
theorem ggX4_span_X0_places : GoodIn wsX4_span wsX0_places := goodIn_r _ [97, 12, 98, 99, 100, 10, 101, 14, 13, 102, 103, 104, 105, 123, 124, 125, 126, 127, 128, 129] (by decide +kernel) (by decide +kernel)
set_option maxRecDepth 20000 in
theorem gX4_span_X0_places : GoodIn wsX4_span (wsV RX4 103 RX0 yX0_places wsX0_places) := goodIn_app (goodIn_of _ (by decide +kernel)) ggX4_span_X0_places
set_option maxRecDepth 20000 in
theorem ggX4_span_X0_leastPlace : GoodIn wsX4_span wsX0_leastPlace := goodIn_r _ [109, 110, 13, 86, 87, 52, 88, 102, 103, 104, 10, 105, 14, 89, 90, 91, 92, 12, 93, 58, 5, 59, 39, 40, 41, 42, 123, 124, 125, 126, 127, 128, 129] (by decide +kernel) (by decide +kernel)
set_option maxRecDepth 20000 in
theorem gX4_span_X0_leastPlace : GoodIn wsX4_span (wsV RX4 107 RX0 yX0_leastPlace wsX0_leastPlace) := goodIn_app (goodIn_of _ (by decide +kernel)) ggX4_span_X0_leastPlace
set_option maxRecDepth 20000 in
theorem ggX4_span_X0_greatestPlace : GoodIn wsX4_span wsX0_greatestPlace := goodIn_r _ [114, 115, 14, 85, 51, 52, 53, 102, 103, 104, 10, 105, 13, 89, 90, 91, 92, 12, 93, 58, 5, 59, 39, 40, 41, 42, 123, 124, 125, 126, 127, 128, 129] (by decide +kernel) (by decide +kernel)
set_option maxRecDepth 20000 in
theorem gX4_span_X0_greatestPlace : GoodIn wsX4_span (wsV RX4 110 RX0 yX0_greatestPlace wsX0_greatestPlace) := goodIn_app (goodIn_of _ (by decide +kernel)) ggX4_span_X0_greatestPlace
set_option maxRecDepth 20000 in
theorem ggX4_next_X0_study : GoodIn wsX4_next wsX0_study := goodIn_r _ [7, 8, 9, 10, 11, 12, 13, 14, 15, 16, 17, 18, 19, 20, 21, 22, 23, 24, 25, 26, 27, 28, 29, 30, 31, 32, 33, 34, 35, 36, 37, 38, 39, 40, 41, 42, 43, 44, 45, 46, 47, 48, 49, 50, 51, 52, 53, 54, 55, 56, 57, 58, 59, 60, 61, 62, 63, 64, 65, 66, 67, 68, 69, 70, 71, 72, 73, 74, 75, 76, 77, 78, 79, 80, 81, 6, 82, 83, 84, 85, 86, 87, 88, 89, 90, 91, 92, 126, 127, 128, 129, 130, 131, 132, 133, 134, 135, 136, 137, 138] (by decide +kernel) (by decide +kernel)
set_option maxRecDepth 20000 in
theorem gX4_next_X0_study : GoodIn wsX4_next (wsV RX4 96 RX0 yX0_study wsX0_study) := goodIn_app (goodIn_of _ (by decide +kernel)) ggX4_next_X0_study
set_option maxRecDepth 20000 in
theorem ggX4_next_X0_widestHook : GoodIn wsX4_next wsX0_widestHook := goodIn_r _ [96, 8, 97, 98, 99, 6, 100, 101, 102, 103, 104, 10, 9, 105, 106, 107, 108, 109, 110, 111, 112, 113, 84, 48, 49, 50, 88, 89, 90, 91, 92, 57, 34, 58, 36, 37, 38, 39, 114, 115, 116, 117, 118, 85, 86, 87, 126, 127, 128, 129, 130, 131, 132] (by decide +kernel) (by decide +kernel)
set_option maxRecDepth 20000 in
theorem gX4_next_X0_widestHook : GoodIn wsX4_next (wsV RX4 113 RX0 yX0_widestHook wsX0_widestHook) := goodIn_app (goodIn_of _ (by decide +kernel)) ggX4_next_X0_widestHook
set_option maxRecDepth 20000 in
theorem ggX4_surest_X4_within : GoodIn wsX4_surest wsX4_within := goodIn_r _ [6] (by decide +kernel) (by decide +kernel)
set_option maxRecDepth 20000 in
theorem gX4_surest_X4_within : GoodIn wsX4_surest (va_wsS RX4 49 yX4_within wsX4_within) := goodIn_app (goodIn_of _ (by decide +kernel)) ggX4_surest_X4_within
set_option maxRecDepth 20000 in
theorem ggX4_surest_X0_study : GoodIn wsX4_surest wsX0_study := goodIn_r _ [11, 12, 13, 14, 15, 16, 17, 18, 19, 20, 21, 22, 23, 24, 25, 26, 27, 28, 29, 30, 31, 32, 33, 34, 35, 36, 37, 5, 38, 39, 40, 41, 42, 43, 44, 45, 46, 47, 48, 49, 50, 51, 52, 53, 4, 6, 54, 55, 56, 57, 58, 59, 60, 61, 62, 63, 64, 65, 66, 67, 68, 69, 70, 71, 72, 73, 74, 75, 76, 77, 78, 79, 80, 81, 82, 10, 83, 84, 85, 86, 87, 88, 89, 90, 91, 92, 93, 133, 134, 135, 136, 137, 138, 139, 140, 141, 142, 143, 144, 145] (by decide +kernel) (by decide +kernel)
set_option maxRecDepth 20000 in
theorem gX4_surest_X0_study : GoodIn wsX4_surest (wsV RX4 96 RX0 yX0_study wsX0_study) := goodIn_app (goodIn_of _ (by decide +kernel)) ggX4_surest_X0_study
set_option maxRecDepth 20000 in
theorem ggX4_surest_X0_surestHook : GoodIn wsX4_surest wsX0_surestHook := goodIn_r _ [97, 98, 12, 99, 100, 101, 10, 102, 103, 104, 105, 106, 14, 13, 107, 108, 109, 110, 111, 112, 113, 114, 115, 63, 52, 64, 85, 51, 53, 116, 117, 118, 119, 86, 87, 88, 89, 90, 91, 92, 93, 58, 5, 59, 39, 40, 41, 42, 120, 121, 122, 123, 124, 133, 134, 135, 136, 137, 138, 139] (by decide +kernel) (by decide +kernel)
set_option maxRecDepth 20000 in
theorem gX4_surest_X0_surestHook : GoodIn wsX4_surest (wsV RX4 116 RX0 yX0_surestHook wsX0_surestHook) := goodIn_app (goodIn_of _ (by decide +kernel)) ggX4_surest_X0_surestHook
set_option maxRecDepth 20000 in
theorem ggX4_surest_X0_farthestMiss : GoodIn wsX4_surest wsX0_farthestMiss := goodIn_r _ [114, 115, 63, 52, 64, 85, 51, 53, 116, 117, 118, 10, 119, 98, 13, 86, 87, 88, 107, 108, 109, 110, 14, 89, 90, 91, 92, 12, 93, 58, 5, 59, 39, 40, 41, 42, 120, 121, 122, 123, 124, 133, 134, 135, 136, 137, 138, 139] (by decide +kernel) (by decide +kernel)
set_option maxRecDepth 20000 in
theorem gX4_surest_X0_farthestMiss : GoodIn wsX4_surest (wsV RX4 119 RX0 yX0_farthestMiss wsX0_farthestMiss) := goodIn_app (goodIn_of _ (by decide +kernel)) ggX4_surest_X0_farthestMiss
set_option maxRecDepth 20000 in
theorem ggX4_wall_X4_within : GoodIn wsX4_wall wsX4_within := goodIn_r _ [5] (by decide +kernel) (by decide +kernel)
set_option maxRecDepth 20000 in
theorem gX4_wall_X4_within : GoodIn wsX4_wall (va_wsS RX4 49 yX4_within wsX4_within) := goodIn_app (goodIn_of _ (by decide +kernel)) ggX4_wall_X4_within
set_option maxRecDepth 20000 in
theorem ggX4_wall_X3_build : GoodIn wsX4_wall wsX3_build := goodIn_r _ [10, 11, 12, 13, 14, 15, 23, 24, 25, 26, 27, 28, 29] (by decide +kernel) (by decide +kernel)
set_option maxRecDepth 20000 in
theorem gX4_wall_X3_build : GoodIn wsX4_wall (wsV RX4 122 RX3 yX3_build wsX3_build) := goodIn_app (goodIn_of _ (by decide +kernel)) ggX4_wall_X3_build
set_option maxRecDepth 20000 in
theorem ggX4_strength_X3_has : GoodIn wsX4_strength wsX3_has := goodIn_r _ [6, 7, 8, 37, 38, 39, 40, 41, 42, 43] (by decide +kernel) (by decide +kernel)
set_option maxRecDepth 20000 in
theorem gX4_strength_X3_has : GoodIn wsX4_strength (wsV RX4 126 RX3 yX3_has wsX3_has) := goodIn_app (goodIn_of _ (by decide +kernel)) ggX4_strength_X3_has
set_option maxRecDepth 20000 in
theorem ggX4_strength_X4_within : GoodIn wsX4_strength wsX4_within := goodIn_r _ [12] (by decide +kernel) (by decide +kernel)
set_option maxRecDepth 20000 in
theorem gX4_strength_X4_within : GoodIn wsX4_strength (va_wsS RX4 49 yX4_within wsX4_within) := goodIn_app (goodIn_of _ (by decide +kernel)) ggX4_strength_X4_within
set_option maxRecDepth 20000 in
theorem ggX4_strength_X3_stands : GoodIn wsX4_strength wsX3_stands := goodIn_r _ [16, 17, 18, 3, 4, 5, 6, 7, 8, 19, 20, 21, 37, 38, 39, 40, 41, 42, 43] (by decide +kernel) (by decide +kernel)
set_option maxRecDepth 20000 in
theorem gX4_strength_X3_stands : GoodIn wsX4_strength (wsV RX4 129 RX3 yX3_stands wsX3_stands) := goodIn_app (goodIn_of _ (by decide +kernel)) ggX4_strength_X3_stands
set_option maxRecDepth 20000 in
theorem ggX4_strength_X3_putStrength : GoodIn wsX4_strength wsX3_putStrength := goodIn_r _ [25, 26, 18, 3, 4, 5, 6, 7, 8, 27, 28, 29, 37, 38, 39, 40, 41, 42, 43] (by decide +kernel) (by decide +kernel)
set_option maxRecDepth 20000 in
theorem gX4_strength_X3_putStrength : GoodIn wsX4_strength (wsV RX4 132 RX3 yX3_putStrength wsX3_putStrength) := goodIn_app (goodIn_of _ (by decide +kernel)) ggX4_strength_X3_putStrength
set_option maxRecDepth 20000 in
theorem ggX4_prop_X3_has : GoodIn wsX4_prop wsX3_has := goodIn_r _ [6, 7, 8, 30, 31, 32, 33, 34, 35, 36] (by decide +kernel) (by decide +kernel)
set_option maxRecDepth 20000 in
theorem gX4_prop_X3_has : GoodIn wsX4_prop (wsV RX4 126 RX3 yX3_has wsX3_has) := goodIn_app (goodIn_of _ (by decide +kernel)) ggX4_prop_X3_has
set_option maxRecDepth 20000 in
theorem ggX4_prop_X3_stands : GoodIn wsX4_prop wsX3_stands := goodIn_r _ [12, 13, 14, 3, 4, 5, 6, 7, 8, 15, 16, 17, 30, 31, 32, 33, 34, 35, 36] (by decide +kernel) (by decide +kernel)
set_option maxRecDepth 20000 in
theorem gX4_prop_X3_stands : GoodIn wsX4_prop (wsV RX4 129 RX3 yX3_stands wsX3_stands) := goodIn_app (goodIn_of _ (by decide +kernel)) ggX4_prop_X3_stands
set_option maxRecDepth 20000 in
theorem ggX4_prop_X3_putProp : GoodIn wsX4_prop wsX3_putProp := goodIn_r _ [21, 22, 14, 3, 4, 5, 6, 7, 8, 15, 16, 17, 30, 31, 32, 33, 34, 35, 36] (by decide +kernel) (by decide +kernel)
set_option maxRecDepth 20000 in
theorem gX4_prop_X3_putProp : GoodIn wsX4_prop (wsV RX4 136 RX3 yX3_putProp wsX3_putProp) := goodIn_app (goodIn_of _ (by decide +kernel)) ggX4_prop_X3_putProp
set_option maxRecDepth 20000 in
theorem ggX4_hit_X3_has : GoodIn wsX4_hit wsX3_has := goodIn_r _ [6, 7, 8, 50, 51, 52, 53, 54, 55, 56] (by decide +kernel) (by decide +kernel)
set_option maxRecDepth 20000 in
theorem gX4_hit_X3_has : GoodIn wsX4_hit (wsV RX4 126 RX3 yX3_has wsX3_has) := goodIn_app (goodIn_of _ (by decide +kernel)) ggX4_hit_X3_has
set_option maxRecDepth 20000 in
theorem ggX4_hit_X4_within : GoodIn wsX4_hit wsX4_within := goodIn_r _ [12] (by decide +kernel) (by decide +kernel)
set_option maxRecDepth 20000 in
theorem gX4_hit_X4_within : GoodIn wsX4_hit (va_wsS RX4 49 yX4_within wsX4_within) := goodIn_app (goodIn_of _ (by decide +kernel)) ggX4_hit_X4_within
