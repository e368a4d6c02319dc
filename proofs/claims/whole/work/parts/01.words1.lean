set_option maxRecDepth 20000 in
theorem ggX0_study_X1_slingNow : GoodIn wsX0_study wsX1_slingNow := goodIn_r _ [11, 12, 94, 95, 96, 97, 98, 99] (by decide +kernel) (by decide +kernel)
set_option maxRecDepth 20000 in
theorem gX0_study_X1_slingNow : GoodIn wsX0_study (wsV RX0 36 RX1 yX1_slingNow wsX1_slingNow) := goodIn_app (goodIn_of _ (by decide +kernel)) ggX0_study_X1_slingNow
set_option maxRecDepth 20000 in
theorem ggX0_study_X1_reckon : GoodIn wsX0_study wsX1_reckon := goodIn_r _ [16, 17, 18, 19, 20, 21, 10, 22, 23, 24, 12, 25, 26, 27, 28, 29, 30, 31, 32, 33, 34, 35, 36, 37, 38, 39, 40, 41, 42, 43, 44, 45, 46, 47, 48, 49, 50, 51, 52, 53, 54, 55, 56, 57, 58, 59, 60, 61, 62, 63, 64, 65, 66, 67, 68, 69, 70, 71, 94, 95, 96, 97, 98, 99] (by decide +kernel) (by decide +kernel)
set_option maxRecDepth 20000 in
theorem gX0_study_X1_reckon : GoodIn wsX0_study (wsV RX0 40 RX1 yX1_reckon wsX1_reckon) := goodIn_app (goodIn_of _ (by decide +kernel)) ggX0_study_X1_reckon
set_option maxRecDepth 20000 in
theorem ggX0_study_X0_bear : GoodIn wsX0_study wsX0_bear := goodIn_r _ [76, 1, 3, 2, 77, 78, 41, 42, 43, 79, 80, 81, 82, 83, 84, 75, 85, 86, 50, 27, 51, 29, 30, 31, 32, 87, 88, 89, 90, 91, 92, 93] (by decide +kernel) (by decide +kernel)
set_option maxRecDepth 20000 in
theorem gX0_study_X0_bear : GoodIn wsX0_study (wsV RX0 44 RX0 yX0_bear wsX0_bear) := goodIn_app (goodIn_of _ (by decide +kernel)) ggX0_study_X0_bear
set_option maxRecDepth 20000 in
theorem ggX0_bear_X0_scaled : GoodIn wsX0_bear wsX0_scaled := goodIn_r _ [16, 1, 17, 18, 19, 20, 21, 22, 23, 24, 25, 26, 27, 28, 29, 30, 31] (by decide +kernel) (by decide +kernel)
set_option maxRecDepth 20000 in
theorem gX0_bear_X0_scaled : GoodIn wsX0_bear (wsV RX0 48 RX0 yX0_scaled wsX0_scaled) := goodIn_app (goodIn_of _ (by decide +kernel)) ggX0_bear_X0_scaled
set_option maxRecDepth 20000 in
theorem ggX0_scaled_X4_down : GoodIn wsX0_scaled wsX4_down := goodIn_r _ [5, 6, 7, 8, 9] (by decide +kernel) (by decide +kernel)
set_option maxRecDepth 20000 in
theorem gX0_scaled_X4_down_n61 : GoodIn wsX0_scaled (wsX4_down) := ggX0_scaled_X4_down
set_option maxRecDepth 20000 in
theorem ggX0_pairsLeft_X0_isLeft : GoodIn wsX0_pairsLeft wsX0_isLeft := goodIn_r _ [7, 2, 1, 8, 9, 10, 11, 12, 13, 14] (by decide +kernel) (by decide +kernel)
set_option maxRecDepth 20000 in
theorem gX0_pairsLeft_X0_isLeft : GoodIn wsX0_pairsLeft (wsV RX0 65 RX0 yX0_isLeft wsX0_isLeft) := goodIn_app (goodIn_of _ (by decide +kernel)) ggX0_pairsLeft_X0_isLeft
set_option maxRecDepth 20000 in
theorem ggX0_places_X0_pairsLeft : GoodIn wsX0_places wsX0_pairsLeft := goodIn_r _ [6, 7, 8, 9, 10, 11, 5, 12, 13, 14, 15, 16, 17, 18, 19] (by decide +kernel) (by decide +kernel)
set_option maxRecDepth 20000 in
theorem gX0_places_X0_pairsLeft : GoodIn wsX0_places (wsV RX0 69 RX0 yX0_pairsLeft wsX0_pairsLeft) := goodIn_app (goodIn_of _ (by decide +kernel)) ggX0_places_X0_pairsLeft
set_option maxRecDepth 20000 in
theorem ggX0_leastPlace_X0_isLeft : GoodIn wsX0_leastPlace wsX0_isLeft := goodIn_r _ [11, 2, 12, 26, 27, 28, 29, 30, 31, 32] (by decide +kernel) (by decide +kernel)
set_option maxRecDepth 20000 in
theorem gX0_leastPlace_X0_isLeft : GoodIn wsX0_leastPlace (wsV RX0 65 RX0 yX0_isLeft wsX0_isLeft) := goodIn_app (goodIn_of _ (by decide +kernel)) ggX0_leastPlace_X0_isLeft
set_option maxRecDepth 20000 in
theorem ggX0_leastPlace_X0_scaled : GoodIn wsX0_leastPlace wsX0_scaled := goodIn_r _ [16, 17, 18, 19, 20, 21, 22, 23, 24, 25, 26, 27, 28, 29, 30, 31, 32] (by decide +kernel) (by decide +kernel)
set_option maxRecDepth 20000 in
theorem gX0_leastPlace_X0_scaled : GoodIn wsX0_leastPlace (wsV RX0 48 RX0 yX0_scaled wsX0_scaled) := goodIn_app (goodIn_of _ (by decide +kernel)) ggX0_leastPlace_X0_scaled
set_option maxRecDepth 20000 in
theorem ggX0_greatestPlace_X0_isLeft : GoodIn wsX0_greatestPlace wsX0_isLeft := goodIn_r _ [11, 12, 2, 26, 27, 28, 29, 30, 31, 32] (by decide +kernel) (by decide +kernel)
set_option maxRecDepth 20000 in
theorem gX0_greatestPlace_X0_isLeft : GoodIn wsX0_greatestPlace (wsV RX0 65 RX0 yX0_isLeft wsX0_isLeft) := goodIn_app (goodIn_of _ (by decide +kernel)) ggX0_greatestPlace_X0_isLeft
set_option maxRecDepth 20000 in
theorem ggX0_greatestPlace_X0_scaled : GoodIn wsX0_greatestPlace wsX0_scaled := goodIn_r _ [16, 17, 18, 19, 20, 21, 22, 23, 24, 25, 26, 27, 28, 29, 30, 31, 32] (by decide +kernel) (by decide +kernel)
set_option maxRecDepth 20000 in
theorem gX0_greatestPlace_X0_scaled : GoodIn wsX0_greatestPlace (wsV RX0 48 RX0 yX0_scaled wsX0_scaled) := goodIn_app (goodIn_of _ (by decide +kernel)) ggX0_greatestPlace_X0_scaled
set_option maxRecDepth 20000 in
theorem ggX0_widestHook_X0_places : GoodIn wsX0_widestHook wsX0_places := goodIn_r _ [6, 1, 7, 8, 9, 5, 10, 11, 12, 13, 14, 15, 16, 46, 47, 48, 49, 50, 51, 52] (by decide +kernel) (by decide +kernel)
set_option maxRecDepth 20000 in
theorem gX0_widestHook_X0_places : GoodIn wsX0_widestHook (wsV RX0 74 RX0 yX0_places wsX0_places) := goodIn_app (goodIn_of _ (by decide +kernel)) ggX0_widestHook_X0_places
set_option maxRecDepth 20000 in
theorem ggX0_widestHook_X0_greatestPlace : GoodIn wsX0_widestHook wsX0_greatestPlace := goodIn_r _ [20, 21, 11, 22, 23, 24, 25, 13, 14, 15, 5, 16, 12, 26, 27, 28, 29, 1, 30, 31, 32, 33, 34, 35, 36, 37, 46, 47, 48, 49, 50, 51, 52] (by decide +kernel) (by decide +kernel)
set_option maxRecDepth 20000 in
theorem gX0_widestHook_X0_greatestPlace : GoodIn wsX0_widestHook (wsV RX0 77 RX0 yX0_greatestPlace wsX0_greatestPlace) := goodIn_app (goodIn_of _ (by decide +kernel)) ggX0_widestHook_X0_greatestPlace
set_option maxRecDepth 20000 in
theorem ggX0_widestHook_X0_leastPlace : GoodIn wsX0_widestHook wsX0_leastPlace := goodIn_r _ [41, 42, 12, 43, 44, 24, 45, 13, 14, 15, 5, 16, 11, 26, 27, 28, 29, 1, 30, 31, 32, 33, 34, 35, 36, 37, 46, 47, 48, 49, 50, 51, 52] (by decide +kernel) (by decide +kernel)
set_option maxRecDepth 20000 in
theorem gX0_widestHook_X0_leastPlace : GoodIn wsX0_widestHook (wsV RX0 81 RX0 yX0_leastPlace wsX0_leastPlace) := goodIn_app (goodIn_of _ (by decide +kernel)) ggX0_widestHook_X0_leastPlace
set_option maxRecDepth 20000 in
theorem ggX0_farthestMiss_X0_leastPlace : GoodIn wsX0_farthestMiss wsX0_leastPlace := goodIn_r _ [12, 13, 14, 15, 16, 3, 17, 18, 19, 20, 11, 21, 22, 23, 24, 25, 26, 27, 28, 29, 30, 31, 32, 33, 34, 35, 41, 42, 43, 44, 45, 46, 47] (by decide +kernel) (by decide +kernel)
set_option maxRecDepth 20000 in
theorem gX0_farthestMiss_X0_leastPlace : GoodIn wsX0_farthestMiss (wsV RX0 81 RX0 yX0_leastPlace wsX0_leastPlace) := goodIn_app (goodIn_of _ (by decide +kernel)) ggX0_farthestMiss_X0_leastPlace
set_option maxRecDepth 20000 in
theorem ggX0_farthestMiss_X0_greatestPlace : GoodIn wsX0_farthestMiss wsX0_greatestPlace := goodIn_r _ [39, 40, 22, 5, 6, 3, 7, 18, 19, 20, 11, 21, 14, 23, 24, 25, 26, 27, 28, 29, 30, 31, 32, 33, 34, 35, 41, 42, 43, 44, 45, 46, 47] (by decide +kernel) (by decide +kernel)
set_option maxRecDepth 20000 in
theorem gX0_farthestMiss_X0_greatestPlace : GoodIn wsX0_farthestMiss (wsV RX0 77 RX0 yX0_greatestPlace wsX0_greatestPlace) := goodIn_app (goodIn_of _ (by decide +kernel)) ggX0_farthestMiss_X0_greatestPlace
set_option maxRecDepth 20000 in
theorem ggX0_surestHook_X0_places : GoodIn wsX0_surestHook wsX0_places := goodIn_r _ [7, 2, 8, 9, 10, 6, 11, 12, 13, 14, 15, 16, 17, 53, 54, 55, 56, 57, 58, 59] (by decide +kernel) (by decide +kernel)
set_option maxRecDepth 20000 in
theorem gX0_surestHook_X0_places : GoodIn wsX0_surestHook (wsV RX0 74 RX0 yX0_places wsX0_places) := goodIn_app (goodIn_of _ (by decide +kernel)) ggX0_surestHook_X0_places
set_option maxRecDepth 20000 in
theorem ggX0_surestHook_X0_farthestMiss : GoodIn wsX0_surestHook wsX0_farthestMiss := goodIn_r _ [21, 22, 23, 24, 25, 26, 27, 28, 29, 30, 31, 6, 32, 1, 13, 33, 34, 35, 14, 15, 16, 17, 12, 36, 37, 38, 39, 2, 40, 41, 42, 43, 44, 45, 46, 47, 48, 49, 50, 51, 52, 53, 54, 55, 56, 57, 58, 59] (by decide +kernel) (by decide +kernel)
set_option maxRecDepth 20000 in
theorem gX0_surestHook_X0_farthestMiss : GoodIn wsX0_surestHook (wsV RX0 87 RX0 yX0_farthestMiss wsX0_farthestMiss) := goodIn_app (goodIn_of _ (by decide +kernel)) ggX0_surestHook_X0_farthestMiss
set_option maxRecDepth 20000 in
theorem ggX1_init_X1_turnBeam : GoodIn wsX1_init wsX1_turnBeam := goodIn_r _ [13, 5, 14, 6, 15, 16, 17, 18, 19, 20, 21, 22, 23, 24, 25, 26, 27, 28, 29, 30, 31, 32, 33, 34, 35, 36, 37] (by decide +kernel) (by decide +kernel)
set_option maxRecDepth 20000 in
theorem gX1_init_X1_turnBeam : GoodIn wsX1_init (wsV RX1 24 RX1 yX1_turnBeam wsX1_turnBeam) := goodIn_app (goodIn_of _ (by decide +kernel)) ggX1_init_X1_turnBeam
set_option maxRecDepth 20000 in
theorem ggX1_takes_X4_within : GoodIn wsX1_takes wsX4_within := goodIn_r _ [5] (by decide +kernel) (by decide +kernel)
set_option maxRecDepth 20000 in
theorem gX1_takes_X4_within_n27 : GoodIn wsX1_takes (wsX4_within) := ggX1_takes_X4_within
set_option maxRecDepth 20000 in
theorem ggX1_put_X1_takes : GoodIn wsX1_put wsX1_takes := goodIn_r _ [6, 7, 8, 9, 10, 11] (by decide +kernel) (by decide +kernel)
set_option maxRecDepth 20000 in
theorem gX1_put_X1_takes : GoodIn wsX1_put (wsV RX1 37 RX1 yX1_takes wsX1_takes) := goodIn_app (goodIn_of _ (by decide +kernel)) ggX1_put_X1_takes
set_option maxRecDepth 20000 in
theorem ggX1_put_X1_turnBeam : GoodIn wsX1_put wsX1_turnBeam := goodIn_r _ [15, 1, 16, 17, 18, 19, 10, 20, 21, 22, 23, 24, 25, 26, 27, 28, 29, 30, 31, 32, 33, 34, 35, 36, 37, 38, 39] (by decide +kernel) (by decide +kernel)
set_option maxRecDepth 20000 in
theorem gX1_put_X1_turnBeam : GoodIn wsX1_put (wsV RX1 24 RX1 yX1_turnBeam wsX1_turnBeam) := goodIn_app (goodIn_of _ (by decide +kernel)) ggX1_put_X1_turnBeam
set_option maxRecDepth 20000 in
theorem ggX1_turnBeam_X4_sineOf : GoodIn wsX1_turnBeam wsX4_sineOf := goodIn_r _ [7, 8, 9, 10, 11, 12, 13, 14, 15, 6, 16, 17, 18, 19, 20] (by decide +kernel) (by decide +kernel)
set_option maxRecDepth 20000 in
theorem gX1_turnBeam_X4_sineOf_n45 : GoodIn wsX1_turnBeam (wsX4_sineOf) := ggX1_turnBeam_X4_sineOf
set_option maxRecDepth 20000 in
theorem ggX1_turnBeam_X4_down : GoodIn wsX1_turnBeam wsX4_down := goodIn_r _ [16, 17, 18, 19, 20] (by decide +kernel) (by decide +kernel)
set_option maxRecDepth 20000 in
theorem gX1_turnBeam_X4_down_n54 : GoodIn wsX1_turnBeam (wsX4_down) := ggX1_turnBeam_X4_down
set_option maxRecDepth 20000 in
theorem ggX1_turnOfRelease_X4_up : GoodIn wsX1_turnOfRelease wsX4_up := goodIn_r _ [7, 8, 9, 10, 11] (by decide +kernel) (by decide +kernel)
set_option maxRecDepth 20000 in
theorem gX1_turnOfRelease_X4_up_n62 : GoodIn wsX1_turnOfRelease (wsX4_up) := ggX1_turnOfRelease_X4_up
set_option maxRecDepth 20000 in
theorem ggX1_reckonOwn_X1_reckon : GoodIn wsX1_reckonOwn wsX1_reckon := goodIn_r _ [6, 7, 8, 9, 10, 11, 5, 12, 13, 14, 1, 15, 16, 17, 18, 19, 20, 21, 22, 23, 24, 25, 26, 27, 28, 29, 30, 31, 32, 33, 34, 35, 36, 37, 38, 39, 40, 41, 42, 43, 44, 45, 46, 47, 48, 49, 50, 51, 52, 53, 54, 55, 56, 57, 58, 59, 60, 61, 62, 63, 64, 65, 66, 67] (by decide +kernel) (by decide +kernel)
set_option maxRecDepth 20000 in
theorem gX1_reckonOwn_X1_reckon : GoodIn wsX1_reckonOwn (wsV RX1 67 RX1 yX1_reckon wsX1_reckon) := goodIn_app (goodIn_of _ (by decide +kernel)) ggX1_reckonOwn_X1_reckon
set_option maxRecDepth 20000 in
theorem ggX1_reckon_X1_turnOfRelease : GoodIn wsX1_reckon wsX1_turnOfRelease := goodIn_r _ [7, 8, 9, 10, 11, 12, 13, 14, 15, 16, 17, 18, 58, 59, 60, 61, 62, 63] (by decide +kernel) (by decide +kernel)
set_option maxRecDepth 20000 in
theorem gX1_reckon_X1_turnOfRelease : GoodIn wsX1_reckon (wsV RX1 71 RX1 yX1_turnOfRelease wsX1_turnOfRelease) := goodIn_app (goodIn_of _ (by decide +kernel)) ggX1_reckon_X1_turnOfRelease
set_option maxRecDepth 20000 in
theorem ggX1_reckon_X1_reckonRelease : GoodIn wsX1_reckon wsX1_reckonRelease := goodIn_r _ [22, 10, 1, 23, 24, 25, 26, 27, 28, 29, 30, 13, 31, 32, 33, 34, 6, 35, 9, 36, 37, 15, 16, 17, 18, 38, 39, 40, 41, 42, 43, 44, 45, 46, 47, 48, 49, 50, 51, 52, 53, 54, 55, 56, 57, 12, 14, 58, 59, 60, 61, 62, 63] (by decide +kernel) (by decide +kernel)
set_option maxRecDepth 20000 in
theorem gX1_reckon_X1_reckonRelease : GoodIn wsX1_reckon (wsV RX1 74 RX1 yX1_reckonRelease wsX1_reckonRelease) := goodIn_app (goodIn_of _ (by decide +kernel)) ggX1_reckon_X1_reckonRelease
set_option maxRecDepth 20000 in
theorem ggX1_reckonRelease_X4_within : GoodIn wsX1_reckonRelease wsX4_within := goodIn_r _ [12] (by decide +kernel) (by decide +kernel)
set_option maxRecDepth 20000 in
theorem gX1_reckonRelease_X4_within_n27 : GoodIn wsX1_reckonRelease (wsX4_within) := ggX1_reckonRelease_X4_within
set_option maxRecDepth 20000 in
theorem ggX1_reckonRelease_X1_speedFor : GoodIn wsX1_reckonRelease wsX1_speedFor := goodIn_r _ [17, 1, 18, 19, 11, 20, 21, 22, 23, 24, 47, 48, 49, 50, 51, 52] (by decide +kernel) (by decide +kernel)
set_option maxRecDepth 20000 in
theorem gX1_reckonRelease_X1_speedFor : GoodIn wsX1_reckonRelease (wsV RX1 78 RX1 yX1_speedFor wsX1_speedFor) := goodIn_app (goodIn_of _ (by decide +kernel)) ggX1_reckonRelease_X1_speedFor
set_option maxRecDepth 20000 in
theorem ggX1_reckonRelease_X4_sineOf : GoodIn wsX1_reckonRelease wsX4_sineOf := goodIn_r _ [26, 27, 28, 8, 29, 30, 31, 32, 19, 11, 20, 21, 22, 23, 24] (by decide +kernel) (by decide +kernel)
set_option maxRecDepth 20000 in
theorem gX1_reckonRelease_X4_sineOf_n45 : GoodIn wsX1_reckonRelease (wsX4_sineOf) := ggX1_reckonRelease_X4_sineOf
set_option maxRecDepth 20000 in
theorem ggX1_reckonRelease_X4_down : GoodIn wsX1_reckonRelease wsX4_down := goodIn_r _ [20, 21, 22, 23, 24] (by decide +kernel) (by decide +kernel)
set_option maxRecDepth 20000 in
theorem gX1_reckonRelease_X4_down_n54 : GoodIn wsX1_reckonRelease (wsX4_down) := ggX1_reckonRelease_X4_down
set_option maxRecDepth 20000 in
theorem ggX1_reckonRelease_X1_flightOf : GoodIn wsX1_reckonRelease wsX1_flightOf := goodIn_r _ [36, 37, 1, 38, 39, 40, 8, 41, 42, 18, 43, 44, 19, 11, 20, 21, 22, 23, 24, 45, 46, 47, 48, 49, 50, 51, 52] (by decide +kernel) (by decide +kernel)
set_option maxRecDepth 20000 in
theorem gX1_reckonRelease_X1_flightOf : GoodIn wsX1_reckonRelease (wsV RX1 84 RX1 yX1_flightOf wsX1_flightOf) := goodIn_app (goodIn_of _ (by decide +kernel)) ggX1_reckonRelease_X1_flightOf
set_option maxRecDepth 20000 in
theorem ggX1_speedFor_X4_down : GoodIn wsX1_speedFor wsX4_down := goodIn_r _ [5, 6, 7, 8, 9] (by decide +kernel) (by decide +kernel)
set_option maxRecDepth 20000 in
theorem gX1_speedFor_X4_down_n54 : GoodIn wsX1_speedFor (wsX4_down) := ggX1_speedFor_X4_down
set_option maxRecDepth 20000 in
theorem ggX1_flightOf_X4_down : GoodIn wsX1_flightOf wsX4_down := goodIn_r _ [14, 15, 16, 17, 18] (by decide +kernel) (by decide +kernel)
set_option maxRecDepth 20000 in
theorem gX1_flightOf_X4_down_n54 : GoodIn wsX1_flightOf (wsX4_down) := ggX1_flightOf_X4_down
set_option maxRecDepth 20000 in
theorem ggX1_flightOf_X4_up : GoodIn wsX1_flightOf wsX4_up := goodIn_r _ [20, 15, 16, 17, 18] (by decide +kernel) (by decide +kernel)
set_option maxRecDepth 20000 in
theorem gX1_flightOf_X4_up_n62 : GoodIn wsX1_flightOf (wsX4_up) := ggX1_flightOf_X4_up
set_option maxRecDepth 20000 in
theorem ggX1_reckoned_X4_within : GoodIn wsX1_reckoned wsX4_within := goodIn_r _ [4] (by decide +kernel) (by decide +kernel)
set_option maxRecDepth 20000 in
theorem gX1_reckoned_X4_within_n27 : GoodIn wsX1_reckoned (wsX4_within) := ggX1_reckoned_X4_within
set_option maxRecDepth 20000 in
theorem ggX1_tuneTo_X1_keepTuning : GoodIn wsX1_tuneTo wsX1_keepTuning := goodIn_r _ [10, 11, 69, 70, 71, 72, 73, 74] (by decide +kernel) (by decide +kernel)
set_option maxRecDepth 20000 in
theorem gX1_tuneTo_X1_keepTuning : GoodIn wsX1_tuneTo (wsV RX1 104 RX1 yX1_keepTuning wsX1_keepTuning) := goodIn_app (goodIn_of _ (by decide +kernel)) ggX1_tuneTo_X1_keepTuning
set_option maxRecDepth 20000 in
theorem ggX1_tuneTo_X1_reckon : GoodIn wsX1_tuneTo wsX1_reckon := goodIn_r _ [15, 16, 17, 18, 19, 20, 9, 21, 22, 23, 24, 25, 26, 27, 28, 29, 30, 31, 32, 33, 34, 35, 36, 37, 38, 39, 40, 41, 4, 42, 43, 44, 45, 46, 47, 48, 49, 50, 51, 52, 53, 3, 5, 54, 55, 56, 57, 58, 59, 60, 61, 62, 63, 64, 65, 66, 67, 68, 69, 70, 71, 72, 73, 74] (by decide +kernel) (by decide +kernel)
set_option maxRecDepth 20000 in
theorem gX1_tuneTo_X1_reckon : GoodIn wsX1_tuneTo (wsV RX1 67 RX1 yX1_reckon wsX1_reckon) := goodIn_app (goodIn_of _ (by decide +kernel)) ggX1_tuneTo_X1_reckon
set_option maxRecDepth 20000 in
theorem ggX1_tuned_X4_within : GoodIn wsX1_tuned wsX4_within := goodIn_r _ [4] (by decide +kernel) (by decide +kernel)
set_option maxRecDepth 20000 in
theorem gX1_tuned_X4_within_n27 : GoodIn wsX1_tuned (wsX4_within) := ggX1_tuned_X4_within
set_option maxRecDepth 20000 in
theorem ggX1_forceAt_X4_down : GoodIn wsX1_forceAt wsX4_down := goodIn_r _ [10, 11, 12, 13, 14] (by decide +kernel) (by decide +kernel)
set_option maxRecDepth 20000 in
theorem gX1_forceAt_X4_down_n54 : GoodIn wsX1_forceAt (wsX4_down) := ggX1_forceAt_X4_down
set_option maxRecDepth 20000 in
theorem ggX1_turnsOfShot_X4_up : GoodIn wsX1_turnsOfShot wsX4_up := goodIn_r _ [5, 6, 7, 8, 9] (by decide +kernel) (by decide +kernel)
set_option maxRecDepth 20000 in
theorem gX1_turnsOfShot_X4_up_n62 : GoodIn wsX1_turnsOfShot (wsX4_up) := ggX1_turnsOfShot_X4_up
set_option maxRecDepth 20000 in
theorem ggX2_takes_X4_within : GoodIn wsX2_takes wsX4_within := goodIn_r _ [5] (by decide +kernel) (by decide +kernel)
set_option maxRecDepth 20000 in
theorem gX2_takes_X4_within_n19 : GoodIn wsX2_takes (wsX4_within) := ggX2_takes_X4_within
set_option maxRecDepth 20000 in
theorem ggX2_put_X2_takes : GoodIn wsX2_put wsX2_takes := goodIn_r _ [6, 7, 8, 9, 10, 11] (by decide +kernel) (by decide +kernel)
set_option maxRecDepth 20000 in
theorem gX2_put_X2_takes : GoodIn wsX2_put (wsV RX2 29 RX2 yX2_takes wsX2_takes) := goodIn_app (goodIn_of _ (by decide +kernel)) ggX2_put_X2_takes
set_option maxRecDepth 20000 in
theorem ggX2_wholeDays_X2_isWet : GoodIn wsX2_wholeDays wsX2_isWet := goodIn_r _ [7, 8, 9, 17, 18, 19] (by decide +kernel) (by decide +kernel)
set_option maxRecDepth 20000 in
theorem gX2_wholeDays_X2_isWet : GoodIn wsX2_wholeDays (wsV RX2 42 RX2 yX2_isWet wsX2_isWet) := goodIn_app (goodIn_of _ (by decide +kernel)) ggX2_wholeDays_X2_isWet
set_option maxRecDepth 20000 in
theorem ggX2_wholeDays_X4_up : GoodIn wsX2_wholeDays wsX4_up := goodIn_r _ [12, 13, 14, 15, 16] (by decide +kernel) (by decide +kernel)
set_option maxRecDepth 20000 in
theorem gX2_wholeDays_X4_up_n48 : GoodIn wsX2_wholeDays (wsX4_up) := ggX2_wholeDays_X4_up
set_option maxRecDepth 20000 in
theorem ggX2_bestRate_X2_wholeDays : GoodIn wsX2_bestRate wsX2_wholeDays := goodIn_r _ [5, 6, 7, 8, 9, 10, 4, 11, 12, 13, 14, 15, 16, 17, 18, 19, 20, 21, 22, 23] (by decide +kernel) (by decide +kernel)
set_option maxRecDepth 20000 in
theorem gX2_bestRate_X2_wholeDays : GoodIn wsX2_bestRate (wsV RX2 52 RX2 yX2_wholeDays wsX2_wholeDays) := goodIn_app (goodIn_of _ (by decide +kernel)) ggX2_bestRate_X2_wholeDays
set_option maxRecDepth 20000 in
theorem ggX3_init_X3_build : GoodIn wsX3_init wsX3_build := goodIn_r _ [13, 14, 15, 5, 6, 7, 16, 17, 18, 19, 20, 21, 22] (by decide +kernel) (by decide +kernel)
set_option maxRecDepth 20000 in
theorem gX3_init_X3_build : GoodIn wsX3_init (wsV RX3 24 RX3 yX3_build wsX3_build) := goodIn_app (goodIn_of _ (by decide +kernel)) ggX3_init_X3_build
set_option maxRecDepth 20000 in
theorem ggX3_stands_X3_has : GoodIn wsX3_stands wsX3_has := goodIn_r _ [6, 7, 8, 12, 13, 14, 15, 16, 17, 18] (by decide +kernel) (by decide +kernel)
set_option maxRecDepth 20000 in
theorem gX3_stands_X3_has : GoodIn wsX3_stands (wsV RX3 35 RX3 yX3_has wsX3_has) := goodIn_app (goodIn_of _ (by decide +kernel)) ggX3_stands_X3_has
set_option maxRecDepth 20000 in
theorem ggX3_stands_X3_holds : GoodIn wsX3_stands wsX3_holds := goodIn_r _ [11] (by decide +kernel) (by decide +kernel)
set_option maxRecDepth 20000 in
theorem gX3_stands_X3_holds : GoodIn wsX3_stands (va_wsS RX3 39 yX3_holds wsX3_holds) := goodIn_app (goodIn_of _ (by decide +kernel)) ggX3_stands_X3_holds
set_option maxRecDepth 20000 in
theorem ggX3_isPropped_X3_has : GoodIn wsX3_isPropped wsX3_has := goodIn_r _ [6, 7, 8, 12, 13, 14, 15, 16, 17, 18] (by decide +kernel) (by decide +kernel)
set_option maxRecDepth 20000 in
theorem gX3_isPropped_X3_has : GoodIn wsX3_isPropped (wsV RX3 35 RX3 yX3_has wsX3_has) := goodIn_app (goodIn_of _ (by decide +kernel)) ggX3_isPropped_X3_has
set_option maxRecDepth 20000 in
theorem ggX3_isPropped_X3_holds : GoodIn wsX3_isPropped wsX3_holds := goodIn_r _ [11] (by decide +kernel) (by decide +kernel)
set_option maxRecDepth 20000 in
theorem gX3_isPropped_X3_holds : GoodIn wsX3_isPropped (va_wsS RX3 39 yX3_holds wsX3_holds) := goodIn_app (goodIn_of _ (by decide +kernel)) ggX3_isPropped_X3_holds
set_option maxRecDepth 20000 in
theorem ggX3_strengthAt_X3_has : GoodIn wsX3_strengthAt wsX3_has := goodIn_r _ [6, 7, 8, 12, 13, 14, 15, 16, 17, 18] (by decide +kernel) (by decide +kernel)
set_option maxRecDepth 20000 in
theorem gX3_strengthAt_X3_has : GoodIn wsX3_strengthAt (wsV RX3 35 RX3 yX3_has wsX3_has) := goodIn_app (goodIn_of _ (by decide +kernel)) ggX3_strengthAt_X3_has
set_option maxRecDepth 20000 in
theorem ggX3_strengthAt_X3_place : GoodIn wsX3_strengthAt wsX3_place := goodIn_r _ [11] (by decide +kernel) (by decide +kernel)
set_option maxRecDepth 20000 in
theorem gX3_strengthAt_X3_place : GoodIn wsX3_strengthAt (va_wsS RX3 42 yX3_place wsX3_place) := goodIn_app (goodIn_of _ (by decide +kernel)) ggX3_strengthAt_X3_place
set_option maxRecDepth 20000 in
theorem ggX3_putStrength_X3_has : GoodIn wsX3_putStrength wsX3_has := goodIn_r _ [6, 7, 8, 12, 13, 14, 15, 16, 17, 18] (by decide +kernel) (by decide +kernel)
set_option maxRecDepth 20000 in
theorem gX3_putStrength_X3_has : GoodIn wsX3_putStrength (wsV RX3 35 RX3 yX3_has wsX3_has) := goodIn_app (goodIn_of _ (by decide +kernel)) ggX3_putStrength_X3_has
set_option maxRecDepth 20000 in
theorem ggX3_putStrength_X3_place : GoodIn wsX3_putStrength wsX3_place := goodIn_r _ [11] (by decide +kernel) (by decide +kernel)
set_option maxRecDepth 20000 in
theorem gX3_putStrength_X3_place : GoodIn wsX3_putStrength (va_wsS RX3 42 yX3_place wsX3_place) := goodIn_app (goodIn_of _ (by decide +kernel)) ggX3_putStrength_X3_place
set_option maxRecDepth 20000 in
theorem ggX3_putProp_X3_has : GoodIn wsX3_putProp wsX3_has := goodIn_r _ [6, 7, 8, 12, 13, 14, 15, 16, 17, 18] (by decide +kernel) (by decide +kernel)
set_option maxRecDepth 20000 in
theorem gX3_putProp_X3_has : GoodIn wsX3_putProp (wsV RX3 35 RX3 yX3_has wsX3_has) := goodIn_app (goodIn_of _ (by decide +kernel)) ggX3_putProp_X3_has
set_option maxRecDepth 20000 in
theorem ggX3_putProp_X3_holds : GoodIn wsX3_putProp wsX3_holds := goodIn_r _ [11] (by decide +kernel) (by decide +kernel)
set_option maxRecDepth 20000 in
theorem gX3_putProp_X3_holds : GoodIn wsX3_putProp (va_wsS RX3 39 yX3_holds wsX3_holds) := goodIn_app (goodIn_of _ (by decide +kernel)) ggX3_putProp_X3_holds
set_option maxRecDepth 20000 in
theorem ggX3_strike_X3_stands : GoodIn wsX3_strike wsX3_stands := goodIn_r _ [8, 1, 9, 10, 11, 7, 12, 13, 14, 15, 16, 17, 32, 33, 34, 35, 36, 37, 38] (by decide +kernel) (by decide +kernel)
set_option maxRecDepth 20000 in
theorem gX3_strike_X3_stands : GoodIn wsX3_strike (wsV RX3 46 RX3 yX3_stands wsX3_stands) := goodIn_app (goodIn_of _ (by decide +kernel)) ggX3_strike_X3_stands
set_option maxRecDepth 20000 in
theorem ggX3_strike_J6_bitCount_0f7a4 : GoodIn wsX3_strike wsJ6_bitCount_0f7a4 := goodIn_r _ [21, 22, 23, 24] (by decide +kernel) (by decide +kernel)
set_option maxRecDepth 20000 in
theorem gX3_strike_J6_bitCount_0f7a4 : GoodIn wsX3_strike (va_wsS RX3 49 yJ6_bitCount_0f7a4 wsJ6_bitCount_0f7a4) := goodIn_app (goodIn_of _ (by decide +kernel)) ggX3_strike_J6_bitCount_0f7a4
set_option maxRecDepth 20000 in
theorem ggX3_strike_X3_place : GoodIn wsX3_strike wsX3_place := goodIn_r _ [27] (by decide +kernel) (by decide +kernel)
set_option maxRecDepth 20000 in
theorem gX3_strike_X3_place : GoodIn wsX3_strike (va_wsS RX3 42 yX3_place wsX3_place) := goodIn_app (goodIn_of _ (by decide +kernel)) ggX3_strike_X3_place
set_option maxRecDepth 20000 in
theorem ggX3_strike_X3_dropUnheld : GoodIn wsX3_strike wsX3_dropUnheld := goodIn_r _ [31, 14, 1, 3, 15, 16, 7, 17, 32, 33, 34, 35, 36, 37, 38] (by decide +kernel) (by decide +kernel)
set_option maxRecDepth 20000 in
theorem gX3_strike_X3_dropUnheld : GoodIn wsX3_strike (wsV RX3 55 RX3 yX3_dropUnheld wsX3_dropUnheld) := goodIn_app (goodIn_of _ (by decide +kernel)) ggX3_strike_X3_dropUnheld
set_option maxRecDepth 20000 in
theorem ggX3_dropUnheld_X3_holds : GoodIn wsX3_dropUnheld wsX3_holds := goodIn_r _ [7] (by decide +kernel) (by decide +kernel)
set_option maxRecDepth 20000 in
theorem gX3_dropUnheld_X3_holds : GoodIn wsX3_dropUnheld (va_wsS RX3 39 yX3_holds wsX3_holds) := goodIn_app (goodIn_of _ (by decide +kernel)) ggX3_dropUnheld_X3_holds
set_option maxRecDepth 20000 in
theorem ggX3_isOpen_J6_bitCount_0f7a4 : GoodIn wsX3_isOpen wsJ6_bitCount_0f7a4 := goodIn_r _ [6, 7, 8, 9] (by decide +kernel) (by decide +kernel)
set_option maxRecDepth 20000 in
theorem gX3_isOpen_J6_bitCount_0f7a4 : GoodIn wsX3_isOpen (va_wsS RX3 49 yJ6_bitCount_0f7a4 wsJ6_bitCount_0f7a4) := goodIn_app (goodIn_of _ (by decide +kernel)) ggX3_isOpen_J6_bitCount_0f7a4
set_option maxRecDepth 20000 in
theorem ggX3_firstOpen_X3_isOpen : GoodIn wsX3_firstOpen wsX3_isOpen := goodIn_r _ [6, 7, 8, 9, 10, 11, 12, 13, 14, 15, 16, 17, 18, 19, 20, 21, 22] (by decide +kernel) (by decide +kernel)
set_option maxRecDepth 20000 in
theorem gX3_firstOpen_X3_isOpen : GoodIn wsX3_firstOpen (wsV RX3 62 RX3 yX3_isOpen wsX3_isOpen) := goodIn_app (goodIn_of _ (by decide +kernel)) ggX3_firstOpen_X3_isOpen
set_option maxRecDepth 20000 in
theorem ggX3_openColumns_X3_isOpen : GoodIn wsX3_openColumns wsX3_isOpen := goodIn_r _ [6, 7, 8, 9, 10, 11, 12, 13, 14, 15, 16, 17, 18, 19, 20, 21, 22] (by decide +kernel) (by decide +kernel)
set_option maxRecDepth 20000 in
theorem gX3_openColumns_X3_isOpen : GoodIn wsX3_openColumns (wsV RX3 62 RX3 yX3_isOpen wsX3_isOpen) := goodIn_app (goodIn_of _ (by decide +kernel)) ggX3_openColumns_X3_isOpen
set_option maxRecDepth 20000 in
theorem ggX3_standingCells_J6_bitCount_0f7a4 : GoodIn wsX3_standingCells wsJ6_bitCount_0f7a4 := goodIn_r _ [6, 7, 8, 9] (by decide +kernel) (by decide +kernel)
set_option maxRecDepth 20000 in
theorem gX3_standingCells_J6_bitCount_0f7a4 : GoodIn wsX3_standingCells (va_wsS RX3 49 yJ6_bitCount_0f7a4 wsJ6_bitCount_0f7a4) := goodIn_app (goodIn_of _ (by decide +kernel)) ggX3_standingCells_J6_bitCount_0f7a4
set_option maxRecDepth 20000 in
theorem ggX3_soonestColumn_X3_hitsToOpen : GoodIn wsX3_soonestColumn wsX3_hitsToOpen := goodIn_r _ [6, 1, 7, 8, 9, 10, 11, 12, 13, 14, 15, 16, 17, 18, 19, 20, 21, 22, 23, 24, 25, 26, 27, 5, 28, 29, 30, 31, 32, 33, 34, 35, 36, 37, 38, 39, 40, 41, 42, 43, 44, 45, 46, 47, 48, 49] (by decide +kernel) (by decide +kernel)
set_option maxRecDepth 20000 in
theorem gX3_soonestColumn_X3_hitsToOpen : GoodIn wsX3_soonestColumn (wsV RX3 66 RX3 yX3_hitsToOpen wsX3_hitsToOpen) := goodIn_app (goodIn_of _ (by decide +kernel)) ggX3_soonestColumn_X3_hitsToOpen
set_option maxRecDepth 20000 in
theorem ggX3_hitsToOpen_X4_within : GoodIn wsX3_hitsToOpen wsX4_within := goodIn_r _ [12] (by decide +kernel) (by decide +kernel)
set_option maxRecDepth 20000 in
theorem gX3_hitsToOpen_X4_within_n69 : GoodIn wsX3_hitsToOpen (wsX4_within) := ggX3_hitsToOpen_X4_within
set_option maxRecDepth 20000 in
theorem ggX3_hitsToOpen_J6_bitCount_0f7a4 : GoodIn wsX3_hitsToOpen wsJ6_bitCount_0f7a4 := goodIn_r _ [16, 17, 18, 19] (by decide +kernel) (by decide +kernel)
set_option maxRecDepth 20000 in
theorem gX3_hitsToOpen_J6_bitCount_0f7a4 : GoodIn wsX3_hitsToOpen (va_wsS RX3 49 yJ6_bitCount_0f7a4 wsJ6_bitCount_0f7a4) := goodIn_app (goodIn_of _ (by decide +kernel)) ggX3_hitsToOpen_J6_bitCount_0f7a4
