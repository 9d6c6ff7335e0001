set_option maxRecDepth 20000 in
theorem ggX0_release_X0_settle : GoodIn wsX0_release wsX0_settle := goodIn_r _ [5, 6, 7, 8, 9, 10, 11, 12, 13, 14, 15] (by decide +kernel) (by decide +kernel)
set_option maxRecDepth 20000 in
theorem gX0_release_X0_settle : GoodIn wsX0_release (wsV RX0 25 RX0 yX0_settle wsX0_settle) := goodIn_app (goodIn_of _ (by decide +kernel)) ggX0_release_X0_settle
set_option maxRecDepth 20000 in
theorem ggX0_jamLike_X0_jamAll : GoodIn wsX0_jamLike wsX0_jamAll := goodIn_r _ [7, 1, 2, 8, 9, 10, 11, 12, 13, 14, 15] (by decide +kernel) (by decide +kernel)
set_option maxRecDepth 20000 in
theorem gX0_jamLike_X0_jamAll : GoodIn wsX0_jamLike (wsV RX0 29 RX0 yX0_jamAll wsX0_jamAll) := goodIn_app (goodIn_of _ (by decide +kernel)) ggX0_jamLike_X0_jamAll
set_option maxRecDepth 20000 in
theorem ggX0_jam_X0_settle : GoodIn wsX0_jam wsX0_settle := goodIn_r _ [8, 1, 2, 3, 9, 10, 11, 12, 13, 14, 15] (by decide +kernel) (by decide +kernel)
set_option maxRecDepth 20000 in
theorem gX0_jam_X0_settle : GoodIn wsX0_jam (wsV RX0 25 RX0 yX0_settle wsX0_settle) := goodIn_app (goodIn_of _ (by decide +kernel)) ggX0_jam_X0_settle
set_option maxRecDepth 20000 in
theorem ggX0_step_X3_inputs : GoodIn wsX0_step wsX3_inputs := goodIn_r _ [10, 11, 12, 13, 14, 15, 16, 17, 18, 9, 19, 20, 21, 22, 23, 24, 25, 26, 27, 82, 83, 84, 85, 86, 87, 88, 89, 90, 91, 92, 93, 94, 95, 96, 97, 98] (by decide +kernel) (by decide +kernel)
set_option maxRecDepth 20000 in
theorem gX0_step_X3_inputs : GoodIn wsX0_step (wsV RX0 33 RX3 yX3_inputs wsX3_inputs) := goodIn_app (goodIn_of _ (by decide +kernel)) ggX0_step_X3_inputs
set_option maxRecDepth 20000 in
theorem ggX0_step_X4_relaysBy : GoodIn wsX0_step wsX4_relaysBy := goodIn_r _ [32, 33, 34, 35, 36, 31, 37, 38, 39, 40, 99, 100, 101, 102, 103, 104] (by decide +kernel) (by decide +kernel)
set_option maxRecDepth 20000 in
theorem gX0_step_X4_relaysBy : GoodIn wsX0_step (wsV RX0 44 RX4 yX4_relaysBy wsX4_relaysBy) := goodIn_app (goodIn_of _ (by decide +kernel)) ggX0_step_X4_relaysBy
set_option maxRecDepth 20000 in
theorem ggX0_step_X0_settle : GoodIn wsX0_step wsX0_settle := goodIn_r _ [45, 46, 47, 2, 75, 76, 77, 78, 79, 80, 81] (by decide +kernel) (by decide +kernel)
set_option maxRecDepth 20000 in
theorem gX0_step_X0_settle : GoodIn wsX0_step (wsV RX0 25 RX0 yX0_settle wsX0_settle) := goodIn_app (goodIn_of _ (by decide +kernel)) ggX0_step_X0_settle
set_option maxRecDepth 20000 in
theorem ggX0_step_X4_outputsBy : GoodIn wsX0_step wsX4_outputsBy := goodIn_r _ [51, 52, 53, 31, 54, 34, 35, 36, 37, 38, 39, 40, 99, 100, 101, 102, 103, 104] (by decide +kernel) (by decide +kernel)
set_option maxRecDepth 20000 in
theorem gX0_step_X4_outputsBy : GoodIn wsX0_step (wsV RX0 53 RX4 yX4_outputsBy wsX4_outputsBy) := goodIn_app (goodIn_of _ (by decide +kernel)) ggX0_step_X4_outputsBy
set_option maxRecDepth 20000 in
theorem ggX0_step_X3_doOutputs : GoodIn wsX0_step wsX3_doOutputs := goodIn_r _ [58, 59, 60, 61, 9, 62, 11, 12, 20, 63, 21, 64, 65, 66, 67, 68, 69, 70, 71, 72, 73, 74, 82, 83, 84, 85, 86, 87, 88, 89, 90, 91, 92, 93, 94, 95, 96, 97, 98] (by decide +kernel) (by decide +kernel)
set_option maxRecDepth 20000 in
theorem gX0_step_X3_doOutputs : GoodIn wsX0_step (wsV RX0 56 RX3 yX3_doOutputs wsX3_doOutputs) := goodIn_app (goodIn_of _ (by decide +kernel)) ggX0_step_X3_doOutputs
set_option maxRecDepth 20000 in
theorem ggX0_firstRace_X0_raceOf : GoodIn wsX0_firstRace wsX0_raceOf := goodIn_r _ [9, 10, 11, 12, 8, 13, 2, 14, 15, 16, 17, 18, 19, 20, 21, 22, 23, 24, 25, 26, 27, 28, 29, 30, 31, 32, 33, 34, 35] (by decide +kernel) (by decide +kernel)
set_option maxRecDepth 20000 in
theorem gX0_firstRace_X0_raceOf : GoodIn wsX0_firstRace (wsV RX0 63 RX0 yX0_raceOf wsX0_raceOf) := goodIn_app (goodIn_of _ (by decide +kernel)) ggX0_firstRace_X0_raceOf
set_option maxRecDepth 20000 in
theorem ggX0_raceOf_X0_wouldStay : GoodIn wsX0_raceOf wsX0_wouldStay := goodIn_r _ [5, 6, 7, 8, 9, 10, 11, 12, 13, 14, 15, 16, 17, 18, 19, 20, 21, 22, 23, 24, 25, 26, 27, 28] (by decide +kernel) (by decide +kernel)
set_option maxRecDepth 20000 in
theorem gX0_raceOf_X0_wouldStay : GoodIn wsX0_raceOf (wsV RX0 67 RX0 yX0_wouldStay wsX0_wouldStay) := goodIn_app (goodIn_of _ (by decide +kernel)) ggX0_raceOf_X0_wouldStay
set_option maxRecDepth 20000 in
theorem ggX0_wouldStay_X4_valueOf : GoodIn wsX0_wouldStay wsX4_valueOf := goodIn_r _ [7, 8, 9, 10, 18, 19, 20, 21, 22, 23] (by decide +kernel) (by decide +kernel)
set_option maxRecDepth 20000 in
theorem gX0_wouldStay_X4_valueOf : GoodIn wsX0_wouldStay (wsV RX0 71 RX4 yX4_valueOf wsX4_valueOf) := goodIn_app (goodIn_of _ (by decide +kernel)) ggX0_wouldStay_X4_valueOf
set_option maxRecDepth 20000 in
theorem ggX1_init_X1_lay : GoodIn wsX1_init wsX1_lay := goodIn_r _ [13, 14, 15, 16, 17, 8, 7, 18, 19, 20, 12, 21, 5, 22, 23, 24, 25, 26, 27, 28] (by decide +kernel) (by decide +kernel)
set_option maxRecDepth 20000 in
theorem gX1_init_X1_lay : GoodIn wsX1_init (wsV RX1 22 RX1 yX1_lay wsX1_lay) := goodIn_app (goodIn_of _ (by decide +kernel)) ggX1_init_X1_lay
set_option maxRecDepth 20000 in
theorem ggX1_lay_X1_clearWalls : GoodIn wsX1_lay wsX1_clearWalls := goodIn_r _ [11, 12, 5, 13, 14, 15, 16, 17, 18, 19] (by decide +kernel) (by decide +kernel)
set_option maxRecDepth 20000 in
theorem gX1_lay_X1_clearWalls : GoodIn wsX1_lay (wsV RX1 39 RX1 yX1_clearWalls wsX1_clearWalls) := goodIn_app (goodIn_of _ (by decide +kernel)) ggX1_lay_X1_clearWalls
set_option maxRecDepth 20000 in
theorem ggX1_wallsOf_X1_isWalled : GoodIn wsX1_wallsOf wsX1_isWalled := goodIn_r _ [5, 6, 7, 8, 9, 10, 11, 12, 13] (by decide +kernel) (by decide +kernel)
set_option maxRecDepth 20000 in
theorem gX1_wallsOf_X1_isWalled : GoodIn wsX1_wallsOf (wsV RX1 42 RX1 yX1_isWalled wsX1_isWalled) := goodIn_app (goodIn_of _ (by decide +kernel)) ggX1_wallsOf_X1_isWalled
set_option maxRecDepth 20000 in
theorem ggX1_putWall_X1_markWall : GoodIn wsX1_putWall wsX1_markWall := goodIn_r _ [5, 6, 7, 13, 14, 15, 16, 17, 18, 19] (by decide +kernel) (by decide +kernel)
set_option maxRecDepth 20000 in
theorem gX1_putWall_X1_markWall : GoodIn wsX1_putWall (wsV RX1 46 RX1 yX1_markWall wsX1_markWall) := goodIn_app (goodIn_of _ (by decide +kernel)) ggX1_putWall_X1_markWall
set_option maxRecDepth 20000 in
theorem ggX1_putWall_X1_ahead : GoodIn wsX1_putWall wsX1_ahead := goodIn_r _ [11, 12, 13, 14, 15, 16, 17, 18, 19] (by decide +kernel) (by decide +kernel)
set_option maxRecDepth 20000 in
theorem gX1_putWall_X1_ahead : GoodIn wsX1_putWall (wsV RX1 50 RX1 yX1_ahead wsX1_ahead) := goodIn_app (goodIn_of _ (by decide +kernel)) ggX1_putWall_X1_ahead
set_option maxRecDepth 20000 in
theorem ggX1_standingWalls_J13_bitCount_95d88 : GoodIn wsX1_standingWalls wsJ13_bitCount_95d88 := goodIn_r _ [7, 8, 9, 10] (by decide +kernel) (by decide +kernel)
set_option maxRecDepth 20000 in
theorem gX1_standingWalls_J13_bitCount_95d88 : GoodIn wsX1_standingWalls (va_wsS RX1 56 yJ13_bitCount_95d88 wsJ13_bitCount_95d88) := goodIn_app (goodIn_of _ (by decide +kernel)) ggX1_standingWalls_J13_bitCount_95d88
set_option maxRecDepth 20000 in
theorem ggX1_moveWall_X1_squareOfWall : GoodIn wsX1_moveWall wsX1_squareOfWall := goodIn_r _ [5, 6, 7, 31, 32, 33, 34, 35, 36, 37] (by decide +kernel) (by decide +kernel)
set_option maxRecDepth 20000 in
theorem gX1_moveWall_X1_squareOfWall : GoodIn wsX1_moveWall (wsV RX1 62 RX1 yX1_squareOfWall wsX1_squareOfWall) := goodIn_app (goodIn_of _ (by decide +kernel)) ggX1_moveWall_X1_squareOfWall
set_option maxRecDepth 20000 in
theorem ggX1_moveWall_X1_sideOfWall : GoodIn wsX1_moveWall wsX1_sideOfWall := goodIn_r _ [11, 7, 6, 31, 32, 33, 34, 35, 36, 37] (by decide +kernel) (by decide +kernel)
set_option maxRecDepth 20000 in
theorem gX1_moveWall_X1_sideOfWall : GoodIn wsX1_moveWall (wsV RX1 66 RX1 yX1_sideOfWall wsX1_sideOfWall) := goodIn_app (goodIn_of _ (by decide +kernel)) ggX1_moveWall_X1_sideOfWall
set_option maxRecDepth 20000 in
theorem ggX1_moveWall_X1_isWalled : GoodIn wsX1_moveWall wsX1_isWalled := goodIn_r _ [15, 16, 31, 32, 33, 34, 35, 36, 37] (by decide +kernel) (by decide +kernel)
set_option maxRecDepth 20000 in
theorem gX1_moveWall_X1_isWalled : GoodIn wsX1_moveWall (wsV RX1 42 RX1 yX1_isWalled wsX1_isWalled) := goodIn_app (goodIn_of _ (by decide +kernel)) ggX1_moveWall_X1_isWalled
set_option maxRecDepth 20000 in
theorem ggX1_moveWall_X1_putWall : GoodIn wsX1_moveWall wsX1_putWall := goodIn_r _ [20, 21, 22, 23, 4, 24, 16, 25, 26, 27, 28, 29, 30, 31, 32, 33, 34, 35, 36, 37] (by decide +kernel) (by decide +kernel)
set_option maxRecDepth 20000 in
theorem gX1_moveWall_X1_putWall : GoodIn wsX1_moveWall (wsV RX1 69 RX1 yX1_putWall wsX1_putWall) := goodIn_app (goodIn_of _ (by decide +kernel)) ggX1_moveWall_X1_putWall
set_option maxRecDepth 20000 in
theorem ggX1_raiseWalls_X1_clearWalls : GoodIn wsX1_raiseWalls wsX1_clearWalls := goodIn_r _ [5, 6, 7, 36, 37, 38, 39, 40, 41, 42] (by decide +kernel) (by decide +kernel)
set_option maxRecDepth 20000 in
theorem gX1_raiseWalls_X1_clearWalls : GoodIn wsX1_raiseWalls (wsV RX1 39 RX1 yX1_clearWalls wsX1_clearWalls) := goodIn_app (goodIn_of _ (by decide +kernel)) ggX1_raiseWalls_X1_clearWalls
set_option maxRecDepth 20000 in
theorem ggX1_raiseWalls_X1_wallNumbers : GoodIn wsX1_raiseWalls wsX1_wallNumbers := goodIn_r _ [11, 12, 13, 36, 37, 38, 39, 40, 41, 42] (by decide +kernel) (by decide +kernel)
set_option maxRecDepth 20000 in
theorem gX1_raiseWalls_X1_wallNumbers : GoodIn wsX1_raiseWalls (wsV RX1 72 RX1 yX1_wallNumbers wsX1_wallNumbers) := goodIn_app (goodIn_of _ (by decide +kernel)) ggX1_raiseWalls_X1_wallNumbers
set_option maxRecDepth 20000 in
theorem ggX1_raiseWalls_X1_squareOfWall : GoodIn wsX1_raiseWalls wsX1_squareOfWall := goodIn_r _ [17, 13, 12, 36, 37, 38, 39, 40, 41, 42] (by decide +kernel) (by decide +kernel)
set_option maxRecDepth 20000 in
theorem gX1_raiseWalls_X1_squareOfWall : GoodIn wsX1_raiseWalls (wsV RX1 62 RX1 yX1_squareOfWall wsX1_squareOfWall) := goodIn_app (goodIn_of _ (by decide +kernel)) ggX1_raiseWalls_X1_squareOfWall
set_option maxRecDepth 20000 in
theorem ggX1_raiseWalls_X1_sideOfWall : GoodIn wsX1_raiseWalls wsX1_sideOfWall := goodIn_r _ [21, 12, 13, 36, 37, 38, 39, 40, 41, 42] (by decide +kernel) (by decide +kernel)
set_option maxRecDepth 20000 in
theorem gX1_raiseWalls_X1_sideOfWall : GoodIn wsX1_raiseWalls (wsV RX1 66 RX1 yX1_sideOfWall wsX1_sideOfWall) := goodIn_app (goodIn_of _ (by decide +kernel)) ggX1_raiseWalls_X1_sideOfWall
set_option maxRecDepth 20000 in
theorem ggX1_raiseWalls_X1_putWall : GoodIn wsX1_raiseWalls wsX1_putWall := goodIn_r _ [25, 26, 27, 28, 4, 29, 6, 30, 31, 32, 33, 34, 35, 36, 37, 38, 39, 40, 41, 42] (by decide +kernel) (by decide +kernel)
set_option maxRecDepth 20000 in
theorem gX1_raiseWalls_X1_putWall : GoodIn wsX1_raiseWalls (wsV RX1 69 RX1 yX1_putWall wsX1_putWall) := goodIn_app (goodIn_of _ (by decide +kernel)) ggX1_raiseWalls_X1_putWall
set_option maxRecDepth 20000 in
theorem ggX1_reach_X1_spread : GoodIn wsX1_reach wsX1_spread := goodIn_r _ [7, 8, 9, 10, 11, 12, 13, 14, 15, 16, 17] (by decide +kernel) (by decide +kernel)
set_option maxRecDepth 20000 in
theorem gX1_reach_X1_spread : GoodIn wsX1_reach (wsV RX1 76 RX1 yX1_spread wsX1_spread) := goodIn_app (goodIn_of _ (by decide +kernel)) ggX1_reach_X1_spread
set_option maxRecDepth 20000 in
theorem ggX1_far_X1_spread : GoodIn wsX1_far wsX1_spread := goodIn_r _ [7, 8, 9, 10, 11, 12, 13, 14, 15, 16, 17] (by decide +kernel) (by decide +kernel)
set_option maxRecDepth 20000 in
theorem gX1_far_X1_spread : GoodIn wsX1_far (wsV RX1 76 RX1 yX1_spread wsX1_spread) := goodIn_app (goodIn_of _ (by decide +kernel)) ggX1_far_X1_spread
set_option maxRecDepth 20000 in
theorem ggX2_init_X4_init : GoodIn wsX2_init wsX4_init := goodIn_r _ [27, 28, 2, 3, 24, 29, 30, 31, 72, 73, 74, 75, 76, 77] (by decide +kernel) (by decide +kernel)
set_option maxRecDepth 20000 in
theorem gX2_init_X4_init_n17 : GoodIn wsX2_init (wsX4_init) := ggX2_init_X4_init
set_option maxRecDepth 20000 in
theorem ggX2_init_X3_init : GoodIn wsX2_init wsX3_init := goodIn_r _ [33, 34, 2, 3, 35, 36, 37, 78, 79, 80, 81, 82, 83, 84, 85, 86, 87] (by decide +kernel) (by decide +kernel)
set_option maxRecDepth 20000 in
theorem gX2_init_X3_init_n24 : GoodIn wsX2_init (wsX3_init) := ggX2_init_X3_init
set_option maxRecDepth 20000 in
theorem ggX2_init_X0_init : GoodIn wsX2_init wsX0_init := goodIn_r _ [39, 40, 2, 3] (by decide +kernel) (by decide +kernel)
set_option maxRecDepth 20000 in
theorem gX2_init_X0_init_n31 : GoodIn wsX2_init (wsX0_init) := ggX2_init_X0_init
set_option maxRecDepth 20000 in
theorem ggX2_init_X1_init : GoodIn wsX2_init wsX1_init := goodIn_r _ [43, 44, 2, 3, 36, 45, 24, 46, 47, 48, 49, 50, 19, 51, 52, 53, 54, 55, 56, 57, 58, 59, 95, 96, 97, 98, 99, 100, 101] (by decide +kernel) (by decide +kernel)
set_option maxRecDepth 20000 in
theorem gX2_init_X1_init : GoodIn wsX2_init (wsX1_init) := ggX2_init_X1_init
set_option maxRecDepth 20000 in
theorem ggX2_begin_X3_copyFrom : GoodIn wsX2_begin wsX3_copyFrom := goodIn_r _ [9, 10, 11, 12, 13, 14, 15, 16, 53, 54, 55, 56, 57, 58, 59, 60, 61, 62] (by decide +kernel) (by decide +kernel)
set_option maxRecDepth 20000 in
theorem gX2_begin_X3_copyFrom : GoodIn wsX2_begin (wsV RX2 56 RX3 yX3_copyFrom wsX3_copyFrom) := goodIn_app (goodIn_of _ (by decide +kernel)) ggX2_begin_X3_copyFrom
set_option maxRecDepth 20000 in
theorem ggX2_begin_X1_copyFrom : GoodIn wsX2_begin wsX1_copyFrom := goodIn_r _ [21, 22, 23, 24, 25, 26, 27, 28, 63, 64, 65, 66, 67, 68, 69] (by decide +kernel) (by decide +kernel)
set_option maxRecDepth 20000 in
theorem gX2_begin_X1_copyFrom : GoodIn wsX2_begin (wsV RX2 60 RX1 yX1_copyFrom wsX1_copyFrom) := goodIn_app (goodIn_of _ (by decide +kernel)) ggX2_begin_X1_copyFrom
set_option maxRecDepth 20000 in
theorem ggX2_begin_X0_jamLike : GoodIn wsX2_begin wsX0_jamLike := goodIn_r _ [33, 34, 35, 36, 37, 38, 32, 39, 40, 70, 71, 72, 73, 74, 75, 76] (by decide +kernel) (by decide +kernel)
set_option maxRecDepth 20000 in
theorem gX2_begin_X0_jamLike : GoodIn wsX2_begin (wsV RX2 63 RX0 yX0_jamLike wsX0_jamLike) := goodIn_app (goodIn_of _ (by decide +kernel)) ggX2_begin_X0_jamLike
set_option maxRecDepth 20000 in
theorem ggX2_firstDifference_X3_copyFrom : GoodIn wsX2_firstDifference wsX3_copyFrom := goodIn_r _ [12, 13, 14, 15, 16, 17, 18, 19, 163, 164, 165, 166, 167, 168, 169, 170, 171, 172] (by decide +kernel) (by decide +kernel)
set_option maxRecDepth 20000 in
theorem gX2_firstDifference_X3_copyFrom : GoodIn wsX2_firstDifference (wsV RX2 56 RX3 yX3_copyFrom wsX3_copyFrom) := goodIn_app (goodIn_of _ (by decide +kernel)) ggX2_firstDifference_X3_copyFrom
set_option maxRecDepth 20000 in
theorem ggX2_firstDifference_X0_jamLike : GoodIn wsX2_firstDifference wsX0_jamLike := goodIn_r _ [24, 25, 26, 27, 28, 29, 23, 30, 31, 173, 174, 175, 176, 177, 178, 179] (by decide +kernel) (by decide +kernel)
set_option maxRecDepth 20000 in
theorem gX2_firstDifference_X0_jamLike : GoodIn wsX2_firstDifference (wsV RX2 63 RX0 yX0_jamLike wsX0_jamLike) := goodIn_app (goodIn_of _ (by decide +kernel)) ggX2_firstDifference_X0_jamLike
set_option maxRecDepth 20000 in
theorem ggX2_firstDifference_X3_obey : GoodIn wsX2_firstDifference wsX3_obey := goodIn_r _ [35, 16, 36, 37, 38, 39, 40, 41, 11, 42, 15, 13, 14, 43, 44, 45, 46, 47, 19, 48, 49, 50, 51, 52, 53, 54, 55, 56, 57, 17, 18, 58, 59, 60, 61, 62, 63, 64, 65, 66, 67, 68, 69, 70, 71, 72, 73, 74, 75, 76, 77, 78, 79, 80, 81, 82, 83, 84, 85, 86, 87, 88, 89, 90, 91, 92, 93, 94, 95, 96, 97, 98, 99, 100, 163, 164, 165, 166, 167, 168, 169, 170, 171, 172, 180, 181, 182, 183, 184, 185, 186, 187, 188, 189, 190, 191, 192, 193] (by decide +kernel) (by decide +kernel)
set_option maxRecDepth 20000 in
theorem gX2_firstDifference_X3_obey : GoodIn wsX2_firstDifference (wsV RX2 67 RX3 yX3_obey wsX3_obey) := goodIn_app (goodIn_of _ (by decide +kernel)) ggX2_firstDifference_X3_obey
set_option maxRecDepth 20000 in
theorem ggX2_firstDifference_X0_step : GoodIn wsX2_firstDifference wsX0_step := goodIn_r _ [104, 105, 31, 106, 107, 108, 109, 110, 111, 11, 112, 13, 14, 113, 43, 114, 54, 55, 56, 57, 17, 18, 48, 49, 50, 51, 52, 53, 115, 116, 117, 118, 119, 120, 121, 122, 123, 124, 125, 126, 127, 128, 129, 130, 23, 131, 25, 26, 132, 133, 134, 135, 136, 137, 138, 139, 140, 141, 142, 80, 81, 82, 83, 84, 76, 77, 78, 79, 85, 86, 87, 88, 89, 90, 91, 173, 174, 175, 176, 177, 178, 179, 163, 164, 165, 166, 167, 168, 169, 170, 171, 172, 187, 188, 189, 190, 191, 192, 193, 194, 195, 196, 197, 198, 199] (by decide +kernel) (by decide +kernel)
set_option maxRecDepth 20000 in
theorem gX2_firstDifference_X0_step : GoodIn wsX2_firstDifference (wsV RX2 71 RX0 yX0_step wsX0_step) := goodIn_app (goodIn_of _ (by decide +kernel)) ggX2_firstDifference_X0_step
set_option maxRecDepth 20000 in
theorem ggX2_firstDifference_X3_standsAs : GoodIn wsX2_firstDifference wsX3_standsAs := goodIn_r _ [146, 13, 14, 163, 164, 165, 166, 167, 168, 169, 170, 171, 172] (by decide +kernel) (by decide +kernel)
set_option maxRecDepth 20000 in
theorem gX2_firstDifference_X3_standsAs : GoodIn wsX2_firstDifference (wsV RX2 75 RX3 yX3_standsAs wsX3_standsAs) := goodIn_app (goodIn_of _ (by decide +kernel)) ggX2_firstDifference_X3_standsAs
set_option maxRecDepth 20000 in
theorem ggX2_firstDifference_X3_hasWaysOf : GoodIn wsX2_firstDifference wsX3_hasWaysOf := goodIn_r _ [150, 17, 18, 163, 164, 165, 166, 167, 168, 169, 170, 171, 172] (by decide +kernel) (by decide +kernel)
set_option maxRecDepth 20000 in
theorem gX2_firstDifference_X3_hasWaysOf : GoodIn wsX2_firstDifference (wsV RX2 79 RX3 yX3_hasWaysOf wsX3_hasWaysOf) := goodIn_app (goodIn_of _ (by decide +kernel)) ggX2_firstDifference_X3_hasWaysOf
set_option maxRecDepth 20000 in
theorem ggX2_findSuspects_X2_recordTrack : GoodIn wsX2_findSuspects wsX2_recordTrack := goodIn_r _ [9, 10, 11, 12, 13, 3, 14, 15, 16, 17, 18, 19, 20, 21, 22, 23, 24, 25, 26, 27, 28, 29, 30, 31, 32, 33, 34, 35, 36, 37, 38, 39, 40, 41, 42, 43, 44, 45, 46, 47, 48, 49, 50, 51, 52, 53, 54, 55, 56, 57, 58, 59, 60, 61, 62, 63, 64, 65, 66, 67, 68, 69, 70, 71, 72, 73, 74, 75, 76, 77, 78, 79, 80, 81, 82, 83, 84, 85, 86, 87, 88, 89, 90, 91, 92, 93, 94, 95, 96, 97, 98, 99, 100, 101, 102, 103, 104, 105, 106, 107, 108, 109, 110, 111, 8, 112, 113, 114, 120, 121, 122, 123, 124, 125, 126, 127, 128, 129, 130, 131, 138, 139, 140, 141, 142, 143, 144, 145, 146, 147, 148, 149, 150, 151, 152, 153, 154, 155, 156, 157, 158, 159, 160, 161, 132, 133, 134, 135, 136, 137] (by decide +kernel) (by decide +kernel)
set_option maxRecDepth 20000 in
theorem gX2_findSuspects_X2_recordTrack : GoodIn wsX2_findSuspects (wsV RX2 88 RX2 yX2_recordTrack wsX2_recordTrack) := goodIn_app (goodIn_of _ (by decide +kernel)) ggX2_findSuspects_X2_recordTrack
set_option maxRecDepth 20000 in
theorem ggX2_findSuspects_X2_keepsTrack : GoodIn wsX2_findSuspects wsX2_keepsTrack := goodIn_r _ [118, 10, 11, 12, 3, 14, 15, 16, 17, 18, 19, 20, 21, 22, 23, 24, 25, 26, 27, 119, 36, 37, 31, 38, 33, 34, 39, 40, 41, 42, 43, 44, 45, 46, 47, 48, 49, 50, 51, 52, 53, 54, 55, 56, 57, 58, 59, 60, 61, 62, 63, 64, 65, 66, 67, 68, 69, 70, 71, 72, 73, 74, 75, 76, 77, 78, 79, 80, 81, 82, 83, 84, 85, 86, 87, 88, 89, 90, 91, 92, 93, 94, 95, 96, 97, 98, 99, 100, 101, 102, 103, 104, 105, 106, 107, 108, 109, 110, 111, 8, 112, 113, 114, 120, 121, 122, 123, 124, 125, 126, 127, 128, 129, 130, 131, 138, 139, 140, 141, 142, 143, 144, 145, 146, 147, 148, 149, 150, 151, 152, 153, 154, 155, 156, 157, 158, 159, 160, 161, 132, 133, 134, 135, 136, 137] (by decide +kernel) (by decide +kernel)
set_option maxRecDepth 20000 in
theorem gX2_findSuspects_X2_keepsTrack : GoodIn wsX2_findSuspects (wsV RX2 92 RX2 yX2_keepsTrack wsX2_keepsTrack) := goodIn_app (goodIn_of _ (by decide +kernel)) ggX2_findSuspects_X2_keepsTrack
set_option maxRecDepth 20000 in
theorem ggX2_suspectCount_J6_bitCount_0f7a4 : GoodIn wsX2_suspectCount wsJ6_bitCount_0f7a4 := goodIn_r _ [6, 7, 8, 9] (by decide +kernel) (by decide +kernel)
set_option maxRecDepth 20000 in
theorem gX2_suspectCount_J6_bitCount_0f7a4 : GoodIn wsX2_suspectCount (va_wsS RX2 99 yJ6_bitCount_0f7a4 wsJ6_bitCount_0f7a4) := goodIn_app (goodIn_of _ (by decide +kernel)) ggX2_suspectCount_J6_bitCount_0f7a4
set_option maxRecDepth 20000 in
theorem ggX2_findBestWall_X2_suspectCount : GoodIn wsX2_findBestWall wsX2_suspectCount := goodIn_r _ [8, 9, 10, 11, 12, 13, 14, 15, 16, 17, 170, 171, 172, 173, 174, 175, 176, 177, 178, 179, 180, 181] (by decide +kernel) (by decide +kernel)
set_option maxRecDepth 20000 in
theorem gX2_findBestWall_X2_suspectCount : GoodIn wsX2_findBestWall (wsV RX2 105 RX2 yX2_suspectCount wsX2_suspectCount) := goodIn_app (goodIn_of _ (by decide +kernel)) ggX2_findBestWall_X2_suspectCount
set_option maxRecDepth 20000 in
theorem ggX2_findBestWall_X1_wallNumbers : GoodIn wsX2_findBestWall wsX1_wallNumbers := goodIn_r _ [22, 23, 24, 182, 183, 184, 185, 186, 187, 188] (by decide +kernel) (by decide +kernel)
set_option maxRecDepth 20000 in
theorem gX2_findBestWall_X1_wallNumbers : GoodIn wsX2_findBestWall (wsV RX2 112 RX1 yX1_wallNumbers wsX1_wallNumbers) := goodIn_app (goodIn_of _ (by decide +kernel)) ggX2_findBestWall_X1_wallNumbers
set_option maxRecDepth 20000 in
theorem ggX2_findBestWall_X1_moveWall : GoodIn wsX2_findBestWall wsX1_moveWall := goodIn_r _ [28, 29, 30, 31, 21, 32, 24, 23, 33, 34, 35, 36, 37, 38, 39, 40, 41, 42, 43, 44, 45, 46, 47, 48, 49, 50, 51, 52, 53, 54, 55, 182, 183, 184, 185, 186, 187, 188] (by decide +kernel) (by decide +kernel)
set_option maxRecDepth 20000 in
theorem gX2_findBestWall_X1_moveWall : GoodIn wsX2_findBestWall (wsV RX2 115 RX1 yX1_moveWall wsX1_moveWall) := goodIn_app (goodIn_of _ (by decide +kernel)) ggX2_findBestWall_X1_moveWall
set_option maxRecDepth 20000 in
theorem ggX2_findBestWall_X2_suspectsLeft : GoodIn wsX2_findBestWall wsX2_suspectsLeft := goodIn_r _ [59, 60, 61, 2, 9, 10, 62, 63, 64, 7, 65, 66, 67, 68, 69, 3, 70, 71, 72, 73, 74, 75, 76, 77, 78, 79, 80, 81, 82, 83, 84, 85, 86, 87, 88, 89, 90, 91, 92, 93, 94, 95, 96, 97, 98, 99, 100, 101, 102, 103, 104, 105, 106, 107, 108, 109, 110, 111, 112, 113, 114, 38, 39, 21, 40, 41, 115, 116, 117, 118, 119, 120, 121, 122, 123, 124, 125, 126, 127, 128, 129, 130, 131, 132, 133, 134, 135, 136, 137, 138, 139, 140, 141, 142, 143, 144, 145, 146, 147, 148, 149, 150, 151, 152, 153, 154, 155, 156, 157, 158, 159, 160, 161, 162, 163, 164, 165, 166, 167, 168, 169, 170, 171, 172, 173, 174, 175, 176, 177, 178, 179, 180, 181, 189, 190, 191, 192, 193, 194, 195, 196, 197, 198, 199, 200, 201, 202, 203, 204, 205, 206, 207, 208, 209, 210, 211, 182, 183, 184, 185, 186, 187, 188] (by decide +kernel) (by decide +kernel)
set_option maxRecDepth 20000 in
theorem gX2_findBestWall_X2_suspectsLeft : GoodIn wsX2_findBestWall (wsV RX2 118 RX2 yX2_suspectsLeft wsX2_suspectsLeft) := goodIn_app (goodIn_of _ (by decide +kernel)) ggX2_findBestWall_X2_suspectsLeft
set_option maxRecDepth 20000 in
theorem ggX2_suspectsLeft_X2_recordTrack : GoodIn wsX2_suspectsLeft wsX2_recordTrack := goodIn_r _ [10, 11, 12, 13, 14, 1, 15, 16, 17, 18, 19, 20, 21, 22, 23, 24, 25, 26, 27, 28, 29, 30, 31, 32, 33, 34, 35, 36, 37, 38, 39, 40, 41, 42, 43, 44, 45, 46, 47, 48, 49, 50, 51, 52, 53, 54, 55, 56, 57, 58, 59, 60, 61, 62, 63, 64, 65, 66, 67, 68, 69, 70, 71, 72, 73, 74, 75, 76, 77, 78, 79, 80, 81, 82, 83, 84, 85, 86, 87, 88, 89, 90, 91, 92, 93, 94, 95, 96, 97, 98, 99, 100, 101, 102, 103, 104, 105, 106, 107, 108, 109, 110, 111, 112, 9, 113, 114, 115, 121, 122, 123, 124, 125, 126, 127, 128, 129, 130, 131, 132, 139, 140, 141, 142, 143, 144, 145, 146, 147, 148, 149, 150, 151, 152, 153, 154, 155, 156, 157, 158, 159, 160, 161, 162, 133, 134, 135, 136, 137, 138] (by decide +kernel) (by decide +kernel)
set_option maxRecDepth 20000 in
theorem gX2_suspectsLeft_X2_recordTrack : GoodIn wsX2_suspectsLeft (wsV RX2 88 RX2 yX2_recordTrack wsX2_recordTrack) := goodIn_app (goodIn_of _ (by decide +kernel)) ggX2_suspectsLeft_X2_recordTrack
set_option maxRecDepth 20000 in
theorem ggX2_suspectsLeft_X2_keepsTrack : GoodIn wsX2_suspectsLeft wsX2_keepsTrack := goodIn_r _ [119, 11, 12, 13, 1, 15, 16, 17, 18, 19, 20, 21, 22, 23, 24, 25, 26, 27, 28, 120, 37, 38, 32, 39, 34, 35, 40, 41, 42, 43, 44, 45, 46, 47, 48, 49, 50, 51, 52, 53, 54, 55, 56, 57, 58, 59, 60, 61, 62, 63, 64, 65, 66, 67, 68, 69, 70, 71, 72, 73, 74, 75, 76, 77, 78, 79, 80, 81, 82, 83, 84, 85, 86, 87, 88, 89, 90, 91, 92, 93, 94, 95, 96, 97, 98, 99, 100, 101, 102, 103, 104, 105, 106, 107, 108, 109, 110, 111, 112, 9, 113, 114, 115, 121, 122, 123, 124, 125, 126, 127, 128, 129, 130, 131, 132, 139, 140, 141, 142, 143, 144, 145, 146, 147, 148, 149, 150, 151, 152, 153, 154, 155, 156, 157, 158, 159, 160, 161, 162, 133, 134, 135, 136, 137, 138] (by decide +kernel) (by decide +kernel)
set_option maxRecDepth 20000 in
theorem gX2_suspectsLeft_X2_keepsTrack : GoodIn wsX2_suspectsLeft (wsV RX2 92 RX2 yX2_keepsTrack wsX2_keepsTrack) := goodIn_app (goodIn_of _ (by decide +kernel)) ggX2_suspectsLeft_X2_keepsTrack
set_option maxRecDepth 20000 in
theorem ggX2_recordTrack_X3_copyFrom : GoodIn wsX2_recordTrack wsX3_copyFrom := goodIn_r _ [12, 13, 14, 15, 16, 17, 18, 19, 120, 121, 122, 123, 124, 125, 126, 127, 128, 129] (by decide +kernel) (by decide +kernel)
set_option maxRecDepth 20000 in
theorem gX2_recordTrack_X3_copyFrom : GoodIn wsX2_recordTrack (wsV RX2 56 RX3 yX3_copyFrom wsX3_copyFrom) := goodIn_app (goodIn_of _ (by decide +kernel)) ggX2_recordTrack_X3_copyFrom
set_option maxRecDepth 20000 in
theorem ggX2_recordTrack_X0_jamLike : GoodIn wsX2_recordTrack wsX0_jamLike := goodIn_r _ [24, 25, 26, 27, 28, 29, 23, 30, 31, 130, 131, 132, 133, 134, 135, 136] (by decide +kernel) (by decide +kernel)
set_option maxRecDepth 20000 in
theorem gX2_recordTrack_X0_jamLike : GoodIn wsX2_recordTrack (wsV RX2 63 RX0 yX0_jamLike wsX0_jamLike) := goodIn_app (goodIn_of _ (by decide +kernel)) ggX2_recordTrack_X0_jamLike
set_option maxRecDepth 20000 in
theorem ggX2_recordTrack_X0_step : GoodIn wsX2_recordTrack wsX0_step := goodIn_r _ [35, 36, 31, 37, 38, 39, 40, 41, 42, 11, 43, 13, 14, 44, 45, 46, 47, 48, 49, 50, 17, 18, 51, 52, 53, 54, 55, 56, 57, 58, 59, 60, 61, 62, 63, 64, 65, 66, 67, 68, 69, 70, 71, 72, 23, 73, 25, 26, 74, 75, 76, 77, 78, 79, 80, 81, 82, 83, 84, 85, 86, 87, 88, 89, 90, 91, 92, 93, 94, 95, 96, 97, 98, 99, 100, 130, 131, 132, 133, 134, 135, 136, 120, 121, 122, 123, 124, 125, 126, 127, 128, 129, 137, 138, 139, 140, 141, 142, 143, 144, 145, 146, 147, 148, 149] (by decide +kernel) (by decide +kernel)
set_option maxRecDepth 20000 in
theorem gX2_recordTrack_X0_step : GoodIn wsX2_recordTrack (wsV RX2 71 RX0 yX0_step wsX0_step) := goodIn_app (goodIn_of _ (by decide +kernel)) ggX2_recordTrack_X0_step
set_option maxRecDepth 20000 in
theorem ggX2_recordTrack_X2_stand : GoodIn wsX2_recordTrack wsX2_stand := goodIn_r _ [105, 1, 106, 107, 108, 109, 110, 111, 112, 113, 114, 115, 116, 117, 118, 119, 120, 121, 122, 123, 124, 125, 126, 127, 128, 129] (by decide +kernel) (by decide +kernel)
set_option maxRecDepth 20000 in
theorem gX2_recordTrack_X2_stand : GoodIn wsX2_recordTrack (wsV RX2 121 RX2 yX2_stand wsX2_stand) := goodIn_app (goodIn_of _ (by decide +kernel)) ggX2_recordTrack_X2_stand
set_option maxRecDepth 20000 in
theorem ggX2_keepsTrack_X3_copyFrom : GoodIn wsX2_keepsTrack wsX3_copyFrom := goodIn_r _ [11, 12, 13, 14, 15, 16, 17, 18, 115, 116, 117, 118, 119, 120, 121, 122, 123, 124] (by decide +kernel) (by decide +kernel)
set_option maxRecDepth 20000 in
theorem gX2_keepsTrack_X3_copyFrom : GoodIn wsX2_keepsTrack (wsV RX2 56 RX3 yX3_copyFrom wsX3_copyFrom) := goodIn_app (goodIn_of _ (by decide +kernel)) ggX2_keepsTrack_X3_copyFrom
set_option maxRecDepth 20000 in
theorem ggX2_keepsTrack_X0_jamAll : GoodIn wsX2_keepsTrack wsX0_jamAll := goodIn_r _ [23, 24, 25, 26, 125, 126, 127, 128, 129, 130, 131] (by decide +kernel) (by decide +kernel)
set_option maxRecDepth 20000 in
theorem gX2_keepsTrack_X0_jamAll : GoodIn wsX2_keepsTrack (wsV RX2 124 RX0 yX0_jamAll wsX0_jamAll) := goodIn_app (goodIn_of _ (by decide +kernel)) ggX2_keepsTrack_X0_jamAll
set_option maxRecDepth 20000 in
theorem ggX2_keepsTrack_X0_step : GoodIn wsX2_keepsTrack wsX0_step := goodIn_r _ [30, 31, 26, 32, 33, 34, 35, 36, 37, 10, 38, 12, 13, 39, 40, 41, 42, 43, 44, 45, 16, 17, 46, 47, 48, 49, 50, 51, 52, 53, 54, 55, 56, 57, 58, 59, 60, 61, 62, 63, 64, 65, 66, 67, 22, 68, 24, 25, 69, 70, 71, 72, 73, 74, 75, 76, 77, 78, 79, 80, 81, 82, 83, 84, 85, 86, 87, 88, 89, 90, 91, 92, 93, 94, 95, 125, 126, 127, 128, 129, 130, 131, 115, 116, 117, 118, 119, 120, 121, 122, 123, 124, 132, 133, 134, 135, 136, 137, 138, 139, 140, 141, 142, 143, 144] (by decide +kernel) (by decide +kernel)
set_option maxRecDepth 20000 in
theorem gX2_keepsTrack_X0_step : GoodIn wsX2_keepsTrack (wsV RX2 71 RX0 yX0_step wsX0_step) := goodIn_app (goodIn_of _ (by decide +kernel)) ggX2_keepsTrack_X0_step
set_option maxRecDepth 20000 in
theorem ggX2_keepsTrack_X2_stand : GoodIn wsX2_keepsTrack wsX2_stand := goodIn_r _ [100, 1, 101, 102, 103, 104, 105, 106, 107, 108, 109, 110, 111, 112, 113, 114, 115, 116, 117, 118, 119, 120, 121, 122, 123, 124] (by decide +kernel) (by decide +kernel)
set_option maxRecDepth 20000 in
theorem gX2_keepsTrack_X2_stand : GoodIn wsX2_keepsTrack (wsV RX2 121 RX2 yX2_stand wsX2_stand) := goodIn_app (goodIn_of _ (by decide +kernel)) ggX2_keepsTrack_X2_stand
set_option maxRecDepth 20000 in
theorem ggX3_setDownWiped_X3_setDown : GoodIn wsX3_setDownWiped wsX3_setDown := goodIn_r _ [5, 6, 7, 8, 9, 17, 18, 19, 20, 21, 22, 23, 24, 25, 26] (by decide +kernel) (by decide +kernel)
set_option maxRecDepth 20000 in
theorem gX3_setDownWiped_X3_setDown : GoodIn wsX3_setDownWiped (wsV RX3 31 RX3 yX3_setDown wsX3_setDown) := goodIn_app (goodIn_of _ (by decide +kernel)) ggX3_setDownWiped_X3_setDown
set_option maxRecDepth 20000 in
theorem ggX3_setDownWiped_X3_clearSquares : GoodIn wsX3_setDownWiped wsX3_clearSquares := goodIn_r _ [13, 14, 15, 16, 17, 18, 19, 20, 21, 22, 23, 24, 25, 26] (by decide +kernel) (by decide +kernel)
set_option maxRecDepth 20000 in
theorem gX3_setDownWiped_X3_clearSquares : GoodIn wsX3_setDownWiped (wsV RX3 35 RX3 yX3_clearSquares wsX3_clearSquares) := goodIn_app (goodIn_of _ (by decide +kernel)) ggX3_setDownWiped_X3_clearSquares
set_option maxRecDepth 20000 in
theorem ggX3_markedSquares_J13_bitCount_95d88 : GoodIn wsX3_markedSquares wsJ13_bitCount_95d88 := goodIn_r _ [7, 8, 9, 10] (by decide +kernel) (by decide +kernel)
set_option maxRecDepth 20000 in
theorem gX3_markedSquares_J13_bitCount_95d88 : GoodIn wsX3_markedSquares (va_wsS RX3 45 yJ13_bitCount_95d88 wsJ13_bitCount_95d88) := goodIn_app (goodIn_of _ (by decide +kernel)) ggX3_markedSquares_J13_bitCount_95d88
set_option maxRecDepth 20000 in
theorem ggX3_signs_X3_yesesOf : GoodIn wsX3_signs wsX3_yesesOf := goodIn_r _ [9, 10, 23, 24, 25, 26, 27, 28, 29, 30, 31, 32] (by decide +kernel) (by decide +kernel)
set_option maxRecDepth 20000 in
theorem gX3_signs_X3_yesesOf : GoodIn wsX3_signs (wsV RX3 68 RX3 yX3_yesesOf wsX3_yesesOf) := goodIn_app (goodIn_of _ (by decide +kernel)) ggX3_signs_X3_yesesOf
set_option maxRecDepth 20000 in
theorem ggX3_signs_X1_isWalled : GoodIn wsX3_signs wsX1_isWalled := goodIn_r _ [15, 16, 33, 34, 35, 36, 37, 38, 39] (by decide +kernel) (by decide +kernel)
set_option maxRecDepth 20000 in
theorem gX3_signs_X1_isWalled : GoodIn wsX3_signs (wsV RX3 74 RX1 yX1_isWalled wsX1_isWalled) := goodIn_app (goodIn_of _ (by decide +kernel)) ggX3_signs_X1_isWalled
set_option maxRecDepth 20000 in
theorem ggX3_signs_X3_wayOf : GoodIn wsX3_signs wsX3_wayOf := goodIn_r _ [20, 21, 22, 23, 24, 25, 26, 27, 28, 29, 30, 31, 32] (by decide +kernel) (by decide +kernel)
set_option maxRecDepth 20000 in
theorem gX3_signs_X3_wayOf : GoodIn wsX3_signs (wsV RX3 81 RX3 yX3_wayOf wsX3_wayOf) := goodIn_app (goodIn_of _ (by decide +kernel)) ggX3_signs_X3_wayOf
set_option maxRecDepth 20000 in
theorem ggX3_obey_X3_signs : GoodIn wsX3_obey wsX3_signs := goodIn_r _ [9, 10, 11, 12, 13, 14, 15, 16, 8, 17, 18, 19, 20, 21, 22, 23, 24, 25, 26, 27, 28, 29, 30, 74, 75, 76, 77, 78, 79, 80, 81, 82, 83, 91, 92, 93, 94, 95, 96, 97] (by decide +kernel) (by decide +kernel)
set_option maxRecDepth 20000 in
theorem gX3_obey_X3_signs : GoodIn wsX3_obey (wsV RX3 84 RX3 yX3_signs wsX3_signs) := goodIn_app (goodIn_of _ (by decide +kernel)) ggX3_obey_X3_signs
set_option maxRecDepth 20000 in
theorem ggX3_obey_X6_lineFor : GoodIn wsX3_obey wsX6_lineFor := goodIn_r _ [35, 36, 37, 38, 39, 40, 84, 85, 86, 87, 88, 89, 90] (by decide +kernel) (by decide +kernel)
set_option maxRecDepth 20000 in
theorem gX3_obey_X6_lineFor : GoodIn wsX3_obey (wsV RX3 88 RX6 yX6_lineFor wsX6_lineFor) := goodIn_app (goodIn_of _ (by decide +kernel)) ggX3_obey_X6_lineFor
set_option maxRecDepth 20000 in
theorem ggX3_obey_X3_perform : GoodIn wsX3_obey wsX3_perform := goodIn_r _ [44, 11, 12, 10, 1, 45, 46, 47, 48, 49, 50, 51, 8, 52, 25, 26, 27, 28, 29, 30, 53, 54, 55, 56, 57, 58, 59, 60, 61, 62, 63, 64, 65, 66, 67, 68, 18, 69, 70, 71, 72, 73, 74, 75, 76, 77, 78, 79, 80, 81, 82, 83, 91, 92, 93, 94, 95, 96, 97] (by decide +kernel) (by decide +kernel)
set_option maxRecDepth 20000 in
theorem gX3_obey_X3_perform : GoodIn wsX3_obey (wsV RX3 98 RX3 yX3_perform wsX3_perform) := goodIn_app (goodIn_of _ (by decide +kernel)) ggX3_obey_X3_perform
set_option maxRecDepth 20000 in
theorem ggX3_perform_X3_turn : GoodIn wsX3_perform wsX3_turn := goodIn_r _ [13, 2, 42, 43, 44, 45, 46, 47, 48, 49, 50, 51] (by decide +kernel) (by decide +kernel)
set_option maxRecDepth 20000 in
theorem gX3_perform_X3_turn : GoodIn wsX3_perform (wsV RX3 102 RX3 yX3_turn wsX3_turn) := goodIn_app (goodIn_of _ (by decide +kernel)) ggX3_perform_X3_turn
set_option maxRecDepth 20000 in
theorem ggX3_perform_X3_wayOf : GoodIn wsX3_perform wsX3_wayOf := goodIn_r _ [17, 18, 19, 42, 43, 44, 45, 46, 47, 48, 49, 50, 51] (by decide +kernel) (by decide +kernel)
set_option maxRecDepth 20000 in
theorem gX3_perform_X3_wayOf : GoodIn wsX3_perform (wsV RX3 81 RX3 yX3_wayOf wsX3_wayOf) := goodIn_app (goodIn_of _ (by decide +kernel)) ggX3_perform_X3_wayOf
set_option maxRecDepth 20000 in
theorem ggX3_perform_X3_markWay : GoodIn wsX3_perform wsX3_markWay := goodIn_r _ [23, 1, 2, 18, 24, 19, 42, 43, 44, 45, 46, 47, 48, 49, 50, 51] (by decide +kernel) (by decide +kernel)
set_option maxRecDepth 20000 in
theorem gX3_perform_X3_markWay : GoodIn wsX3_perform (wsV RX3 105 RX3 yX3_markWay wsX3_markWay) := goodIn_app (goodIn_of _ (by decide +kernel)) ggX3_perform_X3_markWay
set_option maxRecDepth 20000 in
theorem ggX3_perform_X3_advance : GoodIn wsX3_perform wsX3_advance := goodIn_r _ [28, 2, 29, 1, 30, 31, 42, 43, 44, 45, 46, 47, 48, 49, 50, 51, 52, 53, 54, 55, 56, 57, 58] (by decide +kernel) (by decide +kernel)
set_option maxRecDepth 20000 in
theorem gX3_perform_X3_advance : GoodIn wsX3_perform (wsV RX3 108 RX3 yX3_advance wsX3_advance) := goodIn_app (goodIn_of _ (by decide +kernel)) ggX3_perform_X3_advance
set_option maxRecDepth 20000 in
theorem ggX3_perform_X3_markYes : GoodIn wsX3_perform wsX3_markYes := goodIn_r _ [35, 36, 1, 24, 37, 42, 43, 44, 45, 46, 47, 48, 49, 50, 51] (by decide +kernel) (by decide +kernel)
set_option maxRecDepth 20000 in
theorem gX3_perform_X3_markYes : GoodIn wsX3_perform (wsV RX3 112 RX3 yX3_markYes wsX3_markYes) := goodIn_app (goodIn_of _ (by decide +kernel)) ggX3_perform_X3_markYes
set_option maxRecDepth 20000 in
theorem ggX3_perform_X3_clearSquares : GoodIn wsX3_perform wsX3_clearSquares := goodIn_r _ [41, 18, 19, 36, 42, 43, 44, 45, 46, 47, 48, 49, 50, 51] (by decide +kernel) (by decide +kernel)
set_option maxRecDepth 20000 in
theorem gX3_perform_X3_clearSquares : GoodIn wsX3_perform (wsV RX3 35 RX3 yX3_clearSquares wsX3_clearSquares) := goodIn_app (goodIn_of _ (by decide +kernel)) ggX3_perform_X3_clearSquares
set_option maxRecDepth 20000 in
theorem ggX3_arrive_X3_obey : GoodIn wsX3_arrive wsX3_obey := goodIn_r _ [8, 9, 3, 10, 11, 12, 13, 14, 7, 15, 16, 1, 17, 2, 18, 19, 20, 21, 22, 23, 24, 25, 26, 27, 28, 29, 30, 31, 32, 33, 34, 35, 36, 37, 38, 39, 40, 41, 42, 43, 44, 45, 46, 47, 48, 49, 50, 51, 52, 53, 54, 55, 56, 57, 58, 59, 60, 61, 62, 63, 64, 65, 66, 67, 68, 69, 70, 71, 72, 73, 74, 75, 76, 77, 78, 79, 80, 81, 82, 83, 84, 85, 86, 87, 95, 96, 97, 98, 99, 100, 101, 88, 89, 90, 91, 92, 93, 94] (by decide +kernel) (by decide +kernel)
set_option maxRecDepth 20000 in
theorem gX3_arrive_X3_obey : GoodIn wsX3_arrive (wsV RX3 121 RX3 yX3_obey wsX3_obey) := goodIn_app (goodIn_of _ (by decide +kernel)) ggX3_arrive_X3_obey
set_option maxRecDepth 20000 in
theorem ggX3_inputs_X3_wayOf : GoodIn wsX3_inputs wsX3_wayOf := goodIn_r _ [10, 11, 12, 19, 20, 21, 22, 23, 24, 25, 26, 27, 28] (by decide +kernel) (by decide +kernel)
set_option maxRecDepth 20000 in
theorem gX3_inputs_X3_wayOf : GoodIn wsX3_inputs (wsV RX3 81 RX3 yX3_wayOf wsX3_wayOf) := goodIn_app (goodIn_of _ (by decide +kernel)) ggX3_inputs_X3_wayOf
set_option maxRecDepth 20000 in
theorem ggX3_inputs_X1_isWalled : GoodIn wsX3_inputs wsX1_isWalled := goodIn_r _ [17, 18, 29, 30, 31, 32, 33, 34, 35] (by decide +kernel) (by decide +kernel)
set_option maxRecDepth 20000 in
theorem gX3_inputs_X1_isWalled : GoodIn wsX3_inputs (wsV RX3 74 RX1 yX1_isWalled wsX1_isWalled) := goodIn_app (goodIn_of _ (by decide +kernel)) ggX3_inputs_X1_isWalled
set_option maxRecDepth 20000 in
theorem ggX3_doOutputs_X3_markWay : GoodIn wsX3_doOutputs wsX3_markWay := goodIn_r _ [5, 6, 7, 8, 9, 10, 22, 23, 24, 25, 26, 27, 28, 29, 30, 31] (by decide +kernel) (by decide +kernel)
set_option maxRecDepth 20000 in
theorem gX3_doOutputs_X3_markWay : GoodIn wsX3_doOutputs (wsV RX3 105 RX3 yX3_markWay wsX3_markWay) := goodIn_app (goodIn_of _ (by decide +kernel)) ggX3_doOutputs_X3_markWay
set_option maxRecDepth 20000 in
theorem ggX3_doOutputs_X3_turn : GoodIn wsX3_doOutputs wsX3_turn := goodIn_r _ [14, 7, 22, 23, 24, 25, 26, 27, 28, 29, 30, 31] (by decide +kernel) (by decide +kernel)
set_option maxRecDepth 20000 in
theorem gX3_doOutputs_X3_turn : GoodIn wsX3_doOutputs (wsV RX3 102 RX3 yX3_turn wsX3_turn) := goodIn_app (goodIn_of _ (by decide +kernel)) ggX3_doOutputs_X3_turn
set_option maxRecDepth 20000 in
theorem ggX3_doOutputs_X3_advance : GoodIn wsX3_doOutputs wsX3_advance := goodIn_r _ [18, 7, 19, 6, 20, 21, 22, 23, 24, 25, 26, 27, 28, 29, 30, 31, 32, 33, 34, 35, 36, 37, 38] (by decide +kernel) (by decide +kernel)
set_option maxRecDepth 20000 in
theorem gX3_doOutputs_X3_advance : GoodIn wsX3_doOutputs (wsV RX3 108 RX3 yX3_advance wsX3_advance) := goodIn_app (goodIn_of _ (by decide +kernel)) ggX3_doOutputs_X3_advance
set_option maxRecDepth 20000 in
theorem ggX4_relaysBy_X4_valueOf : GoodIn wsX4_relaysBy wsX4_valueOf := goodIn_r _ [6, 7, 8, 9, 10, 11, 12, 13, 14, 15] (by decide +kernel) (by decide +kernel)
set_option maxRecDepth 20000 in
theorem gX4_relaysBy_X4_valueOf : GoodIn wsX4_relaysBy (wsV RX4 29 RX4 yX4_valueOf wsX4_valueOf) := goodIn_app (goodIn_of _ (by decide +kernel)) ggX4_relaysBy_X4_valueOf
set_option maxRecDepth 20000 in
theorem ggX4_outputsBy_X4_placeOfOutput : GoodIn wsX4_outputsBy wsX4_placeOfOutput := goodIn_r _ [4] (by decide +kernel) (by decide +kernel)
set_option maxRecDepth 20000 in
theorem gX4_outputsBy_X4_placeOfOutput : GoodIn wsX4_outputsBy (va_wsS RX4 33 yX4_placeOfOutput wsX4_placeOfOutput) := goodIn_app (goodIn_of _ (by decide +kernel)) ggX4_outputsBy_X4_placeOfOutput
set_option maxRecDepth 20000 in
theorem ggX4_outputsBy_X4_valueOf : GoodIn wsX4_outputsBy wsX4_valueOf := goodIn_r _ [8, 9, 10, 11, 12, 13, 14, 15, 16, 17] (by decide +kernel) (by decide +kernel)
set_option maxRecDepth 20000 in
theorem gX4_outputsBy_X4_valueOf : GoodIn wsX4_outputsBy (wsV RX4 29 RX4 yX4_valueOf wsX4_valueOf) := goodIn_app (goodIn_of _ (by decide +kernel)) ggX4_outputsBy_X4_valueOf
set_option maxRecDepth 20000 in
theorem ggX5_init_X4_init : GoodIn wsX5_init wsX4_init := goodIn_r _ [15, 16, 2, 3, 4, 17, 18, 19, 30, 31, 32, 33, 34, 35] (by decide +kernel) (by decide +kernel)
set_option maxRecDepth 20000 in
theorem gX5_init_X4_init_n26 : GoodIn wsX5_init (wsX4_init) := ggX5_init_X4_init
set_option maxRecDepth 20000 in
theorem ggX5_read_X4_clear : GoodIn wsX5_read wsX4_clear := goodIn_r _ [11, 12, 13, 14, 15, 16, 249, 250, 251, 252, 253, 254] (by decide +kernel) (by decide +kernel)
set_option maxRecDepth 20000 in
theorem gX5_read_X4_clear : GoodIn wsX5_read (wsV RX5 35 RX4 yX4_clear wsX4_clear) := goodIn_app (goodIn_of _ (by decide +kernel)) ggX5_read_X4_clear
set_option maxRecDepth 20000 in
theorem ggX5_read_X9_open : GoodIn wsX5_read wsX9_open := goodIn_r _ [21, 22, 23, 24, 25, 26, 27, 28, 29, 30, 31, 20, 32, 33, 34, 35, 36, 37, 38, 39, 40, 41, 42, 43, 44, 45, 46, 47, 48, 49, 50, 51, 52, 53, 54, 55, 56, 57, 58, 59, 60, 61, 62, 63, 64, 65, 66, 67, 68, 69, 70, 71, 72, 73, 74, 75, 76, 77, 78, 79, 80, 81, 82, 83, 84, 85, 86, 87, 88, 89, 90, 91, 92, 93, 94, 95, 96, 97, 98, 99, 100, 101, 102, 103, 104, 105, 106, 107, 108, 109, 110, 111, 112, 113, 114, 115, 116, 117, 118, 119, 120, 121, 122, 123, 124, 125, 126, 127, 128, 129, 233, 234, 235, 236, 237, 238, 239, 240, 241, 242, 243, 244, 245, 246, 247, 248] (by decide +kernel) (by decide +kernel)
set_option maxRecDepth 20000 in
theorem gX5_read_X9_open : GoodIn wsX5_read (wsV RX5 47 RX9 yX9_open wsX9_open) := goodIn_app (goodIn_of _ (by decide +kernel)) ggX5_read_X9_open
set_option maxRecDepth 20000 in
theorem ggX5_read_X5_readLine : GoodIn wsX5_read wsX5_readLine := goodIn_r _ [134, 4, 5, 1, 135, 136, 137, 138, 139, 140, 141, 133, 142, 143, 2, 144, 145, 146, 147, 148, 149, 150, 151, 152, 153, 20, 154, 27, 28, 155, 123, 124, 125, 25, 24, 104, 126, 105, 127, 106, 128, 107, 129, 22, 156, 157, 158, 159, 6, 160, 161, 162, 163, 164, 165, 10, 166, 167, 168, 169, 170, 171, 172, 173, 174, 175, 176, 177, 178, 179, 180, 181, 182, 183, 184, 3, 185, 186, 187, 188, 189, 190, 191, 192, 193, 194, 195, 196, 197, 198, 199, 200, 201, 202, 203, 204, 14, 205, 206, 207, 208, 209, 210, 211, 212, 213, 214, 215, 216, 217, 223, 224, 225, 226, 227, 228, 229, 230, 231, 232, 233, 234, 235, 236, 237, 238, 239, 240, 241, 242, 243, 244, 245, 246, 247, 248, 249, 250, 251, 252, 253, 254] (by decide +kernel) (by decide +kernel)
set_option maxRecDepth 20000 in
theorem gX5_read_X5_readLine : GoodIn wsX5_read (wsV RX5 59 RX5 yX5_readLine wsX5_readLine) := goodIn_app (goodIn_of _ (by decide +kernel)) ggX5_read_X5_readLine
set_option maxRecDepth 20000 in
theorem ggX5_read_X5_findNames : GoodIn wsX5_read wsX5_findNames := goodIn_r _ [221, 1, 137, 4, 5, 222, 199, 200, 160, 161, 162, 133, 163, 148, 150, 151, 152, 153, 20, 154, 27, 28, 223, 224, 225, 226, 227, 228, 229, 230, 231, 232, 249, 250, 251, 252, 253, 254, 233, 234, 235, 236, 237, 238, 239, 240, 241, 242, 243, 244, 245, 246, 247, 248] (by decide +kernel) (by decide +kernel)
set_option maxRecDepth 20000 in
theorem gX5_read_X5_findNames : GoodIn wsX5_read (wsV RX5 62 RX5 yX5_findNames wsX5_findNames) := goodIn_app (goodIn_of _ (by decide +kernel)) ggX5_read_X5_findNames
set_option maxRecDepth 20000 in
theorem ggX5_readLine_X5_readTarget : GoodIn wsX5_readLine wsX5_readTarget := goodIn_r _ [12, 1, 13, 5, 14, 15, 16, 17, 11, 18, 3, 19, 20, 21, 22, 23, 24, 25, 26, 27, 28, 29, 30, 31, 32, 33, 34, 35, 36, 37, 38, 39, 40, 41, 42, 43, 44, 45, 46, 47, 48, 49, 50, 51, 52, 53, 54, 55, 56, 110, 111, 112, 113, 114, 115, 116, 117, 118, 119, 120, 121, 122, 123, 124, 125, 126, 127, 128, 129, 130, 131, 132, 133, 134, 135, 136, 137, 138, 139, 140, 141] (by decide +kernel) (by decide +kernel)
set_option maxRecDepth 20000 in
theorem gX5_readLine_X5_readTarget : GoodIn wsX5_readLine (wsV RX5 65 RX5 yX5_readTarget wsX5_readTarget) := goodIn_app (goodIn_of _ (by decide +kernel)) ggX5_readLine_X5_readTarget
set_option maxRecDepth 20000 in
theorem ggX5_readLine_X9_advance : GoodIn wsX5_readLine wsX9_advance := goodIn_r _ [32, 33, 34, 35, 36, 37, 38, 39, 40, 41, 42, 43, 120, 121, 122, 123, 124, 125, 126, 127, 128, 129, 130, 131, 132, 133, 134, 135] (by decide +kernel) (by decide +kernel)
set_option maxRecDepth 20000 in
theorem gX5_readLine_X9_advance : GoodIn wsX5_readLine (wsV RX5 72 RX9 yX9_advance wsX9_advance) := goodIn_app (goodIn_of _ (by decide +kernel)) ggX5_readLine_X9_advance
set_option maxRecDepth 20000 in
theorem ggX5_readLine_X9_isSign : GoodIn wsX5_readLine wsX9_isSign := goodIn_r _ [60, 36, 40, 120, 121, 122, 123, 124, 125, 126, 127, 128, 129, 130, 131, 132, 133, 134, 135] (by decide +kernel) (by decide +kernel)
set_option maxRecDepth 20000 in
theorem gX5_readLine_X9_isSign : GoodIn wsX5_readLine (wsV RX5 75 RX9 yX9_isSign wsX9_isSign) := goodIn_app (goodIn_of _ (by decide +kernel)) ggX5_readLine_X9_isSign
set_option maxRecDepth 20000 in
theorem ggX5_readLine_X9_refuse : GoodIn wsX5_readLine wsX9_refuse := goodIn_r _ [26, 27, 28, 120, 121, 122, 123, 124, 125, 126, 127, 128, 129, 130, 131, 132, 133, 134, 135] (by decide +kernel) (by decide +kernel)
set_option maxRecDepth 20000 in
theorem gX5_readLine_X9_refuse : GoodIn wsX5_readLine (wsV RX5 82 RX9 yX9_refuse wsX9_refuse) := goodIn_app (goodIn_of _ (by decide +kernel)) ggX5_readLine_X9_refuse
set_option maxRecDepth 20000 in
theorem ggX5_readLine_X5_readExpression : GoodIn wsX5_readLine wsX5_readExpression := goodIn_r _ [64, 65, 66, 1, 2, 67, 68, 69, 11, 70, 13, 5, 57, 58, 59, 25, 60, 36, 40, 71, 72, 73, 74, 75, 22, 23, 24, 26, 27, 28, 76, 77, 78, 79, 80, 81, 82, 83, 84, 3, 85, 44, 45, 46, 47, 48, 20, 86, 87, 88, 89, 6, 90, 91, 92, 93, 94, 55, 95, 96, 97, 98, 99, 100, 101, 102, 103, 104, 105, 106, 107, 108, 109, 29, 30, 31, 32, 33, 34, 35, 37, 38, 39, 41, 42, 43, 110, 111, 112, 113, 114, 115, 116, 117, 118, 119, 120, 121, 122, 123, 124, 125, 126, 127, 128, 129, 130, 131, 132, 133, 134, 135, 136, 137, 138, 139, 140, 141] (by decide +kernel) (by decide +kernel)
set_option maxRecDepth 20000 in
theorem gX5_readLine_X5_readExpression : GoodIn wsX5_readLine (wsV RX5 89 RX5 yX5_readExpression wsX5_readExpression) := goodIn_app (goodIn_of _ (by decide +kernel)) ggX5_readLine_X5_readExpression
set_option maxRecDepth 20000 in
theorem ggX5_readTarget_X5_readRelay : GoodIn wsX5_readTarget wsX5_readRelay := goodIn_r _ [9, 10, 11, 1, 3, 12, 13, 14, 15, 16, 17, 18, 19, 20, 21, 22, 23, 24, 25, 26, 27, 28, 29, 30, 31, 32, 33, 34, 35, 36, 37, 38, 8, 39, 40, 2, 41, 42, 43, 44, 49, 50, 51, 52, 53, 54, 55, 56, 57, 58, 75, 76, 77, 78, 79, 80, 59, 60, 61, 62, 63, 64, 65, 66, 67, 68, 69, 70, 71, 72, 73, 74] (by decide +kernel) (by decide +kernel)
set_option maxRecDepth 20000 in
theorem gX5_readTarget_X5_readRelay : GoodIn wsX5_readTarget (wsV RX5 98 RX5 yX5_readRelay wsX5_readRelay) := goodIn_app (goodIn_of _ (by decide +kernel)) ggX5_readTarget_X5_readRelay
set_option maxRecDepth 20000 in
theorem ggX5_readTarget_X9_refuse : GoodIn wsX5_readTarget wsX9_refuse := goodIn_r _ [18, 19, 20, 59, 60, 61, 62, 63, 64, 65, 66, 67, 68, 69, 70, 71, 72, 73, 74] (by decide +kernel) (by decide +kernel)
set_option maxRecDepth 20000 in
theorem gX5_readTarget_X9_refuse : GoodIn wsX5_readTarget (wsV RX5 82 RX9 yX9_refuse wsX9_refuse) := goodIn_app (goodIn_of _ (by decide +kernel)) ggX5_readTarget_X9_refuse
set_option maxRecDepth 20000 in
theorem ggX5_readTarget_X4_placeOfOutput : GoodIn wsX5_readTarget wsX4_placeOfOutput := goodIn_r _ [48] (by decide +kernel) (by decide +kernel)
set_option maxRecDepth 20000 in
theorem gX5_readTarget_X4_placeOfOutput : GoodIn wsX5_readTarget (va_wsS RX5 101 yX4_placeOfOutput wsX4_placeOfOutput) := goodIn_app (goodIn_of _ (by decide +kernel)) ggX5_readTarget_X4_placeOfOutput
set_option maxRecDepth 20000 in
theorem ggX5_readRelay_X9_refuse : GoodIn wsX5_readRelay wsX9_refuse := goodIn_r _ [11, 12, 13, 56, 57, 58, 59, 60, 61, 62, 63, 64, 65, 66, 67, 68, 69, 70, 71] (by decide +kernel) (by decide +kernel)
set_option maxRecDepth 20000 in
theorem gX5_readRelay_X9_refuse : GoodIn wsX5_readRelay (wsV RX5 82 RX9 yX9_refuse wsX9_refuse) := goodIn_app (goodIn_of _ (by decide +kernel)) ggX5_readRelay_X9_refuse
set_option maxRecDepth 20000 in
theorem ggX5_readRelay_X9_advance : GoodIn wsX5_readRelay wsX9_advance := goodIn_r _ [17, 18, 19, 20, 21, 22, 23, 24, 25, 26, 27, 28, 56, 57, 58, 59, 60, 61, 62, 63, 64, 65, 66, 67, 68, 69, 70, 71] (by decide +kernel) (by decide +kernel)
set_option maxRecDepth 20000 in
theorem gX5_readRelay_X9_advance : GoodIn wsX5_readRelay (wsV RX5 72 RX9 yX9_advance wsX9_advance) := goodIn_app (goodIn_of _ (by decide +kernel)) ggX5_readRelay_X9_advance
set_option maxRecDepth 20000 in
theorem ggX5_readRelay_X5_isName : GoodIn wsX5_readRelay wsX5_isName := goodIn_r _ [33, 3, 34, 35, 5, 40, 41, 42, 43, 44, 45, 46, 47, 48, 49, 56, 57, 58, 59, 60, 61, 62, 63, 64, 65, 66, 67, 68, 69, 70, 71] (by decide +kernel) (by decide +kernel)
set_option maxRecDepth 20000 in
theorem gX5_readRelay_X5_isName : GoodIn wsX5_readRelay (wsV RX5 108 RX5 yX5_isName wsX5_isName) := goodIn_app (goodIn_of _ (by decide +kernel)) ggX5_readRelay_X5_isName
set_option maxRecDepth 20000 in
theorem ggX5_readRelay_X5_relayOf : GoodIn wsX5_readRelay wsX5_relayOf := goodIn_r _ [39, 1, 2, 6, 40, 41, 42, 43, 44, 45, 46, 47, 48, 49, 50, 51, 52, 53, 54, 55] (by decide +kernel) (by decide +kernel)
set_option maxRecDepth 20000 in
theorem gX5_readRelay_X5_relayOf : GoodIn wsX5_readRelay (wsV RX5 115 RX5 yX5_relayOf wsX5_relayOf) := goodIn_app (goodIn_of _ (by decide +kernel)) ggX5_readRelay_X5_relayOf
set_option maxRecDepth 20000 in
theorem ggX5_readExpression_X5_readOperand : GoodIn wsX5_readExpression wsX5_readOperand := goodIn_r _ [9, 3, 10, 11, 12, 13, 14, 15, 16, 17, 18, 19, 20, 21, 8, 22, 23, 1, 24, 25, 26, 27, 28, 29, 30, 31, 32, 33, 2, 34, 35, 36, 37, 38, 39, 40, 41, 42, 43, 44, 45, 46, 47, 48, 49, 50, 51, 52, 53, 54, 55, 56, 57, 58, 59, 60, 86, 87, 88, 89, 90, 91, 92, 93, 94, 95, 96, 97, 98, 99, 100, 101, 102, 103, 104, 105, 106, 107, 108, 109, 110, 111, 112, 113, 114, 115, 116, 117] (by decide +kernel) (by decide +kernel)
set_option maxRecDepth 20000 in
theorem gX5_readExpression_X5_readOperand : GoodIn wsX5_readExpression (wsV RX5 123 RX5 yX5_readOperand wsX5_readOperand) := goodIn_app (goodIn_of _ (by decide +kernel)) ggX5_readExpression_X5_readOperand
set_option maxRecDepth 20000 in
theorem ggX5_readExpression_X9_isSign : GoodIn wsX5_readExpression wsX9_isSign := goodIn_r _ [16, 17, 18, 96, 97, 98, 99, 100, 101, 102, 103, 104, 105, 106, 107, 108, 109, 110, 111] (by decide +kernel) (by decide +kernel)
set_option maxRecDepth 20000 in
theorem gX5_readExpression_X9_isSign : GoodIn wsX5_readExpression (wsV RX5 75 RX9 yX9_isSign wsX9_isSign) := goodIn_app (goodIn_of _ (by decide +kernel)) ggX5_readExpression_X9_isSign
set_option maxRecDepth 20000 in
theorem ggX5_readExpression_X5_joinDownTo : GoodIn wsX5_readExpression wsX5_joinDownTo := goodIn_r _ [64, 2, 34, 39, 54, 55, 56, 57, 58, 59, 60, 86, 87, 88, 89, 90, 91, 92, 93, 94, 95, 112, 113, 114, 115, 116, 117] (by decide +kernel) (by decide +kernel)
set_option maxRecDepth 20000 in
theorem gX5_readExpression_X5_joinDownTo : GoodIn wsX5_readExpression (wsV RX5 126 RX5 yX5_joinDownTo wsX5_joinDownTo) := goodIn_app (goodIn_of _ (by decide +kernel)) ggX5_readExpression_X5_joinDownTo
set_option maxRecDepth 20000 in
theorem ggX5_readExpression_X5_closeBracket : GoodIn wsX5_readExpression wsX5_closeBracket := goodIn_r _ [68, 1, 2, 61, 62, 63, 8, 64, 34, 39, 54, 55, 56, 57, 58, 59, 60, 86, 87, 88, 89, 90, 91, 92, 93, 94, 95, 112, 113, 114, 115, 116, 117] (by decide +kernel) (by decide +kernel)
set_option maxRecDepth 20000 in
theorem gX5_readExpression_X5_closeBracket : GoodIn wsX5_readExpression (wsV RX5 130 RX5 yX5_closeBracket wsX5_closeBracket) := goodIn_app (goodIn_of _ (by decide +kernel)) ggX5_readExpression_X5_closeBracket
set_option maxRecDepth 20000 in
theorem ggX5_readExpression_X5_readJoint : GoodIn wsX5_readExpression wsX5_readJoint := goodIn_r _ [72, 3, 10, 11, 24, 25, 26, 15, 27, 28, 29, 35, 36, 37, 8, 38, 39, 40, 61, 62, 63, 64, 2, 34, 54, 55, 56, 57, 58, 59, 60, 30, 31, 32, 33, 86, 87, 88, 89, 90, 91, 92, 93, 94, 95, 96, 97, 98, 99, 100, 101, 102, 103, 104, 105, 106, 107, 108, 109, 110, 111, 112, 113, 114, 115, 116, 117] (by decide +kernel) (by decide +kernel)
set_option maxRecDepth 20000 in
theorem gX5_readExpression_X5_readJoint : GoodIn wsX5_readExpression (wsV RX5 133 RX5 yX5_readJoint wsX5_readJoint) := goodIn_app (goodIn_of _ (by decide +kernel)) ggX5_readExpression_X5_readJoint
set_option maxRecDepth 20000 in
theorem ggX5_readExpression_X9_advance : GoodIn wsX5_readExpression wsX9_advance := goodIn_r _ [76, 77, 78, 79, 17, 80, 81, 82, 18, 83, 84, 85, 96, 97, 98, 99, 100, 101, 102, 103, 104, 105, 106, 107, 108, 109, 110, 111] (by decide +kernel) (by decide +kernel)
set_option maxRecDepth 20000 in
theorem gX5_readExpression_X9_advance : GoodIn wsX5_readExpression (wsV RX5 72 RX9 yX9_advance wsX9_advance) := goodIn_app (goodIn_of _ (by decide +kernel)) ggX5_readExpression_X9_advance
set_option maxRecDepth 20000 in
theorem ggX5_readOperand_X9_isSign : GoodIn wsX5_readOperand wsX9_isSign := goodIn_r _ [8, 9, 10, 66, 67, 68, 69, 70, 71, 72, 73, 74, 75, 76, 77, 78, 79, 80, 81] (by decide +kernel) (by decide +kernel)
set_option maxRecDepth 20000 in
theorem gX5_readOperand_X9_isSign : GoodIn wsX5_readOperand (wsV RX5 75 RX9 yX9_isSign wsX9_isSign) := goodIn_app (goodIn_of _ (by decide +kernel)) ggX5_readOperand_X9_isSign
set_option maxRecDepth 20000 in
theorem ggX5_readOperand_X5_openBracket : GoodIn wsX5_readOperand wsX5_openBracket := goodIn_r _ [15, 16, 1, 3, 17, 18, 19, 20, 7, 21, 22, 23, 24, 25, 26, 14, 27, 28, 29, 56, 57, 58, 59, 60, 61, 62, 63, 64, 65, 66, 67, 68, 69, 70, 71, 72, 73, 74, 75, 76, 77, 78, 79, 80, 81] (by decide +kernel) (by decide +kernel)
set_option maxRecDepth 20000 in
theorem gX5_readOperand_X5_openBracket : GoodIn wsX5_readOperand (wsV RX5 136 RX5 yX5_openBracket wsX5_openBracket) := goodIn_app (goodIn_of _ (by decide +kernel)) ggX5_readOperand_X5_openBracket
set_option maxRecDepth 20000 in
theorem ggX5_readOperand_X5_countKnot : GoodIn wsX5_readOperand wsX5_countKnot := goodIn_r _ [33, 34, 35, 1, 3, 18, 19, 20, 7, 21, 22, 23, 56, 57, 58, 59, 60, 61, 62, 63, 64, 65, 82, 83, 84, 85, 86, 87, 66, 67, 68, 69, 70, 71, 72, 73, 74, 75, 76, 77, 78, 79, 80, 81] (by decide +kernel) (by decide +kernel)
set_option maxRecDepth 20000 in
theorem gX5_readOperand_X5_countKnot : GoodIn wsX5_readOperand (wsV RX5 139 RX5 yX5_countKnot wsX5_countKnot) := goodIn_app (goodIn_of _ (by decide +kernel)) ggX5_readOperand_X5_countKnot
set_option maxRecDepth 20000 in
theorem ggX5_readOperand_X5_await : GoodIn wsX5_readOperand wsX5_await := goodIn_r _ [27, 28, 29, 56, 57, 58, 59, 60, 61, 62, 63, 64, 65] (by decide +kernel) (by decide +kernel)
set_option maxRecDepth 20000 in
theorem gX5_readOperand_X5_await : GoodIn wsX5_readOperand (wsV RX5 142 RX5 yX5_await wsX5_await) := goodIn_app (goodIn_of _ (by decide +kernel)) ggX5_readOperand_X5_await
set_option maxRecDepth 20000 in
theorem ggX5_readOperand_X5_isName : GoodIn wsX5_readOperand wsX5_isName := goodIn_r _ [39, 1, 40, 2, 41, 56, 57, 58, 59, 60, 61, 62, 63, 64, 65, 66, 67, 68, 69, 70, 71, 72, 73, 74, 75, 76, 77, 78, 79, 80, 81] (by decide +kernel) (by decide +kernel)
set_option maxRecDepth 20000 in
theorem gX5_readOperand_X5_isName : GoodIn wsX5_readOperand (wsV RX5 108 RX5 yX5_isName wsX5_isName) := goodIn_app (goodIn_of _ (by decide +kernel)) ggX5_readOperand_X5_isName
set_option maxRecDepth 20000 in
theorem ggX5_readOperand_X9_refuse : GoodIn wsX5_readOperand wsX9_refuse := goodIn_r _ [21, 22, 23, 66, 67, 68, 69, 70, 71, 72, 73, 74, 75, 76, 77, 78, 79, 80, 81] (by decide +kernel) (by decide +kernel)
set_option maxRecDepth 20000 in
theorem gX5_readOperand_X9_refuse : GoodIn wsX5_readOperand (wsV RX5 82 RX9 yX9_refuse wsX9_refuse) := goodIn_app (goodIn_of _ (by decide +kernel)) ggX5_readOperand_X9_refuse
set_option maxRecDepth 20000 in
theorem ggX5_readOperand_X5_takeOperand : GoodIn wsX5_readOperand wsX5_takeOperand := goodIn_r _ [45, 34, 46, 47, 1, 41, 48, 3, 49, 50, 51, 52, 53, 54, 55, 56, 57, 58, 59, 60, 61, 62, 63, 64, 65, 82, 83, 84, 85, 86, 87, 66, 67, 68, 69, 70, 71, 72, 73, 74, 75, 76, 77, 78, 79, 80, 81] (by decide +kernel) (by decide +kernel)
set_option maxRecDepth 20000 in
theorem gX5_readOperand_X5_takeOperand : GoodIn wsX5_readOperand (wsV RX5 145 RX5 yX5_takeOperand wsX5_takeOperand) := goodIn_app (goodIn_of _ (by decide +kernel)) ggX5_readOperand_X5_takeOperand
set_option maxRecDepth 20000 in
theorem ggX5_takeOperand_X4_addCode : GoodIn wsX5_takeOperand wsX4_addCode := goodIn_r _ [12, 13, 14, 25, 26, 27, 28, 29, 30] (by decide +kernel) (by decide +kernel)
set_option maxRecDepth 20000 in
theorem gX5_takeOperand_X4_addCode : GoodIn wsX5_takeOperand (wsV RX5 148 RX4 yX4_addCode wsX4_addCode) := goodIn_app (goodIn_of _ (by decide +kernel)) ggX5_takeOperand_X4_addCode
set_option maxRecDepth 20000 in
theorem ggX5_openBracket_X9_refuse : GoodIn wsX5_openBracket wsX9_refuse := goodIn_r _ [9, 10, 11, 29, 30, 31, 32, 33, 34, 35, 36, 37, 38, 39, 40, 41, 42, 43, 44] (by decide +kernel) (by decide +kernel)
set_option maxRecDepth 20000 in
theorem gX5_openBracket_X9_refuse : GoodIn wsX5_openBracket (wsV RX5 82 RX9 yX9_refuse wsX9_refuse) := goodIn_app (goodIn_of _ (by decide +kernel)) ggX5_openBracket_X9_refuse
set_option maxRecDepth 20000 in
theorem ggX5_openBracket_X5_await : GoodIn wsX5_openBracket wsX5_await := goodIn_r _ [16, 17, 18, 19, 20, 21, 22, 23, 24, 25, 26, 27, 28] (by decide +kernel) (by decide +kernel)
set_option maxRecDepth 20000 in
theorem gX5_openBracket_X5_await : GoodIn wsX5_openBracket (wsV RX5 142 RX5 yX5_await wsX5_await) := goodIn_app (goodIn_of _ (by decide +kernel)) ggX5_openBracket_X5_await
set_option maxRecDepth 20000 in
theorem ggX5_closeBracket_X5_joinDownTo : GoodIn wsX5_closeBracket wsX5_joinDownTo := goodIn_r _ [7, 2, 8, 9, 10, 11, 12, 13, 14, 15, 16, 17, 18, 19, 20, 21, 22, 23, 24, 25, 26, 27, 28, 29, 30, 31, 32] (by decide +kernel) (by decide +kernel)
set_option maxRecDepth 20000 in
theorem gX5_closeBracket_X5_joinDownTo : GoodIn wsX5_closeBracket (wsV RX5 126 RX5 yX5_joinDownTo wsX5_joinDownTo) := goodIn_app (goodIn_of _ (by decide +kernel)) ggX5_closeBracket_X5_joinDownTo
set_option maxRecDepth 20000 in
theorem ggX5_readJoint_X9_refuse : GoodIn wsX5_readJoint wsX9_refuse := goodIn_r _ [8, 9, 10, 45, 46, 47, 48, 49, 50, 51, 52, 53, 54, 55, 56, 57, 58, 59, 60] (by decide +kernel) (by decide +kernel)
set_option maxRecDepth 20000 in
theorem gX5_readJoint_X9_refuse : GoodIn wsX5_readJoint (wsV RX5 82 RX9 yX9_refuse wsX9_refuse) := goodIn_app (goodIn_of _ (by decide +kernel)) ggX5_readJoint_X9_refuse
set_option maxRecDepth 20000 in
theorem ggX5_readJoint_X5_countKnot : GoodIn wsX5_readJoint wsX5_countKnot := goodIn_r _ [15, 16, 17, 1, 3, 4, 5, 6, 7, 8, 9, 10, 35, 36, 37, 38, 39, 40, 41, 42, 43, 44, 61, 62, 63, 64, 65, 66, 45, 46, 47, 48, 49, 50, 51, 52, 53, 54, 55, 56, 57, 58, 59, 60] (by decide +kernel) (by decide +kernel)
set_option maxRecDepth 20000 in
theorem gX5_readJoint_X5_countKnot : GoodIn wsX5_readJoint (wsV RX5 139 RX5 yX5_countKnot wsX5_countKnot) := goodIn_app (goodIn_of _ (by decide +kernel)) ggX5_readJoint_X5_countKnot
set_option maxRecDepth 20000 in
theorem ggX5_readJoint_X5_joinDownTo : GoodIn wsX5_readJoint wsX5_joinDownTo := goodIn_r _ [21, 22, 23, 16, 24, 25, 26, 27, 28, 29, 30, 35, 36, 37, 38, 39, 40, 41, 42, 43, 44, 61, 62, 63, 64, 65, 66] (by decide +kernel) (by decide +kernel)
set_option maxRecDepth 20000 in
theorem gX5_readJoint_X5_joinDownTo : GoodIn wsX5_readJoint (wsV RX5 126 RX5 yX5_joinDownTo wsX5_joinDownTo) := goodIn_app (goodIn_of _ (by decide +kernel)) ggX5_readJoint_X5_joinDownTo
set_option maxRecDepth 20000 in
theorem ggX5_readJoint_X5_await : GoodIn wsX5_readJoint wsX5_await := goodIn_r _ [34, 22, 23, 35, 36, 37, 38, 39, 40, 41, 42, 43, 44] (by decide +kernel) (by decide +kernel)
set_option maxRecDepth 20000 in
theorem gX5_readJoint_X5_await : GoodIn wsX5_readJoint (wsV RX5 142 RX5 yX5_await wsX5_await) := goodIn_app (goodIn_of _ (by decide +kernel)) ggX5_readJoint_X5_await
set_option maxRecDepth 20000 in
theorem ggX5_countKnot_X9_refuse : GoodIn wsX5_countKnot wsX9_refuse := goodIn_r _ [9, 10, 11, 28, 29, 30, 31, 32, 33, 34, 35, 36, 37, 38, 39, 40, 41, 42, 43] (by decide +kernel) (by decide +kernel)
set_option maxRecDepth 20000 in
theorem gX5_countKnot_X9_refuse : GoodIn wsX5_countKnot (wsV RX5 82 RX9 yX9_refuse wsX9_refuse) := goodIn_app (goodIn_of _ (by decide +kernel)) ggX5_countKnot_X9_refuse
set_option maxRecDepth 20000 in
theorem ggX5_joinDownTo_X4_addCode : GoodIn wsX5_joinDownTo wsX4_addCode := goodIn_r _ [8, 9, 10, 21, 22, 23, 24, 25, 26] (by decide +kernel) (by decide +kernel)
set_option maxRecDepth 20000 in
theorem gX5_joinDownTo_X4_addCode : GoodIn wsX5_joinDownTo (wsV RX5 148 RX4 yX4_addCode wsX4_addCode) := goodIn_app (goodIn_of _ (by decide +kernel)) ggX5_joinDownTo_X4_addCode
set_option maxRecDepth 20000 in
theorem ggX5_findNames_X5_relayOf : GoodIn wsX5_findNames wsX5_relayOf := goodIn_r _ [12, 1, 13, 14, 22, 23, 24, 25, 26, 27, 28, 29, 30, 31, 32, 33, 34, 35, 36, 37] (by decide +kernel) (by decide +kernel)
set_option maxRecDepth 20000 in
theorem gX5_findNames_X5_relayOf : GoodIn wsX5_findNames (wsV RX5 115 RX5 yX5_relayOf wsX5_relayOf) := goodIn_app (goodIn_of _ (by decide +kernel)) ggX5_findNames_X5_relayOf
set_option maxRecDepth 20000 in
theorem ggX5_findNames_X9_refuse : GoodIn wsX5_findNames wsX9_refuse := goodIn_r _ [19, 20, 21, 38, 39, 40, 41, 42, 43, 44, 45, 46, 47, 48, 49, 50, 51, 52, 53] (by decide +kernel) (by decide +kernel)
set_option maxRecDepth 20000 in
theorem gX5_findNames_X9_refuse : GoodIn wsX5_findNames (wsV RX5 82 RX9 yX9_refuse wsX9_refuse) := goodIn_app (goodIn_of _ (by decide +kernel)) ggX5_findNames_X9_refuse
set_option maxRecDepth 20000 in
theorem ggX6_usesYes_X6_actOf : GoodIn wsX6_usesYes wsX6_actOf := goodIn_r _ [8] (by decide +kernel) (by decide +kernel)
set_option maxRecDepth 20000 in
theorem gX6_usesYes_X6_actOf : GoodIn wsX6_usesYes (va_wsS RX6 34 yX6_actOf wsX6_actOf) := goodIn_app (goodIn_of _ (by decide +kernel)) ggX6_usesYes_X6_actOf
set_option maxRecDepth 20000 in
theorem ggX7_init_X6_init : GoodIn wsX7_init wsX6_init := goodIn_r _ [12, 13, 2, 3, 4, 14, 15, 16, 17, 18, 19, 24, 25, 26, 27, 28, 29, 30] (by decide +kernel) (by decide +kernel)
set_option maxRecDepth 20000 in
theorem gX7_init_X6_init_n17 : GoodIn wsX7_init (wsX6_init) := ggX7_init_X6_init
set_option maxRecDepth 20000 in
theorem ggX7_read_X9_open : GoodIn wsX7_read wsX9_open := goodIn_r _ [10, 11, 12, 13, 14, 15, 16, 17, 18, 19, 20, 9, 21, 22, 23, 24, 25, 26, 27, 28, 29, 30, 31, 32, 33, 34, 35, 36, 37, 38, 39, 40, 41, 42, 43, 44, 45, 46, 47, 48, 49, 50, 51, 52, 53, 54, 55, 56, 57, 58, 59, 60, 61, 62, 63, 64, 65, 66, 67, 68, 69, 70, 71, 72, 73, 74, 75, 76, 77, 78, 79, 80, 81, 82, 83, 84, 85, 86, 87, 88, 89, 90, 91, 92, 93, 94, 95, 96, 97, 98, 99, 100, 101, 102, 103, 104, 105, 106, 107, 108, 109, 110, 111, 112, 113, 114, 115, 116, 117, 118, 216, 217, 218, 219, 220, 221, 222, 223, 224, 225, 226, 227, 228, 229, 230, 231] (by decide +kernel) (by decide +kernel)
set_option maxRecDepth 20000 in
theorem gX7_read_X9_open : GoodIn wsX7_read (wsV RX7 32 RX9 yX9_open wsX9_open) := goodIn_app (goodIn_of _ (by decide +kernel)) ggX7_read_X9_open
set_option maxRecDepth 20000 in
theorem ggX7_read_X7_readLine : GoodIn wsX7_read wsX7_readLine := goodIn_r _ [123, 3, 124, 125, 1, 2, 126, 4, 127, 128, 129, 9, 130, 16, 17, 131, 132, 133, 134, 135, 136, 137, 138, 139, 140, 141, 142, 112, 113, 114, 14, 13, 93, 115, 94, 116, 95, 117, 96, 118, 11, 143, 144, 145, 122, 146, 147, 148, 149, 150, 151, 152, 153, 154, 155, 156, 157, 158, 5, 159, 160, 161, 162, 163, 164, 165, 166, 167, 168, 169, 170, 171, 172, 173, 174, 175, 176, 177, 178, 179, 180, 181, 182, 183, 184, 185, 186, 187, 188, 189, 190, 191, 192, 193, 194, 195, 196, 197, 198, 199, 200, 201, 202, 203, 204, 205, 206, 207, 208, 216, 217, 218, 219, 220, 221, 222, 223, 224, 225, 226, 227, 228, 229, 230, 231, 209, 210, 211, 212, 213, 214, 215] (by decide +kernel) (by decide +kernel)
set_option maxRecDepth 20000 in
theorem gX7_read_X7_readLine : GoodIn wsX7_read (wsV RX7 44 RX7 yX7_readLine wsX7_readLine) := goodIn_app (goodIn_of _ (by decide +kernel)) ggX7_read_X7_readLine
set_option maxRecDepth 20000 in
theorem ggX7_readLine_X9_refuse : GoodIn wsX7_readLine wsX9_refuse := goodIn_r _ [12, 13, 14, 109, 110, 111, 112, 113, 114, 115, 116, 117, 118, 119, 120, 121, 122, 123, 124] (by decide +kernel) (by decide +kernel)
set_option maxRecDepth 20000 in
theorem gX7_readLine_X9_refuse : GoodIn wsX7_readLine (wsV RX7 53 RX9 yX9_refuse wsX9_refuse) := goodIn_app (goodIn_of _ (by decide +kernel)) ggX7_readLine_X9_refuse
set_option maxRecDepth 20000 in
theorem ggX7_readLine_X6_openLine : GoodIn wsX7_readLine wsX6_openLine := goodIn_r _ [19, 20, 21, 22, 23, 24, 25, 125, 126, 127, 128, 129, 130, 131] (by decide +kernel) (by decide +kernel)
set_option maxRecDepth 20000 in
theorem gX7_readLine_X6_openLine : GoodIn wsX7_readLine (wsV RX7 57 RX6 yX6_openLine wsX6_openLine) := goodIn_app (goodIn_of _ (by decide +kernel)) ggX7_readLine_X6_openLine
set_option maxRecDepth 20000 in
theorem ggX7_readLine_X9_advance : GoodIn wsX7_readLine wsX9_advance := goodIn_r _ [29, 30, 31, 32, 33, 34, 35, 36, 37, 38, 39, 40, 109, 110, 111, 112, 113, 114, 115, 116, 117, 118, 119, 120, 121, 122, 123, 124] (by decide +kernel) (by decide +kernel)
set_option maxRecDepth 20000 in
theorem gX7_readLine_X9_advance : GoodIn wsX7_readLine (wsV RX7 63 RX9 yX9_advance wsX9_advance) := goodIn_app (goodIn_of _ (by decide +kernel)) ggX7_readLine_X9_advance
set_option maxRecDepth 20000 in
theorem ggX7_readLine_X7_readTests : GoodIn wsX7_readLine wsX7_readTests := goodIn_r _ [45, 1, 7, 2, 46, 47, 48, 44, 49, 3, 6, 50, 51, 52, 8, 9, 10, 11, 12, 13, 14, 26, 27, 28, 29, 30, 31, 32, 33, 34, 35, 36, 37, 38, 39, 40, 53, 54, 55, 56, 57, 58, 59, 60, 61, 62, 63, 64, 65, 66, 4, 67, 68, 69, 70, 71, 72, 73, 18, 74, 20, 24, 23, 75, 76, 77, 78, 79, 80, 81, 21, 22, 105, 106, 107, 108, 109, 110, 111, 112, 113, 114, 115, 116, 117, 118, 119, 120, 121, 122, 123, 124, 125, 126, 127, 128, 129, 130, 131] (by decide +kernel) (by decide +kernel)
set_option maxRecDepth 20000 in
theorem gX7_readLine_X7_readTests : GoodIn wsX7_readLine (wsV RX7 66 RX7 yX7_readTests wsX7_readTests) := goodIn_app (goodIn_of _ (by decide +kernel)) ggX7_readLine_X7_readTests
set_option maxRecDepth 20000 in
theorem ggX7_readLine_X7_readActs : GoodIn wsX7_readLine wsX7_readActs := goodIn_r _ [85, 1, 7, 86, 87, 88, 11, 89, 33, 37, 90, 91, 92, 44, 93, 2, 3, 4, 94, 95, 96, 8, 9, 10, 12, 13, 14, 53, 54, 55, 56, 57, 58, 26, 27, 28, 29, 30, 31, 32, 34, 35, 36, 38, 39, 40, 59, 60, 61, 97, 98, 18, 99, 100, 101, 102, 103, 20, 25, 104, 105, 106, 107, 108, 109, 110, 111, 112, 113, 114, 115, 116, 117, 118, 119, 120, 121, 122, 123, 124, 125, 126, 127, 128, 129, 130, 131] (by decide +kernel) (by decide +kernel)
set_option maxRecDepth 20000 in
theorem gX7_readLine_X7_readActs : GoodIn wsX7_readLine (wsV RX7 69 RX7 yX7_readActs wsX7_readActs) := goodIn_app (goodIn_of _ (by decide +kernel)) ggX7_readLine_X7_readActs
set_option maxRecDepth 20000 in
theorem ggX7_readTests_X7_readTest : GoodIn wsX7_readTests wsX7_readTest := goodIn_r _ [8, 1, 3, 9, 10, 2, 11, 12, 7, 13, 14, 15, 16, 17, 18, 19, 20, 21, 22, 23, 24, 25, 26, 27, 28, 29, 30, 31, 32, 33, 34, 35, 36, 37, 38, 39, 40, 41, 42, 43, 44, 45, 46, 47, 48, 49, 50, 51, 52, 53, 54, 55, 56, 57, 58, 59, 60, 61, 62, 63, 64, 65, 66, 67, 68, 69, 70, 71, 72, 73, 74, 75, 76, 77, 78, 79, 80, 81, 82, 83, 84, 85, 86, 87, 88, 89, 90, 91, 92, 93, 94, 95, 96, 97, 98] (by decide +kernel) (by decide +kernel)
set_option maxRecDepth 20000 in
theorem gX7_readTests_X7_readTest : GoodIn wsX7_readTests (wsV RX7 72 RX7 yX7_readTest wsX7_readTest) := goodIn_app (goodIn_of _ (by decide +kernel)) ggX7_readTests_X7_readTest
set_option maxRecDepth 20000 in
theorem ggX7_readTest_X7_isTest : GoodIn wsX7_readTest wsX7_isTest := goodIn_r _ [9] (by decide +kernel) (by decide +kernel)
set_option maxRecDepth 20000 in
theorem gX7_readTest_X7_isTest : GoodIn wsX7_readTest (va_wsS RX7 75 yX7_isTest wsX7_isTest) := goodIn_app (goodIn_of _ (by decide +kernel)) ggX7_readTest_X7_isTest
set_option maxRecDepth 20000 in
theorem ggX7_readTest_X9_refuse : GoodIn wsX7_readTest wsX9_refuse := goodIn_r _ [14, 15, 16, 72, 73, 74, 75, 76, 77, 78, 79, 80, 81, 82, 83, 84, 85, 86, 87] (by decide +kernel) (by decide +kernel)
set_option maxRecDepth 20000 in
theorem gX7_readTest_X9_refuse : GoodIn wsX7_readTest (wsV RX7 53 RX9 yX9_refuse wsX9_refuse) := goodIn_app (goodIn_of _ (by decide +kernel)) ggX7_readTest_X9_refuse
set_option maxRecDepth 20000 in
theorem ggX7_readTest_X9_advance : GoodIn wsX7_readTest wsX9_advance := goodIn_r _ [20, 21, 22, 23, 24, 25, 26, 27, 28, 29, 30, 31, 72, 73, 74, 75, 76, 77, 78, 79, 80, 81, 82, 83, 84, 85, 86, 87] (by decide +kernel) (by decide +kernel)
set_option maxRecDepth 20000 in
theorem gX7_readTest_X9_advance : GoodIn wsX7_readTest (wsV RX7 63 RX9 yX9_advance wsX9_advance) := goodIn_app (goodIn_of _ (by decide +kernel)) ggX7_readTest_X9_advance
set_option maxRecDepth 20000 in
theorem ggX7_readTest_X7_readNumberOf : GoodIn wsX7_readTest wsX7_readNumberOf := goodIn_r _ [35, 1, 36, 37, 3, 17, 18, 19, 13, 20, 21, 22, 23, 24, 25, 26, 27, 28, 29, 30, 31, 38, 39, 8, 40, 10, 11, 12, 14, 15, 16, 68, 69, 70, 71, 72, 73, 74, 75, 76, 77, 78, 79, 80, 81, 82, 83, 84, 85, 86, 87] (by decide +kernel) (by decide +kernel)
set_option maxRecDepth 20000 in
theorem gX7_readTest_X7_readNumberOf : GoodIn wsX7_readTest (wsV RX7 79 RX7 yX7_readNumberOf wsX7_readNumberOf) := goodIn_app (goodIn_of _ (by decide +kernel)) ggX7_readTest_X7_readNumberOf
set_option maxRecDepth 20000 in
theorem ggX7_readTest_X7_takeTest : GoodIn wsX7_readTest wsX7_takeTest := goodIn_r _ [44, 1, 45, 4, 46, 47, 48, 49, 8, 50, 10, 11, 12, 13, 14, 15, 16, 51, 52, 53, 54, 55, 56, 57, 58, 59, 60, 61, 62, 63, 64, 65, 66, 67, 68, 69, 70, 71, 72, 73, 74, 75, 76, 77, 78, 79, 80, 81, 82, 83, 84, 85, 86, 87, 88, 89, 90, 91, 92, 93, 94] (by decide +kernel) (by decide +kernel)
set_option maxRecDepth 20000 in
theorem gX7_readTest_X7_takeTest : GoodIn wsX7_readTest (wsV RX7 83 RX7 yX7_takeTest wsX7_takeTest) := goodIn_app (goodIn_of _ (by decide +kernel)) ggX7_readTest_X7_takeTest
set_option maxRecDepth 20000 in
theorem ggX7_takeTest_X7_isTold : GoodIn wsX7_takeTest wsX7_isTold := goodIn_r _ [9, 3, 2, 34, 35, 36, 37] (by decide +kernel) (by decide +kernel)
set_option maxRecDepth 20000 in
theorem gX7_takeTest_X7_isTold : GoodIn wsX7_takeTest (wsV RX7 87 RX7 yX7_isTold wsX7_isTold) := goodIn_app (goodIn_of _ (by decide +kernel)) ggX7_takeTest_X7_isTold
set_option maxRecDepth 20000 in
theorem ggX7_takeTest_X9_refuse : GoodIn wsX7_takeTest wsX9_refuse := goodIn_r _ [14, 15, 16, 38, 39, 40, 41, 42, 43, 44, 45, 46, 47, 48, 49, 50, 51, 52, 53] (by decide +kernel) (by decide +kernel)
set_option maxRecDepth 20000 in
theorem gX7_takeTest_X9_refuse : GoodIn wsX7_takeTest (wsV RX7 53 RX9 yX9_refuse wsX9_refuse) := goodIn_app (goodIn_of _ (by decide +kernel)) ggX7_takeTest_X9_refuse
set_option maxRecDepth 20000 in
theorem ggX7_takeTest_X6_addCount : GoodIn wsX7_takeTest wsX6_addCount := goodIn_r _ [21, 22, 23, 24, 54, 55, 56, 57, 58, 59, 60] (by decide +kernel) (by decide +kernel)
set_option maxRecDepth 20000 in
theorem gX7_takeTest_X6_addCount : GoodIn wsX7_takeTest (wsV RX7 90 RX6 yX6_addCount wsX6_addCount) := goodIn_app (goodIn_of _ (by decide +kernel)) ggX7_takeTest_X6_addCount
set_option maxRecDepth 20000 in
theorem ggX7_takeTest_X7_signOf : GoodIn wsX7_takeTest wsX7_signOf := goodIn_r _ [27] (by decide +kernel) (by decide +kernel)
set_option maxRecDepth 20000 in
theorem gX7_takeTest_X7_signOf : GoodIn wsX7_takeTest (va_wsS RX7 94 yX7_signOf wsX7_signOf) := goodIn_app (goodIn_of _ (by decide +kernel)) ggX7_takeTest_X7_signOf
set_option maxRecDepth 20000 in
theorem ggX7_takeTest_X6_addSign : GoodIn wsX7_takeTest wsX6_addSign := goodIn_r _ [31, 22, 32, 33, 54, 55, 56, 57, 58, 59, 60] (by decide +kernel) (by decide +kernel)
set_option maxRecDepth 20000 in
theorem gX7_takeTest_X6_addSign : GoodIn wsX7_takeTest (wsV RX7 98 RX6 yX6_addSign wsX6_addSign) := goodIn_app (goodIn_of _ (by decide +kernel)) ggX7_takeTest_X6_addSign
set_option maxRecDepth 20000 in
theorem ggX7_readActs_X9_isSign : GoodIn wsX7_readActs wsX9_isSign := goodIn_r _ [7, 8, 9, 64, 65, 66, 67, 68, 69, 70, 71, 72, 73, 74, 75, 76, 77, 78, 79] (by decide +kernel) (by decide +kernel)
set_option maxRecDepth 20000 in
theorem gX7_readActs_X9_isSign : GoodIn wsX7_readActs (wsV RX7 101 RX9 yX9_isSign wsX9_isSign) := goodIn_app (goodIn_of _ (by decide +kernel)) ggX7_readActs_X9_isSign
set_option maxRecDepth 20000 in
theorem ggX7_readActs_X7_readAct : GoodIn wsX7_readActs wsX7_readAct := goodIn_r _ [14, 1, 15, 16, 2, 17, 18, 19, 13, 20, 21, 22, 23, 6, 24, 25, 26, 27, 28, 29, 30, 31, 32, 33, 34, 35, 36, 37, 38, 39, 8, 40, 41, 42, 9, 43, 44, 45, 46, 47, 48, 49, 50, 51, 52, 53, 54, 55, 56, 57, 58, 59, 60, 61, 62, 63, 64, 65, 66, 67, 68, 69, 70, 71, 72, 73, 74, 75, 76, 77, 78, 79, 80, 81, 82, 83, 84, 85, 86] (by decide +kernel) (by decide +kernel)
set_option maxRecDepth 20000 in
theorem gX7_readActs_X7_readAct : GoodIn wsX7_readActs (wsV RX7 105 RX7 yX7_readAct wsX7_readAct) := goodIn_app (goodIn_of _ (by decide +kernel)) ggX7_readActs_X7_readAct
set_option maxRecDepth 20000 in
theorem ggX7_readAct_X7_isAct : GoodIn wsX7_readAct wsX7_isAct := goodIn_r _ [9] (by decide +kernel) (by decide +kernel)
set_option maxRecDepth 20000 in
theorem gX7_readAct_X7_isAct : GoodIn wsX7_readAct (va_wsS RX7 109 yX7_isAct wsX7_isAct) := goodIn_app (goodIn_of _ (by decide +kernel)) ggX7_readAct_X7_isAct
set_option maxRecDepth 20000 in
theorem ggX7_readAct_X9_refuse : GoodIn wsX7_readAct wsX9_refuse := goodIn_r _ [14, 15, 16, 56, 57, 58, 59, 60, 61, 62, 63, 64, 65, 66, 67, 68, 69, 70, 71] (by decide +kernel) (by decide +kernel)
set_option maxRecDepth 20000 in
theorem gX7_readAct_X9_refuse : GoodIn wsX7_readAct (wsV RX7 53 RX9 yX9_refuse wsX9_refuse) := goodIn_app (goodIn_of _ (by decide +kernel)) ggX7_readAct_X9_refuse
set_option maxRecDepth 20000 in
theorem ggX7_readAct_X7_readNumberOf : GoodIn wsX7_readAct wsX7_readNumberOf := goodIn_r _ [20, 1, 21, 22, 3, 23, 24, 25, 13, 26, 27, 28, 29, 30, 31, 32, 33, 34, 35, 36, 37, 38, 39, 8, 40, 10, 11, 12, 14, 15, 16, 52, 53, 54, 55, 56, 57, 58, 59, 60, 61, 62, 63, 64, 65, 66, 67, 68, 69, 70, 71] (by decide +kernel) (by decide +kernel)
set_option maxRecDepth 20000 in
theorem gX7_readAct_X7_readNumberOf : GoodIn wsX7_readAct (wsV RX7 79 RX7 yX7_readNumberOf wsX7_readNumberOf) := goodIn_app (goodIn_of _ (by decide +kernel)) ggX7_readAct_X7_readNumberOf
set_option maxRecDepth 20000 in
theorem ggX7_readAct_X6_actOf : GoodIn wsX7_readAct wsX6_actOf := goodIn_r _ [44] (by decide +kernel) (by decide +kernel)
set_option maxRecDepth 20000 in
theorem gX7_readAct_X6_actOf : GoodIn wsX7_readAct (va_wsS RX7 112 yX6_actOf wsX6_actOf) := goodIn_app (goodIn_of _ (by decide +kernel)) ggX7_readAct_X6_actOf
set_option maxRecDepth 20000 in
theorem ggX7_readAct_X6_addAct : GoodIn wsX7_readAct wsX6_addAct := goodIn_r _ [48, 49, 50, 51, 72, 73, 74, 75, 76, 77, 78] (by decide +kernel) (by decide +kernel)
set_option maxRecDepth 20000 in
theorem gX7_readAct_X6_addAct : GoodIn wsX7_readAct (wsV RX7 115 RX6 yX6_addAct wsX6_addAct) := goodIn_app (goodIn_of _ (by decide +kernel)) ggX7_readAct_X6_addAct
set_option maxRecDepth 20000 in
theorem ggX7_readNumberOf_X9_advance : GoodIn wsX7_readNumberOf wsX9_advance := goodIn_r _ [9, 10, 11, 12, 13, 14, 15, 16, 17, 18, 19, 20, 35, 36, 37, 38, 39, 40, 41, 42, 43, 44, 45, 46, 47, 48, 49, 50] (by decide +kernel) (by decide +kernel)
set_option maxRecDepth 20000 in
theorem gX7_readNumberOf_X9_advance : GoodIn wsX7_readNumberOf (wsV RX7 63 RX9 yX9_advance wsX9_advance) := goodIn_app (goodIn_of _ (by decide +kernel)) ggX7_readNumberOf_X9_advance
set_option maxRecDepth 20000 in
theorem ggX7_readNumberOf_X7_mostOf : GoodIn wsX7_readNumberOf wsX7_mostOf := goodIn_r _ [24] (by decide +kernel) (by decide +kernel)
set_option maxRecDepth 20000 in
theorem gX7_readNumberOf_X7_mostOf : GoodIn wsX7_readNumberOf (va_wsS RX7 118 yX7_mostOf wsX7_mostOf) := goodIn_app (goodIn_of _ (by decide +kernel)) ggX7_readNumberOf_X7_mostOf
set_option maxRecDepth 20000 in
theorem ggX7_readNumberOf_X9_refuse : GoodIn wsX7_readNumberOf wsX9_refuse := goodIn_r _ [28, 29, 30, 35, 36, 37, 38, 39, 40, 41, 42, 43, 44, 45, 46, 47, 48, 49, 50] (by decide +kernel) (by decide +kernel)
set_option maxRecDepth 20000 in
theorem gX7_readNumberOf_X9_refuse : GoodIn wsX7_readNumberOf (wsV RX7 53 RX9 yX9_refuse wsX9_refuse) := goodIn_app (goodIn_of _ (by decide +kernel)) ggX7_readNumberOf_X9_refuse
set_option maxRecDepth 20000 in
theorem ggX8_init_X1_init : GoodIn wsX8_init wsX1_init := goodIn_r _ [21, 22, 2, 3, 23, 24, 13, 25, 26, 27, 28, 29, 6, 30, 31, 32, 33, 34, 35, 36, 37, 38, 44, 45, 46, 47, 48, 49, 50] (by decide +kernel) (by decide +kernel)
set_option maxRecDepth 20000 in
theorem gX8_init_X1_init : GoodIn wsX8_init (wsX1_init) := ggX8_init_X1_init
set_option maxRecDepth 20000 in
theorem ggX8_init_X3_init : GoodIn wsX8_init wsX3_init := goodIn_r _ [40, 41, 2, 3, 42, 23, 43, 64, 65, 66, 67, 68, 69, 70, 71, 72, 73] (by decide +kernel) (by decide +kernel)
set_option maxRecDepth 20000 in
theorem gX8_init_X3_init_n20 : GoodIn wsX8_init (wsX3_init) := ggX8_init_X3_init
set_option maxRecDepth 20000 in
theorem ggX8_sizeOf_X8_isSmall : GoodIn wsX8_sizeOf wsX8_isSmall := goodIn_r _ [4] (by decide +kernel) (by decide +kernel)
set_option maxRecDepth 20000 in
theorem gX8_sizeOf_X8_isSmall : GoodIn wsX8_sizeOf (va_wsS RX8 44 yX8_isSmall wsX8_isSmall) := goodIn_app (goodIn_of _ (by decide +kernel)) ggX8_sizeOf_X8_isSmall
set_option maxRecDepth 20000 in
theorem ggX8_layFirst_X1_lay : GoodIn wsX8_layFirst wsX1_lay := goodIn_r _ [9, 10, 11, 12, 13, 14, 15, 16, 17, 18, 8, 19, 20, 43, 44, 45, 46, 47, 48, 49] (by decide +kernel) (by decide +kernel)
set_option maxRecDepth 20000 in
theorem gX8_layFirst_X1_lay : GoodIn wsX8_layFirst (wsV RX8 55 RX1 yX1_lay wsX1_lay) := goodIn_app (goodIn_of _ (by decide +kernel)) ggX8_layFirst_X1_lay
set_option maxRecDepth 20000 in
theorem ggX8_layFirst_X1_reach : GoodIn wsX8_layFirst wsX1_reach := goodIn_r _ [24, 13, 12, 25, 26, 27, 8, 28, 20, 29, 10, 43, 44, 45, 46, 47, 48, 49] (by decide +kernel) (by decide +kernel)
set_option maxRecDepth 20000 in
theorem gX8_layFirst_X1_reach : GoodIn wsX8_layFirst (wsV RX8 65 RX1 yX1_reach wsX1_reach) := goodIn_app (goodIn_of _ (by decide +kernel)) ggX8_layFirst_X1_reach
set_option maxRecDepth 20000 in
theorem ggX8_nextStart_X1_wallNumbers : GoodIn wsX8_nextStart wsX1_wallNumbers := goodIn_r _ [11, 12, 13, 70, 71, 72, 73, 74, 75, 76] (by decide +kernel) (by decide +kernel)
set_option maxRecDepth 20000 in
theorem gX8_nextStart_X1_wallNumbers : GoodIn wsX8_nextStart (wsV RX8 73 RX1 yX1_wallNumbers wsX1_wallNumbers) := goodIn_app (goodIn_of _ (by decide +kernel)) ggX8_nextStart_X1_wallNumbers
set_option maxRecDepth 20000 in
theorem ggX8_nextStart_X1_raiseWalls : GoodIn wsX8_nextStart wsX1_raiseWalls := goodIn_r _ [17, 18, 19, 20, 10, 21, 22, 23, 24, 8, 9, 11, 12, 13, 25, 26, 27, 28, 29, 30, 31, 32, 33, 34, 35, 36, 37, 38, 39, 40, 41, 42, 43, 44, 45, 46, 70, 71, 72, 73, 74, 75, 76] (by decide +kernel) (by decide +kernel)
set_option maxRecDepth 20000 in
theorem gX8_nextStart_X1_raiseWalls : GoodIn wsX8_nextStart (wsV RX8 81 RX1 yX1_raiseWalls wsX1_raiseWalls) := goodIn_app (goodIn_of _ (by decide +kernel)) ggX8_nextStart_X1_raiseWalls
set_option maxRecDepth 20000 in
theorem ggX8_nextStart_X1_reach : GoodIn wsX8_nextStart wsX1_reach := goodIn_r _ [50, 51, 52, 53, 54, 55, 10, 56, 22, 41, 13, 70, 71, 72, 73, 74, 75, 76] (by decide +kernel) (by decide +kernel)
set_option maxRecDepth 20000 in
theorem gX8_nextStart_X1_reach : GoodIn wsX8_nextStart (wsV RX8 65 RX1 yX1_reach wsX1_reach) := goodIn_app (goodIn_of _ (by decide +kernel)) ggX8_nextStart_X1_reach
set_option maxRecDepth 20000 in
theorem ggX8_heldBy_X8_sizeOf : GoodIn wsX8_heldBy wsX8_sizeOf := goodIn_r _ [7, 8, 9, 6, 10] (by decide +kernel) (by decide +kernel)
set_option maxRecDepth 20000 in
theorem gX8_heldBy_X8_sizeOf : GoodIn wsX8_heldBy (va_wsS RX8 85 yX8_sizeOf wsX8_sizeOf) := goodIn_app (goodIn_of _ (by decide +kernel)) ggX8_heldBy_X8_sizeOf
set_option maxRecDepth 20000 in
theorem ggX8_heldBy_X8_layFirst : GoodIn wsX8_heldBy wsX8_layFirst := goodIn_r _ [14, 15, 16, 17, 18, 19, 20, 21, 22, 23, 24, 25, 26, 27, 28, 29, 30, 31, 32, 33, 34, 35, 36, 37, 38, 39, 40, 41, 42, 43, 171, 172, 173, 174, 175, 176, 177, 178, 179, 180, 181, 182, 183, 184, 185, 186, 187, 188, 189, 190] (by decide +kernel) (by decide +kernel)
set_option maxRecDepth 20000 in
theorem gX8_heldBy_X8_layFirst : GoodIn wsX8_heldBy (wsV RX8 89 RX8 yX8_layFirst wsX8_layFirst) := goodIn_app (goodIn_of _ (by decide +kernel)) ggX8_heldBy_X8_layFirst
set_option maxRecDepth 20000 in
theorem ggX8_heldBy_X8_findHeld : GoodIn wsX8_heldBy wsX8_findHeld := goodIn_r _ [47, 2, 3, 48, 49, 17, 15, 16, 50, 51, 52, 6, 53, 54, 18, 55, 56, 57, 22, 58, 25, 24, 59, 60, 61, 62, 30, 31, 32, 33, 34, 28, 63, 64, 65, 66, 67, 68, 69, 70, 71, 72, 73, 74, 75, 76, 77, 78, 79, 43, 80, 81, 82, 83, 29, 35, 36, 37, 38, 27, 26, 39, 40, 41, 42, 84, 85, 86, 87, 88, 89, 90, 91, 92, 93, 94, 95, 96, 97, 98, 99, 100, 101, 102, 103, 104, 105, 106, 107, 108, 109, 110, 111, 112, 113, 114, 115, 116, 117, 118, 119, 120, 121, 122, 123, 124, 125, 126, 127, 128, 129, 130, 131, 132, 133, 134, 135, 136, 137, 138, 139, 140, 141, 142, 143, 144, 145, 146, 147, 148, 149, 150, 151, 152, 153, 154, 155, 156, 157, 158, 159, 160, 161, 162, 163, 164, 165, 166, 167, 168, 169, 170, 171, 172, 173, 174, 175, 176, 177, 178, 179, 180, 181, 182, 183, 184, 185, 186, 187, 188, 189, 190, 191, 192, 193, 194, 195, 196, 197, 198, 199, 200, 201, 202, 203, 204, 205, 206, 207] (by decide +kernel) (by decide +kernel)
set_option maxRecDepth 20000 in
theorem gX8_heldBy_X8_findHeld : GoodIn wsX8_heldBy (wsV RX8 92 RX8 yX8_findHeld wsX8_findHeld) := goodIn_app (goodIn_of _ (by decide +kernel)) ggX8_heldBy_X8_findHeld
set_option maxRecDepth 20000 in
theorem ggX8_findHeld_X8_nextStart : GoodIn wsX8_findHeld wsX8_nextStart := goodIn_r _ [12, 6, 3, 5, 13, 7, 14, 15, 16, 17, 18, 19, 20, 21, 22, 23, 24, 25, 26, 27, 28, 29, 30, 31, 32, 33, 34, 35, 36, 37, 38, 39, 40, 41, 42, 43, 44, 45, 46, 47, 48, 49, 50, 51, 52, 53, 54, 55, 56, 57, 58, 59, 60, 61, 62, 63, 64, 152, 153, 154, 155, 156, 157, 158, 159, 160, 161, 162, 163, 164, 165, 166, 167, 168, 169, 170, 171] (by decide +kernel) (by decide +kernel)
set_option maxRecDepth 20000 in
theorem gX8_findHeld_X8_nextStart : GoodIn wsX8_findHeld (wsV RX8 96 RX8 yX8_nextStart wsX8_nextStart) := goodIn_app (goodIn_of _ (by decide +kernel)) ggX8_findHeld_X8_nextStart
set_option maxRecDepth 20000 in
theorem ggX8_findHeld_X3_setDownWiped : GoodIn wsX8_findHeld wsX3_setDownWiped := goodIn_r _ [69, 70, 71, 72, 68, 73, 74, 75, 76, 77, 78, 79, 80, 81, 82, 83, 84, 172, 173, 174, 175, 176, 177, 178, 179, 180, 181] (by decide +kernel) (by decide +kernel)
set_option maxRecDepth 20000 in
theorem gX8_findHeld_X3_setDownWiped : GoodIn wsX8_findHeld (wsV RX8 100 RX3 yX3_setDownWiped wsX3_setDownWiped) := goodIn_app (goodIn_of _ (by decide +kernel)) ggX8_findHeld_X3_setDownWiped
set_option maxRecDepth 20000 in
theorem ggX8_findHeld_X3_arrive : GoodIn wsX8_findHeld wsX3_arrive := goodIn_r _ [88, 74, 89, 90, 91, 92, 93, 68, 94, 77, 95, 96, 97, 98, 99, 100, 76, 75, 101, 102, 103, 104, 84, 105, 106, 107, 18, 108, 30, 109, 110, 111, 112, 82, 83, 113, 114, 115, 116, 117, 118, 119, 120, 121, 122, 123, 124, 125, 126, 127, 128, 129, 130, 131, 132, 133, 134, 135, 136, 137, 138, 139, 140, 141, 142, 143, 144, 145, 146, 147, 148, 149, 150, 151, 78, 79, 80, 81, 172, 173, 174, 175, 176, 177, 178, 179, 180, 181, 165, 166, 167, 168, 169, 170, 171, 182, 183, 184, 185, 186, 187, 188] (by decide +kernel) (by decide +kernel)
set_option maxRecDepth 20000 in
theorem gX8_findHeld_X3_arrive : GoodIn wsX8_findHeld (wsV RX8 103 RX3 yX3_arrive wsX3_arrive) := goodIn_app (goodIn_of _ (by decide +kernel)) ggX8_findHeld_X3_arrive
set_option maxRecDepth 20000 in
theorem ggX8_longestBy_X8_sizeOf : GoodIn wsX8_longestBy wsX8_sizeOf := goodIn_r _ [8, 9, 10, 7, 11] (by decide +kernel) (by decide +kernel)
set_option maxRecDepth 20000 in
theorem gX8_longestBy_X8_sizeOf : GoodIn wsX8_longestBy (va_wsS RX8 85 yX8_sizeOf wsX8_sizeOf) := goodIn_app (goodIn_of _ (by decide +kernel)) ggX8_longestBy_X8_sizeOf
set_option maxRecDepth 20000 in
theorem ggX8_longestBy_X8_layFirst : GoodIn wsX8_longestBy wsX8_layFirst := goodIn_r _ [15, 16, 17, 18, 19, 20, 21, 22, 23, 24, 25, 26, 27, 28, 29, 30, 31, 32, 33, 34, 35, 36, 37, 38, 39, 40, 41, 42, 43, 44, 172, 173, 174, 175, 176, 177, 178, 179, 180, 181, 182, 183, 184, 185, 186, 187, 188, 189, 190, 191] (by decide +kernel) (by decide +kernel)
set_option maxRecDepth 20000 in
theorem gX8_longestBy_X8_layFirst : GoodIn wsX8_longestBy (wsV RX8 89 RX8 yX8_layFirst wsX8_layFirst) := goodIn_app (goodIn_of _ (by decide +kernel)) ggX8_longestBy_X8_layFirst
set_option maxRecDepth 20000 in
theorem ggX8_longestBy_X8_findLongest : GoodIn wsX8_longestBy wsX8_findLongest := goodIn_r _ [48, 2, 49, 50, 18, 16, 3, 17, 4, 51, 52, 53, 7, 54, 55, 19, 56, 57, 58, 23, 59, 26, 25, 60, 61, 62, 63, 31, 32, 33, 34, 35, 29, 64, 65, 66, 67, 68, 69, 70, 71, 72, 73, 74, 75, 76, 77, 78, 79, 80, 44, 81, 82, 83, 84, 30, 36, 37, 38, 39, 28, 27, 40, 41, 42, 43, 85, 86, 87, 88, 89, 90, 91, 92, 93, 94, 95, 96, 97, 98, 99, 100, 101, 102, 103, 104, 105, 106, 107, 108, 109, 110, 111, 112, 113, 114, 115, 116, 117, 118, 119, 120, 121, 122, 123, 124, 125, 126, 127, 128, 129, 130, 131, 132, 133, 134, 135, 136, 137, 138, 139, 140, 141, 142, 143, 144, 145, 146, 147, 148, 149, 150, 151, 152, 153, 154, 155, 156, 157, 158, 159, 160, 161, 162, 163, 164, 165, 166, 167, 168, 169, 170, 171, 172, 173, 174, 175, 176, 177, 178, 179, 180, 181, 182, 183, 184, 185, 186, 187, 188, 189, 190, 191, 192, 193, 194, 195, 196, 197, 198, 199, 200, 201, 202, 203, 204, 205, 206, 207, 208] (by decide +kernel) (by decide +kernel)
set_option maxRecDepth 20000 in
theorem gX8_longestBy_X8_findLongest : GoodIn wsX8_longestBy (wsV RX8 107 RX8 yX8_findLongest wsX8_findLongest) := goodIn_app (goodIn_of _ (by decide +kernel)) ggX8_longestBy_X8_findLongest
set_option maxRecDepth 20000 in
theorem ggX8_findLongest_X8_nextStart : GoodIn wsX8_findLongest wsX8_nextStart := goodIn_r _ [13, 5, 2, 4, 14, 7, 15, 16, 17, 18, 19, 20, 21, 22, 23, 24, 25, 26, 27, 28, 29, 30, 31, 32, 33, 34, 35, 36, 37, 38, 39, 40, 41, 42, 43, 44, 45, 46, 47, 48, 49, 50, 51, 52, 53, 54, 55, 56, 57, 58, 59, 60, 61, 62, 63, 64, 65, 153, 154, 155, 156, 157, 158, 159, 160, 161, 162, 163, 164, 165, 166, 167, 168, 169, 170, 171, 172] (by decide +kernel) (by decide +kernel)
set_option maxRecDepth 20000 in
theorem gX8_findLongest_X8_nextStart : GoodIn wsX8_findLongest (wsV RX8 96 RX8 yX8_nextStart wsX8_nextStart) := goodIn_app (goodIn_of _ (by decide +kernel)) ggX8_findLongest_X8_nextStart
set_option maxRecDepth 20000 in
theorem ggX8_findLongest_X3_setDownWiped : GoodIn wsX8_findLongest wsX3_setDownWiped := goodIn_r _ [70, 71, 72, 73, 69, 74, 75, 76, 77, 78, 79, 80, 81, 82, 83, 84, 85, 173, 174, 175, 176, 177, 178, 179, 180, 181, 182] (by decide +kernel) (by decide +kernel)
set_option maxRecDepth 20000 in
theorem gX8_findLongest_X3_setDownWiped : GoodIn wsX8_findLongest (wsV RX8 100 RX3 yX3_setDownWiped wsX3_setDownWiped) := goodIn_app (goodIn_of _ (by decide +kernel)) ggX8_findLongest_X3_setDownWiped
set_option maxRecDepth 20000 in
theorem ggX8_findLongest_X3_arrive : GoodIn wsX8_findLongest wsX3_arrive := goodIn_r _ [89, 75, 90, 91, 92, 93, 94, 69, 95, 78, 96, 97, 98, 99, 100, 101, 77, 76, 102, 103, 104, 105, 85, 106, 107, 108, 19, 109, 31, 110, 111, 112, 113, 83, 84, 114, 115, 116, 117, 118, 119, 120, 121, 122, 123, 124, 125, 126, 127, 128, 129, 130, 131, 132, 133, 134, 135, 136, 137, 138, 139, 140, 141, 142, 143, 144, 145, 146, 147, 148, 149, 150, 151, 152, 79, 80, 81, 82, 173, 174, 175, 176, 177, 178, 179, 180, 181, 182, 166, 167, 168, 169, 170, 171, 172, 183, 184, 185, 186, 187, 188, 189] (by decide +kernel) (by decide +kernel)
set_option maxRecDepth 20000 in
theorem gX8_findLongest_X3_arrive : GoodIn wsX8_findLongest (wsV RX8 103 RX3 yX3_arrive wsX3_arrive) := goodIn_app (goodIn_of _ (by decide +kernel)) ggX8_findLongest_X3_arrive
set_option maxRecDepth 20000 in
theorem ggX8_isNeeded_X6_usesYes : GoodIn wsX8_isNeeded wsX6_usesYes := goodIn_r _ [8, 9, 10, 11, 12, 13, 14, 7, 15, 198, 199, 200, 201, 202, 203, 204] (by decide +kernel) (by decide +kernel)
set_option maxRecDepth 20000 in
theorem gX8_isNeeded_X6_usesYes : GoodIn wsX8_isNeeded (wsV RX8 110 RX6 yX6_usesYes wsX6_usesYes) := goodIn_app (goodIn_of _ (by decide +kernel)) ggX8_isNeeded_X6_usesYes
set_option maxRecDepth 20000 in
theorem ggX8_isNeeded_X8_layFirst : GoodIn wsX8_isNeeded wsX8_layFirst := goodIn_r _ [20, 21, 22, 23, 24, 25, 26, 27, 28, 29, 30, 31, 32, 33, 34, 35, 36, 37, 38, 39, 40, 41, 42, 43, 44, 45, 46, 47, 48, 49, 175, 176, 177, 178, 179, 180, 181, 182, 183, 184, 185, 186, 187, 205, 206, 207, 208, 209, 210, 211] (by decide +kernel) (by decide +kernel)
set_option maxRecDepth 20000 in
theorem gX8_isNeeded_X8_layFirst : GoodIn wsX8_isNeeded (wsV RX8 89 RX8 yX8_layFirst wsX8_layFirst) := goodIn_app (goodIn_of _ (by decide +kernel)) ggX8_isNeeded_X8_layFirst
set_option maxRecDepth 20000 in
theorem ggX8_isNeeded_X8_nextStart : GoodIn wsX8_isNeeded wsX8_nextStart := goodIn_r _ [53, 21, 3, 23, 54, 22, 24, 55, 56, 57, 28, 58, 31, 30, 59, 60, 61, 62, 36, 37, 38, 39, 40, 34, 63, 64, 65, 66, 67, 68, 69, 70, 71, 72, 73, 74, 75, 76, 77, 78, 79, 49, 80, 81, 82, 83, 35, 41, 42, 43, 44, 33, 32, 45, 46, 47, 48, 175, 176, 177, 178, 179, 180, 181, 182, 183, 184, 185, 186, 187, 205, 206, 207, 208, 209, 210, 211] (by decide +kernel) (by decide +kernel)
set_option maxRecDepth 20000 in
theorem gX8_isNeeded_X8_nextStart : GoodIn wsX8_isNeeded (wsV RX8 96 RX8 yX8_nextStart wsX8_nextStart) := goodIn_app (goodIn_of _ (by decide +kernel)) ggX8_isNeeded_X8_nextStart
set_option maxRecDepth 20000 in
theorem ggX8_isNeeded_X8_partWays : GoodIn wsX8_isNeeded wsX8_partWays := goodIn_r _ [87, 88, 23, 1, 89, 21, 90, 91, 92, 93, 94, 95, 96, 97, 98, 99, 100, 101, 102, 103, 104, 105, 106, 107, 108, 109, 110, 111, 112, 113, 114, 115, 116, 117, 118, 119, 120, 121, 122, 123, 124, 125, 126, 127, 128, 129, 28, 130, 40, 131, 132, 133, 134, 135, 136, 137, 7, 138, 9, 139, 10, 140, 141, 142, 143, 144, 145, 146, 147, 148, 149, 150, 151, 152, 153, 154, 155, 156, 157, 158, 159, 160, 161, 162, 163, 164, 165, 166, 167, 168, 169, 170, 171, 172, 173, 174, 175, 176, 177, 178, 179, 180, 181, 182, 183, 184, 185, 186, 187, 188, 189, 190, 191, 192, 193, 194, 195, 196, 197, 205, 206, 207, 208, 209, 210, 211, 198, 199, 200, 201, 202, 203, 204] (by decide +kernel) (by decide +kernel)
set_option maxRecDepth 20000 in
theorem gX8_isNeeded_X8_partWays : GoodIn wsX8_isNeeded (wsV RX8 119 RX8 yX8_partWays wsX8_partWays) := goodIn_app (goodIn_of _ (by decide +kernel)) ggX8_isNeeded_X8_partWays
set_option maxRecDepth 20000 in
theorem ggX8_partWays_X3_setDownWiped : GoodIn wsX8_partWays wsX3_setDownWiped := goodIn_r _ [11, 12, 13, 14, 10, 15, 16, 17, 18, 19, 20, 21, 22, 23, 24, 25, 26, 109, 110, 111, 112, 113, 114, 115, 116, 117, 118] (by decide +kernel) (by decide +kernel)
set_option maxRecDepth 20000 in
theorem gX8_partWays_X3_setDownWiped : GoodIn wsX8_partWays (wsV RX8 100 RX3 yX3_setDownWiped wsX3_setDownWiped) := goodIn_app (goodIn_of _ (by decide +kernel)) ggX8_partWays_X3_setDownWiped
set_option maxRecDepth 20000 in
theorem ggX8_partWays_X3_obey : GoodIn wsX8_partWays wsX3_obey := goodIn_r _ [30, 19, 31, 32, 33, 34, 35, 36, 10, 37, 18, 16, 17, 38, 39, 40, 41, 42, 26, 43, 44, 45, 46, 47, 48, 49, 50, 51, 52, 24, 25, 53, 54, 55, 56, 57, 58, 59, 60, 61, 62, 63, 64, 65, 66, 67, 68, 69, 70, 71, 72, 73, 74, 75, 76, 77, 78, 79, 80, 81, 82, 83, 84, 85, 86, 87, 88, 89, 90, 91, 20, 21, 22, 23, 109, 110, 111, 112, 113, 114, 115, 116, 117, 118, 126, 127, 128, 129, 130, 131, 132, 119, 120, 121, 122, 123, 124, 125] (by decide +kernel) (by decide +kernel)
set_option maxRecDepth 20000 in
theorem gX8_partWays_X3_obey : GoodIn wsX8_partWays (wsV RX8 127 RX3 yX3_obey wsX3_obey) := goodIn_app (goodIn_of _ (by decide +kernel)) ggX8_partWays_X3_obey
set_option maxRecDepth 20000 in
theorem ggX8_partWays_X3_standsAs : GoodIn wsX8_partWays wsX3_standsAs := goodIn_r _ [95, 16, 17, 109, 110, 111, 112, 113, 114, 115, 116, 117, 118] (by decide +kernel) (by decide +kernel)
set_option maxRecDepth 20000 in
theorem gX8_partWays_X3_standsAs : GoodIn wsX8_partWays (wsV RX8 131 RX3 yX3_standsAs wsX3_standsAs) := goodIn_app (goodIn_of _ (by decide +kernel)) ggX8_partWays_X3_standsAs
set_option maxRecDepth 20000 in
theorem ggX9_open_X9_findToken : GoodIn wsX9_open wsX9_findToken := goodIn_r _ [12, 2, 13, 14, 15, 11, 16, 1, 17, 18, 19, 20, 21, 22, 23, 24, 25, 26, 27, 28, 29, 30, 31, 32, 33, 34, 35, 36, 37, 38, 39, 40, 41, 42, 43, 44, 45, 46, 47, 48, 49, 50, 51, 52, 53, 54, 55, 56, 57, 58, 59, 60, 61, 62, 63, 64, 65, 66, 67, 68, 69, 70, 71, 72, 73, 74, 75, 76, 77, 78, 79, 80, 81, 82, 83, 3, 84, 85, 86, 87, 88, 89, 90, 91, 92, 93, 94, 95, 96, 97, 98, 99, 100, 101, 110, 111, 112, 113, 114, 115, 116, 117, 118, 119, 120, 121, 122, 123, 124, 125] (by decide +kernel) (by decide +kernel)
set_option maxRecDepth 20000 in
theorem gX9_open_X9_findToken : GoodIn wsX9_open (wsV RX9 52 RX9 yX9_findToken wsX9_findToken) := goodIn_app (goodIn_of _ (by decide +kernel)) ggX9_open_X9_findToken
set_option maxRecDepth 20000 in
theorem ggX9_open_X9_advance : GoodIn wsX9_open wsX9_advance := goodIn_r _ [105, 4, 3, 84, 106, 85, 107, 86, 108, 87, 109, 1, 110, 111, 112, 113, 114, 115, 116, 117, 118, 119, 120, 121, 122, 123, 124, 125] (by decide +kernel) (by decide +kernel)
set_option maxRecDepth 20000 in
theorem gX9_open_X9_advance : GoodIn wsX9_open (wsV RX9 56 RX9 yX9_advance wsX9_advance) := goodIn_app (goodIn_of _ (by decide +kernel)) ggX9_open_X9_advance
set_option maxRecDepth 20000 in
theorem ggX9_findToken_X9_byteAt : GoodIn wsX9_findToken wsX9_byteAt := goodIn_r _ [6, 7, 8, 94, 95, 96, 97, 98, 99, 100, 101, 102, 103, 104, 105, 106, 107, 108, 109] (by decide +kernel) (by decide +kernel)
set_option maxRecDepth 20000 in
theorem gX9_findToken_X9_byteAt : GoodIn wsX9_findToken (wsV RX9 68 RX9 yX9_byteAt wsX9_byteAt) := goodIn_app (goodIn_of _ (by decide +kernel)) ggX9_findToken_X9_byteAt
set_option maxRecDepth 20000 in
theorem ggX9_findToken_X9_isLetter : GoodIn wsX9_findToken wsX9_isLetter := goodIn_r _ [11] (by decide +kernel) (by decide +kernel)
set_option maxRecDepth 20000 in
theorem gX9_findToken_X9_isLetter : GoodIn wsX9_findToken (va_wsS RX9 72 yX9_isLetter wsX9_isLetter) := goodIn_app (goodIn_of _ (by decide +kernel)) ggX9_findToken_X9_isLetter
set_option maxRecDepth 20000 in
theorem ggX9_findToken_X9_packWord : GoodIn wsX9_findToken wsX9_packWord := goodIn_r _ [15, 1, 7, 2, 3, 4, 5, 6, 8, 9, 10, 11, 16, 17, 18, 94, 95, 96, 97, 98, 99, 100, 101, 102, 103, 104, 105, 106, 107, 108, 109] (by decide +kernel) (by decide +kernel)
set_option maxRecDepth 20000 in
theorem gX9_findToken_X9_packWord : GoodIn wsX9_findToken (wsV RX9 76 RX9 yX9_packWord wsX9_packWord) := goodIn_app (goodIn_of _ (by decide +kernel)) ggX9_findToken_X9_packWord
set_option maxRecDepth 20000 in
theorem ggX9_findToken_X9_indexOfWord : GoodIn wsX9_findToken wsX9_indexOfWord := goodIn_r _ [21, 22, 23, 24, 25, 26, 27, 28, 29, 30, 31, 32, 33, 34, 35, 36, 37, 38, 39, 40, 41, 42, 43, 44, 45, 46, 47, 48, 49, 50, 51, 52, 53, 54, 55, 56, 57, 58, 59, 60, 61, 62, 63, 64, 65, 66, 67, 68, 69, 70, 16, 17, 5, 18] (by decide +kernel) (by decide +kernel)
set_option maxRecDepth 20000 in
theorem gX9_findToken_X9_indexOfWord : GoodIn wsX9_findToken (va_wsS RX9 80 yX9_indexOfWord wsX9_indexOfWord) := goodIn_app (goodIn_of _ (by decide +kernel)) ggX9_findToken_X9_indexOfWord
set_option maxRecDepth 20000 in
theorem ggX9_findToken_X9_addToken : GoodIn wsX9_findToken wsX9_addToken := goodIn_r _ [74, 75, 76, 77, 78, 79, 94, 95, 96, 97, 98, 99, 100, 101, 102, 103, 104, 105, 106, 107, 108, 109] (by decide +kernel) (by decide +kernel)
set_option maxRecDepth 20000 in
theorem gX9_findToken_X9_addToken : GoodIn wsX9_findToken (wsV RX9 84 RX9 yX9_addToken wsX9_addToken) := goodIn_app (goodIn_of _ (by decide +kernel)) ggX9_findToken_X9_addToken
set_option maxRecDepth 20000 in
theorem ggX9_findToken_X9_isDigit : GoodIn wsX9_findToken wsX9_isDigit := goodIn_r _ [82] (by decide +kernel) (by decide +kernel)
set_option maxRecDepth 20000 in
theorem gX9_findToken_X9_isDigit : GoodIn wsX9_findToken (va_wsS RX9 88 yX9_isDigit wsX9_isDigit) := goodIn_app (goodIn_of _ (by decide +kernel)) ggX9_findToken_X9_isDigit
set_option maxRecDepth 20000 in
theorem ggX9_findToken_X9_packNumber : GoodIn wsX9_findToken wsX9_packNumber := goodIn_r _ [86, 1, 7, 87, 88, 89, 90, 2, 3, 4, 5, 6, 8, 80, 81, 82, 94, 95, 96, 97, 98, 99, 100, 101, 102, 103, 104, 105, 106, 107, 108, 109] (by decide +kernel) (by decide +kernel)
set_option maxRecDepth 20000 in
theorem gX9_findToken_X9_packNumber : GoodIn wsX9_findToken (wsV RX9 91 RX9 yX9_packNumber wsX9_packNumber) := goodIn_app (goodIn_of _ (by decide +kernel)) ggX9_findToken_X9_packNumber
set_option maxRecDepth 20000 in
theorem ggX9_findToken_X9_isBlank : GoodIn wsX9_findToken wsX9_isBlank := goodIn_r _ [93] (by decide +kernel) (by decide +kernel)
set_option maxRecDepth 20000 in
theorem gX9_findToken_X9_isBlank : GoodIn wsX9_findToken (va_wsS RX9 94 yX9_isBlank wsX9_isBlank) := goodIn_app (goodIn_of _ (by decide +kernel)) ggX9_findToken_X9_isBlank
set_option maxRecDepth 20000 in
theorem ggX9_packWord_X9_byteAt : GoodIn wsX9_packWord wsX9_byteAt := goodIn_r _ [7, 2, 8, 15, 16, 17, 18, 19, 20, 21, 22, 23, 24, 25, 26, 27, 28, 29, 30] (by decide +kernel) (by decide +kernel)
set_option maxRecDepth 20000 in
theorem gX9_packWord_X9_byteAt : GoodIn wsX9_packWord (wsV RX9 68 RX9 yX9_byteAt wsX9_byteAt) := goodIn_app (goodIn_of _ (by decide +kernel)) ggX9_packWord_X9_byteAt
set_option maxRecDepth 20000 in
theorem ggX9_packWord_X9_isLetter : GoodIn wsX9_packWord wsX9_isLetter := goodIn_r _ [11] (by decide +kernel) (by decide +kernel)
set_option maxRecDepth 20000 in
theorem gX9_packWord_X9_isLetter : GoodIn wsX9_packWord (va_wsS RX9 72 yX9_isLetter wsX9_isLetter) := goodIn_app (goodIn_of _ (by decide +kernel)) ggX9_packWord_X9_isLetter
set_option maxRecDepth 20000 in
theorem ggX9_packWord_X9_letterCode : GoodIn wsX9_packWord wsX9_letterCode := goodIn_r _ [14] (by decide +kernel) (by decide +kernel)
set_option maxRecDepth 20000 in
theorem gX9_packWord_X9_letterCode : GoodIn wsX9_packWord (va_wsS RX9 97 yX9_letterCode wsX9_letterCode) := goodIn_app (goodIn_of _ (by decide +kernel)) ggX9_packWord_X9_letterCode
set_option maxRecDepth 20000 in
theorem ggX9_packNumber_X9_byteAt : GoodIn wsX9_packNumber wsX9_byteAt := goodIn_r _ [11, 2, 12, 16, 17, 18, 19, 20, 21, 22, 23, 24, 25, 26, 27, 28, 29, 30, 31] (by decide +kernel) (by decide +kernel)
set_option maxRecDepth 20000 in
theorem gX9_packNumber_X9_byteAt : GoodIn wsX9_packNumber (wsV RX9 68 RX9 yX9_byteAt wsX9_byteAt) := goodIn_app (goodIn_of _ (by decide +kernel)) ggX9_packNumber_X9_byteAt
set_option maxRecDepth 20000 in
theorem ggX9_packNumber_X9_isDigit : GoodIn wsX9_packNumber wsX9_isDigit := goodIn_r _ [15] (by decide +kernel) (by decide +kernel)
set_option maxRecDepth 20000 in
theorem gX9_packNumber_X9_isDigit : GoodIn wsX9_packNumber (va_wsS RX9 88 yX9_isDigit wsX9_isDigit) := goodIn_app (goodIn_of _ (by decide +kernel)) ggX9_packNumber_X9_isDigit
set_option maxRecDepth 20000 in
theorem ggX9_indexOfWord_J0_length_8abf5 : GoodIn wsX9_indexOfWord wsJ0_length_8abf5 := goodIn_r _ [5, 6, 7, 8, 9, 4, 10, 11, 12] (by decide +kernel) (by decide +kernel)
set_option maxRecDepth 20000 in
theorem gX9_indexOfWord_J0_length_8abf5 : GoodIn wsX9_indexOfWord (wsV RX9 106 RJ0 yJ0_length_8abf5 wsJ0_length_8abf5) := goodIn_app (goodIn_of _ (by decide +kernel)) ggX9_indexOfWord_J0_length_8abf5
set_option maxRecDepth 20000 in
theorem ggX9_indexOfWord_J0_charAt_5068e : GoodIn wsX9_indexOfWord wsJ0_charAt_5068e := goodIn_r _ [16, 6, 17, 18, 19, 4, 20, 11, 12, 21, 22, 23, 24, 25, 26, 27, 28, 29, 30, 31, 32, 33, 34, 35, 36, 37, 38, 39, 40, 41, 42, 43, 44, 45, 46, 47, 48, 49] (by decide +kernel) (by decide +kernel)
set_option maxRecDepth 20000 in
theorem gX9_indexOfWord_J0_charAt_5068e : GoodIn wsX9_indexOfWord (wsV RX9 111 RJ0 yJ0_charAt_5068e wsJ0_charAt_5068e) := goodIn_app (goodIn_of _ (by decide +kernel)) ggX9_indexOfWord_J0_charAt_5068e
set_option maxRecDepth 20000 in
theorem ggX9_indexOfWord_X9_letterCode : GoodIn wsX9_indexOfWord wsX9_letterCode := goodIn_r _ [53] (by decide +kernel) (by decide +kernel)
set_option maxRecDepth 20000 in
theorem gX9_indexOfWord_X9_letterCode : GoodIn wsX9_indexOfWord (va_wsS RX9 97 yX9_letterCode wsX9_letterCode) := goodIn_app (goodIn_of _ (by decide +kernel)) ggX9_indexOfWord_X9_letterCode
set_option maxRecDepth 20000 in
theorem ggX10_init_X9_init : GoodIn wsX10_init wsX9_init := goodIn_r _ [50, 51, 2, 3, 52, 53, 38, 54, 55, 56, 57, 58, 152, 153, 154, 155, 156, 157, 158, 159, 160, 161, 162, 163, 164, 165, 166, 167] (by decide +kernel) (by decide +kernel)
set_option maxRecDepth 20000 in
theorem gX10_init_X9_init_n9 : GoodIn wsX10_init (wsX9_init) := ggX10_init_X9_init
set_option maxRecDepth 20000 in
theorem ggX10_init_X7_init : GoodIn wsX10_init wsX7_init := goodIn_r _ [61, 62, 2, 3, 38, 63, 64, 17, 18, 65, 66, 67, 68, 69, 70, 71, 72, 73, 74, 75, 183, 184, 185, 186, 197, 198, 199, 200, 201, 202, 203] (by decide +kernel) (by decide +kernel)
set_option maxRecDepth 20000 in
theorem gX10_init_X7_init : GoodIn wsX10_init (wsX7_init) := ggX10_init_X7_init
set_option maxRecDepth 20000 in
theorem ggX10_init_X5_init : GoodIn wsX10_init wsX5_init := goodIn_r _ [78, 79, 2, 3, 38, 80, 81, 82, 83, 84, 21, 22, 85, 86, 87, 88, 89, 90, 91, 92, 187, 188, 189, 190, 191, 192, 193, 194, 195, 196, 204, 205, 206, 207, 208, 209] (by decide +kernel) (by decide +kernel)
set_option maxRecDepth 20000 in
theorem gX10_init_X5_init : GoodIn wsX10_init (wsX5_init) := ggX10_init_X5_init
set_option maxRecDepth 20000 in
theorem ggX10_init_X6_init : GoodIn wsX10_init wsX6_init := goodIn_r _ [68, 69, 2, 3, 38, 70, 71, 72, 73, 74, 75, 197, 198, 199, 200, 201, 202, 203] (by decide +kernel) (by decide +kernel)
set_option maxRecDepth 20000 in
theorem gX10_init_X6_init_n34 : GoodIn wsX10_init (wsX6_init) := ggX10_init_X6_init
set_option maxRecDepth 20000 in
theorem ggX10_init_X4_init : GoodIn wsX10_init wsX4_init := goodIn_r _ [88, 89, 2, 3, 38, 90, 91, 92, 204, 205, 206, 207, 208, 209] (by decide +kernel) (by decide +kernel)
set_option maxRecDepth 20000 in
theorem gX10_init_X4_init_n41 : GoodIn wsX10_init (wsX4_init) := ggX10_init_X4_init
set_option maxRecDepth 20000 in
theorem ggX10_init_X1_init : GoodIn wsX10_init wsX1_init := goodIn_r _ [95, 96, 2, 3, 97, 98, 38, 99, 100, 101, 102, 103, 26, 104, 105, 106, 107, 108, 109, 110, 111, 112, 210, 211, 212, 213, 214, 215, 216] (by decide +kernel) (by decide +kernel)
set_option maxRecDepth 20000 in
theorem gX10_init_X1_init : GoodIn wsX10_init (wsX1_init) := ggX10_init_X1_init
set_option maxRecDepth 20000 in
theorem ggX10_init_X3_init : GoodIn wsX10_init wsX3_init := goodIn_r _ [114, 115, 2, 3, 116, 97, 117, 217, 218, 219, 220, 221, 222, 223, 224, 225, 226] (by decide +kernel) (by decide +kernel)
set_option maxRecDepth 20000 in
theorem gX10_init_X3_init_n55 : GoodIn wsX10_init (wsX3_init) := ggX10_init_X3_init
set_option maxRecDepth 20000 in
theorem ggX10_init_X0_init : GoodIn wsX10_init wsX0_init := goodIn_r _ [119, 120, 2, 3] (by decide +kernel) (by decide +kernel)
set_option maxRecDepth 20000 in
theorem gX10_init_X0_init_n62 : GoodIn wsX10_init (wsX0_init) := ggX10_init_X0_init
set_option maxRecDepth 20000 in
theorem ggX10_init_X8_init : GoodIn wsX10_init wsX8_init := goodIn_r _ [122, 123, 2, 3, 124, 25, 26, 125, 126, 29, 30, 127, 128, 38, 129, 130, 131, 132, 133, 134, 94, 95, 96, 97, 98, 99, 100, 101, 102, 103, 104, 105, 106, 107, 108, 109, 110, 111, 112, 113, 114, 115, 116, 117, 210, 211, 212, 213, 214, 215, 216, 234, 235, 236, 237, 238, 239, 240, 241, 242, 243, 244, 245, 246, 217, 218, 219, 220, 221, 222, 223, 224, 225, 226] (by decide +kernel) (by decide +kernel)
set_option maxRecDepth 20000 in
theorem gX10_init_X8_init_n84 : GoodIn wsX10_init (wsX8_init) := ggX10_init_X8_init
set_option maxRecDepth 20000 in
theorem ggX10_init_X2_init : GoodIn wsX10_init wsX2_init := goodIn_r _ [136, 137, 2, 3, 138, 139, 21, 22, 140, 141, 29, 30, 142, 143, 33, 34, 144, 145, 25, 26, 146, 147, 148, 149, 38, 150, 87, 88, 89, 90, 91, 92, 113, 114, 115, 116, 97, 117, 118, 119, 120, 151, 94, 95, 96, 98, 99, 100, 101, 102, 103, 104, 105, 106, 107, 108, 109, 110, 111, 112, 247, 248, 249, 250, 251, 252, 253, 254, 255, 256, 257, 258, 204, 205, 206, 207, 208, 209, 217, 218, 219, 220, 221, 222, 223, 224, 225, 226, 227, 228, 229, 230, 231, 232, 233, 210, 211, 212, 213, 214, 215, 216] (by decide +kernel) (by decide +kernel)
set_option maxRecDepth 20000 in
theorem gX10_init_X2_init_n91 : GoodIn wsX10_init (wsX2_init) := ggX10_init_X2_init
set_option maxRecDepth 20000 in
theorem ggX10_feed_X9_hasRoomFor : GoodIn wsX10_feed wsX9_hasRoomFor := goodIn_r _ [7, 8, 29, 30, 31, 32, 33, 34, 35, 36, 37, 38, 39, 40, 41, 42, 43, 44] (by decide +kernel) (by decide +kernel)
set_option maxRecDepth 20000 in
theorem gX10_feed_X9_hasRoomFor : GoodIn wsX10_feed (wsV RX10 96 RX9 yX9_hasRoomFor wsX9_hasRoomFor) := goodIn_app (goodIn_of _ (by decide +kernel)) ggX10_feed_X9_hasRoomFor
set_option maxRecDepth 20000 in
theorem ggX10_feed_X9_append : GoodIn wsX10_feed wsX9_append := goodIn_r _ [12, 8, 13, 29, 30, 31, 32, 33, 34, 35, 36, 37, 38, 39, 40, 41, 42, 43, 44] (by decide +kernel) (by decide +kernel)
set_option maxRecDepth 20000 in
theorem gX10_feed_X9_append : GoodIn wsX10_feed (wsV RX10 100 RX9 yX9_append wsX9_append) := goodIn_app (goodIn_of _ (by decide +kernel)) ggX10_feed_X9_append
set_option maxRecDepth 20000 in
theorem ggX10_rules_X7_read : GoodIn wsX10_rules wsX7_read := goodIn_r _ [13, 14, 15, 16, 17, 18, 19, 20, 21, 22, 23, 24, 25, 26, 27, 28, 29, 30, 31, 32, 33, 34, 35, 36, 37, 38, 39, 40, 41, 42, 43, 44, 45, 46, 47, 48, 49, 50, 51, 52, 53, 54, 55, 56, 57, 58, 59, 60, 61, 62, 63, 64, 65, 66, 67, 68, 69, 70, 71, 72, 73, 74, 75, 76, 77, 78, 79, 80, 81, 82, 83, 84, 85, 86, 87, 88, 89, 90, 91, 92, 93, 94, 95, 96, 97, 98, 99, 100, 101, 102, 103, 104, 105, 106, 107, 108, 109, 110, 111, 112, 113, 114, 115, 116, 117, 118, 119, 120, 121, 122, 123, 124, 125, 126, 127, 128, 129, 130, 131, 132, 133, 134, 12, 135, 136, 137, 138, 139, 140, 141, 142, 143, 144, 145, 146, 147, 148, 149, 150, 151, 152, 153, 154, 155, 156, 157, 158, 159, 160, 161, 162, 163, 164, 165, 166, 167, 168, 169, 170, 171, 172, 173, 174, 175, 176, 177, 178, 179, 180, 181, 182, 183, 184, 185, 186, 187, 188, 189, 190, 191, 192, 193, 194, 195, 196, 197, 198, 199, 200, 201, 202, 203, 204, 205, 206, 207, 208, 209, 210, 211, 212, 213, 214, 215, 216, 276, 277, 278, 279, 269, 270, 271, 272, 273, 274, 275, 243, 244, 245, 246, 247, 248, 249, 250, 251, 252, 253, 254, 255, 256, 257, 258] (by decide +kernel) (by decide +kernel)
set_option maxRecDepth 20000 in
theorem gX10_rules_X7_read : GoodIn wsX10_rules (wsV RX10 108 RX7 yX7_read wsX7_read) := goodIn_app (goodIn_of _ (by decide +kernel)) ggX10_rules_X7_read
set_option maxRecDepth 20000 in
theorem ggX10_rules_X7_exchange : GoodIn wsX10_rules wsX7_exchange := goodIn_r _ [220, 14, 276, 277, 278, 279] (by decide +kernel) (by decide +kernel)
set_option maxRecDepth 20000 in
theorem gX10_rules_X7_exchange : GoodIn wsX10_rules (wsV RX10 111 RX7 yX7_exchange wsX7_exchange) := goodIn_app (goodIn_of _ (by decide +kernel)) ggX10_rules_X7_exchange
set_option maxRecDepth 20000 in
theorem ggX10_rules_X8_forget : GoodIn wsX10_rules wsX8_forget := goodIn_r _ [225, 226, 227, 280, 281, 282, 283, 284, 285, 286, 287, 288, 289, 290, 291, 292] (by decide +kernel) (by decide +kernel)
set_option maxRecDepth 20000 in
theorem gX10_rules_X8_forget : GoodIn wsX10_rules (wsV RX10 118 RX8 yX8_forget wsX8_forget) := goodIn_app (goodIn_of _ (by decide +kernel)) ggX10_rules_X8_forget
set_option maxRecDepth 20000 in
theorem ggX10_net_X5_read : GoodIn wsX10_net wsX5_read := goodIn_r _ [12, 13, 14, 15, 16, 17, 18, 19, 20, 21, 22, 23, 24, 25, 26, 27, 28, 29, 30, 31, 32, 33, 34, 35, 36, 37, 38, 39, 40, 41, 42, 43, 44, 45, 46, 47, 48, 49, 50, 51, 52, 53, 54, 55, 56, 57, 58, 59, 60, 61, 62, 63, 64, 65, 66, 67, 68, 69, 70, 71, 72, 73, 74, 75, 76, 77, 78, 79, 80, 81, 82, 83, 84, 85, 86, 87, 88, 89, 90, 91, 92, 93, 94, 95, 96, 97, 98, 99, 100, 101, 102, 103, 104, 105, 106, 107, 108, 109, 110, 111, 112, 113, 114, 115, 116, 117, 118, 119, 120, 121, 122, 123, 124, 125, 126, 127, 128, 129, 130, 131, 132, 133, 134, 135, 136, 137, 138, 139, 140, 141, 142, 143, 144, 11, 145, 146, 147, 148, 149, 150, 151, 152, 153, 154, 155, 156, 157, 158, 159, 160, 161, 162, 163, 164, 165, 166, 167, 168, 169, 170, 171, 172, 173, 174, 175, 176, 177, 178, 179, 180, 181, 182, 183, 184, 185, 186, 187, 188, 189, 190, 191, 192, 193, 194, 195, 196, 197, 198, 199, 200, 201, 202, 203, 204, 205, 206, 207, 208, 209, 210, 211, 212, 213, 214, 215, 216, 217, 218, 219, 220, 221, 222, 223, 224, 225, 226, 227, 228, 229, 230, 231, 232, 233, 284, 285, 286, 287, 288, 289, 290, 291, 292, 293, 262, 263, 264, 265, 266, 267, 268, 269, 270, 271, 272, 273, 274, 275, 276, 277, 278, 279, 280, 281, 282, 283] (by decide +kernel) (by decide +kernel)
set_option maxRecDepth 20000 in
theorem gX10_net_X5_read : GoodIn wsX10_net (wsV RX10 124 RX5 yX5_read wsX5_read) := goodIn_app (goodIn_of _ (by decide +kernel)) ggX10_net_X5_read
set_option maxRecDepth 20000 in
theorem ggX10_net_X5_exchange : GoodIn wsX10_net wsX5_exchange := goodIn_r _ [237, 13, 284, 285, 286, 287, 288, 289, 290, 291, 292, 293] (by decide +kernel) (by decide +kernel)
set_option maxRecDepth 20000 in
theorem gX10_net_X5_exchange : GoodIn wsX10_net (wsV RX10 125 RX5 yX5_exchange wsX5_exchange) := goodIn_app (goodIn_of _ (by decide +kernel)) ggX10_net_X5_exchange
set_option maxRecDepth 20000 in
theorem ggX10_net_X0_renew : GoodIn wsX10_net wsX0_renew := goodIn_r _ [242, 243, 244, 245, 246, 294, 295, 296, 297, 298, 299, 300] (by decide +kernel) (by decide +kernel)
set_option maxRecDepth 20000 in
theorem gX10_net_X0_renew : GoodIn wsX10_net (wsV RX10 128 RX0 yX0_renew wsX0_renew) := goodIn_app (goodIn_of _ (by decide +kernel)) ggX10_net_X0_renew
set_option maxRecDepth 20000 in
theorem ggX10_floor_X1_lay : GoodIn wsX10_floor wsX1_lay := goodIn_r _ [12, 13, 14, 15, 16, 17, 18, 19, 20, 21, 11, 22, 23, 97, 98, 99, 100, 101, 102, 103] (by decide +kernel) (by decide +kernel)
set_option maxRecDepth 20000 in
theorem gX10_floor_X1_lay : GoodIn wsX10_floor (wsV RX10 143 RX1 yX1_lay wsX1_lay) := goodIn_app (goodIn_of _ (by decide +kernel)) ggX10_floor_X1_lay
set_option maxRecDepth 20000 in
theorem ggX10_floor_X3_setDownWiped : GoodIn wsX10_floor wsX3_setDownWiped := goodIn_r _ [28, 29, 30, 31, 27, 32, 33, 34, 35, 36, 37, 38, 39, 40, 41, 42, 43, 71, 72, 73, 74, 75, 76, 77, 78, 79, 80] (by decide +kernel) (by decide +kernel)
set_option maxRecDepth 20000 in
theorem gX10_floor_X3_setDownWiped : GoodIn wsX10_floor (wsV RX10 147 RX3 yX3_setDownWiped wsX3_setDownWiped) := goodIn_app (goodIn_of _ (by decide +kernel)) ggX10_floor_X3_setDownWiped
set_option maxRecDepth 20000 in
theorem ggX10_floor_X0_release : GoodIn wsX10_floor wsX0_release := goodIn_r _ [48, 49, 50, 51, 47, 52, 53, 54, 55, 104, 105, 106, 107, 108, 109, 110] (by decide +kernel) (by decide +kernel)
set_option maxRecDepth 20000 in
theorem gX10_floor_X0_release : GoodIn wsX10_floor (wsV RX10 150 RX0 yX0_release wsX0_release) := goodIn_app (goodIn_of _ (by decide +kernel)) ggX10_floor_X0_release
set_option maxRecDepth 20000 in
theorem ggX10_wall_X1_has : GoodIn wsX10_wall wsX1_has := goodIn_r _ [6, 7, 51, 52, 53, 54, 55, 56, 57] (by decide +kernel) (by decide +kernel)
set_option maxRecDepth 20000 in
theorem gX10_wall_X1_has : GoodIn wsX10_wall (wsV RX10 153 RX1 yX1_has wsX1_has) := goodIn_app (goodIn_of _ (by decide +kernel)) ggX10_wall_X1_has
set_option maxRecDepth 20000 in
theorem ggX10_wall_X10_isSide : GoodIn wsX10_wall wsX10_isSide := goodIn_r _ [11] (by decide +kernel) (by decide +kernel)
set_option maxRecDepth 20000 in
theorem gX10_wall_X10_isSide : GoodIn wsX10_wall (va_wsS RX10 156 yX10_isSide wsX10_isSide) := goodIn_app (goodIn_of _ (by decide +kernel)) ggX10_wall_X10_isSide
set_option maxRecDepth 20000 in
theorem ggX10_wall_X1_isRim : GoodIn wsX10_wall wsX1_isRim := goodIn_r _ [15, 16, 51, 52, 53, 54, 55, 56, 57] (by decide +kernel) (by decide +kernel)
set_option maxRecDepth 20000 in
theorem gX10_wall_X1_isRim : GoodIn wsX10_wall (wsV RX10 159 RX1 yX1_isRim wsX1_isRim) := goodIn_app (goodIn_of _ (by decide +kernel)) ggX10_wall_X1_isRim
set_option maxRecDepth 20000 in
theorem ggX10_wall_X1_isWalled : GoodIn wsX10_wall wsX1_isWalled := goodIn_r _ [20, 21, 51, 52, 53, 54, 55, 56, 57] (by decide +kernel) (by decide +kernel)
set_option maxRecDepth 20000 in
theorem gX10_wall_X1_isWalled : GoodIn wsX10_wall (wsV RX10 163 RX1 yX1_isWalled wsX1_isWalled) := goodIn_app (goodIn_of _ (by decide +kernel)) ggX10_wall_X1_isWalled
set_option maxRecDepth 20000 in
theorem ggX10_wall_X1_putWall : GoodIn wsX10_wall wsX1_putWall := goodIn_r _ [25, 26, 27, 28, 5, 29, 21, 30, 31, 32, 33, 34, 35, 51, 52, 53, 54, 55, 56, 57] (by decide +kernel) (by decide +kernel)
set_option maxRecDepth 20000 in
theorem gX10_wall_X1_putWall : GoodIn wsX10_wall (wsV RX10 166 RX1 yX1_putWall wsX1_putWall) := goodIn_app (goodIn_of _ (by decide +kernel)) ggX10_wall_X1_putWall
set_option maxRecDepth 20000 in
theorem ggX10_bell_X1_has : GoodIn wsX10_bell wsX1_has := goodIn_r _ [7, 8, 24, 25, 26, 27, 28, 29, 30] (by decide +kernel) (by decide +kernel)
set_option maxRecDepth 20000 in
theorem gX10_bell_X1_has : GoodIn wsX10_bell (wsV RX10 153 RX1 yX1_has wsX1_has) := goodIn_app (goodIn_of _ (by decide +kernel)) ggX10_bell_X1_has
set_option maxRecDepth 20000 in
theorem ggX10_lift_X1_has : GoodIn wsX10_lift wsX1_has := goodIn_r _ [9, 10, 40, 41, 42, 43, 44, 45, 46] (by decide +kernel) (by decide +kernel)
set_option maxRecDepth 20000 in
theorem gX10_lift_X1_has : GoodIn wsX10_lift (wsV RX10 153 RX1 yX1_has wsX1_has) := goodIn_app (goodIn_of _ (by decide +kernel)) ggX10_lift_X1_has
set_option maxRecDepth 20000 in
theorem ggX10_lift_X10_isSide : GoodIn wsX10_lift wsX10_isSide := goodIn_r _ [14] (by decide +kernel) (by decide +kernel)
set_option maxRecDepth 20000 in
theorem gX10_lift_X10_isSide : GoodIn wsX10_lift (va_wsS RX10 156 yX10_isSide wsX10_isSide) := goodIn_app (goodIn_of _ (by decide +kernel)) ggX10_lift_X10_isSide
set_option maxRecDepth 20000 in
theorem ggX10_wipe_X3_markedSquares : GoodIn wsX10_wipe wsX3_markedSquares := goodIn_r _ [9, 10, 11, 12, 13, 14, 15, 16, 17, 18, 19, 51, 52, 53, 54, 55, 56, 57, 58, 59, 60] (by decide +kernel) (by decide +kernel)
set_option maxRecDepth 20000 in
theorem gX10_wipe_X3_markedSquares : GoodIn wsX10_wipe (wsV RX10 179 RX3 yX3_markedSquares wsX3_markedSquares) := goodIn_app (goodIn_of _ (by decide +kernel)) ggX10_wipe_X3_markedSquares
set_option maxRecDepth 20000 in
theorem ggX10_wipe_X3_clearSquares : GoodIn wsX10_wipe wsX3_clearSquares := goodIn_r _ [23, 10, 11, 12, 51, 52, 53, 54, 55, 56, 57, 58, 59, 60] (by decide +kernel) (by decide +kernel)
set_option maxRecDepth 20000 in
theorem gX10_wipe_X3_clearSquares : GoodIn wsX10_wipe (wsV RX10 183 RX3 yX3_clearSquares wsX3_clearSquares) := goodIn_app (goodIn_of _ (by decide +kernel)) ggX10_wipe_X3_clearSquares
set_option maxRecDepth 20000 in
theorem ggX10_wipe_X0_release : GoodIn wsX10_wipe wsX0_release := goodIn_r _ [28, 29, 30, 31, 27, 32, 33, 34, 35, 61, 62, 63, 64, 65, 66, 67] (by decide +kernel) (by decide +kernel)
set_option maxRecDepth 20000 in
theorem gX10_wipe_X0_release : GoodIn wsX10_wipe (wsV RX10 150 RX0 yX0_release wsX0_release) := goodIn_app (goodIn_of _ (by decide +kernel)) ggX10_wipe_X0_release
set_option maxRecDepth 20000 in
theorem ggX10_tick_X3_obey : GoodIn wsX10_tick wsX3_obey := goodIn_r _ [9, 10, 11, 12, 13, 14, 15, 16, 8, 17, 18, 19, 20, 21, 22, 23, 24, 25, 26, 27, 28, 29, 30, 31, 32, 33, 34, 35, 36, 37, 38, 39, 40, 41, 42, 43, 44, 45, 46, 47, 48, 49, 50, 51, 52, 53, 54, 55, 56, 57, 58, 59, 60, 61, 62, 63, 64, 65, 66, 67, 68, 69, 70, 71, 72, 73, 74, 75, 76, 77, 78, 79, 80, 81, 97, 98, 99, 100, 101, 102, 103, 104, 105, 106, 107, 108, 109, 110, 111, 112, 113, 114, 115, 116, 117, 118, 119, 120] (by decide +kernel) (by decide +kernel)
set_option maxRecDepth 20000 in
theorem gX10_tick_X3_obey : GoodIn wsX10_tick (wsV RX10 192 RX3 yX3_obey wsX3_obey) := goodIn_app (goodIn_of _ (by decide +kernel)) ggX10_tick_X3_obey
set_option maxRecDepth 20000 in
theorem ggX10_run_X3_arrive : GoodIn wsX10_run wsX3_arrive := goodIn_r _ [8, 9, 10, 11, 12, 13, 14, 7, 15, 16, 17, 18, 19, 20, 21, 22, 23, 24, 25, 26, 27, 28, 29, 30, 31, 32, 33, 34, 35, 36, 37, 38, 39, 40, 41, 42, 43, 44, 45, 46, 47, 48, 49, 50, 51, 52, 53, 54, 55, 56, 57, 58, 59, 60, 61, 62, 63, 64, 65, 66, 67, 68, 69, 70, 71, 72, 73, 74, 75, 76, 77, 78, 79, 80, 81, 82, 83, 84, 100, 101, 102, 103, 104, 105, 106, 107, 108, 109, 110, 111, 112, 113, 114, 115, 116, 117, 118, 119, 120, 121, 122, 123] (by decide +kernel) (by decide +kernel)
set_option maxRecDepth 20000 in
theorem gX10_run_X3_arrive : GoodIn wsX10_run (wsV RX10 196 RX3 yX3_arrive wsX3_arrive) := goodIn_app (goodIn_of _ (by decide +kernel)) ggX10_run_X3_arrive
set_option maxRecDepth 20000 in
theorem ggX10_look_X1_has : GoodIn wsX10_look wsX1_has := goodIn_r _ [11, 12, 60, 61, 62, 63, 64, 65, 66] (by decide +kernel) (by decide +kernel)
set_option maxRecDepth 20000 in
theorem gX10_look_X1_has : GoodIn wsX10_look (wsV RX10 153 RX1 yX1_has wsX1_has) := goodIn_app (goodIn_of _ (by decide +kernel)) ggX10_look_X1_has
set_option maxRecDepth 20000 in
theorem ggX10_look_X3_wayOf : GoodIn wsX10_look wsX3_wayOf := goodIn_r _ [17, 18, 19, 67, 68, 69, 70, 71, 72, 73, 74, 75, 76] (by decide +kernel) (by decide +kernel)
set_option maxRecDepth 20000 in
theorem gX10_look_X3_wayOf : GoodIn wsX10_look (wsV RX10 207 RX3 yX3_wayOf wsX3_wayOf) := goodIn_app (goodIn_of _ (by decide +kernel)) ggX10_look_X3_wayOf
set_option maxRecDepth 20000 in
theorem ggX10_look_X3_yesesOf : GoodIn wsX10_look wsX3_yesesOf := goodIn_r _ [23, 24, 67, 68, 69, 70, 71, 72, 73, 74, 75, 76] (by decide +kernel) (by decide +kernel)
set_option maxRecDepth 20000 in
theorem gX10_look_X3_yesesOf : GoodIn wsX10_look (wsV RX10 211 RX3 yX3_yesesOf wsX3_yesesOf) := goodIn_app (goodIn_of _ (by decide +kernel)) ggX10_look_X3_yesesOf
set_option maxRecDepth 20000 in
theorem ggX10_look_X1_wallsOf : GoodIn wsX10_look wsX1_wallsOf := goodIn_r _ [28, 29, 30, 31, 10, 32, 33, 60, 61, 62, 63, 64, 65, 66] (by decide +kernel) (by decide +kernel)
set_option maxRecDepth 20000 in
theorem gX10_look_X1_wallsOf : GoodIn wsX10_look (wsV RX10 214 RX1 yX1_wallsOf wsX1_wallsOf) := goodIn_app (goodIn_of _ (by decide +kernel)) ggX10_look_X1_wallsOf
set_option maxRecDepth 20000 in
theorem ggX10_look_X1_far : GoodIn wsX10_look wsX1_far := goodIn_r _ [37, 12, 38, 39, 40, 41, 10, 42, 33, 43, 44, 60, 61, 62, 63, 64, 65, 66] (by decide +kernel) (by decide +kernel)
set_option maxRecDepth 20000 in
theorem gX10_look_X1_far : GoodIn wsX10_look (wsV RX10 217 RX1 yX1_far wsX1_far) := goodIn_app (goodIn_of _ (by decide +kernel)) ggX10_look_X1_far
set_option maxRecDepth 20000 in
theorem ggX10_comes_X1_reach : GoodIn wsX10_comes wsX1_reach := goodIn_r _ [7, 8, 9, 10, 11, 12, 6, 13, 14, 15, 16, 128, 129, 130, 131, 132, 133, 134] (by decide +kernel) (by decide +kernel)
set_option maxRecDepth 20000 in
theorem gX10_comes_X1_reach : GoodIn wsX10_comes (wsV RX10 225 RX1 yX1_reach wsX1_reach) := goodIn_app (goodIn_of _ (by decide +kernel)) ggX10_comes_X1_reach
set_option maxRecDepth 20000 in
theorem ggX10_comes_X10_scoutRun : GoodIn wsX10_comes wsX10_scoutRun := goodIn_r _ [21, 22, 23, 24, 1, 25, 26, 27, 28, 29, 30, 31, 32, 33, 34, 35, 36, 37, 38, 39, 40, 41, 42, 43, 44, 45, 46, 47, 48, 49, 50, 51, 52, 53, 54, 55, 56, 57, 58, 59, 60, 61, 62, 63, 64, 65, 66, 67, 68, 6, 69, 14, 70, 71, 72, 73, 74, 75, 76, 77, 78, 79, 80, 81, 82, 83, 84, 85, 86, 87, 88, 89, 90, 91, 92, 93, 94, 95, 96, 97, 98, 99, 100, 101, 102, 103, 104, 105, 106, 107, 108, 109, 110, 111, 112, 113, 114, 115, 116, 117, 118, 119, 120, 121, 122, 123, 124, 125, 126, 127, 135, 136, 137, 138, 139, 140, 141, 142, 143, 144, 128, 129, 130, 131, 132, 133, 134, 145, 146, 147, 148, 149, 150, 151] (by decide +kernel) (by decide +kernel)
set_option maxRecDepth 20000 in
theorem gX10_comes_X10_scoutRun : GoodIn wsX10_comes (wsV RX10 232 RX10 yX10_scoutRun wsX10_scoutRun) := goodIn_app (goodIn_of _ (by decide +kernel)) ggX10_comes_X10_scoutRun
set_option maxRecDepth 20000 in
theorem ggX10_second_X1_has : GoodIn wsX10_second wsX1_has := goodIn_r _ [8, 9, 130, 131, 132, 133, 134, 135, 136] (by decide +kernel) (by decide +kernel)
set_option maxRecDepth 20000 in
theorem gX10_second_X1_has : GoodIn wsX10_second (wsV RX10 153 RX1 yX1_has wsX1_has) := goodIn_app (goodIn_of _ (by decide +kernel)) ggX10_second_X1_has
set_option maxRecDepth 20000 in
theorem ggX10_second_X10_scoutRun : GoodIn wsX10_second wsX10_scoutRun := goodIn_r _ [14, 2, 3, 15, 1, 16, 17, 18, 19, 20, 21, 22, 23, 24, 25, 26, 27, 28, 29, 30, 31, 32, 33, 34, 35, 36, 37, 38, 39, 40, 41, 42, 43, 44, 45, 46, 47, 48, 49, 50, 51, 52, 53, 54, 55, 56, 57, 58, 59, 7, 60, 61, 62, 63, 64, 65, 66, 67, 68, 69, 70, 71, 72, 73, 74, 75, 76, 77, 78, 79, 80, 81, 82, 83, 84, 85, 86, 87, 88, 89, 90, 91, 92, 93, 94, 95, 96, 97, 98, 99, 100, 101, 102, 103, 104, 105, 106, 107, 108, 109, 110, 111, 112, 113, 114, 115, 116, 117, 118, 119, 120, 121, 122, 123, 124, 125, 126, 127, 128, 129, 130, 131, 132, 133, 134, 135, 136, 137, 138, 139, 140, 141, 142, 143] (by decide +kernel) (by decide +kernel)
set_option maxRecDepth 20000 in
theorem gX10_second_X10_scoutRun : GoodIn wsX10_second (wsV RX10 232 RX10 yX10_scoutRun wsX10_scoutRun) := goodIn_app (goodIn_of _ (by decide +kernel)) ggX10_second_X10_scoutRun
set_option maxRecDepth 20000 in
theorem ggX10_held_X8_isSmall : GoodIn wsX10_held wsX8_isSmall := goodIn_r _ [6] (by decide +kernel) (by decide +kernel)
set_option maxRecDepth 20000 in
theorem gX10_held_X8_isSmall : GoodIn wsX10_held (va_wsS RX10 239 yX8_isSmall wsX8_isSmall) := goodIn_app (goodIn_of _ (by decide +kernel)) ggX10_held_X8_isSmall
set_option maxRecDepth 20000 in
theorem ggX10_held_X8_heldBy : GoodIn wsX10_held wsX8_heldBy := goodIn_r _ [10, 11, 12, 13, 14, 15, 5, 16, 17, 4, 6, 18, 19, 20, 21, 22, 23, 24, 25, 26, 27, 28, 29, 30, 31, 32, 33, 34, 35, 36, 37, 38, 39, 40, 41, 42, 43, 44, 45, 46, 47, 48, 49, 50, 51, 52, 53, 54, 55, 56, 57, 58, 59, 60, 61, 62, 63, 64, 65, 66, 67, 68, 69, 70, 71, 72, 73, 74, 75, 76, 77, 78, 79, 80, 81, 82, 83, 84, 85, 86, 87, 88, 89, 90, 91, 92, 93, 94, 95, 96, 97, 98, 99, 100, 101, 102, 103, 104, 105, 106, 107, 108, 109, 110, 111, 112, 113, 114, 115, 116, 117, 118, 119, 120, 121, 122, 123, 124, 125, 126, 127, 128, 129, 130, 131, 132, 133, 134, 135, 136, 137, 138, 139, 140, 141, 142, 143, 144, 145, 146, 147, 148, 149, 150, 151, 152, 153, 154, 155, 156, 157, 158, 159, 160, 161, 162, 163, 164, 165, 166, 167, 168, 169, 170, 171, 172, 173, 174, 175, 176, 177, 193, 194, 195, 196, 197, 198, 199, 200, 201, 202, 203, 204, 205, 206, 207, 208, 209, 210, 211, 212, 213, 214, 215, 216, 217, 218, 219, 220, 221, 222, 223, 224, 225, 226, 227, 228, 229] (by decide +kernel) (by decide +kernel)
set_option maxRecDepth 20000 in
theorem gX10_held_X8_heldBy : GoodIn wsX10_held (wsV RX10 242 RX8 yX8_heldBy wsX8_heldBy) := goodIn_app (goodIn_of _ (by decide +kernel)) ggX10_held_X8_heldBy
set_option maxRecDepth 20000 in
theorem ggX10_longest_X8_isSmall : GoodIn wsX10_longest wsX8_isSmall := goodIn_r _ [6] (by decide +kernel) (by decide +kernel)
set_option maxRecDepth 20000 in
theorem gX10_longest_X8_isSmall : GoodIn wsX10_longest (va_wsS RX10 239 yX8_isSmall wsX8_isSmall) := goodIn_app (goodIn_of _ (by decide +kernel)) ggX10_longest_X8_isSmall
set_option maxRecDepth 20000 in
theorem ggX10_longest_X8_longestBy : GoodIn wsX10_longest wsX8_longestBy := goodIn_r _ [10, 11, 12, 13, 14, 15, 16, 5, 17, 18, 4, 6, 19, 20, 21, 22, 23, 24, 25, 26, 27, 28, 29, 30, 31, 32, 33, 34, 35, 36, 37, 38, 39, 40, 41, 42, 43, 44, 45, 46, 47, 48, 49, 50, 51, 52, 53, 54, 55, 56, 57, 58, 59, 60, 61, 62, 63, 64, 65, 66, 67, 68, 69, 70, 71, 72, 73, 74, 75, 76, 77, 78, 79, 80, 81, 82, 83, 84, 85, 86, 87, 88, 89, 90, 91, 92, 93, 94, 95, 96, 97, 98, 99, 100, 101, 102, 103, 104, 105, 106, 107, 108, 109, 110, 111, 112, 113, 114, 115, 116, 117, 118, 119, 120, 121, 122, 123, 124, 125, 126, 127, 128, 129, 130, 131, 132, 133, 134, 135, 136, 137, 138, 139, 140, 141, 142, 143, 144, 145, 146, 147, 148, 149, 150, 151, 152, 153, 154, 155, 156, 157, 158, 159, 160, 161, 162, 163, 164, 165, 166, 167, 168, 169, 170, 171, 172, 173, 174, 175, 176, 177, 178, 194, 195, 196, 197, 198, 199, 200, 201, 202, 203, 204, 205, 206, 207, 208, 209, 210, 211, 212, 213, 214, 215, 216, 217, 218, 219, 220, 221, 222, 223, 224, 225, 226, 227, 228, 229, 230] (by decide +kernel) (by decide +kernel)
set_option maxRecDepth 20000 in
theorem gX10_longest_X8_longestBy : GoodIn wsX10_longest (wsV RX10 246 RX8 yX8_longestBy wsX8_longestBy) := goodIn_app (goodIn_of _ (by decide +kernel)) ggX10_longest_X8_longestBy
set_option maxRecDepth 20000 in
theorem ggX10_needs_X8_isSmall : GoodIn wsX10_needs wsX8_isSmall := goodIn_r _ [6] (by decide +kernel) (by decide +kernel)
set_option maxRecDepth 20000 in
theorem gX10_needs_X8_isSmall : GoodIn wsX10_needs (va_wsS RX10 239 yX8_isSmall wsX8_isSmall) := goodIn_app (goodIn_of _ (by decide +kernel)) ggX10_needs_X8_isSmall
set_option maxRecDepth 20000 in
theorem ggX10_needs_X8_isNeeded : GoodIn wsX10_needs wsX8_isNeeded := goodIn_r _ [10, 11, 12, 13, 14, 15, 16, 17, 18, 19, 20, 21, 22, 23, 24, 25, 26, 27, 28, 5, 29, 30, 31, 32, 33, 34, 35, 36, 37, 38, 39, 40, 41, 42, 43, 44, 45, 46, 47, 48, 49, 50, 51, 52, 53, 54, 55, 56, 57, 58, 59, 60, 61, 62, 63, 64, 65, 66, 67, 68, 69, 70, 71, 72, 73, 74, 75, 76, 77, 78, 79, 80, 81, 82, 83, 84, 85, 86, 87, 88, 89, 90, 91, 92, 93, 94, 95, 96, 97, 98, 99, 100, 101, 102, 103, 104, 105, 106, 107, 108, 109, 110, 111, 112, 113, 114, 115, 116, 117, 118, 119, 120, 121, 122, 123, 124, 125, 126, 127, 128, 129, 130, 131, 132, 133, 134, 135, 136, 137, 138, 139, 140, 141, 142, 143, 144, 145, 146, 147, 148, 149, 150, 151, 152, 153, 154, 155, 156, 157, 158, 159, 160, 161, 162, 163, 164, 165, 166, 167, 168, 169, 170, 171, 172, 173, 174, 175, 176, 177, 178, 179, 180, 181, 182, 183, 199, 200, 201, 202, 203, 204, 205, 206, 207, 208, 209, 210, 211, 212, 213, 214, 215, 216, 217, 218, 219, 220, 221, 222, 223, 224, 225, 226, 227, 228, 229, 230, 231, 232, 233, 234, 235] (by decide +kernel) (by decide +kernel)
set_option maxRecDepth 20000 in
theorem gX10_needs_X8_isNeeded : GoodIn wsX10_needs (wsV RX10 249 RX8 yX8_isNeeded wsX8_isNeeded) := goodIn_app (goodIn_of _ (by decide +kernel)) ggX10_needs_X8_isNeeded
set_option maxRecDepth 20000 in
theorem ggX10_knows_X1_has : GoodIn wsX10_knows wsX1_has := goodIn_r _ [9, 10, 43, 44, 45, 46, 47, 48, 49] (by decide +kernel) (by decide +kernel)
set_option maxRecDepth 20000 in
theorem gX10_knows_X1_has : GoodIn wsX10_knows (wsV RX10 153 RX1 yX1_has wsX1_has) := goodIn_app (goodIn_of _ (by decide +kernel)) ggX10_knows_X1_has
set_option maxRecDepth 20000 in
theorem ggX10_knows_X3_wayOf : GoodIn wsX10_knows wsX3_wayOf := goodIn_r _ [15, 16, 17, 50, 51, 52, 53, 54, 55, 56, 57, 58, 59] (by decide +kernel) (by decide +kernel)
set_option maxRecDepth 20000 in
theorem gX10_knows_X3_wayOf : GoodIn wsX10_knows (wsV RX10 207 RX3 yX3_wayOf wsX3_wayOf) := goodIn_app (goodIn_of _ (by decide +kernel)) ggX10_knows_X3_wayOf
set_option maxRecDepth 20000 in
theorem ggX10_knows_X1_isWalled : GoodIn wsX10_knows wsX1_isWalled := goodIn_r _ [21, 22, 43, 44, 45, 46, 47, 48, 49] (by decide +kernel) (by decide +kernel)
set_option maxRecDepth 20000 in
theorem gX10_knows_X1_isWalled : GoodIn wsX10_knows (wsV RX10 163 RX1 yX1_isWalled wsX1_isWalled) := goodIn_app (goodIn_of _ (by decide +kernel)) ggX10_knows_X1_isWalled
set_option maxRecDepth 20000 in
theorem ggX10_knows_X1_ahead : GoodIn wsX10_knows wsX1_ahead := goodIn_r _ [26, 27, 43, 44, 45, 46, 47, 48, 49] (by decide +kernel) (by decide +kernel)
set_option maxRecDepth 20000 in
theorem gX10_knows_X1_ahead : GoodIn wsX10_knows (wsV RX10 253 RX1 yX1_ahead wsX1_ahead) := goodIn_app (goodIn_of _ (by decide +kernel)) ggX10_knows_X1_ahead
set_option maxRecDepth 20000 in
theorem ggX10_pull_X0_step : GoodIn wsX10_pull wsX0_step := goodIn_r _ [10, 11, 12, 13, 14, 15, 16, 17, 18, 19, 20, 21, 22, 23, 24, 25, 26, 27, 28, 29, 30, 31, 32, 33, 34, 35, 36, 37, 38, 39, 40, 41, 42, 43, 44, 45, 46, 47, 48, 49, 50, 51, 52, 53, 9, 54, 55, 56, 57, 58, 59, 60, 61, 62, 63, 64, 65, 66, 67, 68, 69, 70, 71, 72, 73, 74, 75, 76, 77, 78, 79, 80, 81, 82, 83, 109, 110, 111, 112, 113, 114, 115, 99, 100, 101, 102, 103, 104, 105, 106, 107, 108, 116, 117, 118, 119, 120, 121, 122, 123, 124, 125, 126, 127, 128] (by decide +kernel) (by decide +kernel)
set_option maxRecDepth 20000 in
theorem gX10_pull_X0_step : GoodIn wsX10_pull (wsV RX10 257 RX0 yX0_step wsX0_step) := goodIn_app (goodIn_of _ (by decide +kernel)) ggX10_pull_X0_step
set_option maxRecDepth 20000 in
theorem ggX10_pullRun_X0_step : GoodIn wsX10_pullRun wsX0_step := goodIn_r _ [11, 12, 13, 14, 15, 16, 17, 18, 19, 20, 21, 22, 23, 24, 25, 26, 27, 28, 29, 30, 31, 32, 33, 34, 35, 36, 37, 38, 39, 40, 41, 42, 43, 44, 45, 46, 47, 48, 49, 50, 51, 52, 53, 54, 10, 55, 56, 57, 58, 59, 60, 61, 62, 63, 64, 65, 66, 67, 68, 69, 70, 71, 72, 73, 74, 75, 76, 77, 78, 79, 80, 81, 82, 83, 84, 117, 118, 119, 120, 121, 122, 123, 100, 101, 102, 103, 104, 105, 106, 107, 108, 109, 110, 111, 112, 113, 114, 115, 116, 124, 125, 126, 127, 128, 129] (by decide +kernel) (by decide +kernel)
set_option maxRecDepth 20000 in
theorem gX10_pullRun_X0_step : GoodIn wsX10_pullRun (wsV RX10 257 RX0 yX0_step wsX0_step) := goodIn_app (goodIn_of _ (by decide +kernel)) ggX10_pullRun_X0_step
set_option maxRecDepth 20000 in
theorem ggX10_race_X0_firstRace : GoodIn wsX10_race wsX0_firstRace := goodIn_r _ [7, 8, 9, 10, 11, 12, 13, 14, 6, 15, 16, 17, 18, 19, 20, 21, 22, 23, 24, 25, 26, 27, 28, 44, 45, 46, 47, 48, 49, 50, 51, 52, 53, 54, 55, 56] (by decide +kernel) (by decide +kernel)
set_option maxRecDepth 20000 in
theorem gX10_race_X0_firstRace : GoodIn wsX10_race (wsV RX10 264 RX0 yX0_firstRace wsX0_firstRace) := goodIn_app (goodIn_of _ (by decide +kernel)) ggX10_race_X0_firstRace
set_option maxRecDepth 20000 in
theorem ggX10_stick_X0_free : GoodIn wsX10_stick wsX0_free := goodIn_r _ [8, 9, 10, 41, 42, 43, 44, 45, 46, 47] (by decide +kernel) (by decide +kernel)
set_option maxRecDepth 20000 in
theorem gX10_stick_X0_free : GoodIn wsX10_stick (wsV RX10 268 RX0 yX0_free wsX0_free) := goodIn_app (goodIn_of _ (by decide +kernel)) ggX10_stick_X0_free
set_option maxRecDepth 20000 in
theorem ggX10_stick_X0_jam : GoodIn wsX10_stick wsX0_jam := goodIn_r _ [14, 9, 10, 15, 16, 17, 18, 7, 19, 41, 42, 43, 44, 45, 46, 47] (by decide +kernel) (by decide +kernel)
set_option maxRecDepth 20000 in
theorem gX10_stick_X0_jam : GoodIn wsX10_stick (wsV RX10 271 RX0 yX0_jam wsX0_jam) := goodIn_app (goodIn_of _ (by decide +kernel)) ggX10_stick_X0_jam
set_option maxRecDepth 20000 in
theorem ggX10_same_X2_isLength : GoodIn wsX10_same wsX2_isLength := goodIn_r _ [10] (by decide +kernel) (by decide +kernel)
set_option maxRecDepth 20000 in
theorem gX10_same_X2_isLength : GoodIn wsX10_same (va_wsS RX10 278 yX2_isLength wsX2_isLength) := goodIn_app (goodIn_of _ (by decide +kernel)) ggX10_same_X2_isLength
set_option maxRecDepth 20000 in
theorem ggX10_same_X2_begin : GoodIn wsX10_same wsX2_begin := goodIn_r _ [14, 15, 16, 17, 18, 19, 20, 21, 22, 23, 24, 25, 26, 27, 28, 29, 30, 31, 32, 33, 34, 35, 36, 37, 38, 39, 40, 41, 42, 43, 44, 45, 46, 47, 48, 49, 50, 51, 52, 53, 54, 194, 195, 196, 197, 198, 199, 200, 201, 202, 203, 204, 205, 206, 207, 208, 209, 210, 211, 212, 213, 214, 215, 216, 217, 218, 219, 220, 221, 222, 223, 224, 225, 226, 227, 228, 229] (by decide +kernel) (by decide +kernel)
set_option maxRecDepth 20000 in
theorem gX10_same_X2_begin : GoodIn wsX10_same (wsV RX10 281 RX2 yX2_begin wsX2_begin) := goodIn_app (goodIn_of _ (by decide +kernel)) ggX10_same_X2_begin
set_option maxRecDepth 20000 in
theorem ggX10_same_X2_firstDifference : GoodIn wsX10_same wsX2_firstDifference := goodIn_r _ [58, 59, 16, 60, 61, 18, 17, 15, 19, 20, 21, 22, 23, 24, 25, 26, 27, 28, 29, 30, 43, 44, 45, 46, 47, 48, 49, 50, 51, 52, 53, 54, 62, 63, 64, 65, 66, 67, 68, 69, 70, 71, 72, 73, 74, 75, 76, 77, 78, 79, 80, 34, 81, 40, 82, 83, 84, 85, 86, 87, 88, 89, 90, 91, 92, 93, 94, 95, 96, 97, 98, 99, 100, 101, 102, 103, 104, 105, 106, 107, 108, 109, 110, 111, 112, 113, 114, 115, 116, 117, 118, 119, 120, 121, 122, 123, 124, 125, 126, 127, 128, 129, 130, 131, 132, 133, 134, 135, 136, 137, 138, 139, 140, 141, 142, 143, 144, 145, 146, 147, 148, 149, 150, 151, 152, 153, 154, 155, 156, 157, 158, 159, 160, 161, 162, 163, 164, 165, 166, 167, 168, 169, 170, 171, 172, 173, 174, 175, 176, 177, 178, 194, 195, 196, 197, 198, 199, 200, 201, 202, 203, 204, 205, 206, 207, 208, 209, 210, 211, 212, 213, 214, 215, 223, 224, 225, 226, 227, 228, 229, 230, 231, 232, 233, 234, 235, 236, 216, 217, 218, 219, 220, 221, 222, 237, 238, 239, 240, 241, 242] (by decide +kernel) (by decide +kernel)
set_option maxRecDepth 20000 in
theorem gX10_same_X2_firstDifference : GoodIn wsX10_same (wsV RX10 285 RX2 yX2_firstDifference wsX2_firstDifference) := goodIn_app (goodIn_of _ (by decide +kernel)) ggX10_same_X2_firstDifference
set_option maxRecDepth 20000 in
theorem ggX10_suspects_X2_isLength : GoodIn wsX10_suspects wsX2_isLength := goodIn_r _ [11] (by decide +kernel) (by decide +kernel)
set_option maxRecDepth 20000 in
theorem gX10_suspects_X2_isLength : GoodIn wsX10_suspects (va_wsS RX10 278 yX2_isLength wsX2_isLength) := goodIn_app (goodIn_of _ (by decide +kernel)) ggX10_suspects_X2_isLength
set_option maxRecDepth 20000 in
theorem ggX10_suspects_X2_begin : GoodIn wsX10_suspects wsX2_begin := goodIn_r _ [15, 16, 17, 18, 19, 20, 21, 22, 23, 24, 25, 26, 27, 28, 29, 30, 31, 32, 33, 34, 35, 36, 37, 38, 39, 40, 41, 42, 43, 44, 45, 46, 47, 48, 49, 50, 51, 52, 53, 54, 55, 163, 164, 165, 166, 167, 168, 169, 170, 171, 172, 173, 174, 175, 176, 177, 178, 179, 180, 181, 182, 183, 184, 185, 186, 187, 188, 189, 190, 191, 192, 193, 194, 195, 196, 197, 198] (by decide +kernel) (by decide +kernel)
set_option maxRecDepth 20000 in
theorem gX10_suspects_X2_begin : GoodIn wsX10_suspects (wsV RX10 281 RX2 yX2_begin wsX2_begin) := goodIn_app (goodIn_of _ (by decide +kernel)) ggX10_suspects_X2_begin
set_option maxRecDepth 20000 in
theorem ggX10_suspects_X2_findSuspects : GoodIn wsX10_suspects wsX2_findSuspects := goodIn_r _ [59, 60, 61, 16, 62, 63, 64, 65, 10, 66, 67, 17, 68, 19, 18, 69, 20, 21, 22, 23, 24, 25, 26, 27, 28, 29, 30, 31, 44, 45, 46, 47, 48, 49, 50, 51, 52, 53, 54, 55, 70, 71, 72, 73, 74, 75, 76, 77, 78, 79, 80, 81, 82, 83, 84, 85, 86, 87, 88, 89, 90, 91, 35, 92, 41, 93, 94, 95, 96, 97, 98, 99, 100, 101, 102, 103, 104, 105, 106, 107, 108, 109, 110, 111, 112, 113, 114, 115, 116, 117, 118, 119, 120, 121, 122, 123, 124, 125, 126, 127, 128, 129, 130, 131, 132, 133, 134, 135, 136, 137, 138, 139, 140, 141, 142, 143, 144, 145, 146, 147, 163, 164, 165, 166, 167, 168, 169, 170, 171, 172, 173, 174, 199, 200, 201, 202, 203, 204, 175, 176, 177, 178, 179, 180, 181, 182, 183, 184, 192, 193, 194, 195, 196, 197, 198, 185, 186, 187, 188, 189, 190, 191] (by decide +kernel) (by decide +kernel)
set_option maxRecDepth 20000 in
theorem gX10_suspects_X2_findSuspects : GoodIn wsX10_suspects (wsV RX10 289 RX2 yX2_findSuspects wsX2_findSuspects) := goodIn_app (goodIn_of _ (by decide +kernel)) ggX10_suspects_X2_findSuspects
set_option maxRecDepth 20000 in
theorem ggX10_trial_X2_isLength : GoodIn wsX10_trial wsX2_isLength := goodIn_r _ [11] (by decide +kernel) (by decide +kernel)
set_option maxRecDepth 20000 in
theorem gX10_trial_X2_isLength : GoodIn wsX10_trial (va_wsS RX10 278 yX2_isLength wsX2_isLength) := goodIn_app (goodIn_of _ (by decide +kernel)) ggX10_trial_X2_isLength
set_option maxRecDepth 20000 in
theorem ggX10_trial_X2_begin : GoodIn wsX10_trial wsX2_begin := goodIn_r _ [15, 16, 17, 18, 19, 20, 21, 22, 23, 24, 25, 26, 27, 28, 29, 30, 31, 32, 33, 34, 35, 36, 37, 38, 39, 40, 41, 42, 43, 44, 45, 46, 47, 48, 49, 50, 51, 52, 53, 54, 55, 215, 216, 217, 218, 219, 220, 221, 222, 223, 224, 225, 226, 227, 228, 229, 230, 231, 232, 233, 234, 235, 236, 237, 238, 239, 240, 241, 242, 243, 244, 245, 246, 247, 248, 249, 250] (by decide +kernel) (by decide +kernel)
set_option maxRecDepth 20000 in
theorem gX10_trial_X2_begin : GoodIn wsX10_trial (wsV RX10 281 RX2 yX2_begin wsX2_begin) := goodIn_app (goodIn_of _ (by decide +kernel)) ggX10_trial_X2_begin
set_option maxRecDepth 20000 in
theorem ggX10_trial_X2_findSuspects : GoodIn wsX10_trial wsX2_findSuspects := goodIn_r _ [59, 60, 61, 16, 62, 63, 64, 65, 10, 66, 67, 17, 68, 19, 18, 69, 20, 21, 22, 23, 24, 25, 26, 27, 28, 29, 30, 31, 44, 45, 46, 47, 48, 49, 50, 51, 52, 53, 54, 55, 70, 71, 72, 73, 74, 75, 76, 77, 78, 79, 80, 81, 82, 83, 84, 85, 86, 87, 88, 89, 90, 91, 35, 92, 41, 93, 94, 95, 96, 97, 98, 99, 100, 101, 102, 103, 104, 105, 106, 107, 108, 109, 110, 111, 112, 113, 114, 115, 116, 117, 118, 119, 120, 121, 122, 123, 124, 125, 126, 127, 128, 129, 130, 131, 132, 133, 134, 135, 136, 137, 138, 139, 140, 141, 142, 143, 144, 145, 146, 147, 215, 216, 217, 218, 219, 220, 221, 222, 223, 224, 225, 226, 251, 252, 253, 254, 255, 256, 227, 228, 229, 230, 231, 232, 233, 234, 235, 236, 244, 245, 246, 247, 248, 249, 250, 237, 238, 239, 240, 241, 242, 243] (by decide +kernel) (by decide +kernel)
set_option maxRecDepth 20000 in
theorem gX10_trial_X2_findSuspects : GoodIn wsX10_trial (wsV RX10 289 RX2 yX2_findSuspects wsX2_findSuspects) := goodIn_app (goodIn_of _ (by decide +kernel)) ggX10_trial_X2_findSuspects
set_option maxRecDepth 20000 in
theorem ggX10_trial_X2_suspectCount : GoodIn wsX10_trial wsX2_suspectCount := goodIn_r _ [151, 60, 61, 152, 153, 154, 155, 156, 157, 158, 215, 216, 217, 218, 219, 220, 221, 222, 223, 224, 225, 226] (by decide +kernel) (by decide +kernel)
set_option maxRecDepth 20000 in
theorem gX10_trial_X2_suspectCount : GoodIn wsX10_trial (wsV RX10 298 RX2 yX2_suspectCount wsX2_suspectCount) := goodIn_app (goodIn_of _ (by decide +kernel)) ggX10_trial_X2_suspectCount
set_option maxRecDepth 20000 in
theorem ggX10_trial_X2_findBestWall : GoodIn wsX10_trial wsX2_findBestWall := goodIn_r _ [162, 163, 164, 18, 165, 149, 150, 10, 151, 60, 61, 152, 153, 154, 155, 156, 157, 158, 166, 167, 168, 35, 169, 38, 37, 170, 171, 172, 173, 174, 175, 176, 177, 178, 179, 180, 181, 182, 90, 91, 92, 41, 183, 184, 185, 186, 187, 188, 189, 190, 191, 192, 193, 194, 195, 43, 196, 197, 198, 199, 16, 62, 63, 64, 65, 66, 67, 17, 68, 19, 69, 20, 21, 22, 23, 24, 25, 26, 27, 28, 29, 30, 31, 44, 45, 46, 47, 48, 49, 50, 51, 52, 53, 54, 55, 70, 71, 72, 73, 74, 75, 76, 77, 78, 79, 80, 81, 82, 83, 84, 85, 86, 87, 88, 89, 93, 94, 95, 96, 97, 98, 99, 100, 101, 102, 103, 104, 105, 106, 107, 108, 109, 110, 111, 112, 113, 114, 115, 116, 117, 118, 119, 120, 121, 122, 123, 124, 125, 126, 127, 128, 129, 130, 131, 132, 133, 134, 135, 136, 137, 138, 139, 140, 141, 142, 143, 144, 145, 146, 147, 215, 216, 217, 218, 219, 220, 221, 222, 223, 224, 225, 226, 237, 238, 239, 240, 241, 242, 243, 251, 252, 253, 254, 255, 256, 227, 228, 229, 230, 231, 232, 233, 234, 235, 236, 244, 245, 246, 247, 248, 249, 250] (by decide +kernel) (by decide +kernel)
set_option maxRecDepth 20000 in
theorem gX10_trial_X2_findBestWall : GoodIn wsX10_trial (wsV RX10 301 RX2 yX2_findBestWall wsX2_findBestWall) := goodIn_app (goodIn_of _ (by decide +kernel)) ggX10_trial_X2_findBestWall
set_option maxRecDepth 20000 in
theorem ggX10_keep_X1_copyFrom : GoodIn wsX10_keep wsX1_copyFrom := goodIn_r _ [13, 14, 15, 16, 17, 18, 19, 20, 55, 56, 57, 58, 59, 60, 61] (by decide +kernel) (by decide +kernel)
set_option maxRecDepth 20000 in
theorem gX10_keep_X1_copyFrom : GoodIn wsX10_keep (wsV RX10 310 RX1 yX1_copyFrom wsX1_copyFrom) := goodIn_app (goodIn_of _ (by decide +kernel)) ggX10_keep_X1_copyFrom
set_option maxRecDepth 20000 in
theorem ggX10_keep_X3_copyFrom : GoodIn wsX10_keep wsX3_copyFrom := goodIn_r _ [25, 26, 27, 28, 29, 30, 31, 32, 62, 63, 64, 65, 66, 67, 68, 69, 70, 71] (by decide +kernel) (by decide +kernel)
set_option maxRecDepth 20000 in
theorem gX10_keep_X3_copyFrom : GoodIn wsX10_keep (wsV RX10 314 RX3 yX3_copyFrom wsX3_copyFrom) := goodIn_app (goodIn_of _ (by decide +kernel)) ggX10_keep_X3_copyFrom
set_option maxRecDepth 20000 in
theorem ggX10_restore_X1_copyFrom : GoodIn wsX10_restore wsX1_copyFrom := goodIn_r _ [12, 13, 14, 15, 16, 17, 18, 19, 55, 56, 57, 58, 59, 60, 61] (by decide +kernel) (by decide +kernel)
set_option maxRecDepth 20000 in
theorem gX10_restore_X1_copyFrom : GoodIn wsX10_restore (wsV RX10 310 RX1 yX1_copyFrom wsX1_copyFrom) := goodIn_app (goodIn_of _ (by decide +kernel)) ggX10_restore_X1_copyFrom
set_option maxRecDepth 20000 in
theorem ggX10_restore_X3_copyFrom : GoodIn wsX10_restore wsX3_copyFrom := goodIn_r _ [24, 25, 26, 27, 28, 29, 30, 31, 62, 63, 64, 65, 66, 67, 68, 69, 70, 71] (by decide +kernel) (by decide +kernel)
set_option maxRecDepth 20000 in
theorem gX10_restore_X3_copyFrom : GoodIn wsX10_restore (wsV RX10 314 RX3 yX3_copyFrom wsX3_copyFrom) := goodIn_app (goodIn_of _ (by decide +kernel)) ggX10_restore_X3_copyFrom
set_option maxRecDepth 20000 in
theorem ggX10_restore_X0_settle : GoodIn wsX10_restore wsX0_settle := goodIn_r _ [36, 37, 38, 39, 72, 73, 74, 75, 76, 77, 78] (by decide +kernel) (by decide +kernel)
set_option maxRecDepth 20000 in
theorem gX10_restore_X0_settle : GoodIn wsX10_restore (wsV RX10 317 RX0 yX0_settle wsX0_settle) := goodIn_app (goodIn_of _ (by decide +kernel)) ggX10_restore_X0_settle
set_option maxRecDepth 20000 in
theorem ggX10_count_X1_standingWalls : GoodIn wsX10_count wsX1_standingWalls := goodIn_r _ [14, 15, 16, 17, 18, 19, 20, 21, 22, 23, 24, 47, 48, 49, 50, 51, 52, 53] (by decide +kernel) (by decide +kernel)
set_option maxRecDepth 20000 in
theorem gX10_count_X1_standingWalls : GoodIn wsX10_count (wsV RX10 323 RX1 yX1_standingWalls wsX1_standingWalls) := goodIn_app (goodIn_of _ (by decide +kernel)) ggX10_count_X1_standingWalls
set_option maxRecDepth 20000 in
theorem ggX10_count_J6_bitCount_0f7a4 : GoodIn wsX10_count wsJ6_bitCount_0f7a4 := goodIn_r _ [28, 29, 30, 31] (by decide +kernel) (by decide +kernel)
set_option maxRecDepth 20000 in
theorem gX10_count_J6_bitCount_0f7a4 : GoodIn wsX10_count (va_wsS RX10 326 yJ6_bitCount_0f7a4 wsJ6_bitCount_0f7a4) := goodIn_app (goodIn_of _ (by decide +kernel)) ggX10_count_J6_bitCount_0f7a4
set_option maxRecDepth 20000 in
theorem ggX10_scoutRun_X3_setDownWiped : GoodIn wsX10_scoutRun wsX3_setDownWiped := goodIn_r _ [9, 10, 11, 12, 8, 13, 14, 15, 16, 17, 18, 19, 20, 21, 22, 23, 24, 110, 111, 112, 113, 114, 115, 116, 117, 118, 119] (by decide +kernel) (by decide +kernel)
set_option maxRecDepth 20000 in
theorem gX10_scoutRun_X3_setDownWiped : GoodIn wsX10_scoutRun (wsV RX10 147 RX3 yX3_setDownWiped wsX3_setDownWiped) := goodIn_app (goodIn_of _ (by decide +kernel)) ggX10_scoutRun_X3_setDownWiped
set_option maxRecDepth 20000 in
theorem ggX10_scoutRun_X3_setDown : GoodIn wsX10_scoutRun wsX3_setDown := goodIn_r _ [13, 14, 15, 16, 17, 110, 111, 112, 113, 114, 115, 116, 117, 118, 119] (by decide +kernel) (by decide +kernel)
set_option maxRecDepth 20000 in
theorem gX10_scoutRun_X3_setDown : GoodIn wsX10_scoutRun (wsV RX10 331 RX3 yX3_setDown wsX3_setDown) := goodIn_app (goodIn_of _ (by decide +kernel)) ggX10_scoutRun_X3_setDown
set_option maxRecDepth 20000 in
theorem ggX10_scoutRun_X3_arrive : GoodIn wsX10_scoutRun wsX3_arrive := goodIn_r _ [29, 14, 30, 31, 32, 33, 34, 8, 35, 17, 36, 37, 38, 39, 40, 41, 16, 15, 42, 43, 44, 45, 24, 46, 47, 48, 49, 50, 51, 52, 53, 54, 55, 22, 23, 56, 57, 58, 59, 60, 61, 62, 63, 64, 65, 66, 67, 68, 69, 70, 71, 72, 73, 74, 75, 76, 77, 78, 79, 80, 81, 82, 83, 84, 85, 86, 87, 88, 89, 90, 91, 92, 93, 94, 18, 19, 20, 21, 110, 111, 112, 113, 114, 115, 116, 117, 118, 119, 120, 121, 122, 123, 124, 125, 126, 127, 128, 129, 130, 131, 132, 133] (by decide +kernel) (by decide +kernel)
set_option maxRecDepth 20000 in
theorem gX10_scoutRun_X3_arrive : GoodIn wsX10_scoutRun (wsV RX10 196 RX3 yX3_arrive wsX3_arrive) := goodIn_app (goodIn_of _ (by decide +kernel)) ggX10_scoutRun_X3_arrive
set_option maxRecDepth 20000 in
theorem ggX11_init_X11_begins : GoodIn wsX11_init wsX11_begins := goodIn_r _ [48, 49, 50, 51, 52, 53, 54, 55, 56, 57, 58, 26, 27, 28, 32, 59, 60, 61, 47, 62, 25, 63, 64, 65, 66, 67, 68, 69, 70, 71, 72, 73, 74, 75, 76, 77, 78, 79, 80, 81, 82, 83, 84, 85, 86, 87, 88, 89, 90, 91, 92, 93, 94, 95, 96, 97, 98, 99, 100, 101, 102, 103, 104, 105, 106, 107, 108, 109, 110, 111, 112, 113, 114, 115, 116, 117, 118, 119, 120, 121, 122, 123, 124, 125, 126, 127, 128, 129, 130, 131, 132, 133, 134, 135, 136, 137, 138, 139, 140, 141, 142, 143, 144, 145] (by decide +kernel) (by decide +kernel)
set_option maxRecDepth 20000 in
theorem gX11_init_X11_begins : GoodIn wsX11_init (wsV RX11 126 RX11 yX11_begins wsX11_begins) := goodIn_app (goodIn_of _ (by decide +kernel)) ggX11_init_X11_begins
set_option maxRecDepth 20000 in
theorem ggX11_take_X11_isSmall : GoodIn wsX11_take wsX11_isSmall := goodIn_r _ [12, 2, 3, 29, 30, 31, 32, 33, 34, 35, 36, 37, 38, 39, 40, 41, 42, 43, 44, 45, 46, 47, 48, 49, 50, 51, 52, 53, 54, 55, 56, 57, 58, 59, 60, 61, 62, 63, 64, 65, 66, 67, 68, 69, 70, 71, 72, 73, 74, 75, 76, 77, 78, 79, 80, 81, 82, 83, 84, 85, 86, 87, 88, 89, 90, 91, 92, 93, 94, 95, 96, 97, 98, 99, 100, 101, 102] (by decide +kernel) (by decide +kernel)
set_option maxRecDepth 20000 in
theorem gX11_take_X11_isSmall : GoodIn wsX11_take (wsV RX11 151 RX11 yX11_isSmall wsX11_isSmall) := goodIn_app (goodIn_of _ (by decide +kernel)) ggX11_take_X11_isSmall
set_option maxRecDepth 20000 in
theorem ggX11_take_X11_wordAt : GoodIn wsX11_take wsX11_wordAt := goodIn_r _ [16, 17, 3, 29, 30, 31, 32, 33, 34, 35, 36, 37, 38, 39, 40, 41, 42, 43, 44, 45, 46, 47, 48, 49, 50, 51, 52, 53, 54, 55, 56, 57, 58, 59, 60, 61, 62, 63, 64, 65, 66, 67, 68, 69, 70, 71, 72, 73, 74, 75, 76, 77, 78, 79, 80, 81, 82, 83, 84, 85, 86, 87, 88, 89, 90, 91, 92, 93, 94, 95, 96, 97, 98, 99, 100, 101, 102] (by decide +kernel) (by decide +kernel)
set_option maxRecDepth 20000 in
theorem gX11_take_X11_wordAt : GoodIn wsX11_take (wsV RX11 155 RX11 yX11_wordAt wsX11_wordAt) := goodIn_app (goodIn_of _ (by decide +kernel)) ggX11_take_X11_wordAt
set_option maxRecDepth 20000 in
theorem ggX11_take_X11_isOfNet : GoodIn wsX11_take wsX11_isOfNet := goodIn_r _ [20] (by decide +kernel) (by decide +kernel)
set_option maxRecDepth 20000 in
theorem gX11_take_X11_isOfNet : GoodIn wsX11_take (va_wsS RX11 166 yX11_isOfNet wsX11_isOfNet) := goodIn_app (goodIn_of _ (by decide +kernel)) ggX11_take_X11_isOfNet
set_option maxRecDepth 20000 in
theorem ggX11_take_X11_packed : GoodIn wsX11_take wsX11_packed := goodIn_r _ [24, 3, 29, 30, 31, 32, 33, 34, 35, 36, 37, 38, 39, 40, 41, 42, 43, 44, 45, 46, 47, 48, 49, 50, 51, 52, 53, 54, 55, 56, 57, 58, 59, 60, 61, 62, 63, 64, 65, 66, 67, 68, 69, 70, 71, 72, 73, 74, 75, 76, 77, 78, 79, 80, 81, 82, 83, 84, 85, 86, 87, 88, 89, 90, 91, 92, 93, 94, 95, 96, 97, 98, 99, 100, 101, 102] (by decide +kernel) (by decide +kernel)
set_option maxRecDepth 20000 in
theorem gX11_take_X11_packed : GoodIn wsX11_take (wsV RX11 169 RX11 yX11_packed wsX11_packed) := goodIn_app (goodIn_of _ (by decide +kernel)) ggX11_take_X11_packed
set_option maxRecDepth 20000 in
theorem ggX11_take_X11_isDigit : GoodIn wsX11_take wsX11_isDigit := goodIn_r _ [28, 2, 3, 29, 30, 31, 32, 33, 34, 35, 36, 37, 38, 39, 40, 41, 42, 43, 44, 45, 46, 47, 48, 49, 50, 51, 52, 53, 54, 55, 56, 57, 58, 59, 60, 61, 62, 63, 64, 65, 66, 67, 68, 69, 70, 71, 72, 73, 74, 75, 76, 77, 78, 79, 80, 81, 82, 83, 84, 85, 86, 87, 88, 89, 90, 91, 92, 93, 94, 95, 96, 97, 98, 99, 100, 101, 102] (by decide +kernel) (by decide +kernel)
set_option maxRecDepth 20000 in
theorem gX11_take_X11_isDigit : GoodIn wsX11_take (wsV RX11 172 RX11 yX11_isDigit wsX11_isDigit) := goodIn_app (goodIn_of _ (by decide +kernel)) ggX11_take_X11_isDigit
set_option maxRecDepth 20000 in
theorem ggX11_signRead_X11_isSign : GoodIn wsX11_signRead wsX11_isSign := goodIn_r _ [5, 6, 7, 43, 44, 45, 46, 47, 48, 49, 50, 51, 52, 53, 54, 55, 56, 57, 58, 59, 60, 61, 62, 63, 64, 65, 66, 67, 68, 69, 70, 71, 72, 73, 74, 75, 76, 77, 78, 79, 80, 81, 82, 83, 84, 85, 86, 87, 88, 89, 90, 91, 92, 93, 94, 95, 96, 97, 98, 99, 100, 101, 102, 103, 104, 105, 106, 107, 108, 109, 110, 111, 112, 113, 114, 115, 116] (by decide +kernel) (by decide +kernel)
set_option maxRecDepth 20000 in
theorem gX11_signRead_X11_isSign : GoodIn wsX11_signRead (wsV RX11 175 RX11 yX11_isSign wsX11_isSign) := goodIn_app (goodIn_of _ (by decide +kernel)) ggX11_signRead_X11_isSign
set_option maxRecDepth 20000 in
theorem ggX11_signRead_X11_wrong : GoodIn wsX11_signRead wsX11_wrong := goodIn_r _ [11, 12, 13, 14, 43, 44, 45, 46, 47, 48, 49, 50, 51, 52, 53, 54, 55, 56, 57, 58, 59, 60, 61, 62, 63, 64, 65, 66, 67, 68, 69, 70, 71, 72, 73, 74, 75, 76, 77, 78, 79, 80, 81, 82, 83, 84, 85, 86, 87, 88, 89, 90, 91, 92, 93, 94, 95, 96, 97, 98, 99, 100, 101, 102, 103, 104, 105, 106, 107, 108, 109, 110, 111, 112, 113, 114, 115, 116] (by decide +kernel) (by decide +kernel)
set_option maxRecDepth 20000 in
theorem gX11_signRead_X11_wrong : GoodIn wsX11_signRead (wsV RX11 178 RX11 yX11_wrong wsX11_wrong) := goodIn_app (goodIn_of _ (by decide +kernel)) ggX11_signRead_X11_wrong
set_option maxRecDepth 20000 in
theorem ggX11_signRead_X11_take : GoodIn wsX11_signRead wsX11_take := goodIn_r _ [18, 19, 20, 21, 13, 6, 7, 22, 23, 24, 25, 4, 26, 27, 28, 29, 30, 31, 32, 33, 34, 35, 36, 37, 38, 39, 40, 41, 42, 43, 44, 45, 46, 47, 48, 49, 50, 51, 52, 53, 54, 55, 56, 57, 58, 59, 60, 61, 62, 63, 64, 65, 66, 67, 68, 69, 70, 71, 72, 73, 74, 75, 76, 77, 78, 79, 80, 81, 82, 83, 84, 85, 86, 87, 88, 89, 90, 91, 92, 93, 94, 95, 96, 97, 98, 99, 100, 101, 102, 103, 104, 105, 106, 107, 108, 109, 110, 111, 112, 113, 114, 115, 116] (by decide +kernel) (by decide +kernel)
set_option maxRecDepth 20000 in
theorem gX11_signRead_X11_take : GoodIn wsX11_signRead (wsV RX11 181 RX11 yX11_take wsX11_take) := goodIn_app (goodIn_of _ (by decide +kernel)) ggX11_signRead_X11_take
set_option maxRecDepth 20000 in
theorem ggX11_starts_X11_take : GoodIn wsX11_starts wsX11_take := goodIn_r _ [11, 5, 2, 12, 13, 14, 15, 6, 16, 17, 18, 10, 19, 20, 21, 22, 23, 24, 25, 26, 27, 28, 29, 30, 31, 32, 33, 34, 35, 36, 37, 38, 39, 40, 41, 42, 43, 44, 45, 46, 47, 48, 49, 50, 51, 52, 53, 54, 55, 56, 57, 58, 59, 60, 61, 62, 63, 64, 65, 66, 67, 68, 69, 70, 71, 72, 73, 74, 75, 76, 77, 78, 79, 80, 81, 82, 83, 84, 85, 86, 87, 88, 89, 90, 91, 92, 93, 94, 95, 96, 97, 98, 99, 100, 101, 102, 103, 104, 105, 106, 107, 108, 109] (by decide +kernel) (by decide +kernel)
set_option maxRecDepth 20000 in
theorem gX11_starts_X11_take : GoodIn wsX11_starts (wsV RX11 181 RX11 yX11_take wsX11_take) := goodIn_app (goodIn_of _ (by decide +kernel)) ggX11_starts_X11_take
set_option maxRecDepth 20000 in
theorem ggX11_numberRead_X11_wrong : GoodIn wsX11_numberRead wsX11_wrong := goodIn_r _ [7, 8, 9, 10, 11, 12, 13, 14, 15, 16, 17, 18, 19, 20, 21, 22, 23, 24, 25, 26, 27, 28, 29, 30, 31, 32, 33, 34, 35, 36, 37, 38, 39, 40, 41, 42, 43, 44, 45, 46, 47, 48, 49, 50, 51, 52, 53, 54, 55, 56, 57, 58, 59, 60, 61, 62, 63, 64, 65, 66, 67, 68, 69, 70, 71, 72, 73, 74, 75, 76, 77, 78, 79, 80, 81, 82, 83, 84] (by decide +kernel) (by decide +kernel)
set_option maxRecDepth 20000 in
theorem gX11_numberRead_X11_wrong : GoodIn wsX11_numberRead (wsV RX11 178 RX11 yX11_wrong wsX11_wrong) := goodIn_app (goodIn_of _ (by decide +kernel)) ggX11_numberRead_X11_wrong
set_option maxRecDepth 20000 in
theorem ggX11_testRead_X11_isKey : GoodIn wsX11_testRead wsX11_isKey := goodIn_r _ [12, 1, 2, 51, 52, 53, 54, 55, 56, 57, 58, 59, 60, 61, 62, 63, 64, 65, 66, 67, 68, 69, 70, 71, 72, 73, 74, 75, 76, 77, 78, 79, 80, 81, 82, 83, 84, 85, 86, 87, 88, 89, 90, 91, 92, 93, 94, 95, 96, 97, 98, 99, 100, 101, 102, 103, 104, 105, 106, 107, 108, 109, 110, 111, 112, 113, 114, 115, 116, 117, 118, 119, 120, 121, 122, 123, 124] (by decide +kernel) (by decide +kernel)
set_option maxRecDepth 20000 in
theorem gX11_testRead_X11_isKey : GoodIn wsX11_testRead (wsV RX11 184 RX11 yX11_isKey wsX11_isKey) := goodIn_app (goodIn_of _ (by decide +kernel)) ggX11_testRead_X11_isKey
set_option maxRecDepth 20000 in
theorem ggX11_testRead_X11_wrong : GoodIn wsX11_testRead wsX11_wrong := goodIn_r _ [16, 17, 4, 18, 51, 52, 53, 54, 55, 56, 57, 58, 59, 60, 61, 62, 63, 64, 65, 66, 67, 68, 69, 70, 71, 72, 73, 74, 75, 76, 77, 78, 79, 80, 81, 82, 83, 84, 85, 86, 87, 88, 89, 90, 91, 92, 93, 94, 95, 96, 97, 98, 99, 100, 101, 102, 103, 104, 105, 106, 107, 108, 109, 110, 111, 112, 113, 114, 115, 116, 117, 118, 119, 120, 121, 122, 123, 124] (by decide +kernel) (by decide +kernel)
set_option maxRecDepth 20000 in
theorem gX11_testRead_X11_wrong : GoodIn wsX11_testRead (wsV RX11 178 RX11 yX11_wrong wsX11_wrong) := goodIn_app (goodIn_of _ (by decide +kernel)) ggX11_testRead_X11_wrong
set_option maxRecDepth 20000 in
theorem ggX11_testRead_X11_take : GoodIn wsX11_testRead wsX11_take := goodIn_r _ [22, 23, 24, 25, 4, 1, 2, 26, 27, 28, 29, 11, 30, 31, 32, 33, 34, 35, 36, 37, 38, 39, 40, 41, 42, 43, 44, 45, 46, 51, 52, 53, 54, 55, 56, 57, 58, 59, 60, 61, 62, 63, 64, 65, 66, 67, 68, 69, 70, 71, 72, 73, 74, 75, 76, 77, 78, 79, 80, 81, 82, 83, 84, 85, 86, 87, 88, 89, 90, 91, 92, 93, 94, 95, 96, 97, 98, 99, 100, 101, 102, 103, 104, 105, 106, 107, 108, 109, 110, 111, 112, 113, 114, 115, 116, 117, 118, 119, 120, 121, 122, 123, 124] (by decide +kernel) (by decide +kernel)
set_option maxRecDepth 20000 in
theorem gX11_testRead_X11_take : GoodIn wsX11_testRead (wsV RX11 181 RX11 yX11_take wsX11_take) := goodIn_app (goodIn_of _ (by decide +kernel)) ggX11_testRead_X11_take
set_option maxRecDepth 20000 in
theorem ggX11_testRead_X11_numberRead : GoodIn wsX11_testRead wsX11_numberRead := goodIn_r _ [50, 1, 2, 13, 14, 15, 11, 16, 17, 4, 18, 51, 52, 53, 54, 55, 56, 57, 58, 59, 60, 61, 62, 63, 64, 65, 66, 67, 68, 69, 70, 71, 72, 73, 74, 75, 76, 77, 78, 79, 80, 81, 82, 83, 84, 85, 86, 87, 88, 89, 90, 91, 92, 93, 94, 95, 96, 97, 98, 99, 100, 101, 102, 103, 104, 105, 106, 107, 108, 109, 110, 111, 112, 113, 114, 115, 116, 117, 118, 119, 120, 121, 122, 123, 124] (by decide +kernel) (by decide +kernel)
set_option maxRecDepth 20000 in
theorem gX11_testRead_X11_numberRead : GoodIn wsX11_testRead (wsV RX11 187 RX11 yX11_numberRead wsX11_numberRead) := goodIn_app (goodIn_of _ (by decide +kernel)) ggX11_testRead_X11_numberRead
set_option maxRecDepth 20000 in
theorem ggX11_actRead_X11_wrong : GoodIn wsX11_actRead wsX11_wrong := goodIn_r _ [10, 11, 12, 13, 46, 47, 48, 49, 50, 51, 52, 53, 54, 55, 56, 57, 58, 59, 60, 61, 62, 63, 64, 65, 66, 67, 68, 69, 70, 71, 72, 73, 74, 75, 76, 77, 78, 79, 80, 81, 82, 83, 84, 85, 86, 87, 88, 89, 90, 91, 92, 93, 94, 95, 96, 97, 98, 99, 100, 101, 102, 103, 104, 105, 106, 107, 108, 109, 110, 111, 112, 113, 114, 115, 116, 117, 118, 119] (by decide +kernel) (by decide +kernel)
set_option maxRecDepth 20000 in
theorem gX11_actRead_X11_wrong : GoodIn wsX11_actRead (wsV RX11 178 RX11 yX11_wrong wsX11_wrong) := goodIn_app (goodIn_of _ (by decide +kernel)) ggX11_actRead_X11_wrong
set_option maxRecDepth 20000 in
theorem ggX11_actRead_X11_take : GoodIn wsX11_actRead wsX11_take := goodIn_r _ [17, 18, 19, 20, 12, 1, 2, 21, 22, 23, 24, 9, 25, 26, 27, 28, 29, 30, 31, 32, 33, 34, 35, 36, 37, 38, 39, 40, 41, 46, 47, 48, 49, 50, 51, 52, 53, 54, 55, 56, 57, 58, 59, 60, 61, 62, 63, 64, 65, 66, 67, 68, 69, 70, 71, 72, 73, 74, 75, 76, 77, 78, 79, 80, 81, 82, 83, 84, 85, 86, 87, 88, 89, 90, 91, 92, 93, 94, 95, 96, 97, 98, 99, 100, 101, 102, 103, 104, 105, 106, 107, 108, 109, 110, 111, 112, 113, 114, 115, 116, 117, 118, 119] (by decide +kernel) (by decide +kernel)
set_option maxRecDepth 20000 in
theorem gX11_actRead_X11_take : GoodIn wsX11_actRead (wsV RX11 181 RX11 yX11_take wsX11_take) := goodIn_app (goodIn_of _ (by decide +kernel)) ggX11_actRead_X11_take
set_option maxRecDepth 20000 in
theorem ggX11_actRead_X11_numberRead : GoodIn wsX11_actRead wsX11_numberRead := goodIn_r _ [45, 1, 2, 6, 7, 8, 9, 10, 11, 12, 13, 46, 47, 48, 49, 50, 51, 52, 53, 54, 55, 56, 57, 58, 59, 60, 61, 62, 63, 64, 65, 66, 67, 68, 69, 70, 71, 72, 73, 74, 75, 76, 77, 78, 79, 80, 81, 82, 83, 84, 85, 86, 87, 88, 89, 90, 91, 92, 93, 94, 95, 96, 97, 98, 99, 100, 101, 102, 103, 104, 105, 106, 107, 108, 109, 110, 111, 112, 113, 114, 115, 116, 117, 118, 119] (by decide +kernel) (by decide +kernel)
set_option maxRecDepth 20000 in
theorem gX11_actRead_X11_numberRead : GoodIn wsX11_actRead (wsV RX11 187 RX11 yX11_numberRead wsX11_numberRead) := goodIn_app (goodIn_of _ (by decide +kernel)) ggX11_actRead_X11_numberRead
set_option maxRecDepth 20000 in
theorem ggX11_lineRead_X11_isKey : GoodIn wsX11_lineRead wsX11_isKey := goodIn_r _ [7, 8, 9, 66, 67, 68, 69, 70, 71, 72, 73, 74, 75, 76, 77, 78, 79, 80, 81, 82, 83, 84, 85, 86, 87, 88, 89, 90, 91, 92, 93, 94, 95, 96, 97, 98, 99, 100, 101, 102, 103, 104, 105, 106, 107, 108, 109, 110, 111, 112, 113, 114, 115, 116, 117, 118, 119, 120, 121, 122, 123, 124, 125, 126, 127, 128, 129, 130, 131, 132, 133, 134, 135, 136, 137, 138, 139] (by decide +kernel) (by decide +kernel)
set_option maxRecDepth 20000 in
theorem gX11_lineRead_X11_isKey : GoodIn wsX11_lineRead (wsV RX11 184 RX11 yX11_isKey wsX11_isKey) := goodIn_app (goodIn_of _ (by decide +kernel)) ggX11_lineRead_X11_isKey
set_option maxRecDepth 20000 in
theorem ggX11_lineRead_X11_wrong : GoodIn wsX11_lineRead wsX11_wrong := goodIn_r _ [13, 14, 15, 16, 66, 67, 68, 69, 70, 71, 72, 73, 74, 75, 76, 77, 78, 79, 80, 81, 82, 83, 84, 85, 86, 87, 88, 89, 90, 91, 92, 93, 94, 95, 96, 97, 98, 99, 100, 101, 102, 103, 104, 105, 106, 107, 108, 109, 110, 111, 112, 113, 114, 115, 116, 117, 118, 119, 120, 121, 122, 123, 124, 125, 126, 127, 128, 129, 130, 131, 132, 133, 134, 135, 136, 137, 138, 139] (by decide +kernel) (by decide +kernel)
set_option maxRecDepth 20000 in
theorem gX11_lineRead_X11_wrong : GoodIn wsX11_lineRead (wsV RX11 178 RX11 yX11_wrong wsX11_wrong) := goodIn_app (goodIn_of _ (by decide +kernel)) ggX11_lineRead_X11_wrong
set_option maxRecDepth 20000 in
theorem ggX11_lineRead_X11_take : GoodIn wsX11_lineRead wsX11_take := goodIn_r _ [20, 21, 22, 23, 15, 8, 9, 24, 25, 26, 27, 6, 28, 29, 30, 31, 32, 33, 34, 35, 36, 37, 38, 39, 40, 41, 42, 43, 44, 66, 67, 68, 69, 70, 71, 72, 73, 74, 75, 76, 77, 78, 79, 80, 81, 82, 83, 84, 85, 86, 87, 88, 89, 90, 91, 92, 93, 94, 95, 96, 97, 98, 99, 100, 101, 102, 103, 104, 105, 106, 107, 108, 109, 110, 111, 112, 113, 114, 115, 116, 117, 118, 119, 120, 121, 122, 123, 124, 125, 126, 127, 128, 129, 130, 131, 132, 133, 134, 135, 136, 137, 138, 139] (by decide +kernel) (by decide +kernel)
set_option maxRecDepth 20000 in
theorem gX11_lineRead_X11_take : GoodIn wsX11_lineRead (wsV RX11 181 RX11 yX11_take wsX11_take) := goodIn_app (goodIn_of _ (by decide +kernel)) ggX11_lineRead_X11_take
set_option maxRecDepth 20000 in
theorem ggX11_lineRead_X11_testRead : GoodIn wsX11_lineRead wsX11_testRead := goodIn_r _ [48, 8, 9, 1, 15, 49, 50, 51, 3, 4, 5, 6, 7, 10, 11, 12, 13, 14, 16, 17, 18, 19, 20, 21, 22, 23, 24, 25, 26, 27, 28, 29, 30, 31, 32, 33, 34, 35, 36, 37, 38, 39, 40, 41, 42, 43, 44, 52, 53, 54, 55, 66, 67, 68, 69, 70, 71, 72, 73, 74, 75, 76, 77, 78, 79, 80, 81, 82, 83, 84, 85, 86, 87, 88, 89, 90, 91, 92, 93, 94, 95, 96, 97, 98, 99, 100, 101, 102, 103, 104, 105, 106, 107, 108, 109, 110, 111, 112, 113, 114, 115, 116, 117, 118, 119, 120, 121, 122, 123, 124, 125, 126, 127, 128, 129, 130, 131, 132, 133, 134, 135, 136, 137, 138, 139] (by decide +kernel) (by decide +kernel)
set_option maxRecDepth 20000 in
theorem gX11_lineRead_X11_testRead : GoodIn wsX11_lineRead (wsV RX11 190 RX11 yX11_testRead wsX11_testRead) := goodIn_app (goodIn_of _ (by decide +kernel)) ggX11_lineRead_X11_testRead
set_option maxRecDepth 20000 in
theorem ggX11_lineRead_X11_actRead : GoodIn wsX11_lineRead wsX11_actRead := goodIn_r _ [59, 8, 9, 2, 60, 61, 10, 11, 12, 6, 13, 14, 15, 16, 17, 18, 19, 20, 21, 22, 23, 24, 25, 26, 27, 28, 29, 30, 31, 32, 33, 34, 35, 36, 37, 38, 39, 40, 41, 42, 43, 44, 52, 53, 54, 55, 66, 67, 68, 69, 70, 71, 72, 73, 74, 75, 76, 77, 78, 79, 80, 81, 82, 83, 84, 85, 86, 87, 88, 89, 90, 91, 92, 93, 94, 95, 96, 97, 98, 99, 100, 101, 102, 103, 104, 105, 106, 107, 108, 109, 110, 111, 112, 113, 114, 115, 116, 117, 118, 119, 120, 121, 122, 123, 124, 125, 126, 127, 128, 129, 130, 131, 132, 133, 134, 135, 136, 137, 138, 139] (by decide +kernel) (by decide +kernel)
set_option maxRecDepth 20000 in
theorem gX11_lineRead_X11_actRead : GoodIn wsX11_lineRead (wsV RX11 193 RX11 yX11_actRead wsX11_actRead) := goodIn_app (goodIn_of _ (by decide +kernel)) ggX11_lineRead_X11_actRead
set_option maxRecDepth 20000 in
theorem ggX11_lineRead_X11_isSign : GoodIn wsX11_lineRead wsX11_isSign := goodIn_r _ [65, 8, 9, 66, 67, 68, 69, 70, 71, 72, 73, 74, 75, 76, 77, 78, 79, 80, 81, 82, 83, 84, 85, 86, 87, 88, 89, 90, 91, 92, 93, 94, 95, 96, 97, 98, 99, 100, 101, 102, 103, 104, 105, 106, 107, 108, 109, 110, 111, 112, 113, 114, 115, 116, 117, 118, 119, 120, 121, 122, 123, 124, 125, 126, 127, 128, 129, 130, 131, 132, 133, 134, 135, 136, 137, 138, 139] (by decide +kernel) (by decide +kernel)
set_option maxRecDepth 20000 in
theorem gX11_lineRead_X11_isSign : GoodIn wsX11_lineRead (wsV RX11 175 RX11 yX11_isSign wsX11_isSign) := goodIn_app (goodIn_of _ (by decide +kernel)) ggX11_lineRead_X11_isSign
set_option maxRecDepth 20000 in
theorem ggX11_rules_X11_starts : GoodIn wsX11_rules wsX11_starts := goodIn_r _ [17, 18, 19, 20, 21, 22, 23, 24, 25, 26, 16, 27, 28, 29, 2, 30, 31, 32, 33, 34, 35, 36, 37, 38, 39, 40, 41, 42, 43, 44, 45, 46, 47, 48, 49, 50, 79, 80, 81, 82, 83, 84, 85, 86, 87, 88, 89, 90, 91, 92, 93, 94, 95, 96, 97, 98, 99, 100, 101, 102, 103, 104, 105, 106, 107, 108, 109, 110, 111, 112, 113, 114, 115, 116, 117, 118, 119, 120, 121, 122, 123, 124, 125, 126, 127, 128, 129, 130, 131, 132, 133, 134, 135, 136, 137, 138, 139, 140, 141, 142, 143, 144, 145, 146, 147, 148, 149, 150, 151, 152] (by decide +kernel) (by decide +kernel)
set_option maxRecDepth 20000 in
theorem gX11_rules_X11_starts : GoodIn wsX11_rules (wsV RX11 196 RX11 yX11_starts wsX11_starts) := goodIn_app (goodIn_of _ (by decide +kernel)) ggX11_rules_X11_starts
set_option maxRecDepth 20000 in
theorem ggX11_rules_X11_lineRead : GoodIn wsX11_rules wsX11_lineRead := goodIn_r _ [54, 4, 5, 55, 56, 57, 16, 58, 2, 30, 59, 60, 61, 62, 20, 29, 21, 24, 25, 26, 27, 22, 19, 28, 23, 31, 32, 33, 34, 35, 36, 37, 38, 39, 40, 41, 42, 43, 44, 45, 46, 47, 48, 49, 50, 63, 64, 65, 66, 6, 8, 7, 67, 68, 69, 70, 71, 72, 73, 74, 9, 10, 75, 76, 77, 78, 79, 80, 81, 82, 83, 84, 85, 86, 87, 88, 89, 90, 91, 92, 93, 94, 95, 96, 97, 98, 99, 100, 101, 102, 103, 104, 105, 106, 107, 108, 109, 110, 111, 112, 113, 114, 115, 116, 117, 118, 119, 120, 121, 122, 123, 124, 125, 126, 127, 128, 129, 130, 131, 132, 133, 134, 135, 136, 137, 138, 139, 140, 141, 142, 143, 144, 145, 146, 147, 148, 149, 150, 151, 152] (by decide +kernel) (by decide +kernel)
set_option maxRecDepth 20000 in
theorem gX11_rules_X11_lineRead : GoodIn wsX11_rules (wsV RX11 200 RX11 yX11_lineRead wsX11_lineRead) := goodIn_app (goodIn_of _ (by decide +kernel)) ggX11_rules_X11_lineRead
set_option maxRecDepth 20000 in
theorem ggX11_bind_X11_weight : GoodIn wsX11_bind wsX11_weight := goodIn_r _ [6] (by decide +kernel) (by decide +kernel)
set_option maxRecDepth 20000 in
theorem gX11_bind_X11_weight : GoodIn wsX11_bind (va_wsS RX11 215 yX11_weight wsX11_weight) := goodIn_app (goodIn_of _ (by decide +kernel)) ggX11_bind_X11_weight
set_option maxRecDepth 20000 in
theorem ggX11_bind_X11_drop : GoodIn wsX11_bind wsX11_drop := goodIn_r _ [10, 11, 12, 23, 24, 25, 26, 27, 28, 29, 30, 31, 32, 33, 34, 35, 36, 37, 38, 39, 40, 41, 42, 43, 44, 45, 46, 47, 48, 49, 50, 51, 52, 53, 54, 55, 56, 57, 58, 59, 60, 61, 62, 63, 64, 65, 66, 67, 68, 69, 70, 71, 72, 73, 74, 75, 76, 77, 78, 79, 80, 81, 82, 83, 84, 85, 86, 87, 88, 89, 90, 91, 92, 93, 94, 95, 96] (by decide +kernel) (by decide +kernel)
set_option maxRecDepth 20000 in
theorem gX11_bind_X11_drop : GoodIn wsX11_bind (wsV RX11 219 RX11 yX11_drop wsX11_drop) := goodIn_app (goodIn_of _ (by decide +kernel)) ggX11_bind_X11_drop
set_option maxRecDepth 20000 in
theorem ggX11_bind_X11_grown : GoodIn wsX11_bind wsX11_grown := goodIn_r _ [16, 17, 18, 19, 20, 21, 22, 12, 11, 23, 24, 25, 26, 27, 28, 29, 30, 31, 32, 33, 34, 35, 36, 37, 38, 39, 40, 41, 42, 43, 44, 45, 46, 47, 48, 49, 50, 51, 52, 53, 54, 55, 56, 57, 58, 59, 60, 61, 62, 63, 64, 65, 66, 67, 68, 69, 70, 71, 72, 73, 74, 75, 76, 77, 78, 79, 80, 81, 82, 83, 84, 85, 86, 87, 88, 89, 90, 91, 92, 93, 94, 95, 96] (by decide +kernel) (by decide +kernel)
set_option maxRecDepth 20000 in
theorem gX11_bind_X11_grown : GoodIn wsX11_bind (wsV RX11 223 RX11 yX11_grown wsX11_grown) := goodIn_app (goodIn_of _ (by decide +kernel)) ggX11_bind_X11_grown
set_option maxRecDepth 20000 in
theorem ggX11_isCounted_X11_wrong : GoodIn wsX11_isCounted wsX11_wrong := goodIn_r _ [6, 7, 8, 9, 10, 11, 12, 13, 14, 15, 16, 17, 18, 19, 20, 21, 22, 23, 24, 25, 26, 27, 28, 29, 30, 31, 32, 33, 34, 35, 36, 37, 38, 39, 40, 41, 42, 43, 44, 45, 46, 47, 48, 49, 50, 51, 52, 53, 54, 55, 56, 57, 58, 59, 60, 61, 62, 63, 64, 65, 66, 67, 68, 69, 70, 71, 72, 73, 74, 75, 76, 77, 78, 79, 80, 81, 82, 83] (by decide +kernel) (by decide +kernel)
set_option maxRecDepth 20000 in
theorem gX11_isCounted_X11_wrong : GoodIn wsX11_isCounted (wsV RX11 178 RX11 yX11_wrong wsX11_wrong) := goodIn_app (goodIn_of _ (by decide +kernel)) ggX11_isCounted_X11_wrong
set_option maxRecDepth 20000 in
theorem ggX11_leafRead_X11_isSign : GoodIn wsX11_leafRead wsX11_isSign := goodIn_r _ [11, 4, 5, 67, 68, 69, 70, 71, 72, 73, 74, 75, 76, 77, 78, 79, 80, 81, 82, 83, 84, 85, 86, 87, 88, 89, 90, 91, 92, 93, 94, 95, 96, 97, 98, 99, 100, 101, 102, 103, 104, 105, 106, 107, 108, 109, 110, 111, 112, 113, 114, 115, 116, 117, 118, 119, 120, 121, 122, 123, 124, 125, 126, 127, 128, 129, 130, 131, 132, 133, 134, 135, 136, 137, 138, 139, 140] (by decide +kernel) (by decide +kernel)
set_option maxRecDepth 20000 in
theorem gX11_leafRead_X11_isSign : GoodIn wsX11_leafRead (wsV RX11 175 RX11 yX11_isSign wsX11_isSign) := goodIn_app (goodIn_of _ (by decide +kernel)) ggX11_leafRead_X11_isSign
set_option maxRecDepth 20000 in
theorem ggX11_leafRead_X11_wrong : GoodIn wsX11_leafRead wsX11_wrong := goodIn_r _ [15, 16, 17, 18, 67, 68, 69, 70, 71, 72, 73, 74, 75, 76, 77, 78, 79, 80, 81, 82, 83, 84, 85, 86, 87, 88, 89, 90, 91, 92, 93, 94, 95, 96, 97, 98, 99, 100, 101, 102, 103, 104, 105, 106, 107, 108, 109, 110, 111, 112, 113, 114, 115, 116, 117, 118, 119, 120, 121, 122, 123, 124, 125, 126, 127, 128, 129, 130, 131, 132, 133, 134, 135, 136, 137, 138, 139, 140] (by decide +kernel) (by decide +kernel)
set_option maxRecDepth 20000 in
theorem gX11_leafRead_X11_wrong : GoodIn wsX11_leafRead (wsV RX11 178 RX11 yX11_wrong wsX11_wrong) := goodIn_app (goodIn_of _ (by decide +kernel)) ggX11_leafRead_X11_wrong
set_option maxRecDepth 20000 in
theorem ggX11_leafRead_X11_take : GoodIn wsX11_leafRead wsX11_take := goodIn_r _ [22, 23, 24, 25, 17, 4, 5, 26, 27, 28, 29, 10, 30, 31, 32, 33, 34, 35, 36, 37, 38, 39, 40, 41, 42, 43, 44, 45, 46, 67, 68, 69, 70, 71, 72, 73, 74, 75, 76, 77, 78, 79, 80, 81, 82, 83, 84, 85, 86, 87, 88, 89, 90, 91, 92, 93, 94, 95, 96, 97, 98, 99, 100, 101, 102, 103, 104, 105, 106, 107, 108, 109, 110, 111, 112, 113, 114, 115, 116, 117, 118, 119, 120, 121, 122, 123, 124, 125, 126, 127, 128, 129, 130, 131, 132, 133, 134, 135, 136, 137, 138, 139, 140] (by decide +kernel) (by decide +kernel)
set_option maxRecDepth 20000 in
theorem gX11_leafRead_X11_take : GoodIn wsX11_leafRead (wsV RX11 181 RX11 yX11_take wsX11_take) := goodIn_app (goodIn_of _ (by decide +kernel)) ggX11_leafRead_X11_take
set_option maxRecDepth 20000 in
theorem ggX11_leafRead_X11_isKey : GoodIn wsX11_leafRead wsX11_isKey := goodIn_r _ [50, 4, 5, 67, 68, 69, 70, 71, 72, 73, 74, 75, 76, 77, 78, 79, 80, 81, 82, 83, 84, 85, 86, 87, 88, 89, 90, 91, 92, 93, 94, 95, 96, 97, 98, 99, 100, 101, 102, 103, 104, 105, 106, 107, 108, 109, 110, 111, 112, 113, 114, 115, 116, 117, 118, 119, 120, 121, 122, 123, 124, 125, 126, 127, 128, 129, 130, 131, 132, 133, 134, 135, 136, 137, 138, 139, 140] (by decide +kernel) (by decide +kernel)
set_option maxRecDepth 20000 in
theorem gX11_leafRead_X11_isKey : GoodIn wsX11_leafRead (wsV RX11 184 RX11 yX11_isKey wsX11_isKey) := goodIn_app (goodIn_of _ (by decide +kernel)) ggX11_leafRead_X11_isKey
set_option maxRecDepth 20000 in
theorem ggX11_leafRead_X11_isCounted : GoodIn wsX11_leafRead wsX11_isCounted := goodIn_r _ [54, 55, 12, 13, 14, 10, 15, 16, 17, 18, 67, 68, 69, 70, 71, 72, 73, 74, 75, 76, 77, 78, 79, 80, 81, 82, 83, 84, 85, 86, 87, 88, 89, 90, 91, 92, 93, 94, 95, 96, 97, 98, 99, 100, 101, 102, 103, 104, 105, 106, 107, 108, 109, 110, 111, 112, 113, 114, 115, 116, 117, 118, 119, 120, 121, 122, 123, 124, 125, 126, 127, 128, 129, 130, 131, 132, 133, 134, 135, 136, 137, 138, 139, 140] (by decide +kernel) (by decide +kernel)
set_option maxRecDepth 20000 in
theorem gX11_leafRead_X11_isCounted : GoodIn wsX11_leafRead (wsV RX11 233 RX11 yX11_isCounted wsX11_isCounted) := goodIn_app (goodIn_of _ (by decide +kernel)) ggX11_leafRead_X11_isCounted
set_option maxRecDepth 20000 in
theorem ggX11_leafRead_X11_grown : GoodIn wsX11_leafRead wsX11_grown := goodIn_r _ [59, 60, 61, 62, 63, 64, 17, 65, 66, 67, 68, 69, 70, 71, 72, 73, 74, 75, 76, 77, 78, 79, 80, 81, 82, 83, 84, 85, 86, 87, 88, 89, 90, 91, 92, 93, 94, 95, 96, 97, 98, 99, 100, 101, 102, 103, 104, 105, 106, 107, 108, 109, 110, 111, 112, 113, 114, 115, 116, 117, 118, 119, 120, 121, 122, 123, 124, 125, 126, 127, 128, 129, 130, 131, 132, 133, 134, 135, 136, 137, 138, 139, 140] (by decide +kernel) (by decide +kernel)
set_option maxRecDepth 20000 in
theorem gX11_leafRead_X11_grown : GoodIn wsX11_leafRead (wsV RX11 223 RX11 yX11_grown wsX11_grown) := goodIn_app (goodIn_of _ (by decide +kernel)) ggX11_leafRead_X11_grown
set_option maxRecDepth 20000 in
theorem ggX11_signs_X11_isKey : GoodIn wsX11_signs wsX11_isKey := goodIn_r _ [10, 11, 1, 78, 79, 80, 81, 82, 83, 84, 85, 86, 87, 88, 89, 90, 91, 92, 93, 94, 95, 96, 97, 98, 99, 100, 101, 102, 103, 104, 105, 106, 107, 108, 109, 110, 111, 112, 113, 114, 115, 116, 117, 118, 119, 120, 121, 122, 123, 124, 125, 126, 127, 128, 129, 130, 131, 132, 133, 134, 135, 136, 137, 138, 139, 140, 141, 142, 143, 144, 145, 146, 147, 148, 149, 150, 151] (by decide +kernel) (by decide +kernel)
set_option maxRecDepth 20000 in
theorem gX11_signs_X11_isKey : GoodIn wsX11_signs (wsV RX11 184 RX11 yX11_isKey wsX11_isKey) := goodIn_app (goodIn_of _ (by decide +kernel)) ggX11_signs_X11_isKey
set_option maxRecDepth 20000 in
theorem ggX11_signs_X11_isCounted : GoodIn wsX11_signs wsX11_isCounted := goodIn_r _ [15, 16, 17, 18, 19, 9, 20, 21, 22, 23, 78, 79, 80, 81, 82, 83, 84, 85, 86, 87, 88, 89, 90, 91, 92, 93, 94, 95, 96, 97, 98, 99, 100, 101, 102, 103, 104, 105, 106, 107, 108, 109, 110, 111, 112, 113, 114, 115, 116, 117, 118, 119, 120, 121, 122, 123, 124, 125, 126, 127, 128, 129, 130, 131, 132, 133, 134, 135, 136, 137, 138, 139, 140, 141, 142, 143, 144, 145, 146, 147, 148, 149, 150, 151] (by decide +kernel) (by decide +kernel)
set_option maxRecDepth 20000 in
theorem gX11_signs_X11_isCounted : GoodIn wsX11_signs (wsV RX11 233 RX11 yX11_isCounted wsX11_isCounted) := goodIn_app (goodIn_of _ (by decide +kernel)) ggX11_signs_X11_isCounted
set_option maxRecDepth 20000 in
theorem ggX11_signs_X11_weight : GoodIn wsX11_signs wsX11_weight := goodIn_r _ [26] (by decide +kernel) (by decide +kernel)
set_option maxRecDepth 20000 in
theorem gX11_signs_X11_weight : GoodIn wsX11_signs (va_wsS RX11 215 yX11_weight wsX11_weight) := goodIn_app (goodIn_of _ (by decide +kernel)) ggX11_signs_X11_weight
set_option maxRecDepth 20000 in
theorem ggX11_signs_X11_bind : GoodIn wsX11_signs wsX11_bind := goodIn_r _ [30, 3, 2, 24, 25, 9, 26, 31, 32, 33, 34, 35, 36, 37, 38, 39, 40, 41, 42, 43, 44, 45, 22, 78, 79, 80, 81, 82, 83, 84, 85, 86, 87, 88, 89, 90, 91, 92, 93, 94, 95, 96, 97, 98, 99, 100, 101, 102, 103, 104, 105, 106, 107, 108, 109, 110, 111, 112, 113, 114, 115, 116, 117, 118, 119, 120, 121, 122, 123, 124, 125, 126, 127, 128, 129, 130, 131, 132, 133, 134, 135, 136, 137, 138, 139, 140, 141, 142, 143, 144, 145, 146, 147, 148, 149, 150, 151] (by decide +kernel) (by decide +kernel)
set_option maxRecDepth 20000 in
theorem gX11_signs_X11_bind : GoodIn wsX11_signs (wsV RX11 240 RX11 yX11_bind wsX11_bind) := goodIn_app (goodIn_of _ (by decide +kernel)) ggX11_signs_X11_bind
set_option maxRecDepth 20000 in
theorem ggX11_signs_X11_take : GoodIn wsX11_signs wsX11_take := goodIn_r _ [49, 50, 51, 52, 22, 11, 1, 53, 54, 55, 56, 9, 57, 58, 59, 60, 61, 62, 63, 64, 65, 66, 67, 68, 69, 70, 71, 72, 73, 78, 79, 80, 81, 82, 83, 84, 85, 86, 87, 88, 89, 90, 91, 92, 93, 94, 95, 96, 97, 98, 99, 100, 101, 102, 103, 104, 105, 106, 107, 108, 109, 110, 111, 112, 113, 114, 115, 116, 117, 118, 119, 120, 121, 122, 123, 124, 125, 126, 127, 128, 129, 130, 131, 132, 133, 134, 135, 136, 137, 138, 139, 140, 141, 142, 143, 144, 145, 146, 147, 148, 149, 150, 151] (by decide +kernel) (by decide +kernel)
set_option maxRecDepth 20000 in
theorem gX11_signs_X11_take : GoodIn wsX11_signs (wsV RX11 181 RX11 yX11_take wsX11_take) := goodIn_app (goodIn_of _ (by decide +kernel)) ggX11_signs_X11_take
set_option maxRecDepth 20000 in
theorem ggX11_signs_X11_isSign : GoodIn wsX11_signs wsX11_isSign := goodIn_r _ [77, 11, 1, 78, 79, 80, 81, 82, 83, 84, 85, 86, 87, 88, 89, 90, 91, 92, 93, 94, 95, 96, 97, 98, 99, 100, 101, 102, 103, 104, 105, 106, 107, 108, 109, 110, 111, 112, 113, 114, 115, 116, 117, 118, 119, 120, 121, 122, 123, 124, 125, 126, 127, 128, 129, 130, 131, 132, 133, 134, 135, 136, 137, 138, 139, 140, 141, 142, 143, 144, 145, 146, 147, 148, 149, 150, 151] (by decide +kernel) (by decide +kernel)
set_option maxRecDepth 20000 in
theorem gX11_signs_X11_isSign : GoodIn wsX11_signs (wsV RX11 175 RX11 yX11_isSign wsX11_isSign) := goodIn_app (goodIn_of _ (by decide +kernel)) ggX11_signs_X11_isSign
set_option maxRecDepth 20000 in
theorem ggX11_signs_X11_wrong : GoodIn wsX11_signs wsX11_wrong := goodIn_r _ [20, 21, 22, 23, 78, 79, 80, 81, 82, 83, 84, 85, 86, 87, 88, 89, 90, 91, 92, 93, 94, 95, 96, 97, 98, 99, 100, 101, 102, 103, 104, 105, 106, 107, 108, 109, 110, 111, 112, 113, 114, 115, 116, 117, 118, 119, 120, 121, 122, 123, 124, 125, 126, 127, 128, 129, 130, 131, 132, 133, 134, 135, 136, 137, 138, 139, 140, 141, 142, 143, 144, 145, 146, 147, 148, 149, 150, 151] (by decide +kernel) (by decide +kernel)
set_option maxRecDepth 20000 in
theorem gX11_signs_X11_wrong : GoodIn wsX11_signs (wsV RX11 178 RX11 yX11_wrong wsX11_wrong) := goodIn_app (goodIn_of _ (by decide +kernel)) ggX11_signs_X11_wrong
set_option maxRecDepth 20000 in
theorem ggX11_partRead_X11_isSign : GoodIn wsX11_partRead wsX11_isSign := goodIn_r _ [12, 13, 14, 88, 89, 90, 91, 92, 93, 94, 95, 96, 97, 98, 99, 100, 101, 102, 103, 104, 105, 106, 107, 108, 109, 110, 111, 112, 113, 114, 115, 116, 117, 118, 119, 120, 121, 122, 123, 124, 125, 126, 127, 128, 129, 130, 131, 132, 133, 134, 135, 136, 137, 138, 139, 140, 141, 142, 143, 144, 145, 146, 147, 148, 149, 150, 151, 152, 153, 154, 155, 156, 157, 158, 159, 160, 161] (by decide +kernel) (by decide +kernel)
set_option maxRecDepth 20000 in
theorem gX11_partRead_X11_isSign : GoodIn wsX11_partRead (wsV RX11 175 RX11 yX11_isSign wsX11_isSign) := goodIn_app (goodIn_of _ (by decide +kernel)) ggX11_partRead_X11_isSign
set_option maxRecDepth 20000 in
theorem ggX11_partRead_X11_leafRead : GoodIn wsX11_partRead wsX11_leafRead := goodIn_r _ [18, 3, 19, 1, 13, 14, 4, 8, 9, 10, 11, 12, 20, 21, 22, 23, 24, 25, 26, 27, 28, 29, 30, 31, 32, 33, 34, 35, 36, 37, 38, 39, 40, 41, 42, 43, 44, 45, 46, 47, 48, 49, 50, 51, 52, 53, 54, 55, 56, 57, 58, 59, 60, 61, 62, 63, 64, 65, 66, 67, 68, 6, 69, 70, 71, 72, 2, 88, 89, 90, 91, 92, 93, 94, 95, 96, 97, 98, 99, 100, 101, 102, 103, 104, 105, 106, 107, 108, 109, 110, 111, 112, 113, 114, 115, 116, 117, 118, 119, 120, 121, 122, 123, 124, 125, 126, 127, 128, 129, 130, 131, 132, 133, 134, 135, 136, 137, 138, 139, 140, 141, 142, 143, 144, 145, 146, 147, 148, 149, 150, 151, 152, 153, 154, 155, 156, 157, 158, 159, 160, 161] (by decide +kernel) (by decide +kernel)
set_option maxRecDepth 20000 in
theorem gX11_partRead_X11_leafRead : GoodIn wsX11_partRead (wsV RX11 244 RX11 yX11_leafRead wsX11_leafRead) := goodIn_app (goodIn_of _ (by decide +kernel)) ggX11_partRead_X11_leafRead
set_option maxRecDepth 20000 in
theorem ggX11_partRead_X11_signs : GoodIn wsX11_partRead wsX11_signs := goodIn_r _ [76, 14, 19, 1, 4, 3, 55, 56, 57, 11, 58, 13, 59, 60, 61, 62, 63, 20, 21, 22, 23, 24, 25, 26, 77, 78, 79, 80, 81, 82, 83, 84, 85, 86, 87, 2, 72, 64, 65, 66, 67, 68, 6, 69, 70, 71, 27, 28, 29, 30, 31, 32, 33, 34, 35, 36, 37, 38, 39, 40, 41, 42, 43, 44, 45, 46, 47, 48, 49, 50, 51, 52, 53, 54, 8, 9, 10, 12, 88, 89, 90, 91, 92, 93, 94, 95, 96, 97, 98, 99, 100, 101, 102, 103, 104, 105, 106, 107, 108, 109, 110, 111, 112, 113, 114, 115, 116, 117, 118, 119, 120, 121, 122, 123, 124, 125, 126, 127, 128, 129, 130, 131, 132, 133, 134, 135, 136, 137, 138, 139, 140, 141, 142, 143, 144, 145, 146, 147, 148, 149, 150, 151, 152, 153, 154, 155, 156, 157, 158, 159, 160, 161] (by decide +kernel) (by decide +kernel)
set_option maxRecDepth 20000 in
theorem gX11_partRead_X11_signs : GoodIn wsX11_partRead (wsV RX11 247 RX11 yX11_signs wsX11_signs) := goodIn_app (goodIn_of _ (by decide +kernel)) ggX11_partRead_X11_signs
set_option maxRecDepth 20000 in
theorem ggX11_partRead_X11_bind : GoodIn wsX11_partRead wsX11_bind := goodIn_r _ [83, 1, 19, 77, 78, 11, 79, 84, 85, 86, 87, 2, 72, 64, 65, 66, 67, 68, 6, 69, 70, 71, 25, 88, 89, 90, 91, 92, 93, 94, 95, 96, 97, 98, 99, 100, 101, 102, 103, 104, 105, 106, 107, 108, 109, 110, 111, 112, 113, 114, 115, 116, 117, 118, 119, 120, 121, 122, 123, 124, 125, 126, 127, 128, 129, 130, 131, 132, 133, 134, 135, 136, 137, 138, 139, 140, 141, 142, 143, 144, 145, 146, 147, 148, 149, 150, 151, 152, 153, 154, 155, 156, 157, 158, 159, 160, 161] (by decide +kernel) (by decide +kernel)
set_option maxRecDepth 20000 in
theorem gX11_partRead_X11_bind : GoodIn wsX11_partRead (wsV RX11 240 RX11 yX11_bind wsX11_bind) := goodIn_app (goodIn_of _ (by decide +kernel)) ggX11_partRead_X11_bind
set_option maxRecDepth 20000 in
theorem ggX11_partRead_X11_take : GoodIn wsX11_partRead wsX11_take := goodIn_r _ [30, 31, 32, 33, 25, 13, 14, 34, 35, 36, 37, 11, 38, 39, 40, 41, 42, 43, 44, 45, 46, 47, 48, 49, 50, 51, 52, 53, 54, 88, 89, 90, 91, 92, 93, 94, 95, 96, 97, 98, 99, 100, 101, 102, 103, 104, 105, 106, 107, 108, 109, 110, 111, 112, 113, 114, 115, 116, 117, 118, 119, 120, 121, 122, 123, 124, 125, 126, 127, 128, 129, 130, 131, 132, 133, 134, 135, 136, 137, 138, 139, 140, 141, 142, 143, 144, 145, 146, 147, 148, 149, 150, 151, 152, 153, 154, 155, 156, 157, 158, 159, 160, 161] (by decide +kernel) (by decide +kernel)
set_option maxRecDepth 20000 in
theorem gX11_partRead_X11_take : GoodIn wsX11_partRead (wsV RX11 181 RX11 yX11_take wsX11_take) := goodIn_app (goodIn_of _ (by decide +kernel)) ggX11_partRead_X11_take
set_option maxRecDepth 20000 in
theorem ggX11_netLine_X11_isKey : GoodIn wsX11_netLine wsX11_isKey := goodIn_r _ [10, 2, 3, 102, 103, 104, 105, 106, 107, 108, 109, 110, 111, 112, 113, 114, 115, 116, 117, 118, 119, 120, 121, 122, 123, 124, 125, 126, 127, 128, 129, 130, 131, 132, 133, 134, 135, 136, 137, 138, 139, 140, 141, 142, 143, 144, 145, 146, 147, 148, 149, 150, 151, 152, 153, 154, 155, 156, 157, 158, 159, 160, 161, 162, 163, 164, 165, 166, 167, 168, 169, 170, 171, 172, 173, 174, 175] (by decide +kernel) (by decide +kernel)
set_option maxRecDepth 20000 in
theorem gX11_netLine_X11_isKey : GoodIn wsX11_netLine (wsV RX11 184 RX11 yX11_isKey wsX11_isKey) := goodIn_app (goodIn_of _ (by decide +kernel)) ggX11_netLine_X11_isKey
set_option maxRecDepth 20000 in
theorem ggX11_netLine_X11_wrong : GoodIn wsX11_netLine wsX11_wrong := goodIn_r _ [14, 15, 16, 17, 102, 103, 104, 105, 106, 107, 108, 109, 110, 111, 112, 113, 114, 115, 116, 117, 118, 119, 120, 121, 122, 123, 124, 125, 126, 127, 128, 129, 130, 131, 132, 133, 134, 135, 136, 137, 138, 139, 140, 141, 142, 143, 144, 145, 146, 147, 148, 149, 150, 151, 152, 153, 154, 155, 156, 157, 158, 159, 160, 161, 162, 163, 164, 165, 166, 167, 168, 169, 170, 171, 172, 173, 174, 175] (by decide +kernel) (by decide +kernel)
set_option maxRecDepth 20000 in
theorem gX11_netLine_X11_wrong : GoodIn wsX11_netLine (wsV RX11 178 RX11 yX11_wrong wsX11_wrong) := goodIn_app (goodIn_of _ (by decide +kernel)) ggX11_netLine_X11_wrong
set_option maxRecDepth 20000 in
theorem ggX11_netLine_X11_take : GoodIn wsX11_netLine wsX11_take := goodIn_r _ [21, 22, 23, 24, 16, 2, 3, 25, 26, 27, 28, 9, 29, 30, 31, 32, 33, 34, 35, 36, 37, 38, 39, 40, 41, 42, 43, 44, 45, 102, 103, 104, 105, 106, 107, 108, 109, 110, 111, 112, 113, 114, 115, 116, 117, 118, 119, 120, 121, 122, 123, 124, 125, 126, 127, 128, 129, 130, 131, 132, 133, 134, 135, 136, 137, 138, 139, 140, 141, 142, 143, 144, 145, 146, 147, 148, 149, 150, 151, 152, 153, 154, 155, 156, 157, 158, 159, 160, 161, 162, 163, 164, 165, 166, 167, 168, 169, 170, 171, 172, 173, 174, 175] (by decide +kernel) (by decide +kernel)
set_option maxRecDepth 20000 in
theorem gX11_netLine_X11_take : GoodIn wsX11_netLine (wsV RX11 181 RX11 yX11_take wsX11_take) := goodIn_app (goodIn_of _ (by decide +kernel)) ggX11_netLine_X11_take
set_option maxRecDepth 20000 in
theorem ggX11_netLine_X11_relayRead : GoodIn wsX11_netLine wsX11_relayRead := goodIn_r _ [49, 1, 4, 102, 103, 104, 105, 106, 107, 108, 109, 110, 111, 112, 113, 114, 115, 116, 117, 118, 119, 120, 121, 122, 123, 124, 125, 126, 127, 128, 129, 130, 131, 132, 133, 134, 135, 136, 137, 138, 139, 140, 141, 142, 143, 144, 145, 146, 147, 148, 149, 150, 151, 152, 153, 154, 155, 156, 157, 158, 159, 160, 161, 162, 163, 164, 165, 166, 167, 168, 169, 170, 171, 172, 173, 174, 175] (by decide +kernel) (by decide +kernel)
set_option maxRecDepth 20000 in
theorem gX11_netLine_X11_relayRead : GoodIn wsX11_netLine (wsV RX11 253 RX11 yX11_relayRead wsX11_relayRead) := goodIn_app (goodIn_of _ (by decide +kernel)) ggX11_netLine_X11_relayRead
set_option maxRecDepth 20000 in
theorem ggX11_netLine_X11_signRead : GoodIn wsX11_netLine wsX11_signRead := goodIn_r _ [53, 54, 55, 56, 9, 57, 2, 3, 11, 12, 13, 14, 15, 16, 17, 18, 19, 20, 21, 22, 23, 24, 25, 26, 27, 28, 29, 30, 31, 32, 33, 34, 35, 36, 37, 38, 39, 40, 41, 42, 43, 44, 45, 102, 103, 104, 105, 106, 107, 108, 109, 110, 111, 112, 113, 114, 115, 116, 117, 118, 119, 120, 121, 122, 123, 124, 125, 126, 127, 128, 129, 130, 131, 132, 133, 134, 135, 136, 137, 138, 139, 140, 141, 142, 143, 144, 145, 146, 147, 148, 149, 150, 151, 152, 153, 154, 155, 156, 157, 158, 159, 160, 161, 162, 163, 164, 165, 166, 167, 168, 169, 170, 171, 172, 173, 174, 175] (by decide +kernel) (by decide +kernel)
set_option maxRecDepth 20000 in
theorem gX11_netLine_X11_signRead : GoodIn wsX11_netLine (wsV RX11 256 RX11 yX11_signRead wsX11_signRead) := goodIn_app (goodIn_of _ (by decide +kernel)) ggX11_netLine_X11_signRead
set_option maxRecDepth 20000 in
theorem ggX11_netLine_X11_partRead : GoodIn wsX11_netLine wsX11_partRead := goodIn_r _ [61, 62, 63, 64, 65, 66, 67, 5, 54, 55, 56, 9, 57, 2, 3, 68, 69, 70, 71, 72, 11, 12, 13, 14, 15, 16, 17, 18, 19, 20, 21, 22, 23, 24, 25, 26, 27, 28, 29, 30, 31, 32, 33, 34, 35, 36, 37, 38, 39, 40, 41, 42, 43, 44, 45, 6, 7, 8, 10, 73, 74, 75, 76, 77, 78, 79, 80, 81, 82, 83, 84, 85, 86, 87, 88, 89, 90, 91, 92, 93, 94, 95, 96, 97, 98, 99, 100, 101, 102, 103, 104, 105, 106, 107, 108, 109, 110, 111, 112, 113, 114, 115, 116, 117, 118, 119, 120, 121, 122, 123, 124, 125, 126, 127, 128, 129, 130, 131, 132, 133, 134, 135, 136, 137, 138, 139, 140, 141, 142, 143, 144, 145, 146, 147, 148, 149, 150, 151, 152, 153, 154, 155, 156, 157, 158, 159, 160, 161, 162, 163, 164, 165, 166, 167, 168, 169, 170, 171, 172, 173, 174, 175] (by decide +kernel) (by decide +kernel)
set_option maxRecDepth 20000 in
theorem gX11_netLine_X11_partRead : GoodIn wsX11_netLine (wsV RX11 259 RX11 yX11_partRead wsX11_partRead) := goodIn_app (goodIn_of _ (by decide +kernel)) ggX11_netLine_X11_partRead
set_option maxRecDepth 20000 in
theorem ggX11_net_X11_starts : GoodIn wsX11_net wsX11_starts := goodIn_r _ [23, 24, 25, 26, 27, 28, 29, 30, 31, 32, 22, 33, 34, 11, 7, 35, 36, 37, 38, 39, 40, 41, 42, 43, 44, 45, 46, 47, 48, 49, 50, 51, 52, 53, 54, 55, 123, 124, 125, 126, 127, 128, 129, 130, 131, 132, 133, 134, 135, 136, 137, 138, 139, 140, 141, 142, 143, 144, 145, 146, 147, 148, 149, 150, 151, 152, 153, 154, 155, 156, 157, 158, 159, 160, 161, 162, 163, 164, 165, 166, 167, 168, 169, 170, 171, 172, 173, 174, 175, 176, 177, 178, 179, 180, 181, 182, 183, 184, 185, 186, 187, 188, 189, 190, 191, 192, 193, 194, 195, 196] (by decide +kernel) (by decide +kernel)
set_option maxRecDepth 20000 in
theorem gX11_net_X11_starts : GoodIn wsX11_net (wsV RX11 196 RX11 yX11_starts wsX11_starts) := goodIn_app (goodIn_of _ (by decide +kernel)) ggX11_net_X11_starts
set_option maxRecDepth 20000 in
theorem ggX11_net_X11_netLine : GoodIn wsX11_net wsX11_netLine := goodIn_r _ [59, 2, 7, 35, 60, 6, 61, 62, 63, 22, 64, 65, 66, 67, 68, 26, 11, 27, 30, 31, 32, 33, 28, 25, 34, 29, 36, 37, 38, 39, 40, 41, 42, 43, 44, 45, 46, 47, 48, 49, 50, 51, 52, 53, 54, 55, 69, 70, 71, 72, 73, 74, 75, 76, 77, 78, 79, 80, 81, 82, 83, 84, 85, 86, 87, 88, 5, 3, 89, 90, 91, 92, 93, 94, 95, 96, 97, 4, 98, 99, 100, 101, 8, 9, 14, 10, 102, 103, 104, 105, 106, 107, 108, 109, 110, 111, 112, 113, 114, 115, 116, 117, 123, 124, 125, 126, 127, 128, 129, 130, 131, 132, 133, 134, 135, 136, 137, 138, 139, 140, 141, 142, 143, 144, 145, 146, 147, 148, 149, 150, 151, 152, 153, 154, 155, 156, 157, 158, 159, 160, 161, 162, 163, 164, 165, 166, 167, 168, 169, 170, 171, 172, 173, 174, 175, 176, 177, 178, 179, 180, 181, 182, 183, 184, 185, 186, 187, 188, 189, 190, 191, 192, 193, 194, 195, 196] (by decide +kernel) (by decide +kernel)
set_option maxRecDepth 20000 in
theorem gX11_net_X11_netLine : GoodIn wsX11_net (wsV RX11 262 RX11 yX11_netLine wsX11_netLine) := goodIn_app (goodIn_of _ (by decide +kernel)) ggX11_net_X11_netLine
set_option maxRecDepth 20000 in
theorem ggX11_net_X11_relayRead : GoodIn wsX11_net wsX11_relayRead := goodIn_r _ [72, 2, 60, 123, 124, 125, 126, 127, 128, 129, 130, 131, 132, 133, 134, 135, 136, 137, 138, 139, 140, 141, 142, 143, 144, 145, 146, 147, 148, 149, 150, 151, 152, 153, 154, 155, 156, 157, 158, 159, 160, 161, 162, 163, 164, 165, 166, 167, 168, 169, 170, 171, 172, 173, 174, 175, 176, 177, 178, 179, 180, 181, 182, 183, 184, 185, 186, 187, 188, 189, 190, 191, 192, 193, 194, 195, 196] (by decide +kernel) (by decide +kernel)
set_option maxRecDepth 20000 in
theorem gX11_net_X11_relayRead : GoodIn wsX11_net (wsV RX11 253 RX11 yX11_relayRead wsX11_relayRead) := goodIn_app (goodIn_of _ (by decide +kernel)) ggX11_net_X11_relayRead
set_option maxRecDepth 20000 in
theorem ggX11_net_X11_wrong : GoodIn wsX11_net wsX11_wrong := goodIn_r _ [68, 26, 11, 27, 123, 124, 125, 126, 127, 128, 129, 130, 131, 132, 133, 134, 135, 136, 137, 138, 139, 140, 141, 142, 143, 144, 145, 146, 147, 148, 149, 150, 151, 152, 153, 154, 155, 156, 157, 158, 159, 160, 161, 162, 163, 164, 165, 166, 167, 168, 169, 170, 171, 172, 173, 174, 175, 176, 177, 178, 179, 180, 181, 182, 183, 184, 185, 186, 187, 188, 189, 190, 191, 192, 193, 194, 195, 196] (by decide +kernel) (by decide +kernel)
set_option maxRecDepth 20000 in
theorem gX11_net_X11_wrong : GoodIn wsX11_net (wsV RX11 178 RX11 yX11_wrong wsX11_wrong) := goodIn_app (goodIn_of _ (by decide +kernel)) ggX11_net_X11_wrong
set_option maxRecDepth 20000 in
theorem ggX11_net_X11_forgets : GoodIn wsX11_net wsX11_forgets := goodIn_r _ [121, 122, 123, 124, 125, 126, 127, 128, 129, 130, 131, 132, 133, 134, 135, 136, 137, 138, 139, 140, 141, 142, 143, 144, 145, 146, 147, 148, 149, 150, 151, 152, 153, 154, 155, 156, 157, 158, 159, 160, 161, 162, 163, 164, 165, 166, 167, 168, 169, 170, 171, 172, 173, 174, 175, 176, 177, 178, 179, 180, 181, 182, 183, 184, 185, 186, 187, 188, 189, 190, 191, 192, 193, 194, 195, 196] (by decide +kernel) (by decide +kernel)
set_option maxRecDepth 20000 in
theorem gX11_net_X11_forgets : GoodIn wsX11_net (wsV RX11 280 RX11 yX11_forgets wsX11_forgets) := goodIn_app (goodIn_of _ (by decide +kernel)) ggX11_net_X11_forgets
set_option maxRecDepth 20000 in
theorem ggX11_isSquare_X11_squares : GoodIn wsX11_isSquare wsX11_squares := goodIn_r _ [5, 6, 7, 8, 9, 10, 11, 12, 13, 14, 15, 16, 17, 18, 19, 20, 21, 22, 23, 24, 25, 26, 27, 28, 29, 30, 31, 32, 33, 34, 35, 36, 37, 38, 39, 40, 41, 42, 43, 44, 45, 46, 47, 48, 49, 50, 51, 52, 53, 54, 55, 56, 57, 58, 59, 60, 61, 62, 63, 64, 65, 66, 67, 68, 69, 70, 71, 72, 73, 74, 75, 76, 77, 78, 79, 80, 81] (by decide +kernel) (by decide +kernel)
set_option maxRecDepth 20000 in
theorem gX11_isSquare_X11_squares : GoodIn wsX11_isSquare (wsV RX11 289 RX11 yX11_squares wsX11_squares) := goodIn_app (goodIn_of _ (by decide +kernel)) ggX11_isSquare_X11_squares
set_option maxRecDepth 20000 in
theorem ggX11_begins_X11_plainWalls : GoodIn wsX11_begins wsX11_plainWalls := goodIn_r _ [19, 20, 1, 21, 22, 23, 18, 24, 2, 30, 31, 32, 33, 34, 35, 36, 37, 38, 39, 40, 41, 42, 43, 44, 45, 46, 47, 48, 49, 50, 51, 52, 53, 54, 55, 56, 57, 58, 59, 60, 61, 62, 63, 64, 65, 66, 67, 68, 69, 70, 71, 72, 73, 74, 75, 76, 77, 78, 79, 80, 81, 82, 83, 84, 85, 86, 87, 88, 89, 90, 91, 92, 93, 94, 95, 96, 97, 98, 99, 100, 101, 102, 103] (by decide +kernel) (by decide +kernel)
set_option maxRecDepth 20000 in
theorem gX11_begins_X11_plainWalls : GoodIn wsX11_begins (wsV RX11 307 RX11 yX11_plainWalls wsX11_plainWalls) := goodIn_app (goodIn_of _ (by decide +kernel)) ggX11_begins_X11_plainWalls
set_option maxRecDepth 20000 in
theorem ggX11_begins_X11_forgets : GoodIn wsX11_begins wsX11_forgets := goodIn_r _ [28, 29, 30, 31, 32, 33, 34, 35, 36, 37, 38, 39, 40, 41, 42, 43, 44, 45, 46, 47, 48, 49, 50, 51, 52, 53, 54, 55, 56, 57, 58, 59, 60, 61, 62, 63, 64, 65, 66, 67, 68, 69, 70, 71, 72, 73, 74, 75, 76, 77, 78, 79, 80, 81, 82, 83, 84, 85, 86, 87, 88, 89, 90, 91, 92, 93, 94, 95, 96, 97, 98, 99, 100, 101, 102, 103] (by decide +kernel) (by decide +kernel)
set_option maxRecDepth 20000 in
theorem gX11_begins_X11_forgets : GoodIn wsX11_begins (wsV RX11 280 RX11 yX11_forgets wsX11_forgets) := goodIn_app (goodIn_of _ (by decide +kernel)) ggX11_begins_X11_forgets
set_option maxRecDepth 20000 in
theorem ggX11_plainWalls_X11_squares : GoodIn wsX11_plainWalls wsX11_squares := goodIn_r _ [7, 2, 8, 9, 10, 11, 12, 13, 14, 15, 16, 17, 18, 19, 20, 21, 22, 23, 24, 25, 26, 27, 28, 29, 30, 31, 32, 33, 34, 35, 36, 37, 38, 39, 40, 41, 42, 43, 44, 45, 46, 47, 48, 49, 50, 51, 52, 53, 54, 55, 56, 57, 58, 59, 60, 61, 62, 63, 64, 65, 66, 67, 68, 69, 70, 71, 72, 73, 74, 75, 76, 77, 78, 79, 80, 81, 82] (by decide +kernel) (by decide +kernel)
set_option maxRecDepth 20000 in
theorem gX11_plainWalls_X11_squares : GoodIn wsX11_plainWalls (wsV RX11 289 RX11 yX11_squares wsX11_squares) := goodIn_app (goodIn_of _ (by decide +kernel)) ggX11_plainWalls_X11_squares
set_option maxRecDepth 20000 in
theorem ggX11_isWall_X11_isOf : GoodIn wsX11_isWall wsX11_isOf := goodIn_r _ [5] (by decide +kernel) (by decide +kernel)
set_option maxRecDepth 20000 in
theorem gX11_isWall_X11_isOf : GoodIn wsX11_isWall (va_wsS RX11 310 yX11_isOf wsX11_isOf) := goodIn_app (goodIn_of _ (by decide +kernel)) ggX11_isWall_X11_isOf
set_option maxRecDepth 20000 in
theorem ggX11_putWall_X11_ahead : GoodIn wsX11_putWall wsX11_ahead := goodIn_r _ [6, 7, 8, 9, 10, 11, 12, 13, 14, 15, 16, 17, 18, 19, 20, 21, 22, 23, 24, 25, 26, 27, 28, 29, 30, 31, 32, 33, 34, 35, 36, 37, 38, 39, 40, 41, 42, 43, 44, 45, 46, 47, 48, 49, 50, 51, 52, 53, 54, 55, 56, 57, 58, 59, 60, 61, 62, 63, 64, 65, 66, 67, 68, 69, 70, 71, 72, 73, 74, 75, 76, 77, 78, 79, 80, 81] (by decide +kernel) (by decide +kernel)
set_option maxRecDepth 20000 in
theorem gX11_putWall_X11_ahead : GoodIn wsX11_putWall (wsV RX11 314 RX11 yX11_ahead wsX11_ahead) := goodIn_app (goodIn_of _ (by decide +kernel)) ggX11_putWall_X11_ahead
set_option maxRecDepth 20000 in
theorem ggX11_floor_X11_isIn : GoodIn wsX11_floor wsX11_isIn := goodIn_r _ [5] (by decide +kernel) (by decide +kernel)
set_option maxRecDepth 20000 in
theorem gX11_floor_X11_isIn : GoodIn wsX11_floor (va_wsS RX11 317 yX11_isIn wsX11_isIn) := goodIn_app (goodIn_of _ (by decide +kernel)) ggX11_floor_X11_isIn
set_option maxRecDepth 20000 in
theorem ggX11_floor_X11_begins : GoodIn wsX11_floor wsX11_begins := goodIn_r _ [9, 10, 11, 12, 13, 14, 15, 16, 17, 18, 19, 20, 21, 22, 23, 24, 25, 26, 4, 27, 28, 29, 30, 31, 32, 33, 34, 35, 36, 37, 38, 39, 40, 41, 42, 43, 44, 45, 46, 47, 48, 49, 50, 51, 52, 53, 54, 55, 56, 57, 58, 59, 60, 61, 62, 63, 64, 65, 66, 67, 68, 69, 70, 71, 72, 73, 74, 75, 76, 77, 78, 79, 80, 81, 82, 83, 84, 85, 86, 87, 88, 89, 90, 91, 92, 93, 94, 95, 96, 97, 98, 99, 100, 101, 102, 103, 104, 105, 106, 107, 108, 109, 110, 111] (by decide +kernel) (by decide +kernel)
set_option maxRecDepth 20000 in
theorem gX11_floor_X11_begins : GoodIn wsX11_floor (wsV RX11 126 RX11 yX11_begins wsX11_begins) := goodIn_app (goodIn_of _ (by decide +kernel)) ggX11_floor_X11_begins
set_option maxRecDepth 20000 in
theorem ggX11_isAround_X11_squares : GoodIn wsX11_isAround wsX11_squares := goodIn_r _ [6, 1, 7, 8, 9, 10, 11, 12, 13, 14, 15, 16, 17, 18, 19, 20, 21, 22, 23, 24, 25, 26, 27, 28, 29, 30, 31, 32, 33, 34, 35, 36, 37, 38, 39, 40, 41, 42, 43, 44, 45, 46, 47, 48, 49, 50, 51, 52, 53, 54, 55, 56, 57, 58, 59, 60, 61, 62, 63, 64, 65, 66, 67, 68, 69, 70, 71, 72, 73, 74, 75, 76, 77, 78, 79, 80, 81] (by decide +kernel) (by decide +kernel)
set_option maxRecDepth 20000 in
theorem gX11_isAround_X11_squares : GoodIn wsX11_isAround (wsV RX11 289 RX11 yX11_squares wsX11_squares) := goodIn_app (goodIn_of _ (by decide +kernel)) ggX11_isAround_X11_squares
set_option maxRecDepth 20000 in
theorem ggX11_wall_X11_isSquare : GoodIn wsX11_wall wsX11_isSquare := goodIn_r _ [6, 7, 8, 9, 5, 10, 11, 12, 36, 37, 38, 39, 40, 41, 42, 43, 44, 45, 46, 47, 48, 49, 50, 51, 52, 53, 54, 55, 56, 57, 58, 59, 60, 61, 62, 63, 64, 65, 66, 67, 68, 69, 70, 71, 72, 73, 74, 75, 76, 77, 78, 79, 80, 81, 82, 83, 84, 85, 86, 87, 88, 89, 90, 91, 92, 93, 94, 95, 96, 97, 98, 99, 100, 101, 102, 103, 104, 105, 106, 107, 108, 109] (by decide +kernel) (by decide +kernel)
set_option maxRecDepth 20000 in
theorem gX11_wall_X11_isSquare : GoodIn wsX11_wall (wsV RX11 321 RX11 yX11_isSquare wsX11_isSquare) := goodIn_app (goodIn_of _ (by decide +kernel)) ggX11_wall_X11_isSquare
set_option maxRecDepth 20000 in
theorem ggX11_wall_X11_isIn : GoodIn wsX11_wall wsX11_isIn := goodIn_r _ [15] (by decide +kernel) (by decide +kernel)
set_option maxRecDepth 20000 in
theorem gX11_wall_X11_isIn : GoodIn wsX11_wall (va_wsS RX11 317 yX11_isIn wsX11_isIn) := goodIn_app (goodIn_of _ (by decide +kernel)) ggX11_wall_X11_isIn
set_option maxRecDepth 20000 in
theorem ggX11_wall_X11_isAround : GoodIn wsX11_wall wsX11_isAround := goodIn_r _ [19, 11, 7, 8, 9, 5, 10, 12, 36, 37, 38, 39, 40, 41, 42, 43, 44, 45, 46, 47, 48, 49, 50, 51, 52, 53, 54, 55, 56, 57, 58, 59, 60, 61, 62, 63, 64, 65, 66, 67, 68, 69, 70, 71, 72, 73, 74, 75, 76, 77, 78, 79, 80, 81, 82, 83, 84, 85, 86, 87, 88, 89, 90, 91, 92, 93, 94, 95, 96, 97, 98, 99, 100, 101, 102, 103, 104, 105, 106, 107, 108, 109] (by decide +kernel) (by decide +kernel)
set_option maxRecDepth 20000 in
theorem gX11_wall_X11_isAround : GoodIn wsX11_wall (wsV RX11 324 RX11 yX11_isAround wsX11_isAround) := goodIn_app (goodIn_of _ (by decide +kernel)) ggX11_wall_X11_isAround
set_option maxRecDepth 20000 in
theorem ggX11_wall_X11_isWall : GoodIn wsX11_wall wsX11_isWall := goodIn_r _ [23, 24, 25, 26, 5, 27, 36, 37, 38, 39, 40, 41, 42, 43, 44, 45, 46, 47, 48, 49, 50, 51, 52, 53, 54, 55, 56, 57, 58, 59, 60, 61, 62, 63, 64, 65, 66, 67, 68, 69, 70, 71, 72, 73, 74, 75, 76, 77, 78, 79, 80, 81, 82, 83, 84, 85, 86, 87, 88, 89, 90, 91, 92, 93, 94, 95, 96, 97, 98, 99, 100, 101, 102, 103, 104, 105, 106, 107, 108, 109] (by decide +kernel) (by decide +kernel)
set_option maxRecDepth 20000 in
theorem gX11_wall_X11_isWall : GoodIn wsX11_wall (wsV RX11 327 RX11 yX11_isWall wsX11_isWall) := goodIn_app (goodIn_of _ (by decide +kernel)) ggX11_wall_X11_isWall
set_option maxRecDepth 20000 in
theorem ggX11_wall_X11_putWall : GoodIn wsX11_wall wsX11_putWall := goodIn_r _ [31, 24, 32, 33, 34, 5, 35, 11, 36, 37, 38, 39, 40, 41, 42, 43, 44, 45, 46, 47, 48, 49, 50, 51, 52, 53, 54, 55, 56, 57, 58, 59, 60, 61, 62, 63, 64, 65, 66, 67, 68, 69, 70, 71, 72, 73, 74, 75, 76, 77, 78, 79, 80, 81, 82, 83, 84, 85, 86, 87, 88, 89, 90, 91, 92, 93, 94, 95, 96, 97, 98, 99, 100, 101, 102, 103, 104, 105, 106, 107, 108, 109] (by decide +kernel) (by decide +kernel)
set_option maxRecDepth 20000 in
theorem gX11_wall_X11_putWall : GoodIn wsX11_wall (wsV RX11 330 RX11 yX11_putWall wsX11_putWall) := goodIn_app (goodIn_of _ (by decide +kernel)) ggX11_wall_X11_putWall
set_option maxRecDepth 20000 in
theorem ggX11_bell_X11_isSquare : GoodIn wsX11_bell wsX11_isSquare := goodIn_r _ [7, 8, 9, 10, 6, 11, 12, 13, 14, 15, 16, 17, 18, 19, 20, 21, 22, 23, 24, 25, 26, 27, 28, 29, 30, 31, 32, 33, 34, 35, 36, 37, 38, 39, 40, 41, 42, 43, 44, 45, 46, 47, 48, 49, 50, 51, 52, 53, 54, 55, 56, 57, 58, 59, 60, 61, 62, 63, 64, 65, 66, 67, 68, 69, 70, 71, 72, 73, 74, 75, 76, 77, 78, 79, 80, 81, 82, 83, 84, 85, 86, 87] (by decide +kernel) (by decide +kernel)
set_option maxRecDepth 20000 in
theorem gX11_bell_X11_isSquare : GoodIn wsX11_bell (wsV RX11 321 RX11 yX11_isSquare wsX11_isSquare) := goodIn_app (goodIn_of _ (by decide +kernel)) ggX11_bell_X11_isSquare
set_option maxRecDepth 20000 in
theorem ggX11_lift_X11_isSquare : GoodIn wsX11_lift wsX11_isSquare := goodIn_r _ [8, 9, 10, 11, 7, 12, 13, 14, 18, 19, 20, 21, 22, 23, 24, 25, 26, 27, 28, 29, 30, 31, 32, 33, 34, 35, 36, 37, 38, 39, 40, 41, 42, 43, 44, 45, 46, 47, 48, 49, 50, 51, 52, 53, 54, 55, 56, 57, 58, 59, 60, 61, 62, 63, 64, 65, 66, 67, 68, 69, 70, 71, 72, 73, 74, 75, 76, 77, 78, 79, 80, 81, 82, 83, 84, 85, 86, 87, 88, 89, 90, 91] (by decide +kernel) (by decide +kernel)
set_option maxRecDepth 20000 in
theorem gX11_lift_X11_isSquare : GoodIn wsX11_lift (wsV RX11 321 RX11 yX11_isSquare wsX11_isSquare) := goodIn_app (goodIn_of _ (by decide +kernel)) ggX11_lift_X11_isSquare
set_option maxRecDepth 20000 in
theorem ggX11_lift_X11_isIn : GoodIn wsX11_lift wsX11_isIn := goodIn_r _ [17] (by decide +kernel) (by decide +kernel)
set_option maxRecDepth 20000 in
theorem gX11_lift_X11_isIn : GoodIn wsX11_lift (va_wsS RX11 317 yX11_isIn wsX11_isIn) := goodIn_app (goodIn_of _ (by decide +kernel)) ggX11_lift_X11_isIn
set_option maxRecDepth 20000 in
theorem ggX11_wipes_X11_squares : GoodIn wsX11_wipes wsX11_squares := goodIn_r _ [7, 8, 9, 10, 11, 12, 13, 14, 15, 16, 17, 18, 19, 20, 21, 22, 23, 24, 25, 26, 27, 28, 29, 30, 31, 32, 33, 34, 35, 36, 37, 38, 39, 40, 41, 42, 43, 44, 45, 46, 47, 48, 49, 50, 51, 52, 53, 54, 55, 56, 57, 58, 59, 60, 61, 62, 63, 64, 65, 66, 67, 68, 69, 70, 71, 72, 73, 74, 75, 76, 77, 78, 79, 80, 81, 82, 83] (by decide +kernel) (by decide +kernel)
set_option maxRecDepth 20000 in
theorem gX11_wipes_X11_squares : GoodIn wsX11_wipes (wsV RX11 289 RX11 yX11_squares wsX11_squares) := goodIn_app (goodIn_of _ (by decide +kernel)) ggX11_wipes_X11_squares
set_option maxRecDepth 20000 in
theorem ggX11_wipe_X11_squares : GoodIn wsX11_wipe wsX11_squares := goodIn_r _ [13, 14, 15, 20, 21, 22, 23, 24, 25, 26, 27, 28, 29, 30, 31, 32, 33, 34, 35, 36, 37, 38, 39, 40, 41, 42, 43, 44, 45, 46, 47, 48, 49, 50, 51, 52, 53, 54, 55, 56, 57, 58, 59, 60, 61, 62, 63, 64, 65, 66, 67, 68, 69, 70, 71, 72, 73, 74, 75, 76, 77, 78, 79, 80, 81, 82, 83, 84, 85, 86, 87, 88, 89, 90, 91, 92, 93] (by decide +kernel) (by decide +kernel)
set_option maxRecDepth 20000 in
theorem gX11_wipe_X11_squares : GoodIn wsX11_wipe (wsV RX11 289 RX11 yX11_squares wsX11_squares) := goodIn_app (goodIn_of _ (by decide +kernel)) ggX11_wipe_X11_squares
set_option maxRecDepth 20000 in
theorem ggX11_wipe_X11_wipes : GoodIn wsX11_wipe wsX11_wipes := goodIn_r _ [19, 2, 3, 9, 10, 11, 12, 13, 14, 15, 20, 21, 22, 23, 24, 25, 26, 27, 28, 29, 30, 31, 32, 33, 34, 35, 36, 37, 38, 39, 40, 41, 42, 43, 44, 45, 46, 47, 48, 49, 50, 51, 52, 53, 54, 55, 56, 57, 58, 59, 60, 61, 62, 63, 64, 65, 66, 67, 68, 69, 70, 71, 72, 73, 74, 75, 76, 77, 78, 79, 80, 81, 82, 83, 84, 85, 86, 87, 88, 89, 90, 91, 92, 93] (by decide +kernel) (by decide +kernel)
set_option maxRecDepth 20000 in
theorem gX11_wipe_X11_wipes : GoodIn wsX11_wipe (wsV RX11 334 RX11 yX11_wipes wsX11_wipes) := goodIn_app (goodIn_of _ (by decide +kernel)) ggX11_wipe_X11_wipes
set_option maxRecDepth 20000 in
theorem ggX11_goes_X11_isWall : GoodIn wsX11_goes wsX11_isWall := goodIn_r _ [8, 9, 10, 11, 7, 12, 18, 19, 20, 21, 22, 23, 24, 25, 26, 27, 28, 29, 30, 31, 32, 33, 34, 35, 36, 37, 38, 39, 40, 41, 42, 43, 44, 45, 46, 47, 48, 49, 50, 51, 52, 53, 54, 55, 56, 57, 58, 59, 60, 61, 62, 63, 64, 65, 66, 67, 68, 69, 70, 71, 72, 73, 74, 75, 76, 77, 78, 79, 80, 81, 82, 83, 84, 85, 86, 87, 88, 89, 90, 91] (by decide +kernel) (by decide +kernel)
set_option maxRecDepth 20000 in
theorem gX11_goes_X11_isWall : GoodIn wsX11_goes (wsV RX11 327 RX11 yX11_isWall wsX11_isWall) := goodIn_app (goodIn_of _ (by decide +kernel)) ggX11_goes_X11_isWall
set_option maxRecDepth 20000 in
theorem ggX11_goes_X11_ahead : GoodIn wsX11_goes wsX11_ahead := goodIn_r _ [16, 17, 18, 19, 20, 21, 22, 23, 24, 25, 26, 27, 28, 29, 30, 31, 32, 33, 34, 35, 36, 37, 38, 39, 40, 41, 42, 43, 44, 45, 46, 47, 48, 49, 50, 51, 52, 53, 54, 55, 56, 57, 58, 59, 60, 61, 62, 63, 64, 65, 66, 67, 68, 69, 70, 71, 72, 73, 74, 75, 76, 77, 78, 79, 80, 81, 82, 83, 84, 85, 86, 87, 88, 89, 90, 91] (by decide +kernel) (by decide +kernel)
set_option maxRecDepth 20000 in
theorem gX11_goes_X11_ahead : GoodIn wsX11_goes (wsV RX11 314 RX11 yX11_ahead wsX11_ahead) := goodIn_app (goodIn_of _ (by decide +kernel)) ggX11_goes_X11_ahead
set_option maxRecDepth 20000 in
theorem ggX11_holds_X11_isWall : GoodIn wsX11_holds wsX11_isWall := goodIn_r _ [15, 16, 17, 18, 14, 19, 20, 21, 22, 23, 24, 25, 26, 27, 28, 29, 30, 31, 32, 33, 34, 35, 36, 37, 38, 39, 40, 41, 42, 43, 44, 45, 46, 47, 48, 49, 50, 51, 52, 53, 54, 55, 56, 57, 58, 59, 60, 61, 62, 63, 64, 65, 66, 67, 68, 69, 70, 71, 72, 73, 74, 75, 76, 77, 78, 79, 80, 81, 82, 83, 84, 85, 86, 87, 88, 89, 90, 91, 92, 93] (by decide +kernel) (by decide +kernel)
set_option maxRecDepth 20000 in
theorem gX11_holds_X11_isWall : GoodIn wsX11_holds (wsV RX11 327 RX11 yX11_isWall wsX11_isWall) := goodIn_app (goodIn_of _ (by decide +kernel)) ggX11_holds_X11_isWall
set_option maxRecDepth 20000 in
theorem ggX11_holds_X11_isOf : GoodIn wsX11_holds wsX11_isOf := goodIn_r _ [19] (by decide +kernel) (by decide +kernel)
set_option maxRecDepth 20000 in
theorem gX11_holds_X11_isOf : GoodIn wsX11_holds (va_wsS RX11 310 yX11_isOf wsX11_isOf) := goodIn_app (goodIn_of _ (by decide +kernel)) ggX11_holds_X11_isOf
set_option maxRecDepth 20000 in
theorem ggX11_does_X11_goes : GoodIn wsX11_does wsX11_goes := goodIn_r _ [14, 4, 2, 15, 16, 17, 18, 13, 19, 20, 21, 22, 23, 24, 25, 26, 27, 28, 38, 39, 40, 41, 42, 43, 44, 45, 46, 47, 48, 49, 50, 51, 52, 53, 54, 55, 56, 57, 58, 59, 60, 61, 62, 63, 64, 65, 66, 67, 68, 69, 70, 71, 72, 73, 74, 75, 76, 77, 78, 79, 80, 81, 82, 83, 84, 85, 86, 87, 88, 89, 90, 91, 92, 93, 94, 95, 96, 97, 98, 99, 100, 101, 102, 103, 104, 105, 106, 107, 108, 109, 110, 111] (by decide +kernel) (by decide +kernel)
set_option maxRecDepth 20000 in
theorem gX11_does_X11_goes : GoodIn wsX11_does (wsV RX11 340 RX11 yX11_goes wsX11_goes) := goodIn_app (goodIn_of _ (by decide +kernel)) ggX11_does_X11_goes
set_option maxRecDepth 20000 in
theorem ggX11_does_X11_wipes : GoodIn wsX11_does wsX11_wipes := goodIn_r _ [32, 3, 5, 33, 34, 35, 13, 36, 28, 37, 38, 39, 40, 41, 42, 43, 44, 45, 46, 47, 48, 49, 50, 51, 52, 53, 54, 55, 56, 57, 58, 59, 60, 61, 62, 63, 64, 65, 66, 67, 68, 69, 70, 71, 72, 73, 74, 75, 76, 77, 78, 79, 80, 81, 82, 83, 84, 85, 86, 87, 88, 89, 90, 91, 92, 93, 94, 95, 96, 97, 98, 99, 100, 101, 102, 103, 104, 105, 106, 107, 108, 109, 110, 111] (by decide +kernel) (by decide +kernel)
set_option maxRecDepth 20000 in
theorem gX11_does_X11_wipes : GoodIn wsX11_does (wsV RX11 334 RX11 yX11_wipes wsX11_wipes) := goodIn_app (goodIn_of _ (by decide +kernel)) ggX11_does_X11_wipes
set_option maxRecDepth 20000 in
theorem ggX11_ticks_X11_holds : GoodIn wsX11_ticks wsX11_holds := goodIn_r _ [8, 9, 10, 11, 12, 13, 14, 15, 16, 17, 18, 19, 20, 21, 7, 22, 23, 24, 25, 26, 53, 54, 55, 56, 57, 58, 59, 60, 61, 62, 63, 64, 65, 66, 67, 68, 69, 70, 71, 72, 73, 74, 75, 76, 77, 78, 79, 80, 81, 82, 83, 84, 85, 86, 87, 88, 89, 90, 91, 92, 93, 94, 95, 96, 97, 98, 99, 100, 101, 102, 103, 104, 105, 106, 107, 108, 109, 110, 111, 112, 113, 114, 115, 116, 117, 118, 119, 120, 121, 122, 123, 124, 125, 126] (by decide +kernel) (by decide +kernel)
set_option maxRecDepth 20000 in
theorem gX11_ticks_X11_holds : GoodIn wsX11_ticks (wsV RX11 343 RX11 yX11_holds wsX11_holds) := goodIn_app (goodIn_of _ (by decide +kernel)) ggX11_ticks_X11_holds
set_option maxRecDepth 20000 in
theorem ggX11_ticks_X11_does : GoodIn wsX11_ticks wsX11_does := goodIn_r _ [30, 31, 11, 13, 10, 17, 32, 33, 14, 16, 34, 35, 36, 7, 37, 38, 19, 20, 21, 22, 23, 24, 25, 26, 39, 40, 41, 42, 43, 44, 45, 46, 47, 48, 49, 50, 51, 52, 53, 54, 55, 56, 57, 58, 59, 60, 61, 62, 63, 64, 65, 66, 67, 68, 69, 70, 71, 72, 73, 74, 75, 76, 77, 78, 79, 80, 81, 82, 83, 84, 85, 86, 87, 88, 89, 90, 91, 92, 93, 94, 95, 96, 97, 98, 99, 100, 101, 102, 103, 104, 105, 106, 107, 108, 109, 110, 111, 112, 113, 114, 115, 116, 117, 118, 119, 120, 121, 122, 123, 124, 125, 126] (by decide +kernel) (by decide +kernel)
set_option maxRecDepth 20000 in
theorem gX11_ticks_X11_does : GoodIn wsX11_ticks (wsV RX11 346 RX11 yX11_does wsX11_does) := goodIn_app (goodIn_of _ (by decide +kernel)) ggX11_ticks_X11_does
set_option maxRecDepth 20000 in
theorem ggX11_tick_X11_isIn : GoodIn wsX11_tick wsX11_isIn := goodIn_r _ [6] (by decide +kernel) (by decide +kernel)
set_option maxRecDepth 20000 in
theorem gX11_tick_X11_isIn : GoodIn wsX11_tick (va_wsS RX11 317 yX11_isIn wsX11_isIn) := goodIn_app (goodIn_of _ (by decide +kernel)) ggX11_tick_X11_isIn
set_option maxRecDepth 20000 in
theorem ggX11_tick_X11_ticks : GoodIn wsX11_tick wsX11_ticks := goodIn_r _ [10, 11, 12, 13, 14, 15, 16, 5, 17, 18, 19, 20, 21, 22, 23, 24, 25, 26, 27, 28, 29, 30, 31, 32, 33, 34, 35, 36, 37, 38, 39, 40, 41, 42, 43, 44, 45, 46, 47, 48, 49, 50, 51, 52, 53, 54, 55, 56, 57, 58, 59, 60, 61, 62, 63, 64, 65, 66, 67, 68, 69, 70, 71, 72, 73, 74, 75, 76, 77, 78, 79, 80, 81, 82, 83, 84, 85, 86, 87, 88, 89, 90, 91, 92, 93, 94, 95, 96, 97, 98, 99, 100, 101, 102, 103, 104, 105, 106, 107, 108, 109, 110, 111, 112, 113, 114, 115, 116, 117, 118, 119, 120, 121, 122, 123, 124, 125, 126, 127, 128, 129, 130, 131, 132, 133, 134, 135] (by decide +kernel) (by decide +kernel)
set_option maxRecDepth 20000 in
theorem gX11_tick_X11_ticks : GoodIn wsX11_tick (wsV RX11 349 RX11 yX11_ticks wsX11_ticks) := goodIn_app (goodIn_of _ (by decide +kernel)) ggX11_tick_X11_ticks
set_option maxRecDepth 20000 in
theorem ggX11_run_X11_isIn : GoodIn wsX11_run wsX11_isIn := goodIn_r _ [8] (by decide +kernel) (by decide +kernel)
set_option maxRecDepth 20000 in
theorem gX11_run_X11_isIn : GoodIn wsX11_run (va_wsS RX11 317 yX11_isIn wsX11_isIn) := goodIn_app (goodIn_of _ (by decide +kernel)) ggX11_run_X11_isIn
set_option maxRecDepth 20000 in
theorem ggX11_run_X11_ticks : GoodIn wsX11_run wsX11_ticks := goodIn_r _ [12, 13, 14, 15, 16, 17, 18, 7, 19, 20, 2, 21, 3, 22, 23, 24, 25, 26, 27, 28, 29, 30, 31, 32, 33, 34, 35, 36, 37, 38, 39, 40, 41, 42, 43, 44, 45, 46, 47, 48, 49, 50, 51, 52, 53, 54, 55, 56, 57, 58, 59, 60, 61, 62, 63, 64, 65, 66, 67, 68, 69, 70, 71, 72, 73, 74, 75, 76, 77, 78, 79, 80, 81, 82, 83, 84, 85, 86, 87, 88, 89, 90, 91, 92, 93, 94, 95, 96, 97, 98, 99, 100, 101, 102, 103, 104, 105, 106, 107, 108, 109, 110, 111, 112, 113, 114, 115, 116, 117, 118, 119, 120, 121, 122, 123, 124, 125, 126, 127, 128, 129, 130, 131, 132, 133, 134, 135] (by decide +kernel) (by decide +kernel)
set_option maxRecDepth 20000 in
theorem gX11_run_X11_ticks : GoodIn wsX11_run (wsV RX11 349 RX11 yX11_ticks wsX11_ticks) := goodIn_app (goodIn_of _ (by decide +kernel)) ggX11_run_X11_ticks
set_option maxRecDepth 20000 in
theorem ggX11_comesIn_X11_ticks : GoodIn wsX11_comesIn wsX11_ticks := goodIn_r _ [7, 8, 9, 10, 11, 12, 13, 6, 14, 15, 1, 16, 2, 17, 18, 19, 20, 21, 22, 23, 24, 25, 26, 27, 28, 29, 30, 31, 32, 33, 34, 35, 36, 37, 38, 39, 40, 41, 42, 43, 44, 45, 46, 47, 48, 49, 50, 51, 52, 53, 54, 55, 56, 57, 58, 59, 60, 61, 62, 63, 64, 65, 66, 67, 68, 69, 70, 71, 72, 73, 74, 75, 76, 77, 78, 79, 80, 81, 82, 83, 84, 85, 86, 87, 88, 89, 90, 91, 92, 93, 94, 95, 96, 97, 98, 99, 100, 101, 102, 103, 104, 105, 106, 107, 108, 109, 110, 111, 112, 113, 114, 115, 116, 117, 118, 119, 120, 121, 122, 123, 124, 125, 126, 127, 128, 129, 130] (by decide +kernel) (by decide +kernel)
set_option maxRecDepth 20000 in
theorem gX11_comesIn_X11_ticks : GoodIn wsX11_comesIn (wsV RX11 349 RX11 yX11_ticks wsX11_ticks) := goodIn_app (goodIn_of _ (by decide +kernel)) ggX11_comesIn_X11_ticks
set_option maxRecDepth 20000 in
theorem ggX11_layFar_X11_isWall : GoodIn wsX11_layFar wsX11_isWall := goodIn_r _ [8, 9, 10, 11, 7, 12, 18, 19, 20, 21, 22, 23, 24, 25, 26, 27, 28, 29, 30, 31, 32, 33, 34, 35, 36, 37, 38, 39, 40, 41, 42, 43, 44, 45, 46, 47, 48, 49, 50, 51, 52, 53, 54, 55, 56, 57, 58, 59, 60, 61, 62, 63, 64, 65, 66, 67, 68, 69, 70, 71, 72, 73, 74, 75, 76, 77, 78, 79, 80, 81, 82, 83, 84, 85, 86, 87, 88, 89, 90, 91] (by decide +kernel) (by decide +kernel)
set_option maxRecDepth 20000 in
theorem gX11_layFar_X11_isWall : GoodIn wsX11_layFar (wsV RX11 327 RX11 yX11_isWall wsX11_isWall) := goodIn_app (goodIn_of _ (by decide +kernel)) ggX11_layFar_X11_isWall
set_option maxRecDepth 20000 in
theorem ggX11_layFar_X11_ahead : GoodIn wsX11_layFar wsX11_ahead := goodIn_r _ [16, 17, 18, 19, 20, 21, 22, 23, 24, 25, 26, 27, 28, 29, 30, 31, 32, 33, 34, 35, 36, 37, 38, 39, 40, 41, 42, 43, 44, 45, 46, 47, 48, 49, 50, 51, 52, 53, 54, 55, 56, 57, 58, 59, 60, 61, 62, 63, 64, 65, 66, 67, 68, 69, 70, 71, 72, 73, 74, 75, 76, 77, 78, 79, 80, 81, 82, 83, 84, 85, 86, 87, 88, 89, 90, 91] (by decide +kernel) (by decide +kernel)
set_option maxRecDepth 20000 in
theorem gX11_layFar_X11_ahead : GoodIn wsX11_layFar (wsV RX11 314 RX11 yX11_ahead wsX11_ahead) := goodIn_app (goodIn_of _ (by decide +kernel)) ggX11_layFar_X11_ahead
set_option maxRecDepth 20000 in
theorem ggX11_look_X11_isSquare : GoodIn wsX11_look wsX11_isSquare := goodIn_r _ [10, 11, 12, 13, 9, 14, 15, 16, 38, 39, 40, 41, 42, 43, 44, 45, 46, 47, 48, 49, 50, 51, 52, 53, 54, 55, 56, 57, 58, 59, 60, 61, 62, 63, 64, 65, 66, 67, 68, 69, 70, 71, 72, 73, 74, 75, 76, 77, 78, 79, 80, 81, 82, 83, 84, 85, 86, 87, 88, 89, 90, 91, 92, 93, 94, 95, 96, 97, 98, 99, 100, 101, 102, 103, 104, 105, 106, 107, 108, 109, 110, 111] (by decide +kernel) (by decide +kernel)
set_option maxRecDepth 20000 in
theorem gX11_look_X11_isSquare : GoodIn wsX11_look (wsV RX11 321 RX11 yX11_isSquare wsX11_isSquare) := goodIn_app (goodIn_of _ (by decide +kernel)) ggX11_look_X11_isSquare
set_option maxRecDepth 20000 in
theorem ggX11_look_X11_fails : GoodIn wsX11_look wsX11_fails := goodIn_r _ [20, 1, 38, 39, 40, 41, 42, 43, 44, 45, 46, 47, 48, 49, 50, 51, 52, 53, 54, 55, 56, 57, 58, 59, 60, 61, 62, 63, 64, 65, 66, 67, 68, 69, 70, 71, 72, 73, 74, 75, 76, 77, 78, 79, 80, 81, 82, 83, 84, 85, 86, 87, 88, 89, 90, 91, 92, 93, 94, 95, 96, 97, 98, 99, 100, 101, 102, 103, 104, 105, 106, 107, 108, 109, 110, 111] (by decide +kernel) (by decide +kernel)
set_option maxRecDepth 20000 in
theorem gX11_look_X11_fails : GoodIn wsX11_look (wsV RX11 352 RX11 yX11_fails wsX11_fails) := goodIn_app (goodIn_of _ (by decide +kernel)) ggX11_look_X11_fails
set_option maxRecDepth 20000 in
theorem ggX11_look_X11_layFar : GoodIn wsX11_look wsX11_layFar := goodIn_r _ [24, 5, 25, 26, 27, 28, 29, 9, 30, 4, 31, 32, 33, 34, 35, 36, 37, 15, 38, 39, 40, 41, 42, 43, 44, 45, 46, 47, 48, 49, 50, 51, 52, 53, 54, 55, 56, 57, 58, 59, 60, 61, 62, 63, 64, 65, 66, 67, 68, 69, 70, 71, 72, 73, 74, 75, 76, 77, 78, 79, 80, 81, 82, 83, 84, 85, 86, 87, 88, 89, 90, 91, 92, 93, 94, 95, 96, 97, 98, 99, 100, 101, 102, 103, 104, 105, 106, 107, 108, 109, 110, 111] (by decide +kernel) (by decide +kernel)
set_option maxRecDepth 20000 in
theorem gX11_look_X11_layFar : GoodIn wsX11_look (wsV RX11 355 RX11 yX11_layFar wsX11_layFar) := goodIn_app (goodIn_of _ (by decide +kernel)) ggX11_look_X11_layFar
set_option maxRecDepth 20000 in
theorem ggX11_keep_X11_isIn : GoodIn wsX11_keep wsX11_isIn := goodIn_r _ [6] (by decide +kernel) (by decide +kernel)
set_option maxRecDepth 20000 in
theorem gX11_keep_X11_isIn : GoodIn wsX11_keep (va_wsS RX11 317 yX11_isIn wsX11_isIn) := goodIn_app (goodIn_of _ (by decide +kernel)) ggX11_keep_X11_isIn
set_option maxRecDepth 20000 in
theorem ggX11_keep_X11_puts : GoodIn wsX11_keep wsX11_puts := goodIn_r _ [10, 11, 12, 13, 14, 15, 16, 17, 18, 19, 20, 21, 22, 23, 24, 25, 26, 27, 28, 29, 30, 31, 32, 33, 34, 35, 36, 37, 38, 39, 40, 41, 42, 43, 44, 45, 46, 47, 48, 49, 50, 51, 52, 53, 54, 55, 56, 57, 58, 59, 60, 61, 62, 63, 64, 65, 66, 67, 68, 69, 70, 71, 72, 73, 74, 75, 76, 77, 78, 79, 80, 81, 82, 83, 84, 85, 86, 87, 88, 89, 90, 91, 92, 93, 94, 95, 96] (by decide +kernel) (by decide +kernel)
set_option maxRecDepth 20000 in
theorem gX11_keep_X11_puts : GoodIn wsX11_keep (wsV RX11 358 RX11 yX11_puts wsX11_puts) := goodIn_app (goodIn_of _ (by decide +kernel)) ggX11_keep_X11_puts
set_option maxRecDepth 20000 in
theorem ggX11_restore_X11_isIn : GoodIn wsX11_restore wsX11_isIn := goodIn_r _ [9] (by decide +kernel) (by decide +kernel)
set_option maxRecDepth 20000 in
theorem gX11_restore_X11_isIn : GoodIn wsX11_restore (va_wsS RX11 317 yX11_isIn wsX11_isIn) := goodIn_app (goodIn_of _ (by decide +kernel)) ggX11_restore_X11_isIn
set_option maxRecDepth 20000 in
theorem ggX11_restore_X11_takes : GoodIn wsX11_restore wsX11_takes := goodIn_r _ [13, 14, 15, 16, 17, 18, 19, 20, 21, 3, 22, 23, 24, 25, 26, 27, 28, 29, 30, 31, 32, 33, 34, 35, 36, 37, 38, 39, 40, 41, 42, 43, 44, 45, 46, 47, 48, 49, 50, 51, 52, 53, 54, 55, 56, 57, 58, 59, 60, 61, 62, 63, 64, 65, 66, 67, 68, 69, 70, 71, 72, 73, 74, 75, 76, 77, 78, 79, 80, 81, 82, 83, 84, 85, 86, 87, 88, 89, 90, 91, 92, 93, 94, 95, 96, 97, 98] (by decide +kernel) (by decide +kernel)
set_option maxRecDepth 20000 in
theorem gX11_restore_X11_takes : GoodIn wsX11_restore (wsV RX11 361 RX11 yX11_takes wsX11_takes) := goodIn_app (goodIn_of _ (by decide +kernel)) ggX11_restore_X11_takes
set_option maxRecDepth 20000 in
theorem ggX11_setDown_X11_wipes : GoodIn wsX11_setDown wsX11_wipes := goodIn_r _ [9, 10, 11, 12, 13, 14, 8, 15, 16, 17, 18, 19, 20, 21, 22, 23, 24, 25, 26, 27, 28, 29, 30, 31, 32, 33, 34, 35, 36, 37, 38, 39, 40, 41, 42, 43, 44, 45, 46, 47, 48, 49, 50, 51, 52, 53, 54, 55, 56, 57, 58, 59, 60, 61, 62, 63, 64, 65, 66, 67, 68, 69, 70, 71, 72, 73, 74, 75, 76, 77, 78, 79, 80, 81, 82, 83, 84, 85, 86, 87, 88, 89, 90, 91] (by decide +kernel) (by decide +kernel)
set_option maxRecDepth 20000 in
theorem gX11_setDown_X11_wipes : GoodIn wsX11_setDown (wsV RX11 334 RX11 yX11_wipes wsX11_wipes) := goodIn_app (goodIn_of _ (by decide +kernel)) ggX11_setDown_X11_wipes
set_option maxRecDepth 20000 in
theorem ggX11_comes_X11_isIn : GoodIn wsX11_comes wsX11_isIn := goodIn_r _ [6] (by decide +kernel) (by decide +kernel)
set_option maxRecDepth 20000 in
theorem gX11_comes_X11_isIn : GoodIn wsX11_comes (va_wsS RX11 317 yX11_isIn wsX11_isIn) := goodIn_app (goodIn_of _ (by decide +kernel)) ggX11_comes_X11_isIn
set_option maxRecDepth 20000 in
theorem ggX11_comes_X11_puts : GoodIn wsX11_comes wsX11_puts := goodIn_r _ [10, 11, 12, 13, 14, 15, 16, 17, 18, 19, 20, 21, 22, 85, 86, 87, 88, 89, 90, 91, 92, 93, 94, 95, 96, 97, 98, 99, 100, 101, 102, 103, 104, 105, 106, 107, 108, 109, 110, 111, 112, 113, 114, 115, 116, 117, 118, 119, 120, 121, 122, 123, 124, 125, 126, 127, 128, 129, 130, 131, 132, 133, 134, 135, 136, 137, 138, 139, 140, 141, 142, 143, 144, 145, 146, 147, 148, 149, 150, 151, 152, 153, 154, 155, 156, 157, 158] (by decide +kernel) (by decide +kernel)
set_option maxRecDepth 20000 in
theorem gX11_comes_X11_puts : GoodIn wsX11_comes (wsV RX11 358 RX11 yX11_puts wsX11_puts) := goodIn_app (goodIn_of _ (by decide +kernel)) ggX11_comes_X11_puts
set_option maxRecDepth 20000 in
theorem ggX11_comes_X11_layFar : GoodIn wsX11_comes wsX11_layFar := goodIn_r _ [26, 2, 14, 27, 28, 29, 30, 5, 31, 20, 32, 33, 34, 35, 36, 37, 38, 12, 85, 86, 87, 88, 89, 90, 91, 92, 93, 94, 95, 96, 97, 98, 99, 100, 101, 102, 103, 104, 105, 106, 107, 108, 109, 110, 111, 112, 113, 114, 115, 116, 117, 118, 119, 120, 121, 122, 123, 124, 125, 126, 127, 128, 129, 130, 131, 132, 133, 134, 135, 136, 137, 138, 139, 140, 141, 142, 143, 144, 145, 146, 147, 148, 149, 150, 151, 152, 153, 154, 155, 156, 157, 158] (by decide +kernel) (by decide +kernel)
set_option maxRecDepth 20000 in
theorem gX11_comes_X11_layFar : GoodIn wsX11_comes (wsV RX11 355 RX11 yX11_layFar wsX11_layFar) := goodIn_app (goodIn_of _ (by decide +kernel)) ggX11_comes_X11_layFar
set_option maxRecDepth 20000 in
theorem ggX11_comes_X11_squares : GoodIn wsX11_comes wsX11_squares := goodIn_r _ [42, 12, 13, 85, 86, 87, 88, 89, 90, 91, 92, 93, 94, 95, 96, 97, 98, 99, 100, 101, 102, 103, 104, 105, 106, 107, 108, 109, 110, 111, 112, 113, 114, 115, 116, 117, 118, 119, 120, 121, 122, 123, 124, 125, 126, 127, 128, 129, 130, 131, 132, 133, 134, 135, 136, 137, 138, 139, 140, 141, 142, 143, 144, 145, 146, 147, 148, 149, 150, 151, 152, 153, 154, 155, 156, 157, 158] (by decide +kernel) (by decide +kernel)
set_option maxRecDepth 20000 in
theorem gX11_comes_X11_squares : GoodIn wsX11_comes (wsV RX11 289 RX11 yX11_squares wsX11_squares) := goodIn_app (goodIn_of _ (by decide +kernel)) ggX11_comes_X11_squares
set_option maxRecDepth 20000 in
theorem ggX11_comes_X11_setDown : GoodIn wsX11_comes wsX11_setDown := goodIn_r _ [46, 15, 16, 17, 18, 47, 48, 49, 5, 50, 21, 22, 39, 40, 41, 42, 12, 13, 85, 86, 87, 88, 89, 90, 91, 92, 93, 94, 95, 96, 97, 98, 99, 100, 101, 102, 103, 104, 105, 106, 107, 108, 109, 110, 111, 112, 113, 114, 115, 116, 117, 118, 119, 120, 121, 122, 123, 124, 125, 126, 127, 128, 129, 130, 131, 132, 133, 134, 135, 136, 137, 138, 139, 140, 141, 142, 143, 144, 145, 146, 147, 148, 149, 150, 151, 152, 153, 154, 155, 156, 157, 158] (by decide +kernel) (by decide +kernel)
set_option maxRecDepth 20000 in
theorem gX11_comes_X11_setDown : GoodIn wsX11_comes (wsV RX11 364 RX11 yX11_setDown wsX11_setDown) := goodIn_app (goodIn_of _ (by decide +kernel)) ggX11_comes_X11_setDown
set_option maxRecDepth 20000 in
theorem ggX11_comes_X11_comesIn : GoodIn wsX11_comes wsX11_comesIn := goodIn_r _ [54, 15, 14, 55, 56, 57, 5, 58, 59, 60, 61, 62, 63, 64, 65, 66, 16, 21, 17, 67, 18, 22, 68, 28, 29, 30, 31, 20, 32, 33, 34, 69, 70, 71, 72, 73, 74, 75, 76, 77, 78, 79, 80, 35, 36, 37, 38, 12, 47, 48, 49, 50, 39, 40, 41, 42, 13, 85, 86, 87, 88, 89, 90, 91, 92, 93, 94, 95, 96, 97, 98, 99, 100, 101, 102, 103, 104, 105, 106, 107, 108, 109, 110, 111, 112, 113, 114, 115, 116, 117, 118, 119, 120, 121, 122, 123, 124, 125, 126, 127, 128, 129, 130, 131, 132, 133, 134, 135, 136, 137, 138, 139, 140, 141, 142, 143, 144, 145, 146, 147, 148, 149, 150, 151, 152, 153, 154, 155, 156, 157, 158] (by decide +kernel) (by decide +kernel)
set_option maxRecDepth 20000 in
theorem gX11_comes_X11_comesIn : GoodIn wsX11_comes (wsV RX11 367 RX11 yX11_comesIn wsX11_comesIn) := goodIn_app (goodIn_of _ (by decide +kernel)) ggX11_comes_X11_comesIn
set_option maxRecDepth 20000 in
theorem ggX11_comes_X11_takes : GoodIn wsX11_comes wsX11_takes := goodIn_r _ [84, 11, 12, 13, 14, 15, 16, 17, 18, 19, 20, 21, 22, 85, 86, 87, 88, 89, 90, 91, 92, 93, 94, 95, 96, 97, 98, 99, 100, 101, 102, 103, 104, 105, 106, 107, 108, 109, 110, 111, 112, 113, 114, 115, 116, 117, 118, 119, 120, 121, 122, 123, 124, 125, 126, 127, 128, 129, 130, 131, 132, 133, 134, 135, 136, 137, 138, 139, 140, 141, 142, 143, 144, 145, 146, 147, 148, 149, 150, 151, 152, 153, 154, 155, 156, 157, 158] (by decide +kernel) (by decide +kernel)
set_option maxRecDepth 20000 in
theorem gX11_comes_X11_takes : GoodIn wsX11_comes (wsV RX11 361 RX11 yX11_takes wsX11_takes) := goodIn_app (goodIn_of _ (by decide +kernel)) ggX11_comes_X11_takes
set_option maxRecDepth 20000 in
theorem ggX11_second_X11_isSquare : GoodIn wsX11_second wsX11_isSquare := goodIn_r _ [11, 12, 13, 14, 10, 15, 16, 17, 83, 84, 85, 86, 87, 88, 89, 90, 91, 92, 93, 94, 95, 96, 97, 98, 99, 100, 101, 102, 103, 104, 105, 106, 107, 108, 109, 110, 111, 112, 113, 114, 115, 116, 117, 118, 119, 120, 121, 122, 123, 124, 125, 126, 127, 128, 129, 130, 131, 132, 133, 134, 135, 136, 137, 138, 139, 140, 141, 142, 143, 144, 145, 146, 147, 148, 149, 150, 151, 152, 153, 154, 155, 156] (by decide +kernel) (by decide +kernel)
set_option maxRecDepth 20000 in
theorem gX11_second_X11_isSquare : GoodIn wsX11_second (wsV RX11 321 RX11 yX11_isSquare wsX11_isSquare) := goodIn_app (goodIn_of _ (by decide +kernel)) ggX11_second_X11_isSquare
set_option maxRecDepth 20000 in
theorem ggX11_second_X11_isIn : GoodIn wsX11_second wsX11_isIn := goodIn_r _ [20] (by decide +kernel) (by decide +kernel)
set_option maxRecDepth 20000 in
theorem gX11_second_X11_isIn : GoodIn wsX11_second (va_wsS RX11 317 yX11_isIn wsX11_isIn) := goodIn_app (goodIn_of _ (by decide +kernel)) ggX11_second_X11_isIn
set_option maxRecDepth 20000 in
theorem ggX11_second_X11_puts : GoodIn wsX11_second wsX11_puts := goodIn_r _ [24, 25, 16, 17, 26, 3, 4, 5, 6, 27, 28, 29, 30, 83, 84, 85, 86, 87, 88, 89, 90, 91, 92, 93, 94, 95, 96, 97, 98, 99, 100, 101, 102, 103, 104, 105, 106, 107, 108, 109, 110, 111, 112, 113, 114, 115, 116, 117, 118, 119, 120, 121, 122, 123, 124, 125, 126, 127, 128, 129, 130, 131, 132, 133, 134, 135, 136, 137, 138, 139, 140, 141, 142, 143, 144, 145, 146, 147, 148, 149, 150, 151, 152, 153, 154, 155, 156] (by decide +kernel) (by decide +kernel)
set_option maxRecDepth 20000 in
theorem gX11_second_X11_puts : GoodIn wsX11_second (wsV RX11 358 RX11 yX11_puts wsX11_puts) := goodIn_app (goodIn_of _ (by decide +kernel)) ggX11_second_X11_puts
set_option maxRecDepth 20000 in
theorem ggX11_second_X11_setDown : GoodIn wsX11_second wsX11_setDown := goodIn_r _ [34, 3, 4, 5, 6, 35, 36, 37, 10, 38, 29, 30, 12, 13, 14, 15, 16, 17, 83, 84, 85, 86, 87, 88, 89, 90, 91, 92, 93, 94, 95, 96, 97, 98, 99, 100, 101, 102, 103, 104, 105, 106, 107, 108, 109, 110, 111, 112, 113, 114, 115, 116, 117, 118, 119, 120, 121, 122, 123, 124, 125, 126, 127, 128, 129, 130, 131, 132, 133, 134, 135, 136, 137, 138, 139, 140, 141, 142, 143, 144, 145, 146, 147, 148, 149, 150, 151, 152, 153, 154, 155, 156] (by decide +kernel) (by decide +kernel)
set_option maxRecDepth 20000 in
theorem gX11_second_X11_setDown : GoodIn wsX11_second (wsV RX11 364 RX11 yX11_setDown wsX11_setDown) := goodIn_app (goodIn_of _ (by decide +kernel)) ggX11_second_X11_setDown
set_option maxRecDepth 20000 in
theorem ggX11_second_X11_comesIn : GoodIn wsX11_second wsX11_comesIn := goodIn_r _ [42, 3, 26, 43, 44, 45, 10, 46, 47, 48, 49, 50, 51, 52, 53, 54, 4, 29, 5, 55, 6, 30, 56, 57, 58, 59, 60, 28, 61, 62, 63, 64, 65, 66, 67, 68, 69, 70, 71, 72, 73, 74, 2, 75, 76, 77, 78, 16, 35, 36, 37, 38, 12, 13, 14, 15, 17, 83, 84, 85, 86, 87, 88, 89, 90, 91, 92, 93, 94, 95, 96, 97, 98, 99, 100, 101, 102, 103, 104, 105, 106, 107, 108, 109, 110, 111, 112, 113, 114, 115, 116, 117, 118, 119, 120, 121, 122, 123, 124, 125, 126, 127, 128, 129, 130, 131, 132, 133, 134, 135, 136, 137, 138, 139, 140, 141, 142, 143, 144, 145, 146, 147, 148, 149, 150, 151, 152, 153, 154, 155, 156] (by decide +kernel) (by decide +kernel)
set_option maxRecDepth 20000 in
theorem gX11_second_X11_comesIn : GoodIn wsX11_second (wsV RX11 367 RX11 yX11_comesIn wsX11_comesIn) := goodIn_app (goodIn_of _ (by decide +kernel)) ggX11_second_X11_comesIn
set_option maxRecDepth 20000 in
theorem ggX11_second_X11_takes : GoodIn wsX11_second wsX11_takes := goodIn_r _ [82, 25, 16, 17, 26, 3, 4, 5, 6, 27, 28, 29, 30, 83, 84, 85, 86, 87, 88, 89, 90, 91, 92, 93, 94, 95, 96, 97, 98, 99, 100, 101, 102, 103, 104, 105, 106, 107, 108, 109, 110, 111, 112, 113, 114, 115, 116, 117, 118, 119, 120, 121, 122, 123, 124, 125, 126, 127, 128, 129, 130, 131, 132, 133, 134, 135, 136, 137, 138, 139, 140, 141, 142, 143, 144, 145, 146, 147, 148, 149, 150, 151, 152, 153, 154, 155, 156] (by decide +kernel) (by decide +kernel)
set_option maxRecDepth 20000 in
theorem gX11_second_X11_takes : GoodIn wsX11_second (wsV RX11 361 RX11 yX11_takes wsX11_takes) := goodIn_app (goodIn_of _ (by decide +kernel)) ggX11_second_X11_takes
set_option maxRecDepth 20000 in
theorem ggX11_isSmallFloor_X11_isIn : GoodIn wsX11_isSmallFloor wsX11_isIn := goodIn_r _ [4] (by decide +kernel) (by decide +kernel)
set_option maxRecDepth 20000 in
theorem gX11_isSmallFloor_X11_isIn : GoodIn wsX11_isSmallFloor (va_wsS RX11 317 yX11_isIn wsX11_isIn) := goodIn_app (goodIn_of _ (by decide +kernel)) ggX11_isSmallFloor_X11_isIn
set_option maxRecDepth 20000 in
theorem ggX11_wallsBy_X11_plainWalls : GoodIn wsX11_wallsBy wsX11_plainWalls := goodIn_r _ [5, 6, 7, 8, 9, 10, 4, 11, 12, 43, 44, 45, 46, 47, 48, 49, 50, 51, 52, 53, 54, 55, 56, 57, 58, 59, 60, 61, 62, 63, 64, 65, 66, 67, 68, 69, 70, 71, 72, 73, 74, 75, 76, 77, 78, 79, 80, 81, 82, 83, 84, 85, 86, 87, 88, 89, 90, 91, 92, 93, 94, 95, 96, 97, 98, 99, 100, 101, 102, 103, 104, 105, 106, 107, 108, 109, 110, 111, 112, 113, 114, 115, 116] (by decide +kernel) (by decide +kernel)
set_option maxRecDepth 20000 in
theorem gX11_wallsBy_X11_plainWalls : GoodIn wsX11_wallsBy (wsV RX11 307 RX11 yX11_plainWalls wsX11_plainWalls) := goodIn_app (goodIn_of _ (by decide +kernel)) ggX11_wallsBy_X11_plainWalls
set_option maxRecDepth 20000 in
theorem ggX11_wallsBy_X11_wallMany : GoodIn wsX11_wallsBy wsX11_wallMany := goodIn_r _ [16, 12, 7, 43, 44, 45, 46, 47, 48, 49, 50, 51, 52, 53, 54, 55, 56, 57, 58, 59, 60, 61, 62, 63, 64, 65, 66, 67, 68, 69, 70, 71, 72, 73, 74, 75, 76, 77, 78, 79, 80, 81, 82, 83, 84, 85, 86, 87, 88, 89, 90, 91, 92, 93, 94, 95, 96, 97, 98, 99, 100, 101, 102, 103, 104, 105, 106, 107, 108, 109, 110, 111, 112, 113, 114, 115, 116] (by decide +kernel) (by decide +kernel)
set_option maxRecDepth 20000 in
theorem gX11_wallsBy_X11_wallMany : GoodIn wsX11_wallsBy (wsV RX11 370 RX11 yX11_wallMany wsX11_wallMany) := goodIn_app (goodIn_of _ (by decide +kernel)) ggX11_wallsBy_X11_wallMany
set_option maxRecDepth 20000 in
theorem ggX11_wallsBy_X11_isOf : GoodIn wsX11_wallsBy wsX11_isOf := goodIn_r _ [19] (by decide +kernel) (by decide +kernel)
set_option maxRecDepth 20000 in
theorem gX11_wallsBy_X11_isOf : GoodIn wsX11_wallsBy (va_wsS RX11 310 yX11_isOf wsX11_isOf) := goodIn_app (goodIn_of _ (by decide +kernel)) ggX11_wallsBy_X11_isOf
set_option maxRecDepth 20000 in
theorem ggX11_wallsBy_X11_wallAt : GoodIn wsX11_wallsBy wsX11_wallAt := goodIn_r _ [23, 12, 7, 43, 44, 45, 46, 47, 48, 49, 50, 51, 52, 53, 54, 55, 56, 57, 58, 59, 60, 61, 62, 63, 64, 65, 66, 67, 68, 69, 70, 71, 72, 73, 74, 75, 76, 77, 78, 79, 80, 81, 82, 83, 84, 85, 86, 87, 88, 89, 90, 91, 92, 93, 94, 95, 96, 97, 98, 99, 100, 101, 102, 103, 104, 105, 106, 107, 108, 109, 110, 111, 112, 113, 114, 115, 116] (by decide +kernel) (by decide +kernel)
set_option maxRecDepth 20000 in
theorem gX11_wallsBy_X11_wallAt : GoodIn wsX11_wallsBy (wsV RX11 373 RX11 yX11_wallAt wsX11_wallAt) := goodIn_app (goodIn_of _ (by decide +kernel)) ggX11_wallsBy_X11_wallAt
set_option maxRecDepth 20000 in
theorem ggX11_wallsBy_X11_putWall : GoodIn wsX11_wallsBy wsX11_putWall := goodIn_r _ [27, 6, 28, 29, 30, 4, 31, 7, 43, 44, 45, 46, 47, 48, 49, 50, 51, 52, 53, 54, 55, 56, 57, 58, 59, 60, 61, 62, 63, 64, 65, 66, 67, 68, 69, 70, 71, 72, 73, 74, 75, 76, 77, 78, 79, 80, 81, 82, 83, 84, 85, 86, 87, 88, 89, 90, 91, 92, 93, 94, 95, 96, 97, 98, 99, 100, 101, 102, 103, 104, 105, 106, 107, 108, 109, 110, 111, 112, 113, 114, 115, 116] (by decide +kernel) (by decide +kernel)
set_option maxRecDepth 20000 in
theorem gX11_wallsBy_X11_putWall : GoodIn wsX11_wallsBy (wsV RX11 330 RX11 yX11_putWall wsX11_putWall) := goodIn_app (goodIn_of _ (by decide +kernel)) ggX11_wallsBy_X11_putWall
set_option maxRecDepth 20000 in
theorem ggX11_wallsBy_X11_layFar : GoodIn wsX11_wallsBy wsX11_layFar := goodIn_r _ [35, 36, 37, 38, 39, 40, 41, 4, 42, 6, 17, 18, 19, 28, 29, 30, 31, 7, 43, 44, 45, 46, 47, 48, 49, 50, 51, 52, 53, 54, 55, 56, 57, 58, 59, 60, 61, 62, 63, 64, 65, 66, 67, 68, 69, 70, 71, 72, 73, 74, 75, 76, 77, 78, 79, 80, 81, 82, 83, 84, 85, 86, 87, 88, 89, 90, 91, 92, 93, 94, 95, 96, 97, 98, 99, 100, 101, 102, 103, 104, 105, 106, 107, 108, 109, 110, 111, 112, 113, 114, 115, 116] (by decide +kernel) (by decide +kernel)
set_option maxRecDepth 20000 in
theorem gX11_wallsBy_X11_layFar : GoodIn wsX11_wallsBy (wsV RX11 355 RX11 yX11_layFar wsX11_layFar) := goodIn_app (goodIn_of _ (by decide +kernel)) ggX11_wallsBy_X11_layFar
set_option maxRecDepth 20000 in
theorem ggX11_laySmall_X11_puts : GoodIn wsX11_laySmall wsX11_puts := goodIn_r _ [10, 11, 12, 13, 14, 15, 16, 17, 18, 19, 20, 21, 22, 115, 116, 117, 118, 119, 120, 121, 122, 123, 124, 125, 126, 127, 128, 129, 130, 131, 132, 133, 134, 135, 136, 137, 138, 139, 140, 141, 142, 143, 144, 145, 146, 147, 148, 149, 150, 151, 152, 153, 154, 155, 156, 157, 158, 159, 160, 161, 162, 163, 164, 165, 166, 167, 168, 169, 170, 171, 172, 173, 174, 175, 176, 177, 178, 179, 180, 181, 182, 183, 184, 185, 186, 187, 188] (by decide +kernel) (by decide +kernel)
set_option maxRecDepth 20000 in
theorem gX11_laySmall_X11_puts : GoodIn wsX11_laySmall (wsV RX11 358 RX11 yX11_puts wsX11_puts) := goodIn_app (goodIn_of _ (by decide +kernel)) ggX11_laySmall_X11_puts
set_option maxRecDepth 20000 in
theorem ggX11_laySmall_X11_small : GoodIn wsX11_laySmall wsX11_small := goodIn_r _ [26, 12, 13, 14, 115, 116, 117, 118, 119, 120, 121, 122, 123, 124, 125, 126, 127, 128, 129, 130, 131, 132, 133, 134, 135, 136, 137, 138, 139, 140, 141, 142, 143, 144, 145, 146, 147, 148, 149, 150, 151, 152, 153, 154, 155, 156, 157, 158, 159, 160, 161, 162, 163, 164, 165, 166, 167, 168, 169, 170, 171, 172, 173, 174, 175, 176, 177, 178, 179, 180, 181, 182, 183, 184, 185, 186, 187, 188] (by decide +kernel) (by decide +kernel)
set_option maxRecDepth 20000 in
theorem gX11_laySmall_X11_small : GoodIn wsX11_laySmall (wsV RX11 376 RX11 yX11_small wsX11_small) := goodIn_app (goodIn_of _ (by decide +kernel)) ggX11_laySmall_X11_small
set_option maxRecDepth 20000 in
theorem ggX11_laySmall_X11_wallMany : GoodIn wsX11_laySmall wsX11_wallMany := goodIn_r _ [30, 13, 12, 115, 116, 117, 118, 119, 120, 121, 122, 123, 124, 125, 126, 127, 128, 129, 130, 131, 132, 133, 134, 135, 136, 137, 138, 139, 140, 141, 142, 143, 144, 145, 146, 147, 148, 149, 150, 151, 152, 153, 154, 155, 156, 157, 158, 159, 160, 161, 162, 163, 164, 165, 166, 167, 168, 169, 170, 171, 172, 173, 174, 175, 176, 177, 178, 179, 180, 181, 182, 183, 184, 185, 186, 187, 188] (by decide +kernel) (by decide +kernel)
set_option maxRecDepth 20000 in
theorem gX11_laySmall_X11_wallMany : GoodIn wsX11_laySmall (wsV RX11 370 RX11 yX11_wallMany wsX11_wallMany) := goodIn_app (goodIn_of _ (by decide +kernel)) ggX11_laySmall_X11_wallMany
set_option maxRecDepth 20000 in
theorem ggX11_laySmall_X11_wallsBy : GoodIn wsX11_laySmall wsX11_wallsBy := goodIn_r _ [34, 35, 36, 37, 9, 38, 20, 12, 39, 40, 41, 42, 13, 27, 28, 29, 30, 43, 44, 45, 46, 47, 48, 49, 50, 51, 52, 53, 54, 55, 56, 57, 58, 59, 60, 61, 5, 14, 62, 63, 64, 65, 66, 115, 116, 117, 118, 119, 120, 121, 122, 123, 124, 125, 126, 127, 128, 129, 130, 131, 132, 133, 134, 135, 136, 137, 138, 139, 140, 141, 142, 143, 144, 145, 146, 147, 148, 149, 150, 151, 152, 153, 154, 155, 156, 157, 158, 159, 160, 161, 162, 163, 164, 165, 166, 167, 168, 169, 170, 171, 172, 173, 174, 175, 176, 177, 178, 179, 180, 181, 182, 183, 184, 185, 186, 187, 188] (by decide +kernel) (by decide +kernel)
set_option maxRecDepth 20000 in
theorem gX11_laySmall_X11_wallsBy : GoodIn wsX11_laySmall (wsV RX11 379 RX11 yX11_wallsBy wsX11_wallsBy) := goodIn_app (goodIn_of _ (by decide +kernel)) ggX11_laySmall_X11_wallsBy
set_option maxRecDepth 20000 in
theorem ggX11_laySmall_X11_squares : GoodIn wsX11_laySmall wsX11_squares := goodIn_r _ [42, 12, 13, 115, 116, 117, 118, 119, 120, 121, 122, 123, 124, 125, 126, 127, 128, 129, 130, 131, 132, 133, 134, 135, 136, 137, 138, 139, 140, 141, 142, 143, 144, 145, 146, 147, 148, 149, 150, 151, 152, 153, 154, 155, 156, 157, 158, 159, 160, 161, 162, 163, 164, 165, 166, 167, 168, 169, 170, 171, 172, 173, 174, 175, 176, 177, 178, 179, 180, 181, 182, 183, 184, 185, 186, 187, 188] (by decide +kernel) (by decide +kernel)
set_option maxRecDepth 20000 in
theorem gX11_laySmall_X11_squares : GoodIn wsX11_laySmall (wsV RX11 289 RX11 yX11_squares wsX11_squares) := goodIn_app (goodIn_of _ (by decide +kernel)) ggX11_laySmall_X11_squares
set_option maxRecDepth 20000 in
theorem ggX11_laySmall_X11_laySmallRun : GoodIn wsX11_laySmall wsX11_laySmallRun := goodIn_r _ [70, 2, 3, 4, 71, 72, 73, 74, 75, 9, 76, 15, 16, 17, 18, 77, 78, 79, 80, 21, 22, 39, 40, 41, 42, 12, 13, 81, 82, 83, 84, 14, 85, 86, 87, 88, 89, 90, 91, 92, 93, 94, 95, 96, 97, 98, 63, 64, 65, 66, 20, 43, 44, 45, 99, 100, 101, 102, 103, 104, 105, 106, 107, 108, 109, 110, 54, 55, 56, 57, 115, 116, 117, 118, 119, 120, 121, 122, 123, 124, 125, 126, 127, 128, 129, 130, 131, 132, 133, 134, 135, 136, 137, 138, 139, 140, 141, 142, 143, 144, 145, 146, 147, 148, 149, 150, 151, 152, 153, 154, 155, 156, 157, 158, 159, 160, 161, 162, 163, 164, 165, 166, 167, 168, 169, 170, 171, 172, 173, 174, 175, 176, 177, 178, 179, 180, 181, 182, 183, 184, 185, 186, 187, 188] (by decide +kernel) (by decide +kernel)
set_option maxRecDepth 20000 in
theorem gX11_laySmall_X11_laySmallRun : GoodIn wsX11_laySmall (wsV RX11 382 RX11 yX11_laySmallRun wsX11_laySmallRun) := goodIn_app (goodIn_of _ (by decide +kernel)) ggX11_laySmall_X11_laySmallRun
set_option maxRecDepth 20000 in
theorem ggX11_laySmall_X11_takes : GoodIn wsX11_laySmall wsX11_takes := goodIn_r _ [114, 11, 12, 13, 14, 15, 16, 17, 18, 19, 20, 21, 22, 115, 116, 117, 118, 119, 120, 121, 122, 123, 124, 125, 126, 127, 128, 129, 130, 131, 132, 133, 134, 135, 136, 137, 138, 139, 140, 141, 142, 143, 144, 145, 146, 147, 148, 149, 150, 151, 152, 153, 154, 155, 156, 157, 158, 159, 160, 161, 162, 163, 164, 165, 166, 167, 168, 169, 170, 171, 172, 173, 174, 175, 176, 177, 178, 179, 180, 181, 182, 183, 184, 185, 186, 187, 188] (by decide +kernel) (by decide +kernel)
set_option maxRecDepth 20000 in
theorem gX11_laySmall_X11_takes : GoodIn wsX11_laySmall (wsV RX11 361 RX11 yX11_takes wsX11_takes) := goodIn_app (goodIn_of _ (by decide +kernel)) ggX11_laySmall_X11_takes
set_option maxRecDepth 20000 in
theorem ggX11_laySmallRun_X11_setDown : GoodIn wsX11_laySmallRun wsX11_setDown := goodIn_r _ [10, 11, 12, 13, 14, 15, 16, 17, 9, 18, 19, 20, 21, 22, 23, 24, 25, 26, 70, 71, 72, 73, 74, 75, 76, 77, 78, 79, 80, 81, 82, 83, 84, 85, 86, 87, 88, 89, 90, 91, 92, 93, 94, 95, 96, 97, 98, 99, 100, 101, 102, 103, 104, 105, 106, 107, 108, 109, 110, 111, 112, 113, 114, 115, 116, 117, 118, 119, 120, 121, 122, 123, 124, 125, 126, 127, 128, 129, 130, 131, 132, 133, 134, 135, 136, 137, 138, 139, 140, 141, 142, 143] (by decide +kernel) (by decide +kernel)
set_option maxRecDepth 20000 in
theorem gX11_laySmallRun_X11_setDown : GoodIn wsX11_laySmallRun (wsV RX11 364 RX11 yX11_setDown wsX11_setDown) := goodIn_app (goodIn_of _ (by decide +kernel)) ggX11_laySmallRun_X11_setDown
set_option maxRecDepth 20000 in
theorem ggX11_laySmallRun_X11_comesIn : GoodIn wsX11_laySmallRun wsX11_comesIn := goodIn_r _ [30, 11, 31, 32, 33, 34, 9, 35, 36, 37, 38, 39, 40, 41, 42, 43, 12, 19, 13, 44, 14, 20, 45, 46, 47, 48, 49, 50, 51, 52, 53, 54, 55, 56, 57, 58, 59, 60, 61, 62, 63, 64, 65, 66, 67, 68, 69, 25, 15, 16, 17, 18, 21, 22, 23, 24, 26, 70, 71, 72, 73, 74, 75, 76, 77, 78, 79, 80, 81, 82, 83, 84, 85, 86, 87, 88, 89, 90, 91, 92, 93, 94, 95, 96, 97, 98, 99, 100, 101, 102, 103, 104, 105, 106, 107, 108, 109, 110, 111, 112, 113, 114, 115, 116, 117, 118, 119, 120, 121, 122, 123, 124, 125, 126, 127, 128, 129, 130, 131, 132, 133, 134, 135, 136, 137, 138, 139, 140, 141, 142, 143] (by decide +kernel) (by decide +kernel)
set_option maxRecDepth 20000 in
theorem gX11_laySmallRun_X11_comesIn : GoodIn wsX11_laySmallRun (wsV RX11 367 RX11 yX11_comesIn wsX11_comesIn) := goodIn_app (goodIn_of _ (by decide +kernel)) ggX11_laySmallRun_X11_comesIn
set_option maxRecDepth 20000 in
theorem ggX11_held_X11_isSmallFloor : GoodIn wsX11_held wsX11_isSmallFloor := goodIn_r _ [7, 8, 9, 6, 10] (by decide +kernel) (by decide +kernel)
set_option maxRecDepth 20000 in
theorem gX11_held_X11_isSmallFloor : GoodIn wsX11_held (va_wsS RX11 385 yX11_isSmallFloor wsX11_isSmallFloor) := goodIn_app (goodIn_of _ (by decide +kernel)) ggX11_held_X11_isSmallFloor
set_option maxRecDepth 20000 in
theorem ggX11_held_X11_isIn : GoodIn wsX11_held wsX11_isIn := goodIn_r _ [10] (by decide +kernel) (by decide +kernel)
set_option maxRecDepth 20000 in
theorem gX11_held_X11_isIn : GoodIn wsX11_held (va_wsS RX11 317 yX11_isIn wsX11_isIn) := goodIn_app (goodIn_of _ (by decide +kernel)) ggX11_held_X11_isIn
set_option maxRecDepth 20000 in
theorem ggX11_held_X11_laySmall : GoodIn wsX11_held wsX11_laySmall := goodIn_r _ [14, 15, 2, 3, 16, 17, 18, 19, 20, 6, 21, 22, 23, 24, 25, 26, 27, 28, 29, 30, 31, 32, 33, 34, 35, 36, 37, 38, 39, 40, 41, 42, 43, 44, 45, 46, 47, 48, 49, 50, 51, 52, 53, 54, 55, 56, 57, 58, 59, 60, 61, 62, 63, 64, 65, 66, 67, 68, 69, 70, 71, 72, 73, 74, 75, 76, 77, 78, 79, 80, 81, 82, 83, 84, 85, 86, 87, 88, 89, 90, 91, 92, 93, 94, 95, 96, 97, 98, 99, 100, 101, 102, 103, 104, 105, 106, 107, 108, 109, 110, 111, 112, 113, 114, 115, 116, 117, 118, 119, 120, 121, 122, 123, 124, 125, 126, 127, 128, 129, 130, 131, 132, 133, 134, 135, 136, 137, 138, 139, 140, 141, 142, 143, 144, 145, 146, 147, 148, 149, 150, 151, 152, 153, 154, 155, 156, 157, 158, 159, 160, 161, 162, 163, 164, 165, 166, 167, 168, 169, 170, 171, 172, 173, 174, 175, 176, 177, 178, 179, 180, 181, 182, 183, 184, 185, 186, 187, 188, 189, 190, 191, 192, 193, 194, 195, 196, 197, 198, 199] (by decide +kernel) (by decide +kernel)
set_option maxRecDepth 20000 in
theorem gX11_held_X11_laySmall : GoodIn wsX11_held (wsV RX11 388 RX11 yX11_laySmall wsX11_laySmall) := goodIn_app (goodIn_of _ (by decide +kernel)) ggX11_held_X11_laySmall
set_option maxRecDepth 20000 in
theorem ggX11_longest_X11_isSmallFloor : GoodIn wsX11_longest wsX11_isSmallFloor := goodIn_r _ [8, 9, 10, 7, 11] (by decide +kernel) (by decide +kernel)
set_option maxRecDepth 20000 in
theorem gX11_longest_X11_isSmallFloor : GoodIn wsX11_longest (va_wsS RX11 385 yX11_isSmallFloor wsX11_isSmallFloor) := goodIn_app (goodIn_of _ (by decide +kernel)) ggX11_longest_X11_isSmallFloor
set_option maxRecDepth 20000 in
theorem ggX11_longest_X11_isIn : GoodIn wsX11_longest wsX11_isIn := goodIn_r _ [11] (by decide +kernel) (by decide +kernel)
set_option maxRecDepth 20000 in
theorem gX11_longest_X11_isIn : GoodIn wsX11_longest (va_wsS RX11 317 yX11_isIn wsX11_isIn) := goodIn_app (goodIn_of _ (by decide +kernel)) ggX11_longest_X11_isIn
set_option maxRecDepth 20000 in
theorem ggX11_longest_X11_laySmall : GoodIn wsX11_longest wsX11_laySmall := goodIn_r _ [15, 16, 17, 18, 2, 19, 20, 21, 22, 7, 23, 24, 25, 26, 27, 28, 29, 30, 31, 32, 33, 34, 35, 36, 37, 38, 39, 40, 41, 42, 43, 44, 45, 46, 47, 48, 49, 50, 51, 52, 53, 54, 55, 56, 57, 58, 59, 60, 61, 62, 63, 64, 65, 66, 67, 68, 69, 70, 71, 72, 73, 74, 75, 76, 77, 78, 79, 80, 81, 82, 83, 3, 4, 84, 85, 86, 87, 88, 89, 90, 91, 92, 93, 94, 95, 96, 97, 98, 99, 100, 101, 102, 103, 104, 105, 106, 107, 108, 109, 110, 111, 112, 113, 114, 115, 116, 117, 118, 119, 120, 121, 122, 123, 124, 125, 126, 127, 128, 129, 130, 131, 132, 133, 134, 135, 136, 137, 138, 139, 140, 141, 142, 143, 144, 145, 146, 147, 148, 149, 150, 151, 152, 153, 154, 155, 156, 157, 158, 159, 160, 161, 162, 163, 164, 165, 166, 167, 168, 169, 170, 171, 172, 173, 174, 175, 176, 177, 178, 179, 180, 181, 182, 183, 184, 185, 186, 187, 188, 189, 190, 191, 192, 193, 194, 195, 196, 197, 198, 199] (by decide +kernel) (by decide +kernel)
set_option maxRecDepth 20000 in
theorem gX11_longest_X11_laySmall : GoodIn wsX11_longest (wsV RX11 388 RX11 yX11_laySmall wsX11_laySmall) := goodIn_app (goodIn_of _ (by decide +kernel)) ggX11_longest_X11_laySmall
set_option maxRecDepth 20000 in
theorem ggX11_isUnlike_X11_setDown : GoodIn wsX11_isUnlike wsX11_setDown := goodIn_r _ [10, 1, 4, 11, 12, 13, 14, 15, 9, 16, 17, 18, 19, 20, 21, 22, 23, 24, 62, 63, 64, 65, 66, 67, 68, 69, 70, 71, 72, 73, 74, 75, 76, 77, 78, 79, 80, 81, 82, 83, 84, 85, 86, 87, 88, 89, 90, 91, 92, 93, 94, 95, 96, 97, 98, 99, 100, 101, 102, 103, 104, 105, 106, 107, 108, 109, 110, 111, 112, 113, 114, 115, 116, 117, 118, 119, 120, 121, 122, 123, 124, 125, 126, 127, 128, 129, 130, 131, 132, 133, 134, 135] (by decide +kernel) (by decide +kernel)
set_option maxRecDepth 20000 in
theorem gX11_isUnlike_X11_setDown : GoodIn wsX11_isUnlike (wsV RX11 364 RX11 yX11_setDown wsX11_setDown) := goodIn_app (goodIn_of _ (by decide +kernel)) ggX11_isUnlike_X11_setDown
set_option maxRecDepth 20000 in
theorem ggX11_isUnlike_X11_ticks : GoodIn wsX11_isUnlike wsX11_ticks := goodIn_r _ [28, 29, 30, 31, 32, 33, 34, 9, 35, 36, 1, 4, 2, 17, 11, 37, 12, 18, 38, 39, 40, 41, 42, 43, 44, 45, 46, 47, 48, 49, 50, 51, 52, 5, 53, 54, 55, 56, 57, 58, 59, 60, 61, 23, 13, 14, 15, 16, 19, 20, 21, 22, 24, 62, 63, 64, 65, 66, 67, 68, 69, 70, 71, 72, 73, 74, 75, 76, 77, 78, 79, 80, 81, 82, 83, 84, 85, 86, 87, 88, 89, 90, 91, 92, 93, 94, 95, 96, 97, 98, 99, 100, 101, 102, 103, 104, 105, 106, 107, 108, 109, 110, 111, 112, 113, 114, 115, 116, 117, 118, 119, 120, 121, 122, 123, 124, 125, 126, 127, 128, 129, 130, 131, 132, 133, 134, 135] (by decide +kernel) (by decide +kernel)
set_option maxRecDepth 20000 in
theorem gX11_isUnlike_X11_ticks : GoodIn wsX11_isUnlike (wsV RX11 349 RX11 yX11_ticks wsX11_ticks) := goodIn_app (goodIn_of _ (by decide +kernel)) ggX11_isUnlike_X11_ticks
set_option maxRecDepth 20000 in
theorem ggX11_needs_X11_isIn : GoodIn wsX11_needs wsX11_isIn := goodIn_r _ [6] (by decide +kernel) (by decide +kernel)
set_option maxRecDepth 20000 in
theorem gX11_needs_X11_isIn : GoodIn wsX11_needs (va_wsS RX11 317 yX11_isIn wsX11_isIn) := goodIn_app (goodIn_of _ (by decide +kernel)) ggX11_needs_X11_isIn
set_option maxRecDepth 20000 in
theorem ggX11_needs_X11_isSmallFloor : GoodIn wsX11_needs wsX11_isSmallFloor := goodIn_r _ [9, 3, 4, 5, 6] (by decide +kernel) (by decide +kernel)
set_option maxRecDepth 20000 in
theorem gX11_needs_X11_isSmallFloor : GoodIn wsX11_needs (va_wsS RX11 385 yX11_isSmallFloor wsX11_isSmallFloor) := goodIn_app (goodIn_of _ (by decide +kernel)) ggX11_needs_X11_isSmallFloor
set_option maxRecDepth 20000 in
theorem ggX11_needs_X11_puts : GoodIn wsX11_needs wsX11_puts := goodIn_r _ [13, 14, 15, 16, 17, 18, 19, 20, 21, 22, 23, 24, 25, 113, 114, 115, 116, 117, 118, 119, 120, 121, 122, 123, 124, 125, 126, 127, 128, 129, 130, 131, 132, 133, 134, 135, 136, 137, 138, 139, 140, 141, 142, 143, 144, 145, 146, 147, 148, 149, 150, 151, 152, 153, 154, 155, 156, 157, 158, 159, 160, 161, 162, 163, 164, 165, 166, 167, 168, 169, 170, 171, 172, 173, 174, 175, 176, 177, 178, 179, 180, 181, 182, 183, 184, 185, 186] (by decide +kernel) (by decide +kernel)
set_option maxRecDepth 20000 in
theorem gX11_needs_X11_puts : GoodIn wsX11_needs (wsV RX11 358 RX11 yX11_puts wsX11_puts) := goodIn_app (goodIn_of _ (by decide +kernel)) ggX11_needs_X11_puts
set_option maxRecDepth 20000 in
theorem ggX11_needs_X11_small : GoodIn wsX11_needs wsX11_small := goodIn_r _ [29, 15, 16, 17, 113, 114, 115, 116, 117, 118, 119, 120, 121, 122, 123, 124, 125, 126, 127, 128, 129, 130, 131, 132, 133, 134, 135, 136, 137, 138, 139, 140, 141, 142, 143, 144, 145, 146, 147, 148, 149, 150, 151, 152, 153, 154, 155, 156, 157, 158, 159, 160, 161, 162, 163, 164, 165, 166, 167, 168, 169, 170, 171, 172, 173, 174, 175, 176, 177, 178, 179, 180, 181, 182, 183, 184, 185, 186] (by decide +kernel) (by decide +kernel)
set_option maxRecDepth 20000 in
theorem gX11_needs_X11_small : GoodIn wsX11_needs (wsV RX11 376 RX11 yX11_small wsX11_small) := goodIn_app (goodIn_of _ (by decide +kernel)) ggX11_needs_X11_small
set_option maxRecDepth 20000 in
theorem ggX11_needs_X11_wallMany : GoodIn wsX11_needs wsX11_wallMany := goodIn_r _ [33, 16, 15, 113, 114, 115, 116, 117, 118, 119, 120, 121, 122, 123, 124, 125, 126, 127, 128, 129, 130, 131, 132, 133, 134, 135, 136, 137, 138, 139, 140, 141, 142, 143, 144, 145, 146, 147, 148, 149, 150, 151, 152, 153, 154, 155, 156, 157, 158, 159, 160, 161, 162, 163, 164, 165, 166, 167, 168, 169, 170, 171, 172, 173, 174, 175, 176, 177, 178, 179, 180, 181, 182, 183, 184, 185, 186] (by decide +kernel) (by decide +kernel)
set_option maxRecDepth 20000 in
theorem gX11_needs_X11_wallMany : GoodIn wsX11_needs (wsV RX11 370 RX11 yX11_wallMany wsX11_wallMany) := goodIn_app (goodIn_of _ (by decide +kernel)) ggX11_needs_X11_wallMany
set_option maxRecDepth 20000 in
theorem ggX11_needs_X11_wallsBy : GoodIn wsX11_needs wsX11_wallsBy := goodIn_r _ [37, 38, 39, 40, 5, 41, 23, 15, 42, 43, 44, 45, 16, 30, 31, 32, 33, 46, 47, 48, 49, 50, 51, 52, 53, 54, 55, 56, 57, 58, 59, 60, 61, 62, 63, 64, 2, 17, 65, 66, 67, 68, 69, 113, 114, 115, 116, 117, 118, 119, 120, 121, 122, 123, 124, 125, 126, 127, 128, 129, 130, 131, 132, 133, 134, 135, 136, 137, 138, 139, 140, 141, 142, 143, 144, 145, 146, 147, 148, 149, 150, 151, 152, 153, 154, 155, 156, 157, 158, 159, 160, 161, 162, 163, 164, 165, 166, 167, 168, 169, 170, 171, 172, 173, 174, 175, 176, 177, 178, 179, 180, 181, 182, 183, 184, 185, 186] (by decide +kernel) (by decide +kernel)
set_option maxRecDepth 20000 in
theorem gX11_needs_X11_wallsBy : GoodIn wsX11_needs (wsV RX11 379 RX11 yX11_wallsBy wsX11_wallsBy) := goodIn_app (goodIn_of _ (by decide +kernel)) ggX11_needs_X11_wallsBy
set_option maxRecDepth 20000 in
theorem ggX11_needs_X11_squares : GoodIn wsX11_needs wsX11_squares := goodIn_r _ [45, 15, 16, 113, 114, 115, 116, 117, 118, 119, 120, 121, 122, 123, 124, 125, 126, 127, 128, 129, 130, 131, 132, 133, 134, 135, 136, 137, 138, 139, 140, 141, 142, 143, 144, 145, 146, 147, 148, 149, 150, 151, 152, 153, 154, 155, 156, 157, 158, 159, 160, 161, 162, 163, 164, 165, 166, 167, 168, 169, 170, 171, 172, 173, 174, 175, 176, 177, 178, 179, 180, 181, 182, 183, 184, 185, 186] (by decide +kernel) (by decide +kernel)
set_option maxRecDepth 20000 in
theorem gX11_needs_X11_squares : GoodIn wsX11_needs (wsV RX11 289 RX11 yX11_squares wsX11_squares) := goodIn_app (goodIn_of _ (by decide +kernel)) ggX11_needs_X11_squares
set_option maxRecDepth 20000 in
theorem ggX11_needs_X11_isUnlike : GoodIn wsX11_needs wsX11_isUnlike := goodIn_r _ [73, 18, 17, 74, 19, 75, 76, 77, 78, 5, 79, 20, 21, 80, 81, 82, 83, 24, 25, 42, 43, 44, 45, 15, 16, 84, 85, 86, 87, 88, 89, 90, 91, 92, 93, 94, 95, 96, 97, 66, 67, 68, 69, 23, 46, 47, 48, 98, 99, 100, 101, 102, 103, 104, 105, 106, 107, 108, 57, 58, 59, 60, 113, 114, 115, 116, 117, 118, 119, 120, 121, 122, 123, 124, 125, 126, 127, 128, 129, 130, 131, 132, 133, 134, 135, 136, 137, 138, 139, 140, 141, 142, 143, 144, 145, 146, 147, 148, 149, 150, 151, 152, 153, 154, 155, 156, 157, 158, 159, 160, 161, 162, 163, 164, 165, 166, 167, 168, 169, 170, 171, 172, 173, 174, 175, 176, 177, 178, 179, 180, 181, 182, 183, 184, 185, 186] (by decide +kernel) (by decide +kernel)
set_option maxRecDepth 20000 in
theorem gX11_needs_X11_isUnlike : GoodIn wsX11_needs (wsV RX11 391 RX11 yX11_isUnlike wsX11_isUnlike) := goodIn_app (goodIn_of _ (by decide +kernel)) ggX11_needs_X11_isUnlike
set_option maxRecDepth 20000 in
theorem ggX11_needs_X11_takes : GoodIn wsX11_needs wsX11_takes := goodIn_r _ [112, 14, 15, 16, 17, 18, 19, 20, 21, 22, 23, 24, 25, 113, 114, 115, 116, 117, 118, 119, 120, 121, 122, 123, 124, 125, 126, 127, 128, 129, 130, 131, 132, 133, 134, 135, 136, 137, 138, 139, 140, 141, 142, 143, 144, 145, 146, 147, 148, 149, 150, 151, 152, 153, 154, 155, 156, 157, 158, 159, 160, 161, 162, 163, 164, 165, 166, 167, 168, 169, 170, 171, 172, 173, 174, 175, 176, 177, 178, 179, 180, 181, 182, 183, 184, 185, 186] (by decide +kernel) (by decide +kernel)
set_option maxRecDepth 20000 in
theorem gX11_needs_X11_takes : GoodIn wsX11_needs (wsV RX11 361 RX11 yX11_takes wsX11_takes) := goodIn_app (goodIn_of _ (by decide +kernel)) ggX11_needs_X11_takes
set_option maxRecDepth 20000 in
theorem ggX11_knows_X11_isSquare : GoodIn wsX11_knows wsX11_isSquare := goodIn_r _ [8, 9, 10, 11, 7, 12, 13, 14, 27, 28, 29, 30, 31, 32, 33, 34, 35, 36, 37, 38, 39, 40, 41, 42, 43, 44, 45, 46, 47, 48, 49, 50, 51, 52, 53, 54, 55, 56, 57, 58, 59, 60, 61, 62, 63, 64, 65, 66, 67, 68, 69, 70, 71, 72, 73, 74, 75, 76, 77, 78, 79, 80, 81, 82, 83, 84, 85, 86, 87, 88, 89, 90, 91, 92, 93, 94, 95, 96, 97, 98, 99, 100] (by decide +kernel) (by decide +kernel)
set_option maxRecDepth 20000 in
theorem gX11_knows_X11_isSquare : GoodIn wsX11_knows (wsV RX11 321 RX11 yX11_isSquare wsX11_isSquare) := goodIn_app (goodIn_of _ (by decide +kernel)) ggX11_knows_X11_isSquare
set_option maxRecDepth 20000 in
theorem ggX11_knows_X11_isWall : GoodIn wsX11_knows wsX11_isWall := goodIn_r _ [18, 19, 20, 21, 7, 22, 27, 28, 29, 30, 31, 32, 33, 34, 35, 36, 37, 38, 39, 40, 41, 42, 43, 44, 45, 46, 47, 48, 49, 50, 51, 52, 53, 54, 55, 56, 57, 58, 59, 60, 61, 62, 63, 64, 65, 66, 67, 68, 69, 70, 71, 72, 73, 74, 75, 76, 77, 78, 79, 80, 81, 82, 83, 84, 85, 86, 87, 88, 89, 90, 91, 92, 93, 94, 95, 96, 97, 98, 99, 100] (by decide +kernel) (by decide +kernel)
set_option maxRecDepth 20000 in
theorem gX11_knows_X11_isWall : GoodIn wsX11_knows (wsV RX11 327 RX11 yX11_isWall wsX11_isWall) := goodIn_app (goodIn_of _ (by decide +kernel)) ggX11_knows_X11_isWall
set_option maxRecDepth 20000 in
theorem ggX11_knows_X11_ahead : GoodIn wsX11_knows wsX11_ahead := goodIn_r _ [26, 13, 27, 28, 29, 30, 31, 32, 33, 34, 35, 36, 37, 38, 39, 40, 41, 42, 43, 44, 45, 46, 47, 48, 49, 50, 51, 52, 53, 54, 55, 56, 57, 58, 59, 60, 61, 62, 63, 64, 65, 66, 67, 68, 69, 70, 71, 72, 73, 74, 75, 76, 77, 78, 79, 80, 81, 82, 83, 84, 85, 86, 87, 88, 89, 90, 91, 92, 93, 94, 95, 96, 97, 98, 99, 100] (by decide +kernel) (by decide +kernel)
set_option maxRecDepth 20000 in
theorem gX11_knows_X11_ahead : GoodIn wsX11_knows (wsV RX11 314 RX11 yX11_ahead wsX11_ahead) := goodIn_app (goodIn_of _ (by decide +kernel)) ggX11_knows_X11_ahead
set_option maxRecDepth 20000 in
theorem ggX11_felt_X11_isWall : GoodIn wsX11_felt wsX11_isWall := goodIn_r _ [9, 10, 11, 12, 8, 13, 14, 15, 16, 17, 18, 19, 20, 21, 22, 23, 24, 25, 26, 27, 28, 29, 30, 31, 32, 33, 34, 35, 36, 37, 38, 39, 40, 41, 42, 43, 44, 45, 46, 47, 48, 49, 50, 51, 52, 53, 54, 55, 56, 57, 58, 59, 60, 61, 62, 63, 64, 65, 66, 67, 68, 69, 70, 71, 72, 73, 74, 75, 76, 77, 78, 79, 80, 81, 82, 83, 84, 85, 86, 87] (by decide +kernel) (by decide +kernel)
set_option maxRecDepth 20000 in
theorem gX11_felt_X11_isWall : GoodIn wsX11_felt (wsV RX11 327 RX11 yX11_isWall wsX11_isWall) := goodIn_app (goodIn_of _ (by decide +kernel)) ggX11_felt_X11_isWall
set_option maxRecDepth 20000 in
theorem ggX11_works_X11_isOf : GoodIn wsX11_works wsX11_isOf := goodIn_r _ [10] (by decide +kernel) (by decide +kernel)
set_option maxRecDepth 20000 in
theorem gX11_works_X11_isOf : GoodIn wsX11_works (va_wsS RX11 310 yX11_isOf wsX11_isOf) := goodIn_app (goodIn_of _ (by decide +kernel)) ggX11_works_X11_isOf
set_option maxRecDepth 20000 in
theorem ggX11_pulls_X11_felt : GoodIn wsX11_pulls wsX11_felt := goodIn_r _ [12, 6, 7, 13, 5, 14, 15, 16, 11, 17, 18, 19, 20, 21, 42, 43, 44, 45, 46, 47, 48, 49, 50, 51, 52, 53, 54, 55, 56, 57, 58, 59, 60, 61, 62, 63, 64, 65, 66, 67, 68, 69, 70, 71, 72, 73, 74, 75, 76, 77, 78, 79, 80, 81, 82, 83, 84, 85, 86, 87, 88, 89, 90, 91, 92, 93, 94, 95, 96, 97, 98, 99, 100, 101, 102, 103, 104, 105, 106, 107, 108, 109, 110, 111, 112, 113, 114, 115] (by decide +kernel) (by decide +kernel)
set_option maxRecDepth 20000 in
theorem gX11_pulls_X11_felt : GoodIn wsX11_pulls (wsV RX11 397 RX11 yX11_felt wsX11_felt) := goodIn_app (goodIn_of _ (by decide +kernel)) ggX11_pulls_X11_felt
set_option maxRecDepth 20000 in
theorem ggX11_pulls_X11_isOf : GoodIn wsX11_pulls wsX11_isOf := goodIn_r _ [21] (by decide +kernel) (by decide +kernel)
set_option maxRecDepth 20000 in
theorem gX11_pulls_X11_isOf : GoodIn wsX11_pulls (va_wsS RX11 310 yX11_isOf wsX11_isOf) := goodIn_app (goodIn_of _ (by decide +kernel)) ggX11_pulls_X11_isOf
set_option maxRecDepth 20000 in
theorem ggX11_pulls_X11_works : GoodIn wsX11_pulls wsX11_works := goodIn_r _ [25, 26, 27, 28, 29, 30, 31, 19, 20, 11, 21, 42, 43, 44, 45, 46, 47, 48, 49, 50, 51, 52, 53, 54, 55, 56, 57, 58, 59, 60, 61, 62, 63, 64, 65, 66, 67, 68, 69, 70, 71, 72, 73, 74, 75, 76, 77, 78, 79, 80, 81, 82, 83, 84, 85, 86, 87, 88, 89, 90, 91, 92, 93, 94, 95, 96, 97, 98, 99, 100, 101, 102, 103, 104, 105, 106, 107, 108, 109, 110, 111, 112, 113, 114, 115] (by decide +kernel) (by decide +kernel)
set_option maxRecDepth 20000 in
theorem gX11_pulls_X11_works : GoodIn wsX11_pulls (wsV RX11 400 RX11 yX11_works wsX11_works) := goodIn_app (goodIn_of _ (by decide +kernel)) ggX11_pulls_X11_works
set_option maxRecDepth 20000 in
theorem ggX11_pulls_X11_goes : GoodIn wsX11_pulls wsX11_goes := goodIn_r _ [35, 6, 7, 36, 14, 15, 16, 11, 17, 18, 19, 20, 21, 37, 38, 39, 40, 41, 42, 43, 44, 45, 46, 47, 48, 49, 50, 51, 52, 53, 54, 55, 56, 57, 58, 59, 60, 61, 62, 63, 64, 65, 66, 67, 68, 69, 70, 71, 72, 73, 74, 75, 76, 77, 78, 79, 80, 81, 82, 83, 84, 85, 86, 87, 88, 89, 90, 91, 92, 93, 94, 95, 96, 97, 98, 99, 100, 101, 102, 103, 104, 105, 106, 107, 108, 109, 110, 111, 112, 113, 114, 115] (by decide +kernel) (by decide +kernel)
set_option maxRecDepth 20000 in
theorem gX11_pulls_X11_goes : GoodIn wsX11_pulls (wsV RX11 340 RX11 yX11_goes wsX11_goes) := goodIn_app (goodIn_of _ (by decide +kernel)) ggX11_pulls_X11_goes
set_option maxRecDepth 20000 in
theorem ggX11_pullsTold_X11_felt : GoodIn wsX11_pullsTold wsX11_felt := goodIn_r _ [10, 11, 12, 13, 14, 15, 16, 17, 9, 18, 19, 20, 21, 22, 50, 51, 52, 53, 54, 55, 56, 57, 58, 59, 60, 61, 62, 63, 64, 65, 66, 67, 68, 69, 70, 71, 72, 73, 74, 75, 76, 77, 78, 79, 80, 81, 82, 83, 84, 85, 86, 87, 88, 89, 90, 91, 92, 93, 94, 95, 96, 97, 98, 99, 100, 101, 102, 103, 104, 105, 106, 107, 108, 109, 110, 111, 112, 113, 114, 115, 116, 117, 118, 119, 120, 121, 122, 123] (by decide +kernel) (by decide +kernel)
set_option maxRecDepth 20000 in
theorem gX11_pullsTold_X11_felt : GoodIn wsX11_pullsTold (wsV RX11 397 RX11 yX11_felt wsX11_felt) := goodIn_app (goodIn_of _ (by decide +kernel)) ggX11_pullsTold_X11_felt
set_option maxRecDepth 20000 in
theorem ggX11_pullsTold_X11_pulls : GoodIn wsX11_pullsTold wsX11_pulls := goodIn_r _ [26, 27, 28, 29, 2, 14, 11, 12, 6, 7, 8, 9, 10, 13, 15, 16, 17, 18, 19, 20, 21, 22, 30, 31, 32, 33, 34, 35, 36, 37, 38, 39, 40, 41, 42, 43, 44, 45, 46, 47, 48, 49, 50, 51, 52, 53, 54, 55, 56, 57, 58, 59, 60, 61, 62, 63, 64, 65, 66, 67, 68, 69, 70, 71, 72, 73, 74, 75, 76, 77, 78, 79, 80, 81, 82, 83, 84, 85, 86, 87, 88, 89, 90, 91, 92, 93, 94, 95, 96, 97, 98, 99, 100, 101, 102, 103, 104, 105, 106, 107, 108, 109, 110, 111, 112, 113, 114, 115, 116, 117, 118, 119, 120, 121, 122, 123] (by decide +kernel) (by decide +kernel)
set_option maxRecDepth 20000 in
theorem gX11_pullsTold_X11_pulls : GoodIn wsX11_pullsTold (wsV RX11 409 RX11 yX11_pulls wsX11_pulls) := goodIn_app (goodIn_of _ (by decide +kernel)) ggX11_pullsTold_X11_pulls
set_option maxRecDepth 20000 in
theorem ggX11_pull_X11_isIn : GoodIn wsX11_pull wsX11_isIn := goodIn_r _ [6] (by decide +kernel) (by decide +kernel)
set_option maxRecDepth 20000 in
theorem gX11_pull_X11_isIn : GoodIn wsX11_pull (va_wsS RX11 317 yX11_isIn wsX11_isIn) := goodIn_app (goodIn_of _ (by decide +kernel)) ggX11_pull_X11_isIn
set_option maxRecDepth 20000 in
theorem ggX11_pull_X11_pullsTold : GoodIn wsX11_pull wsX11_pullsTold := goodIn_r _ [10, 11, 12, 13, 14, 15, 16, 17, 18, 5, 19, 20, 21, 22, 23, 24, 25, 26, 27, 28, 29, 30, 31, 32, 33, 34, 35, 36, 37, 38, 39, 40, 41, 42, 43, 44, 45, 46, 47, 48, 49, 50, 51, 52, 2, 53, 54, 55, 56, 57, 58, 59, 60, 61, 62, 63, 64, 65, 66, 67, 68, 69, 70, 71, 72, 73, 74, 75, 76, 77, 78, 79, 80, 81, 82, 83, 84, 85, 86, 87, 88, 89, 90, 91, 92, 93, 94, 95, 96, 97, 98, 99, 100, 101, 102, 103, 104, 105, 106, 107, 108, 109, 110, 111, 112, 113, 114, 115, 116, 117, 118, 119, 120, 121, 122, 123, 124, 125, 126, 127, 128, 129, 130, 131] (by decide +kernel) (by decide +kernel)
set_option maxRecDepth 20000 in
theorem gX11_pull_X11_pullsTold : GoodIn wsX11_pull (wsV RX11 415 RX11 yX11_pullsTold wsX11_pullsTold) := goodIn_app (goodIn_of _ (by decide +kernel)) ggX11_pull_X11_pullsTold
set_option maxRecDepth 20000 in
theorem ggX11_pullRun_X11_isIn : GoodIn wsX11_pullRun wsX11_isIn := goodIn_r _ [7] (by decide +kernel) (by decide +kernel)
set_option maxRecDepth 20000 in
theorem gX11_pullRun_X11_isIn : GoodIn wsX11_pullRun (va_wsS RX11 317 yX11_isIn wsX11_isIn) := goodIn_app (goodIn_of _ (by decide +kernel)) ggX11_pullRun_X11_isIn
set_option maxRecDepth 20000 in
theorem ggX11_pullRun_X11_pullsTold : GoodIn wsX11_pullRun wsX11_pullsTold := goodIn_r _ [11, 12, 13, 14, 15, 16, 17, 18, 19, 6, 20, 2, 21, 3, 22, 23, 24, 25, 26, 27, 28, 29, 30, 31, 32, 33, 34, 35, 36, 37, 38, 39, 40, 41, 42, 43, 44, 45, 46, 47, 48, 49, 50, 51, 52, 53, 54, 55, 56, 57, 58, 59, 60, 61, 62, 63, 64, 65, 66, 67, 68, 69, 70, 71, 72, 73, 74, 75, 76, 77, 78, 79, 80, 81, 82, 83, 84, 85, 86, 87, 88, 89, 90, 91, 92, 93, 94, 95, 96, 97, 98, 99, 100, 101, 102, 103, 104, 105, 106, 107, 108, 109, 110, 111, 112, 113, 114, 115, 116, 117, 118, 119, 120, 121, 122, 123, 124, 125, 126, 127, 128, 129, 130, 131] (by decide +kernel) (by decide +kernel)
set_option maxRecDepth 20000 in
theorem gX11_pullRun_X11_pullsTold : GoodIn wsX11_pullRun (wsV RX11 415 RX11 yX11_pullsTold wsX11_pullsTold) := goodIn_app (goodIn_of _ (by decide +kernel)) ggX11_pullRun_X11_pullsTold
set_option maxRecDepth 20000 in
theorem ggX11_races_X11_works : GoodIn wsX11_races wsX11_works := goodIn_r _ [7, 8, 9, 10, 11, 12, 13, 14, 15, 6, 16, 17, 18, 19, 20, 21, 22, 23, 24, 25, 26, 27, 28, 29, 30, 31, 32, 33, 34, 35, 36, 37, 38, 39, 40, 41, 42, 43, 44, 45, 46, 47, 48, 49, 50, 51, 52, 53, 54, 55, 56, 57, 58, 59, 60, 61, 62, 63, 64, 65, 66, 67, 68, 69, 70, 71, 72, 73, 74, 75, 76, 77, 78, 79, 80, 81, 82, 83, 84, 85, 86, 87, 88, 89, 90] (by decide +kernel) (by decide +kernel)
set_option maxRecDepth 20000 in
theorem gX11_races_X11_works : GoodIn wsX11_races (wsV RX11 400 RX11 yX11_works wsX11_works) := goodIn_app (goodIn_of _ (by decide +kernel)) ggX11_races_X11_works
set_option maxRecDepth 20000 in
theorem ggX11_races_X11_isOf : GoodIn wsX11_races wsX11_isOf := goodIn_r _ [16] (by decide +kernel) (by decide +kernel)
set_option maxRecDepth 20000 in
theorem gX11_races_X11_isOf : GoodIn wsX11_races (va_wsS RX11 310 yX11_isOf wsX11_isOf) := goodIn_app (goodIn_of _ (by decide +kernel)) ggX11_races_X11_isOf
set_option maxRecDepth 20000 in
theorem ggX11_race_X11_isOf : GoodIn wsX11_race wsX11_isOf := goodIn_r _ [9] (by decide +kernel) (by decide +kernel)
set_option maxRecDepth 20000 in
theorem gX11_race_X11_isOf : GoodIn wsX11_race (va_wsS RX11 310 yX11_isOf wsX11_isOf) := goodIn_app (goodIn_of _ (by decide +kernel)) ggX11_race_X11_isOf
set_option maxRecDepth 20000 in
theorem ggX11_race_X11_races : GoodIn wsX11_race wsX11_races := goodIn_r _ [13, 3, 14, 15, 16, 17, 8, 18, 19, 20, 21, 22, 23, 24, 6, 7, 9, 25, 26, 27, 28, 29, 30, 31, 32, 33, 34, 35, 36, 37, 38, 39, 40, 41, 42, 43, 44, 45, 46, 47, 48, 49, 50, 51, 52, 53, 54, 55, 56, 57, 58, 59, 60, 61, 62, 63, 64, 65, 66, 67, 68, 69, 70, 71, 72, 73, 74, 75, 76, 77, 78, 79, 80, 81, 82, 83, 84, 85, 86, 87, 88, 89, 90, 91, 92, 93, 94, 95, 96, 97, 98] (by decide +kernel) (by decide +kernel)
set_option maxRecDepth 20000 in
theorem gX11_race_X11_races : GoodIn wsX11_race (wsV RX11 418 RX11 yX11_races wsX11_races) := goodIn_app (goodIn_of _ (by decide +kernel)) ggX11_race_X11_races
set_option maxRecDepth 20000 in
theorem ggX11_stick_X11_isIn : GoodIn wsX11_stick wsX11_isIn := goodIn_r _ [6] (by decide +kernel) (by decide +kernel)
set_option maxRecDepth 20000 in
theorem gX11_stick_X11_isIn : GoodIn wsX11_stick (va_wsS RX11 317 yX11_isIn wsX11_isIn) := goodIn_app (goodIn_of _ (by decide +kernel)) ggX11_stick_X11_isIn
set_option maxRecDepth 20000 in
theorem ggX11_stick_X11_sticks : GoodIn wsX11_stick wsX11_sticks := goodIn_r _ [10, 11, 12, 13, 14, 15, 16, 17, 18, 19, 20, 21, 22, 23, 24, 25, 26, 27, 28, 29, 30, 31, 32, 33, 34, 35, 36, 37, 38, 39, 40, 41, 42, 43, 44, 45, 46, 47, 48, 49, 50, 51, 52, 53, 54, 55, 56, 57, 58, 59, 60, 61, 62, 63, 64, 65, 66, 67, 68, 69, 70, 71, 72, 73, 74, 75, 76, 77, 78, 79, 80, 81, 82, 83, 84, 85, 86, 87] (by decide +kernel) (by decide +kernel)
set_option maxRecDepth 20000 in
theorem gX11_stick_X11_sticks : GoodIn wsX11_stick (wsV RX11 421 RX11 yX11_sticks wsX11_sticks) := goodIn_app (goodIn_of _ (by decide +kernel)) ggX11_stick_X11_sticks
set_option maxRecDepth 20000 in
theorem ggX11_same_X11_isIn : GoodIn wsX11_same wsX11_isIn := goodIn_r _ [12] (by decide +kernel) (by decide +kernel)
set_option maxRecDepth 20000 in
theorem gX11_same_X11_isIn : GoodIn wsX11_same (va_wsS RX11 317 yX11_isIn wsX11_isIn) := goodIn_app (goodIn_of _ (by decide +kernel)) ggX11_same_X11_isIn
set_option maxRecDepth 20000 in
theorem ggX11_same_X11_puts : GoodIn wsX11_same wsX11_puts := goodIn_r _ [16, 17, 18, 19, 20, 5, 6, 21, 22, 4, 23, 8, 24, 93, 94, 95, 96, 97, 98, 99, 100, 101, 102, 103, 104, 105, 106, 107, 108, 109, 110, 111, 112, 113, 114, 115, 116, 117, 118, 119, 120, 121, 122, 123, 124, 125, 126, 127, 128, 129, 130, 131, 132, 133, 134, 135, 136, 137, 138, 139, 140, 141, 142, 143, 144, 145, 146, 147, 148, 149, 150, 151, 152, 153, 154, 155, 156, 157, 158, 159, 160, 161, 162, 163, 164, 165, 166] (by decide +kernel) (by decide +kernel)
set_option maxRecDepth 20000 in
theorem gX11_same_X11_puts : GoodIn wsX11_same (wsV RX11 358 RX11 yX11_puts wsX11_puts) := goodIn_app (goodIn_of _ (by decide +kernel)) ggX11_same_X11_puts
set_option maxRecDepth 20000 in
theorem ggX11_same_X11_takes : GoodIn wsX11_same wsX11_takes := goodIn_r _ [28, 17, 18, 19, 20, 5, 6, 21, 22, 4, 23, 8, 24, 93, 94, 95, 96, 97, 98, 99, 100, 101, 102, 103, 104, 105, 106, 107, 108, 109, 110, 111, 112, 113, 114, 115, 116, 117, 118, 119, 120, 121, 122, 123, 124, 125, 126, 127, 128, 129, 130, 131, 132, 133, 134, 135, 136, 137, 138, 139, 140, 141, 142, 143, 144, 145, 146, 147, 148, 149, 150, 151, 152, 153, 154, 155, 156, 157, 158, 159, 160, 161, 162, 163, 164, 165, 166] (by decide +kernel) (by decide +kernel)
set_option maxRecDepth 20000 in
theorem gX11_same_X11_takes : GoodIn wsX11_same (wsV RX11 361 RX11 yX11_takes wsX11_takes) := goodIn_app (goodIn_of _ (by decide +kernel)) ggX11_same_X11_takes
set_option maxRecDepth 20000 in
theorem ggX11_same_X11_pulls : GoodIn wsX11_same wsX11_pulls := goodIn_r _ [32, 33, 2, 3, 4, 8, 5, 6, 34, 35, 36, 11, 37, 20, 38, 39, 40, 41, 23, 42, 43, 44, 45, 46, 47, 48, 49, 50, 51, 52, 53, 54, 55, 56, 57, 58, 59, 60, 61, 62, 63, 18, 93, 94, 95, 96, 97, 98, 99, 100, 101, 102, 103, 104, 105, 106, 107, 108, 109, 110, 111, 112, 113, 114, 115, 116, 117, 118, 119, 120, 121, 122, 123, 124, 125, 126, 127, 128, 129, 130, 131, 132, 133, 134, 135, 136, 137, 138, 139, 140, 141, 142, 143, 144, 145, 146, 147, 148, 149, 150, 151, 152, 153, 154, 155, 156, 157, 158, 159, 160, 161, 162, 163, 164, 165, 166] (by decide +kernel) (by decide +kernel)
set_option maxRecDepth 20000 in
theorem gX11_same_X11_pulls : GoodIn wsX11_same (wsV RX11 409 RX11 yX11_pulls wsX11_pulls) := goodIn_app (goodIn_of _ (by decide +kernel)) ggX11_same_X11_pulls
set_option maxRecDepth 20000 in
theorem ggX11_same_X11_squares : GoodIn wsX11_same wsX11_squares := goodIn_r _ [67, 18, 19, 93, 94, 95, 96, 97, 98, 99, 100, 101, 102, 103, 104, 105, 106, 107, 108, 109, 110, 111, 112, 113, 114, 115, 116, 117, 118, 119, 120, 121, 122, 123, 124, 125, 126, 127, 128, 129, 130, 131, 132, 133, 134, 135, 136, 137, 138, 139, 140, 141, 142, 143, 144, 145, 146, 147, 148, 149, 150, 151, 152, 153, 154, 155, 156, 157, 158, 159, 160, 161, 162, 163, 164, 165, 166] (by decide +kernel) (by decide +kernel)
set_option maxRecDepth 20000 in
theorem gX11_same_X11_squares : GoodIn wsX11_same (wsV RX11 289 RX11 yX11_squares wsX11_squares) := goodIn_app (goodIn_of _ (by decide +kernel)) ggX11_same_X11_squares
set_option maxRecDepth 20000 in
theorem ggX11_same_X11_ticks : GoodIn wsX11_same wsX11_ticks := goodIn_r _ [71, 72, 73, 74, 75, 76, 77, 11, 78, 79, 5, 6, 20, 8, 21, 80, 22, 24, 81, 38, 39, 40, 41, 23, 42, 43, 44, 82, 83, 84, 85, 86, 87, 88, 55, 56, 57, 58, 59, 60, 61, 62, 63, 18, 89, 90, 91, 92, 64, 65, 66, 67, 19, 93, 94, 95, 96, 97, 98, 99, 100, 101, 102, 103, 104, 105, 106, 107, 108, 109, 110, 111, 112, 113, 114, 115, 116, 117, 118, 119, 120, 121, 122, 123, 124, 125, 126, 127, 128, 129, 130, 131, 132, 133, 134, 135, 136, 137, 138, 139, 140, 141, 142, 143, 144, 145, 146, 147, 148, 149, 150, 151, 152, 153, 154, 155, 156, 157, 158, 159, 160, 161, 162, 163, 164, 165, 166] (by decide +kernel) (by decide +kernel)
set_option maxRecDepth 20000 in
theorem gX11_same_X11_ticks : GoodIn wsX11_same (wsV RX11 349 RX11 yX11_ticks wsX11_ticks) := goodIn_app (goodIn_of _ (by decide +kernel)) ggX11_same_X11_ticks
set_option maxRecDepth 20000 in
theorem ggX11_layLike_X11_takes : GoodIn wsX11_layLike wsX11_takes := goodIn_r _ [11, 12, 13, 14, 15, 5, 6, 16, 17, 3, 18, 19, 20, 56, 57, 58, 59, 60, 61, 62, 63, 64, 65, 66, 67, 68, 69, 70, 71, 72, 73, 74, 75, 76, 77, 78, 79, 80, 81, 82, 83, 84, 85, 86, 87, 88, 89, 90, 91, 92, 93, 94, 95, 96, 97, 98, 99, 100, 101, 102, 103, 104, 105, 106, 107, 108, 109, 110, 111, 112, 113, 114, 115, 116, 117, 118, 119, 120, 121, 122, 123, 124, 125, 126, 127, 128, 129] (by decide +kernel) (by decide +kernel)
set_option maxRecDepth 20000 in
theorem gX11_layLike_X11_takes : GoodIn wsX11_layLike (wsV RX11 361 RX11 yX11_takes wsX11_takes) := goodIn_app (goodIn_of _ (by decide +kernel)) ggX11_layLike_X11_takes
set_option maxRecDepth 20000 in
theorem ggX11_layLike_X11_pulls : GoodIn wsX11_layLike wsX11_pulls := goodIn_r _ [24, 25, 1, 2, 3, 19, 5, 6, 26, 27, 28, 10, 29, 15, 30, 31, 32, 33, 18, 34, 35, 36, 37, 38, 39, 40, 41, 42, 43, 44, 45, 46, 47, 48, 49, 50, 51, 52, 53, 54, 55, 13, 56, 57, 58, 59, 60, 61, 62, 63, 64, 65, 66, 67, 68, 69, 70, 71, 72, 73, 74, 75, 76, 77, 78, 79, 80, 81, 82, 83, 84, 85, 86, 87, 88, 89, 90, 91, 92, 93, 94, 95, 96, 97, 98, 99, 100, 101, 102, 103, 104, 105, 106, 107, 108, 109, 110, 111, 112, 113, 114, 115, 116, 117, 118, 119, 120, 121, 122, 123, 124, 125, 126, 127, 128, 129] (by decide +kernel) (by decide +kernel)
set_option maxRecDepth 20000 in
theorem gX11_layLike_X11_pulls : GoodIn wsX11_layLike (wsV RX11 409 RX11 yX11_pulls wsX11_pulls) := goodIn_app (goodIn_of _ (by decide +kernel)) ggX11_layLike_X11_pulls
set_option maxRecDepth 20000 in
theorem ggX11_isLike_X11_takes : GoodIn wsX11_isLike wsX11_takes := goodIn_r _ [11, 12, 13, 14, 15, 5, 6, 16, 17, 3, 18, 19, 20, 56, 57, 58, 59, 60, 61, 62, 63, 64, 65, 66, 67, 68, 69, 70, 71, 72, 73, 74, 75, 76, 77, 78, 79, 80, 81, 82, 83, 84, 85, 86, 87, 88, 89, 90, 91, 92, 93, 94, 95, 96, 97, 98, 99, 100, 101, 102, 103, 104, 105, 106, 107, 108, 109, 110, 111, 112, 113, 114, 115, 116, 117, 118, 119, 120, 121, 122, 123, 124, 125, 126, 127, 128, 129] (by decide +kernel) (by decide +kernel)
set_option maxRecDepth 20000 in
theorem gX11_isLike_X11_takes : GoodIn wsX11_isLike (wsV RX11 361 RX11 yX11_takes wsX11_takes) := goodIn_app (goodIn_of _ (by decide +kernel)) ggX11_isLike_X11_takes
set_option maxRecDepth 20000 in
theorem ggX11_isLike_X11_pulls : GoodIn wsX11_isLike wsX11_pulls := goodIn_r _ [24, 25, 1, 2, 3, 19, 5, 6, 26, 27, 28, 10, 29, 15, 30, 31, 32, 33, 18, 34, 35, 36, 37, 38, 39, 40, 41, 42, 43, 44, 45, 46, 47, 48, 49, 50, 51, 52, 53, 54, 55, 13, 56, 57, 58, 59, 60, 61, 62, 63, 64, 65, 66, 67, 68, 69, 70, 71, 72, 73, 74, 75, 76, 77, 78, 79, 80, 81, 82, 83, 84, 85, 86, 87, 88, 89, 90, 91, 92, 93, 94, 95, 96, 97, 98, 99, 100, 101, 102, 103, 104, 105, 106, 107, 108, 109, 110, 111, 112, 113, 114, 115, 116, 117, 118, 119, 120, 121, 122, 123, 124, 125, 126, 127, 128, 129] (by decide +kernel) (by decide +kernel)
set_option maxRecDepth 20000 in
theorem gX11_isLike_X11_pulls : GoodIn wsX11_isLike (wsV RX11 409 RX11 yX11_pulls wsX11_pulls) := goodIn_app (goodIn_of _ (by decide +kernel)) ggX11_isLike_X11_pulls
set_option maxRecDepth 20000 in
theorem ggX11_laySuspects_X11_layLike : GoodIn wsX11_laySuspects wsX11_layLike := goodIn_r _ [10, 1, 2, 11, 12, 13, 14, 15, 16, 17, 9, 18, 19, 20, 21, 22, 23, 24, 25, 26, 27, 28, 29, 30, 31, 5, 32, 33, 34, 35, 36, 37, 38, 39, 40, 41, 42, 43, 44, 45, 46, 47, 48, 49, 50, 51, 52, 53, 54, 55, 56, 57, 58, 59, 60, 61, 66, 67, 68, 69, 70, 71, 72, 73, 74, 75, 76, 77, 78, 79, 80, 81, 82, 83, 84, 85, 86, 87, 88, 89, 90, 91, 92, 93, 94, 95, 96, 97, 98, 99, 100, 101, 102, 103, 104, 105, 106, 107, 108, 109, 110, 111, 112, 113, 114, 115, 116, 117, 118, 119, 120, 121, 122, 123, 124, 125, 126, 127, 128, 129, 130, 131, 132, 133, 134, 135, 136, 137, 138, 139] (by decide +kernel) (by decide +kernel)
set_option maxRecDepth 20000 in
theorem gX11_laySuspects_X11_layLike : GoodIn wsX11_laySuspects (wsV RX11 424 RX11 yX11_layLike wsX11_layLike) := goodIn_app (goodIn_of _ (by decide +kernel)) ggX11_laySuspects_X11_layLike
set_option maxRecDepth 20000 in
theorem ggX11_laySuspects_X11_isOf : GoodIn wsX11_laySuspects wsX11_isOf := goodIn_r _ [42] (by decide +kernel) (by decide +kernel)
set_option maxRecDepth 20000 in
theorem gX11_laySuspects_X11_isOf : GoodIn wsX11_laySuspects (va_wsS RX11 310 yX11_isOf wsX11_isOf) := goodIn_app (goodIn_of _ (by decide +kernel)) ggX11_laySuspects_X11_isOf
set_option maxRecDepth 20000 in
theorem ggX11_laySuspects_X11_isLike : GoodIn wsX11_laySuspects wsX11_isLike := goodIn_r _ [65, 1, 2, 11, 12, 13, 14, 15, 16, 17, 9, 18, 19, 20, 21, 22, 23, 24, 25, 26, 27, 28, 29, 30, 31, 5, 32, 33, 34, 35, 36, 37, 38, 39, 40, 41, 42, 43, 44, 45, 46, 47, 48, 49, 50, 51, 52, 53, 54, 55, 56, 57, 58, 59, 60, 61, 66, 67, 68, 69, 70, 71, 72, 73, 74, 75, 76, 77, 78, 79, 80, 81, 82, 83, 84, 85, 86, 87, 88, 89, 90, 91, 92, 93, 94, 95, 96, 97, 98, 99, 100, 101, 102, 103, 104, 105, 106, 107, 108, 109, 110, 111, 112, 113, 114, 115, 116, 117, 118, 119, 120, 121, 122, 123, 124, 125, 126, 127, 128, 129, 130, 131, 132, 133, 134, 135, 136, 137, 138, 139] (by decide +kernel) (by decide +kernel)
set_option maxRecDepth 20000 in
theorem gX11_laySuspects_X11_isLike : GoodIn wsX11_laySuspects (wsV RX11 433 RX11 yX11_isLike wsX11_isLike) := goodIn_app (goodIn_of _ (by decide +kernel)) ggX11_laySuspects_X11_isLike
set_option maxRecDepth 20000 in
theorem ggX11_laySuspects_X11_takes : GoodIn wsX11_laySuspects wsX11_takes := goodIn_r _ [18, 19, 20, 21, 22, 13, 14, 23, 24, 11, 25, 26, 27, 66, 67, 68, 69, 70, 71, 72, 73, 74, 75, 76, 77, 78, 79, 80, 81, 82, 83, 84, 85, 86, 87, 88, 89, 90, 91, 92, 93, 94, 95, 96, 97, 98, 99, 100, 101, 102, 103, 104, 105, 106, 107, 108, 109, 110, 111, 112, 113, 114, 115, 116, 117, 118, 119, 120, 121, 122, 123, 124, 125, 126, 127, 128, 129, 130, 131, 132, 133, 134, 135, 136, 137, 138, 139] (by decide +kernel) (by decide +kernel)
set_option maxRecDepth 20000 in
theorem gX11_laySuspects_X11_takes : GoodIn wsX11_laySuspects (wsV RX11 361 RX11 yX11_takes wsX11_takes) := goodIn_app (goodIn_of _ (by decide +kernel)) ggX11_laySuspects_X11_takes
set_option maxRecDepth 20000 in
theorem ggX11_isSound_X11_layLike : GoodIn wsX11_isSound wsX11_layLike := goodIn_r _ [7, 1, 2, 8, 9, 10, 11, 12, 13, 14, 6, 15, 16, 17, 18, 19, 20, 21, 22, 23, 24, 25, 26, 27, 28, 29, 30, 31, 32, 33, 34, 35, 36, 37, 38, 39, 40, 41, 42, 43, 44, 45, 46, 47, 48, 49, 50, 51, 52, 53, 54, 55, 56, 57, 58, 59, 64, 65, 66, 67, 68, 69, 70, 71, 72, 73, 74, 75, 76, 77, 78, 79, 80, 81, 82, 83, 84, 85, 86, 87, 88, 89, 90, 91, 92, 93, 94, 95, 96, 97, 98, 99, 100, 101, 102, 103, 104, 105, 106, 107, 108, 109, 110, 111, 112, 113, 114, 115, 116, 117, 118, 119, 120, 121, 122, 123, 124, 125, 126, 127, 128, 129, 130, 131, 132, 133, 134, 135, 136, 137] (by decide +kernel) (by decide +kernel)
set_option maxRecDepth 20000 in
theorem gX11_isSound_X11_layLike : GoodIn wsX11_isSound (wsV RX11 424 RX11 yX11_layLike wsX11_layLike) := goodIn_app (goodIn_of _ (by decide +kernel)) ggX11_isSound_X11_layLike
set_option maxRecDepth 20000 in
theorem ggX11_isSound_X11_isLike : GoodIn wsX11_isSound wsX11_isLike := goodIn_r _ [63, 1, 2, 8, 9, 10, 11, 12, 13, 14, 6, 15, 16, 17, 18, 19, 20, 21, 22, 23, 24, 25, 26, 27, 28, 29, 30, 31, 32, 33, 34, 35, 36, 37, 38, 39, 40, 41, 42, 43, 44, 45, 46, 47, 48, 49, 50, 51, 52, 53, 54, 55, 56, 57, 58, 59, 64, 65, 66, 67, 68, 69, 70, 71, 72, 73, 74, 75, 76, 77, 78, 79, 80, 81, 82, 83, 84, 85, 86, 87, 88, 89, 90, 91, 92, 93, 94, 95, 96, 97, 98, 99, 100, 101, 102, 103, 104, 105, 106, 107, 108, 109, 110, 111, 112, 113, 114, 115, 116, 117, 118, 119, 120, 121, 122, 123, 124, 125, 126, 127, 128, 129, 130, 131, 132, 133, 134, 135, 136, 137] (by decide +kernel) (by decide +kernel)
set_option maxRecDepth 20000 in
theorem gX11_isSound_X11_isLike : GoodIn wsX11_isSound (wsV RX11 433 RX11 yX11_isLike wsX11_isLike) := goodIn_app (goodIn_of _ (by decide +kernel)) ggX11_isSound_X11_isLike
set_option maxRecDepth 20000 in
theorem ggX11_isSound_X11_takes : GoodIn wsX11_isSound wsX11_takes := goodIn_r _ [15, 16, 17, 18, 19, 10, 11, 20, 21, 8, 22, 23, 24, 64, 65, 66, 67, 68, 69, 70, 71, 72, 73, 74, 75, 76, 77, 78, 79, 80, 81, 82, 83, 84, 85, 86, 87, 88, 89, 90, 91, 92, 93, 94, 95, 96, 97, 98, 99, 100, 101, 102, 103, 104, 105, 106, 107, 108, 109, 110, 111, 112, 113, 114, 115, 116, 117, 118, 119, 120, 121, 122, 123, 124, 125, 126, 127, 128, 129, 130, 131, 132, 133, 134, 135, 136, 137] (by decide +kernel) (by decide +kernel)
set_option maxRecDepth 20000 in
theorem gX11_isSound_X11_takes : GoodIn wsX11_isSound (wsV RX11 361 RX11 yX11_takes wsX11_takes) := goodIn_app (goodIn_of _ (by decide +kernel)) ggX11_isSound_X11_takes
set_option maxRecDepth 20000 in
theorem ggX11_suspect_X11_puts : GoodIn wsX11_suspect wsX11_puts := goodIn_r _ [8, 9, 10, 11, 12, 13, 14, 15, 16, 17, 18, 19, 20, 78, 79, 80, 81, 82, 83, 84, 85, 86, 87, 88, 89, 90, 91, 92, 93, 94, 95, 96, 97, 98, 99, 100, 101, 102, 103, 104, 105, 106, 107, 108, 109, 110, 111, 112, 113, 114, 115, 116, 117, 118, 119, 120, 121, 122, 123, 124, 125, 126, 127, 128, 129, 130, 131, 132, 133, 134, 135, 136, 137, 138, 139, 140, 141, 142, 143, 144, 145, 146, 147, 148, 149, 150, 151] (by decide +kernel) (by decide +kernel)
set_option maxRecDepth 20000 in
theorem gX11_suspect_X11_puts : GoodIn wsX11_suspect (wsV RX11 358 RX11 yX11_puts wsX11_puts) := goodIn_app (goodIn_of _ (by decide +kernel)) ggX11_suspect_X11_puts
set_option maxRecDepth 20000 in
theorem ggX11_suspect_X11_isSound : GoodIn wsX11_suspect wsX11_isSound := goodIn_r _ [24, 25, 26, 27, 28, 29, 7, 30, 17, 31, 13, 14, 32, 33, 34, 35, 9, 10, 11, 12, 15, 16, 18, 19, 20, 36, 37, 38, 39, 3, 40, 41, 42, 43, 44, 45, 46, 47, 48, 49, 50, 51, 52, 53, 54, 55, 56, 57, 58, 59, 60, 61, 62, 63, 64, 65, 66, 67, 68, 69, 70, 71, 72, 73, 78, 79, 80, 81, 82, 83, 84, 85, 86, 87, 88, 89, 90, 91, 92, 93, 94, 95, 96, 97, 98, 99, 100, 101, 102, 103, 104, 105, 106, 107, 108, 109, 110, 111, 112, 113, 114, 115, 116, 117, 118, 119, 120, 121, 122, 123, 124, 125, 126, 127, 128, 129, 130, 131, 132, 133, 134, 135, 136, 137, 138, 139, 140, 141, 142, 143, 144, 145, 146, 147, 148, 149, 150, 151] (by decide +kernel) (by decide +kernel)
set_option maxRecDepth 20000 in
theorem gX11_suspect_X11_isSound : GoodIn wsX11_suspect (wsV RX11 436 RX11 yX11_isSound wsX11_isSound) := goodIn_app (goodIn_of _ (by decide +kernel)) ggX11_suspect_X11_isSound
set_option maxRecDepth 20000 in
theorem ggX11_suspect_X11_laySuspects : GoodIn wsX11_suspect wsX11_laySuspects := goodIn_r _ [77, 25, 26, 1, 2, 3, 27, 28, 29, 7, 30, 17, 31, 13, 14, 32, 33, 34, 35, 9, 10, 11, 12, 15, 16, 18, 19, 20, 36, 37, 38, 39, 40, 41, 42, 43, 44, 45, 46, 47, 48, 49, 50, 51, 52, 53, 54, 55, 56, 57, 58, 59, 60, 61, 62, 63, 64, 65, 66, 67, 68, 69, 70, 71, 72, 73, 78, 79, 80, 81, 82, 83, 84, 85, 86, 87, 88, 89, 90, 91, 92, 93, 94, 95, 96, 97, 98, 99, 100, 101, 102, 103, 104, 105, 106, 107, 108, 109, 110, 111, 112, 113, 114, 115, 116, 117, 118, 119, 120, 121, 122, 123, 124, 125, 126, 127, 128, 129, 130, 131, 132, 133, 134, 135, 136, 137, 138, 139, 140, 141, 142, 143, 144, 145, 146, 147, 148, 149, 150, 151] (by decide +kernel) (by decide +kernel)
set_option maxRecDepth 20000 in
theorem gX11_suspect_X11_laySuspects : GoodIn wsX11_suspect (wsV RX11 439 RX11 yX11_laySuspects wsX11_laySuspects) := goodIn_app (goodIn_of _ (by decide +kernel)) ggX11_suspect_X11_laySuspects
set_option maxRecDepth 20000 in
theorem ggX11_suspects_X11_isIn : GoodIn wsX11_suspects wsX11_isIn := goodIn_r _ [7] (by decide +kernel) (by decide +kernel)
set_option maxRecDepth 20000 in
theorem gX11_suspects_X11_isIn : GoodIn wsX11_suspects (va_wsS RX11 317 yX11_isIn wsX11_isIn) := goodIn_app (goodIn_of _ (by decide +kernel)) ggX11_suspects_X11_isIn
set_option maxRecDepth 20000 in
theorem ggX11_suspects_X11_suspect : GoodIn wsX11_suspects wsX11_suspect := goodIn_r _ [11, 2, 3, 12, 13, 14, 15, 6, 16, 17, 18, 19, 20, 21, 22, 23, 24, 25, 26, 27, 28, 29, 30, 31, 32, 33, 34, 35, 36, 37, 38, 39, 40, 41, 42, 43, 44, 45, 46, 47, 48, 49, 50, 51, 52, 53, 54, 55, 56, 57, 58, 59, 60, 61, 62, 63, 64, 65, 66, 67, 68, 69, 70, 71, 72, 73, 74, 75, 76, 77, 78, 79, 80, 81, 82, 83, 84, 85, 86, 87, 88, 89, 90, 91, 92, 93, 94, 95, 96, 97, 98, 99, 100, 101, 102, 103, 104, 105, 106, 107, 108, 109, 110, 111, 112, 113, 114, 115, 116, 117, 118, 119, 120, 121, 122, 123, 124, 125, 126, 127, 128, 129, 130, 131, 132, 133, 134, 135, 136, 137, 138, 139, 140, 141, 142, 143, 144, 145, 146, 147, 148, 149, 150, 151, 152, 153, 154, 155, 156, 157, 158, 159] (by decide +kernel) (by decide +kernel)
set_option maxRecDepth 20000 in
theorem gX11_suspects_X11_suspect : GoodIn wsX11_suspects (wsV RX11 442 RX11 yX11_suspect wsX11_suspect) := goodIn_app (goodIn_of _ (by decide +kernel)) ggX11_suspects_X11_suspect
set_option maxRecDepth 20000 in
theorem ggX11_trial_X11_isIn : GoodIn wsX11_trial wsX11_isIn := goodIn_r _ [7] (by decide +kernel) (by decide +kernel)
set_option maxRecDepth 20000 in
theorem gX11_trial_X11_isIn : GoodIn wsX11_trial (va_wsS RX11 317 yX11_isIn wsX11_isIn) := goodIn_app (goodIn_of _ (by decide +kernel)) ggX11_trial_X11_isIn
set_option maxRecDepth 20000 in
theorem ggX11_trial_X11_suspect : GoodIn wsX11_trial wsX11_suspect := goodIn_r _ [11, 2, 3, 12, 13, 14, 15, 6, 16, 17, 18, 19, 20, 21, 22, 23, 24, 25, 26, 27, 28, 29, 30, 31, 32, 33, 34, 35, 36, 37, 38, 39, 40, 41, 42, 43, 44, 45, 46, 47, 48, 49, 50, 51, 52, 53, 54, 55, 56, 57, 58, 59, 60, 61, 62, 63, 64, 65, 66, 67, 68, 69, 70, 71, 72, 73, 74, 75, 76, 77, 78, 79, 80, 81, 82, 83, 84, 85, 101, 102, 103, 104, 105, 106, 107, 108, 109, 110, 111, 112, 113, 114, 115, 116, 117, 118, 119, 120, 121, 122, 123, 124, 125, 126, 127, 128, 129, 130, 131, 132, 133, 134, 135, 136, 137, 138, 139, 140, 141, 142, 143, 144, 145, 146, 147, 148, 149, 150, 151, 152, 153, 154, 155, 156, 157, 158, 159, 160, 161, 162, 163, 164, 165, 166, 167, 168, 169, 170, 171, 172, 173, 174] (by decide +kernel) (by decide +kernel)
set_option maxRecDepth 20000 in
theorem gX11_trial_X11_suspect : GoodIn wsX11_trial (wsV RX11 442 RX11 yX11_suspect wsX11_suspect) := goodIn_app (goodIn_of _ (by decide +kernel)) ggX11_trial_X11_suspect
set_option maxRecDepth 20000 in
theorem ggX11_trial_X11_manyOf : GoodIn wsX11_trial wsX11_manyOf := goodIn_r _ [88] (by decide +kernel) (by decide +kernel)
set_option maxRecDepth 20000 in
theorem gX11_trial_X11_manyOf : GoodIn wsX11_trial (va_wsS RX11 445 yX11_manyOf wsX11_manyOf) := goodIn_app (goodIn_of _ (by decide +kernel)) ggX11_trial_X11_manyOf
set_option maxRecDepth 20000 in
theorem ggX11_trial_X11_wallMany : GoodIn wsX11_trial wsX11_wallMany := goodIn_r _ [92, 19, 18, 101, 102, 103, 104, 105, 106, 107, 108, 109, 110, 111, 112, 113, 114, 115, 116, 117, 118, 119, 120, 121, 122, 123, 124, 125, 126, 127, 128, 129, 130, 131, 132, 133, 134, 135, 136, 137, 138, 139, 140, 141, 142, 143, 144, 145, 146, 147, 148, 149, 150, 151, 152, 153, 154, 155, 156, 157, 158, 159, 160, 161, 162, 163, 164, 165, 166, 167, 168, 169, 170, 171, 172, 173, 174] (by decide +kernel) (by decide +kernel)
set_option maxRecDepth 20000 in
theorem gX11_trial_X11_wallMany : GoodIn wsX11_trial (wsV RX11 370 RX11 yX11_wallMany wsX11_wallMany) := goodIn_app (goodIn_of _ (by decide +kernel)) ggX11_trial_X11_wallMany
set_option maxRecDepth 20000 in
theorem ggX11_trial_X11_wallAt : GoodIn wsX11_trial wsX11_wallAt := goodIn_r _ [96, 19, 18, 101, 102, 103, 104, 105, 106, 107, 108, 109, 110, 111, 112, 113, 114, 115, 116, 117, 118, 119, 120, 121, 122, 123, 124, 125, 126, 127, 128, 129, 130, 131, 132, 133, 134, 135, 136, 137, 138, 139, 140, 141, 142, 143, 144, 145, 146, 147, 148, 149, 150, 151, 152, 153, 154, 155, 156, 157, 158, 159, 160, 161, 162, 163, 164, 165, 166, 167, 168, 169, 170, 171, 172, 173, 174] (by decide +kernel) (by decide +kernel)
set_option maxRecDepth 20000 in
theorem gX11_trial_X11_wallAt : GoodIn wsX11_trial (wsV RX11 373 RX11 yX11_wallAt wsX11_wallAt) := goodIn_app (goodIn_of _ (by decide +kernel)) ggX11_trial_X11_wallAt
set_option maxRecDepth 20000 in
theorem ggX11_trial_X11_isWall : GoodIn wsX11_trial wsX11_isWall := goodIn_r _ [55, 26, 56, 57, 6, 58, 101, 102, 103, 104, 105, 106, 107, 108, 109, 110, 111, 112, 113, 114, 115, 116, 117, 118, 119, 120, 121, 122, 123, 124, 125, 126, 127, 128, 129, 130, 131, 132, 133, 134, 135, 136, 137, 138, 139, 140, 141, 142, 143, 144, 145, 146, 147, 148, 149, 150, 151, 152, 153, 154, 155, 156, 157, 158, 159, 160, 161, 162, 163, 164, 165, 166, 167, 168, 169, 170, 171, 172, 173, 174] (by decide +kernel) (by decide +kernel)
set_option maxRecDepth 20000 in
theorem gX11_trial_X11_isWall : GoodIn wsX11_trial (wsV RX11 327 RX11 yX11_isWall wsX11_isWall) := goodIn_app (goodIn_of _ (by decide +kernel)) ggX11_trial_X11_isWall
set_option maxRecDepth 20000 in
theorem ggX11_trial_X11_putWall : GoodIn wsX11_trial wsX11_putWall := goodIn_r _ [100, 26, 74, 75, 76, 6, 77, 18, 101, 102, 103, 104, 105, 106, 107, 108, 109, 110, 111, 112, 113, 114, 115, 116, 117, 118, 119, 120, 121, 122, 123, 124, 125, 126, 127, 128, 129, 130, 131, 132, 133, 134, 135, 136, 137, 138, 139, 140, 141, 142, 143, 144, 145, 146, 147, 148, 149, 150, 151, 152, 153, 154, 155, 156, 157, 158, 159, 160, 161, 162, 163, 164, 165, 166, 167, 168, 169, 170, 171, 172, 173, 174] (by decide +kernel) (by decide +kernel)
set_option maxRecDepth 20000 in
theorem gX11_trial_X11_putWall : GoodIn wsX11_trial (wsV RX11 330 RX11 yX11_putWall wsX11_putWall) := goodIn_app (goodIn_of _ (by decide +kernel)) ggX11_trial_X11_putWall
set_option maxRecDepth 20000 in
theorem ggX11_trial_X11_puts : GoodIn wsX11_trial wsX11_puts := goodIn_r _ [16, 17, 18, 19, 20, 21, 22, 23, 24, 25, 26, 27, 28, 101, 102, 103, 104, 105, 106, 107, 108, 109, 110, 111, 112, 113, 114, 115, 116, 117, 118, 119, 120, 121, 122, 123, 124, 125, 126, 127, 128, 129, 130, 131, 132, 133, 134, 135, 136, 137, 138, 139, 140, 141, 142, 143, 144, 145, 146, 147, 148, 149, 150, 151, 152, 153, 154, 155, 156, 157, 158, 159, 160, 161, 162, 163, 164, 165, 166, 167, 168, 169, 170, 171, 172, 173, 174] (by decide +kernel) (by decide +kernel)
set_option maxRecDepth 20000 in
theorem gX11_trial_X11_puts : GoodIn wsX11_trial (wsV RX11 358 RX11 yX11_puts wsX11_puts) := goodIn_app (goodIn_of _ (by decide +kernel)) ggX11_trial_X11_puts
set_option maxRecDepth 20000 in
theorem ggX11_trial_X11_laySuspects : GoodIn wsX11_trial wsX11_laySuspects := goodIn_r _ [85, 33, 34, 2, 3, 12, 35, 36, 37, 6, 38, 25, 39, 21, 22, 40, 41, 42, 43, 17, 18, 19, 20, 23, 24, 26, 27, 28, 44, 45, 46, 47, 48, 49, 50, 51, 52, 53, 54, 55, 56, 57, 58, 59, 60, 61, 62, 63, 64, 65, 66, 67, 68, 69, 70, 71, 72, 73, 74, 75, 76, 77, 78, 79, 80, 81, 101, 102, 103, 104, 105, 106, 107, 108, 109, 110, 111, 112, 113, 114, 115, 116, 117, 118, 119, 120, 121, 122, 123, 124, 125, 126, 127, 128, 129, 130, 131, 132, 133, 134, 135, 136, 137, 138, 139, 140, 141, 142, 143, 144, 145, 146, 147, 148, 149, 150, 151, 152, 153, 154, 155, 156, 157, 158, 159, 160, 161, 162, 163, 164, 165, 166, 167, 168, 169, 170, 171, 172, 173, 174] (by decide +kernel) (by decide +kernel)
set_option maxRecDepth 20000 in
theorem gX11_trial_X11_laySuspects : GoodIn wsX11_trial (wsV RX11 439 RX11 yX11_laySuspects wsX11_laySuspects) := goodIn_app (goodIn_of _ (by decide +kernel)) ggX11_trial_X11_laySuspects
set_option maxRecDepth 20000 in
theorem ggX11_count_X11_squares : GoodIn wsX11_count wsX11_squares := goodIn_r _ [11, 12, 13, 30, 31, 32, 33, 34, 35, 36, 37, 38, 39, 40, 41, 42, 43, 44, 45, 46, 47, 48, 49, 50, 51, 52, 53, 54, 55, 56, 57, 58, 59, 60, 61, 62, 63, 64, 65, 66, 67, 68, 69, 70, 71, 72, 73, 74, 75, 76, 77, 78, 79, 80, 81, 82, 83, 84, 85, 86, 87, 88, 89, 90, 91, 92, 93, 94, 95, 96, 97, 98, 99, 100, 101, 102, 103] (by decide +kernel) (by decide +kernel)
set_option maxRecDepth 20000 in
theorem gX11_count_X11_squares : GoodIn wsX11_count (wsV RX11 289 RX11 yX11_squares wsX11_squares) := goodIn_app (goodIn_of _ (by decide +kernel)) ggX11_count_X11_squares
set_option maxRecDepth 20000 in
theorem ggX11_count_X11_wallMany : GoodIn wsX11_count wsX11_wallMany := goodIn_r _ [17, 13, 12, 30, 31, 32, 33, 34, 35, 36, 37, 38, 39, 40, 41, 42, 43, 44, 45, 46, 47, 48, 49, 50, 51, 52, 53, 54, 55, 56, 57, 58, 59, 60, 61, 62, 63, 64, 65, 66, 67, 68, 69, 70, 71, 72, 73, 74, 75, 76, 77, 78, 79, 80, 81, 82, 83, 84, 85, 86, 87, 88, 89, 90, 91, 92, 93, 94, 95, 96, 97, 98, 99, 100, 101, 102, 103] (by decide +kernel) (by decide +kernel)
set_option maxRecDepth 20000 in
theorem gX11_count_X11_wallMany : GoodIn wsX11_count (wsV RX11 370 RX11 yX11_wallMany wsX11_wallMany) := goodIn_app (goodIn_of _ (by decide +kernel)) ggX11_count_X11_wallMany
set_option maxRecDepth 20000 in
theorem ggX11_count_X11_wallAt : GoodIn wsX11_count wsX11_wallAt := goodIn_r _ [21, 13, 12, 30, 31, 32, 33, 34, 35, 36, 37, 38, 39, 40, 41, 42, 43, 44, 45, 46, 47, 48, 49, 50, 51, 52, 53, 54, 55, 56, 57, 58, 59, 60, 61, 62, 63, 64, 65, 66, 67, 68, 69, 70, 71, 72, 73, 74, 75, 76, 77, 78, 79, 80, 81, 82, 83, 84, 85, 86, 87, 88, 89, 90, 91, 92, 93, 94, 95, 96, 97, 98, 99, 100, 101, 102, 103] (by decide +kernel) (by decide +kernel)
set_option maxRecDepth 20000 in
theorem gX11_count_X11_wallAt : GoodIn wsX11_count (wsV RX11 373 RX11 yX11_wallAt wsX11_wallAt) := goodIn_app (goodIn_of _ (by decide +kernel)) ggX11_count_X11_wallAt
set_option maxRecDepth 20000 in
theorem ggX11_count_X11_isWall : GoodIn wsX11_count wsX11_isWall := goodIn_r _ [25, 26, 27, 28, 10, 29, 30, 31, 32, 33, 34, 35, 36, 37, 38, 39, 40, 41, 42, 43, 44, 45, 46, 47, 48, 49, 50, 51, 52, 53, 54, 55, 56, 57, 58, 59, 60, 61, 62, 63, 64, 65, 66, 67, 68, 69, 70, 71, 72, 73, 74, 75, 76, 77, 78, 79, 80, 81, 82, 83, 84, 85, 86, 87, 88, 89, 90, 91, 92, 93, 94, 95, 96, 97, 98, 99, 100, 101, 102, 103] (by decide +kernel) (by decide +kernel)
set_option maxRecDepth 20000 in
theorem gX11_count_X11_isWall : GoodIn wsX11_count (wsV RX11 327 RX11 yX11_isWall wsX11_isWall) := goodIn_app (goodIn_of _ (by decide +kernel)) ggX11_count_X11_isWall
set_option maxRecDepth 20000 in
theorem ggL_look_X10_look : GoodIn wsL_look wsX10_look := goodIn_ca (goodIn_ca (goodIn_r _ [7, 8, 9, 10, 11, 12, 13, 14, 15, 16, 17, 18, 19, 20, 21, 22, 23, 24, 25, 26, 27, 28, 29, 30, 31, 32, 33, 34, 35, 36, 37, 38, 39, 40, 41, 42, 43, 44, 45, 46, 47, 48, 49, 50, 51, 52, 53, 54, 55, 56, 57, 58, 59, 60, 61, 62, 63, 64, 65, 66, 67, 68, 69, 70, 71, 72, 73, 74, 75, 76, 77, 78, 79, 80, 81, 82, 83] (by decide +kernel) (by decide +kernel)) (goodIn_sub (fun _ h => List.mem_cons_of_mem _ (List.mem_append_left _ (List.mem_append_right _ h))) (by decide +kernel))) (goodIn_sub (fun _ h => List.mem_cons_of_mem _ (List.mem_append_right _ h)) (by decide +kernel))
set_option maxRecDepth 20000 in
theorem gL_look_X10_look : GoodIn wsL_look (wsV RL 7 RX10 yX10_look wsX10_look) := goodIn_app (goodIn_of _ (by decide +kernel)) ggL_look_X10_look
set_option maxRecDepth 20000 in
theorem ggL_law_X10_init : GoodIn wsL_law wsX10_init := goodIn_r _ [9, 10, 11, 12, 13, 14, 15, 16, 17, 18, 19, 20, 21, 22, 23, 24, 25, 26, 27, 28, 29, 30, 31, 32, 33, 34, 35, 36, 37, 38, 39, 40, 41, 42, 43, 44, 45, 46, 47, 48, 49, 50, 51, 52, 53, 54, 55, 56, 57, 58, 59, 60, 61, 62, 63, 64, 65, 66, 67, 68, 69, 70, 71, 72, 73, 74, 75, 76, 77, 78, 79, 80, 81, 82, 83, 84, 85, 86, 87, 88, 89, 90, 91, 92, 93, 94, 95, 96, 97, 98, 99, 100, 101, 102, 103, 104, 105, 6, 106, 107, 108, 109, 110, 111, 112, 113, 114, 115, 116, 117, 118, 119, 120, 121, 122, 123, 124, 125, 126, 127, 128, 129, 130, 131, 132, 133, 134, 135, 136, 137, 138, 139, 140, 141, 142, 143, 144, 145, 146, 147, 148, 149, 150, 151, 152, 153, 154, 155, 156, 157, 158, 159, 1558, 1559, 1560, 1561, 1562, 1563, 1564, 1565, 1566, 1567, 1568, 1569, 1570, 1571, 1572, 1573, 1469, 1470, 1471, 1472, 1473, 1474, 1475, 1476, 1477, 1478, 1479, 1480, 1481, 1482, 1483, 1574, 1575, 1576, 1577, 1578, 1579, 1580, 1581, 1582, 1583, 1584, 1585, 1586, 1587, 1588, 1589, 1590, 1591, 1592, 1593, 1594, 1595, 1596, 1597, 1598, 1599, 1600, 1601, 1602, 1603, 1604, 1605, 1606, 1607, 1608, 1609, 1610, 1611, 1612, 1613, 1614, 1615, 1616, 1617, 1618, 1619, 1620, 1621, 1622, 1623, 1624, 1625, 1626, 1627, 1628, 1629, 1630, 1631, 1632, 1633, 1634, 1635, 1636, 1637, 1638, 1639, 1640, 1641, 1642, 1643, 1644, 1645, 1646, 1647, 1648, 1649] (by decide +kernel) (by decide +kernel)
set_option maxRecDepth 20000 in
theorem gL_law_X10_init : GoodIn wsL_law (wsX10_init) := ggL_law_X10_init
set_option maxRecDepth 20000 in
theorem ggL_law_X11_init : GoodIn wsL_law wsX11_init := goodIn_r _ [162, 163, 11, 12, 47, 164, 165, 166, 167, 168, 169, 170, 171, 172, 173, 174, 175, 176, 177, 178, 179, 180, 181, 182, 183, 184, 185, 186, 187, 188, 189, 190, 191, 192, 193, 194, 195, 196, 197, 198, 199, 200, 201, 202, 203, 204, 205, 5, 206, 207, 208, 209, 210, 211, 212, 213, 214, 215, 216, 217, 218, 219, 220, 221, 222, 223, 224, 225, 226, 227, 228, 229, 1484, 1485, 1486, 1487, 1488, 1489, 1490, 1491, 1492, 1493, 1494, 1495, 1496, 1497, 1498, 1499, 1500, 1501, 1502, 1503, 1504, 1505, 1506, 1507, 1508, 1509, 1510, 1511, 1512, 1513, 1514, 1515, 1516, 1517, 1518, 1519, 1520, 1521, 1522, 1523, 1524, 1525, 1526, 1527, 1528, 1529, 1530, 1531, 1532, 1533, 1534, 1535, 1536, 1537, 1538, 1539, 1540, 1541, 1542, 1543, 1544, 1545, 1546, 1547, 1548, 1549, 1550, 1551, 1552, 1553, 1554, 1555, 1556, 1557] (by decide +kernel) (by decide +kernel)
set_option maxRecDepth 20000 in
theorem gL_law_X11_init : GoodIn wsL_law (wsX11_init) := ggL_law_X11_init
set_option maxRecDepth 20000 in
theorem ggL_law_X10_feed : GoodIn wsL_law wsX10_feed := goodIn_r _ [233, 16, 234, 235, 236, 237, 15, 238, 239, 240, 241, 242, 243, 63, 1469, 1470, 1471, 1472, 1473, 1474, 1475, 1476, 1477, 1478, 1479, 1480, 1481, 1482, 1483, 1558, 1559, 1560, 1561, 1562, 1563, 1564, 1565, 1566, 1567, 1568, 1569, 1570, 1571, 1572, 1573] (by decide +kernel) (by decide +kernel)
set_option maxRecDepth 20000 in
theorem gL_law_X10_feed : GoodIn wsL_law (wsV RL 21 RX10 yX10_feed wsX10_feed) := goodIn_app (goodIn_of _ (by decide +kernel)) ggL_law_X10_feed
set_option maxRecDepth 20000 in
theorem ggL_law_X11_feed : GoodIn wsL_law wsX11_feed := goodIn_r _ [247, 248, 249, 164, 1484, 1485, 1486, 1487, 1488, 1489, 1490, 1491, 1492, 1493, 1494, 1495, 1496, 1497, 1498, 1499, 1500, 1501, 1502, 1503, 1504, 1505, 1506, 1507, 1508, 1509, 1510, 1511, 1512, 1513, 1514, 1515, 1516, 1517, 1518, 1519, 1520, 1521, 1522, 1523, 1524, 1525, 1526, 1527, 1528, 1529, 1530, 1531, 1532, 1533, 1534, 1535, 1536, 1537, 1538, 1539, 1540, 1541, 1542, 1543, 1544, 1545, 1546, 1547, 1548, 1549, 1550, 1551, 1552, 1553, 1554, 1555, 1556, 1557] (by decide +kernel) (by decide +kernel)
set_option maxRecDepth 20000 in
theorem gL_law_X11_feed : GoodIn wsL_law (wsV RL 25 RX11 yX11_feed wsX11_feed) := goodIn_app (goodIn_of _ (by decide +kernel)) ggL_law_X11_feed
set_option maxRecDepth 20000 in
theorem ggL_law_X10_rules : GoodIn wsL_law wsX10_rules := goodIn_r _ [253, 16, 234, 20, 28, 40, 254, 53, 255, 256, 257, 258, 19, 259, 74, 260, 75, 261, 262, 263, 264, 265, 15, 266, 267, 268, 269, 270, 239, 271, 61, 272, 273, 274, 275, 276, 277, 278, 279, 63, 280, 281, 282, 283, 284, 285, 286, 287, 288, 289, 290, 291, 292, 293, 294, 295, 296, 297, 298, 299, 300, 301, 302, 303, 304, 305, 306, 307, 308, 309, 310, 311, 312, 313, 314, 315, 316, 317, 318, 319, 320, 321, 322, 323, 324, 325, 326, 327, 328, 329, 330, 331, 332, 333, 334, 335, 336, 337, 338, 339, 340, 341, 342, 343, 344, 345, 64, 65, 66, 67, 346, 347, 348, 349, 350, 351, 352, 353, 354, 355, 356, 357, 358, 359, 360, 361, 362, 363, 364, 365, 366, 62, 367, 368, 369, 370, 371, 372, 373, 374, 375, 376, 377, 378, 379, 380, 27, 381, 382, 81, 82, 83, 84, 80, 383, 384, 385, 386, 387, 388, 389, 390, 391, 392, 393, 394, 395, 396, 397, 398, 399, 400, 401, 402, 403, 404, 405, 406, 72, 407, 408, 409, 410, 411, 412, 413, 414, 415, 416, 417, 418, 419, 420, 421, 422, 423, 424, 425, 426, 427, 428, 429, 430, 431, 432, 433, 434, 435, 436, 437, 438, 439, 440, 441, 442, 443, 79, 444, 445, 446, 447, 448, 449, 450, 52, 451, 452, 453, 1469, 1470, 1471, 1472, 1473, 1474, 1475, 1476, 1477, 1478, 1479, 1480, 1481, 1482, 1483, 1558, 1559, 1560, 1561, 1562, 1563, 1564, 1565, 1566, 1567, 1568, 1569, 1570, 1571, 1572, 1573, 1608, 1609, 1610, 1611, 1612, 1613, 1614, 1615, 1616, 1617, 1588, 1589, 1590, 1591, 1592, 1593, 1594, 1574, 1575, 1576, 1577, 1625, 1626, 1627, 1628, 1629, 1630, 1631, 1632, 1633, 1634, 1635, 1636, 1637] (by decide +kernel) (by decide +kernel)
set_option maxRecDepth 20000 in
theorem gL_law_X10_rules : GoodIn wsL_law (wsV RL 26 RX10 yX10_rules wsX10_rules) := goodIn_app (goodIn_of _ (by decide +kernel)) ggL_law_X10_rules
set_option maxRecDepth 20000 in
theorem ggL_law_X11_rules : GoodIn wsL_law wsX11_rules := goodIn_r _ [457, 248, 458, 459, 167, 168, 169, 170, 172, 173, 174, 187, 193, 460, 461, 462, 5, 463, 249, 464, 465, 166, 466, 467, 468, 469, 470, 471, 164, 472, 473, 474, 475, 476, 477, 478, 479, 480, 481, 165, 482, 483, 484, 485, 486, 487, 488, 489, 490, 491, 492, 493, 494, 495, 496, 497, 498, 499, 500, 501, 502, 503, 504, 505, 506, 507, 508, 509, 510, 511, 512, 513, 514, 515, 516, 517, 518, 519, 520, 1484, 1485, 1486, 1487, 1488, 1489, 1490, 1491, 1492, 1493, 1494, 1495, 1496, 1497, 1498, 1499, 1500, 1501, 1502, 1503, 1504, 1505, 1506, 1507, 1508, 1509, 1510, 1511, 1512, 1513, 1514, 1515, 1516, 1517, 1518, 1519, 1520, 1521, 1522, 1523, 1524, 1525, 1526, 1527, 1528, 1529, 1530, 1531, 1532, 1533, 1534, 1535, 1536, 1537, 1538, 1539, 1540, 1541, 1542, 1543, 1544, 1545, 1546, 1547, 1548, 1549, 1550, 1551, 1552, 1553, 1554, 1555, 1556, 1557] (by decide +kernel) (by decide +kernel)
set_option maxRecDepth 20000 in
theorem gL_law_X11_rules : GoodIn wsL_law (wsV RL 30 RX11 yX11_rules wsX11_rules) := goodIn_app (goodIn_of _ (by decide +kernel)) ggL_law_X11_rules
set_option maxRecDepth 20000 in
theorem ggL_law_X10_net : GoodIn wsL_law wsX10_net := goodIn_r _ [524, 16, 234, 24, 32, 44, 525, 526, 527, 528, 529, 23, 530, 94, 531, 532, 95, 533, 534, 535, 536, 537, 31, 538, 539, 540, 541, 100, 101, 542, 264, 265, 15, 266, 267, 268, 269, 270, 239, 271, 61, 272, 273, 274, 275, 276, 277, 278, 279, 63, 280, 281, 282, 283, 284, 285, 286, 287, 288, 289, 290, 291, 292, 293, 294, 295, 296, 297, 298, 299, 300, 301, 302, 303, 304, 305, 306, 307, 308, 309, 310, 311, 312, 313, 314, 315, 316, 317, 318, 319, 320, 321, 322, 323, 324, 325, 326, 327, 328, 329, 330, 331, 332, 333, 334, 335, 336, 337, 338, 339, 340, 341, 342, 343, 344, 345, 64, 65, 66, 67, 346, 347, 348, 349, 350, 351, 352, 353, 354, 355, 356, 357, 358, 359, 360, 361, 362, 363, 364, 365, 366, 62, 543, 544, 545, 546, 547, 548, 549, 550, 551, 552, 553, 554, 555, 556, 557, 558, 559, 560, 561, 89, 562, 375, 376, 377, 563, 564, 565, 566, 567, 568, 569, 570, 571, 572, 573, 574, 575, 427, 428, 429, 576, 577, 578, 579, 580, 581, 582, 583, 584, 585, 586, 587, 588, 589, 590, 591, 592, 593, 92, 594, 595, 596, 597, 598, 599, 600, 601, 602, 90, 91, 603, 604, 605, 606, 99, 607, 608, 609, 610, 611, 612, 613, 614, 615, 616, 617, 618, 619, 620, 621, 622, 623, 624, 625, 626, 627, 628, 629, 630, 43, 631, 632, 633, 634, 635, 1469, 1470, 1471, 1472, 1473, 1474, 1475, 1476, 1477, 1478, 1479, 1480, 1481, 1482, 1483, 1558, 1559, 1560, 1561, 1562, 1563, 1564, 1565, 1566, 1567, 1568, 1569, 1570, 1571, 1572, 1573, 1595, 1596, 1597, 1598, 1599, 1600, 1578, 1579, 1580, 1581, 1582, 1583, 1584, 1585, 1586, 1587, 1618, 1619, 1620, 1621, 1622, 1623, 1624] (by decide +kernel) (by decide +kernel)
set_option maxRecDepth 20000 in
theorem gL_law_X10_net : GoodIn wsL_law (wsV RL 31 RX10 yX10_net wsX10_net) := goodIn_app (goodIn_of _ (by decide +kernel)) ggL_law_X10_net
set_option maxRecDepth 20000 in
theorem ggL_law_X11_net : GoodIn wsL_law wsX11_net := goodIn_r _ [639, 248, 640, 641, 642, 176, 177, 458, 178, 179, 181, 472, 643, 644, 180, 216, 214, 215, 191, 460, 461, 462, 5, 463, 249, 464, 465, 166, 466, 467, 468, 469, 470, 471, 164, 473, 474, 475, 476, 477, 478, 479, 480, 481, 165, 482, 483, 484, 485, 486, 487, 488, 489, 490, 491, 492, 645, 646, 647, 648, 175, 497, 498, 499, 500, 501, 502, 503, 504, 649, 650, 651, 652, 653, 654, 655, 656, 517, 518, 519, 520, 657, 658, 659, 660, 661, 662, 663, 664, 665, 666, 667, 668, 182, 669, 670, 671, 672, 673, 674, 675, 676, 183, 677, 678, 679, 680, 681, 682, 683, 684, 685, 686, 687, 688, 689, 690, 691, 225, 226, 227, 228, 229, 1484, 1485, 1486, 1487, 1488, 1489, 1490, 1491, 1492, 1493, 1494, 1495, 1496, 1497, 1498, 1499, 1500, 1501, 1502, 1503, 1504, 1505, 1506, 1507, 1508, 1509, 1510, 1511, 1512, 1513, 1514, 1515, 1516, 1517, 1518, 1519, 1520, 1521, 1522, 1523, 1524, 1525, 1526, 1527, 1528, 1529, 1530, 1531, 1532, 1533, 1534, 1535, 1536, 1537, 1538, 1539, 1540, 1541, 1542, 1543, 1544, 1545, 1546, 1547, 1548, 1549, 1550, 1551, 1552, 1553, 1554, 1555, 1556, 1557] (by decide +kernel) (by decide +kernel)
set_option maxRecDepth 20000 in
theorem gL_law_X11_net : GoodIn wsL_law (wsV RL 34 RX11 yX11_net wsX11_net) := goodIn_app (goodIn_of _ (by decide +kernel)) ggL_law_X11_net
set_option maxRecDepth 20000 in
theorem ggL_law_X10_fault : GoodIn wsL_law wsX10_fault := goodIn_r _ [695, 16, 696, 697, 1469, 1470, 1471, 1472, 1473, 1474, 1475, 1476, 1477, 1478, 1479, 1480, 1481, 1482, 1483, 1558, 1559, 1560, 1561, 1562, 1563, 1564, 1565, 1566, 1567, 1568, 1569, 1570, 1571, 1572, 1573] (by decide +kernel) (by decide +kernel)
set_option maxRecDepth 20000 in
theorem gL_law_X10_fault : GoodIn wsL_law (wsV RL 35 RX10 yX10_fault wsX10_fault) := goodIn_app (goodIn_of _ (by decide +kernel)) ggL_law_X10_fault
set_option maxRecDepth 20000 in
theorem ggL_law_X11_fault : GoodIn wsL_law wsX11_fault := goodIn_r _ [701, 248, 465, 166, 1484, 1485, 1486, 1487, 1488, 1489, 1490, 1491, 1492, 1493, 1494, 1495, 1496, 1497, 1498, 1499, 1500, 1501, 1502, 1503, 1504, 1505, 1506, 1507, 1508, 1509, 1510, 1511, 1512, 1513, 1514, 1515, 1516, 1517, 1518, 1519, 1520, 1521, 1522, 1523, 1524, 1525, 1526, 1527, 1528, 1529, 1530, 1531, 1532, 1533, 1534, 1535, 1536, 1537, 1538, 1539, 1540, 1541, 1542, 1543, 1544, 1545, 1546, 1547, 1548, 1549, 1550, 1551, 1552, 1553, 1554, 1555, 1556, 1557] (by decide +kernel) (by decide +kernel)
set_option maxRecDepth 20000 in
theorem gL_law_X11_fault : GoodIn wsL_law (wsV RL 38 RX11 yX11_fault wsX11_fault) := goodIn_app (goodIn_of _ (by decide +kernel)) ggL_law_X11_fault
set_option maxRecDepth 20000 in
theorem ggL_law_X10_floor : GoodIn wsL_law wsX10_floor := goodIn_r _ [705, 36, 40, 254, 44, 16, 234, 525, 706, 110, 111, 35, 112, 113, 114, 115, 116, 108, 107, 117, 118, 119, 120, 106, 707, 708, 709, 39, 710, 711, 712, 713, 714, 715, 716, 717, 718, 719, 720, 721, 722, 723, 724, 125, 725, 726, 727, 43, 728, 729, 730, 731, 732, 632, 633, 634, 1469, 1470, 1471, 1472, 1473, 1474, 1475, 1476, 1477, 1478, 1479, 1480, 1481, 1482, 1483, 1608, 1609, 1610, 1611, 1612, 1613, 1614, 1615, 1616, 1617, 1558, 1559, 1560, 1561, 1562, 1563, 1564, 1565, 1566, 1567, 1568, 1569, 1570, 1571, 1572, 1573, 1601, 1602, 1603, 1604, 1605, 1606, 1607, 1618, 1619, 1620, 1621, 1622, 1623, 1624] (by decide +kernel) (by decide +kernel)
set_option maxRecDepth 20000 in
theorem gL_law_X10_floor : GoodIn wsL_law (wsV RL 39 RX10 yX10_floor wsX10_floor) := goodIn_app (goodIn_of _ (by decide +kernel)) ggL_law_X10_floor
set_option maxRecDepth 20000 in
theorem ggL_law_X11_floor : GoodIn wsL_law wsX11_floor := goodIn_r _ [736, 248, 737, 738, 5, 739, 203, 204, 205, 206, 207, 208, 209, 210, 211, 212, 213, 214, 215, 216, 185, 186, 187, 191, 217, 218, 219, 220, 184, 221, 222, 223, 224, 225, 226, 227, 228, 229, 1484, 1485, 1486, 1487, 1488, 1489, 1490, 1491, 1492, 1493, 1494, 1495, 1496, 1497, 1498, 1499, 1500, 1501, 1502, 1503, 1504, 1505, 1506, 1507, 1508, 1509, 1510, 1511, 1512, 1513, 1514, 1515, 1516, 1517, 1518, 1519, 1520, 1521, 1522, 1523, 1524, 1525, 1526, 1527, 1528, 1529, 1530, 1531, 1532, 1533, 1534, 1535, 1536, 1537, 1538, 1539, 1540, 1541, 1542, 1543, 1544, 1545, 1546, 1547, 1548, 1549, 1550, 1551, 1552, 1553, 1554, 1555, 1556, 1557] (by decide +kernel) (by decide +kernel)
set_option maxRecDepth 20000 in
theorem gL_law_X11_floor : GoodIn wsL_law (wsV RL 43 RX11 yX11_floor wsX11_floor) := goodIn_app (goodIn_of _ (by decide +kernel)) ggL_law_X11_floor
set_option maxRecDepth 20000 in
theorem ggL_law_X10_wall : GoodIn wsL_law wsX10_wall := goodIn_r _ [743, 36, 744, 745, 746, 35, 747, 115, 748, 749, 2, 750, 751, 752, 753, 754, 108, 755, 756, 757, 758, 106, 759, 760, 761, 762, 763, 764, 765, 766, 767, 768, 769, 770, 771, 107, 1469, 1470, 1471, 1472, 1473, 1474, 1475, 1476, 1477, 1478, 1479, 1480, 1481, 1482, 1483, 1601, 1602, 1603, 1604, 1605, 1606, 1607] (by decide +kernel) (by decide +kernel)
set_option maxRecDepth 20000 in
theorem gL_law_X10_wall : GoodIn wsL_law (wsV RL 44 RX10 yX10_wall wsX10_wall) := goodIn_app (goodIn_of _ (by decide +kernel)) ggL_law_X10_wall
set_option maxRecDepth 20000 in
theorem ggL_law_X11_wall : GoodIn wsL_law wsX11_wall := goodIn_r _ [775, 248, 776, 777, 778, 5, 779, 221, 222, 223, 224, 207, 208, 737, 738, 739, 780, 781, 782, 783, 784, 785, 786, 787, 184, 788, 789, 790, 791, 792, 793, 794, 795, 796, 797, 798, 1484, 1485, 1486, 1487, 1488, 1489, 1490, 1491, 1492, 1493, 1494, 1495, 1496, 1497, 1498, 1499, 1500, 1501, 1502, 1503, 1504, 1505, 1506, 1507, 1508, 1509, 1510, 1511, 1512, 1513, 1514, 1515, 1516, 1517, 1518, 1519, 1520, 1521, 1522, 1523, 1524, 1525, 1526, 1527, 1528, 1529, 1530, 1531, 1532, 1533, 1534, 1535, 1536, 1537, 1538, 1539, 1540, 1541, 1542, 1543, 1544, 1545, 1546, 1547, 1548, 1549, 1550, 1551, 1552, 1553, 1554, 1555, 1556, 1557] (by decide +kernel) (by decide +kernel)
set_option maxRecDepth 20000 in
theorem gL_law_X11_wall : GoodIn wsL_law (wsV RL 48 RX11 yX11_wall wsX11_wall) := goodIn_app (goodIn_of _ (by decide +kernel)) ggL_law_X11_wall
set_option maxRecDepth 20000 in
theorem ggL_law_X10_bell : GoodIn wsL_law wsX10_bell := goodIn_r _ [802, 36, 803, 744, 745, 746, 35, 747, 115, 1469, 1470, 1471, 1472, 1473, 1474, 1475, 1476, 1477, 1478, 1479, 1480, 1481, 1482, 1483, 1601, 1602, 1603, 1604, 1605, 1606, 1607] (by decide +kernel) (by decide +kernel)
set_option maxRecDepth 20000 in
theorem gL_law_X10_bell : GoodIn wsL_law (wsV RL 49 RX10 yX10_bell wsX10_bell) := goodIn_app (goodIn_of _ (by decide +kernel)) ggL_law_X10_bell
set_option maxRecDepth 20000 in
theorem ggL_law_X11_bell : GoodIn wsL_law wsX11_bell := goodIn_r _ [807, 248, 209, 776, 777, 778, 5, 779, 221, 222, 223, 224, 207, 208, 1484, 1485, 1486, 1487, 1488, 1489, 1490, 1491, 1492, 1493, 1494, 1495, 1496, 1497, 1498, 1499, 1500, 1501, 1502, 1503, 1504, 1505, 1506, 1507, 1508, 1509, 1510, 1511, 1512, 1513, 1514, 1515, 1516, 1517, 1518, 1519, 1520, 1521, 1522, 1523, 1524, 1525, 1526, 1527, 1528, 1529, 1530, 1531, 1532, 1533, 1534, 1535, 1536, 1537, 1538, 1539, 1540, 1541, 1542, 1543, 1544, 1545, 1546, 1547, 1548, 1549, 1550, 1551, 1552, 1553, 1554, 1555, 1556, 1557] (by decide +kernel) (by decide +kernel)
set_option maxRecDepth 20000 in
theorem gL_law_X11_bell : GoodIn wsL_law (wsV RL 53 RX11 yX11_bell wsX11_bell) := goodIn_app (goodIn_of _ (by decide +kernel)) ggL_law_X11_bell
set_option maxRecDepth 20000 in
theorem ggL_law_X10_lift : GoodIn wsL_law wsX10_lift := goodIn_r _ [811, 36, 40, 812, 813, 744, 745, 746, 35, 747, 115, 748, 749, 2, 750, 1469, 1470, 1471, 1472, 1473, 1474, 1475, 1476, 1477, 1478, 1479, 1480, 1481, 1482, 1483, 1608, 1609, 1610, 1611, 1612, 1613, 1614, 1615, 1616, 1617, 1601, 1602, 1603, 1604, 1605, 1606, 1607] (by decide +kernel) (by decide +kernel)
set_option maxRecDepth 20000 in
theorem gL_law_X10_lift : GoodIn wsL_law (wsV RL 54 RX10 yX10_lift wsX10_lift) := goodIn_app (goodIn_of _ (by decide +kernel)) ggL_law_X10_lift
set_option maxRecDepth 20000 in
theorem ggL_law_X11_lift : GoodIn wsL_law wsX11_lift := goodIn_r _ [817, 248, 210, 211, 776, 777, 778, 5, 779, 221, 222, 223, 224, 207, 208, 737, 738, 739, 1484, 1485, 1486, 1487, 1488, 1489, 1490, 1491, 1492, 1493, 1494, 1495, 1496, 1497, 1498, 1499, 1500, 1501, 1502, 1503, 1504, 1505, 1506, 1507, 1508, 1509, 1510, 1511, 1512, 1513, 1514, 1515, 1516, 1517, 1518, 1519, 1520, 1521, 1522, 1523, 1524, 1525, 1526, 1527, 1528, 1529, 1530, 1531, 1532, 1533, 1534, 1535, 1536, 1537, 1538, 1539, 1540, 1541, 1542, 1543, 1544, 1545, 1546, 1547, 1548, 1549, 1550, 1551, 1552, 1553, 1554, 1555, 1556, 1557] (by decide +kernel) (by decide +kernel)
set_option maxRecDepth 20000 in
theorem gL_law_X11_lift : GoodIn wsL_law (wsV RL 57 RX11 yX11_lift wsX11_lift) := goodIn_app (goodIn_of _ (by decide +kernel)) ggL_law_X11_lift
set_option maxRecDepth 20000 in
theorem ggL_law_X10_wipe : GoodIn wsL_law wsX10_wipe := goodIn_r _ [821, 40, 822, 823, 44, 824, 825, 826, 39, 827, 723, 724, 125, 828, 829, 830, 831, 832, 833, 834, 835, 720, 721, 722, 725, 726, 727, 43, 728, 729, 730, 731, 732, 632, 633, 634, 1469, 1470, 1471, 1472, 1473, 1474, 1475, 1476, 1477, 1478, 1479, 1480, 1481, 1482, 1483, 1608, 1609, 1610, 1611, 1612, 1613, 1614, 1615, 1616, 1617, 1618, 1619, 1620, 1621, 1622, 1623, 1624] (by decide +kernel) (by decide +kernel)
set_option maxRecDepth 20000 in
theorem gL_law_X10_wipe : GoodIn wsL_law (wsV RL 58 RX10 yX10_wipe wsX10_wipe) := goodIn_app (goodIn_of _ (by decide +kernel)) ggL_law_X10_wipe
set_option maxRecDepth 20000 in
theorem ggL_law_X11_wipe : GoodIn wsL_law wsX11_wipe := goodIn_r _ [839, 248, 185, 186, 212, 213, 214, 215, 216, 221, 222, 223, 5, 224, 207, 208, 840, 841, 842, 843, 1484, 1485, 1486, 1487, 1488, 1489, 1490, 1491, 1492, 1493, 1494, 1495, 1496, 1497, 1498, 1499, 1500, 1501, 1502, 1503, 1504, 1505, 1506, 1507, 1508, 1509, 1510, 1511, 1512, 1513, 1514, 1515, 1516, 1517, 1518, 1519, 1520, 1521, 1522, 1523, 1524, 1525, 1526, 1527, 1528, 1529, 1530, 1531, 1532, 1533, 1534, 1535, 1536, 1537, 1538, 1539, 1540, 1541, 1542, 1543, 1544, 1545, 1546, 1547, 1548, 1549, 1550, 1551, 1552, 1553, 1554, 1555, 1556, 1557] (by decide +kernel) (by decide +kernel)
set_option maxRecDepth 20000 in
theorem gL_law_X11_wipe : GoodIn wsL_law (wsV RL 62 RX11 yX11_wipe wsX11_wipe) := goodIn_app (goodIn_of _ (by decide +kernel)) ggL_law_X11_wipe
set_option maxRecDepth 20000 in
theorem ggL_law_X10_tick : GoodIn wsL_law wsX10_tick := goodIn_r _ [847, 40, 28, 36, 254, 848, 849, 850, 39, 851, 718, 124, 852, 853, 854, 855, 856, 857, 717, 715, 716, 858, 859, 860, 861, 862, 125, 863, 756, 757, 35, 758, 106, 864, 865, 866, 867, 723, 724, 868, 869, 870, 27, 871, 382, 82, 81, 83, 84, 872, 873, 874, 875, 876, 354, 355, 356, 877, 878, 879, 880, 881, 882, 883, 884, 885, 886, 887, 888, 889, 890, 891, 892, 893, 894, 895, 896, 897, 719, 720, 721, 722, 1469, 1470, 1471, 1472, 1473, 1474, 1475, 1476, 1477, 1478, 1479, 1480, 1481, 1482, 1483, 1608, 1609, 1610, 1611, 1612, 1613, 1614, 1615, 1616, 1617, 1588, 1589, 1590, 1591, 1592, 1593, 1594, 1601, 1602, 1603, 1604, 1605, 1606, 1607] (by decide +kernel) (by decide +kernel)
set_option maxRecDepth 20000 in
theorem gL_law_X10_tick : GoodIn wsL_law (wsV RL 63 RX10 yX10_tick wsX10_tick) := goodIn_app (goodIn_of _ (by decide +kernel)) ggL_law_X10_tick
set_option maxRecDepth 20000 in
theorem ggL_law_X11_tick : GoodIn wsL_law wsX11_tick := goodIn_r _ [901, 248, 187, 737, 738, 5, 739, 902, 903, 904, 905, 459, 167, 168, 906, 907, 908, 909, 169, 210, 211, 209, 185, 212, 170, 213, 186, 172, 784, 785, 786, 787, 184, 788, 789, 790, 910, 911, 912, 913, 173, 174, 188, 914, 915, 916, 917, 918, 795, 796, 797, 798, 207, 840, 841, 842, 843, 221, 222, 223, 224, 208, 1484, 1485, 1486, 1487, 1488, 1489, 1490, 1491, 1492, 1493, 1494, 1495, 1496, 1497, 1498, 1499, 1500, 1501, 1502, 1503, 1504, 1505, 1506, 1507, 1508, 1509, 1510, 1511, 1512, 1513, 1514, 1515, 1516, 1517, 1518, 1519, 1520, 1521, 1522, 1523, 1524, 1525, 1526, 1527, 1528, 1529, 1530, 1531, 1532, 1533, 1534, 1535, 1536, 1537, 1538, 1539, 1540, 1541, 1542, 1543, 1544, 1545, 1546, 1547, 1548, 1549, 1550, 1551, 1552, 1553, 1554, 1555, 1556, 1557] (by decide +kernel) (by decide +kernel)
set_option maxRecDepth 20000 in
theorem gL_law_X11_tick : GoodIn wsL_law (wsV RL 66 RX11 yX11_tick wsX11_tick) := goodIn_app (goodIn_of _ (by decide +kernel)) ggL_law_X11_tick
set_option maxRecDepth 20000 in
theorem ggL_law_X10_run : GoodIn wsL_law wsX10_run := goodIn_r _ [922, 40, 28, 36, 923, 924, 925, 39, 926, 715, 858, 124, 927, 849, 850, 851, 718, 852, 853, 854, 855, 856, 857, 717, 716, 859, 860, 861, 862, 125, 863, 756, 757, 35, 758, 106, 864, 865, 866, 867, 723, 724, 868, 869, 870, 27, 871, 382, 82, 81, 83, 84, 872, 873, 874, 875, 876, 354, 355, 356, 877, 878, 879, 880, 881, 882, 883, 884, 885, 886, 887, 888, 889, 890, 891, 892, 893, 894, 895, 896, 897, 719, 720, 721, 722, 1469, 1470, 1471, 1472, 1473, 1474, 1475, 1476, 1477, 1478, 1479, 1480, 1481, 1482, 1483, 1608, 1609, 1610, 1611, 1612, 1613, 1614, 1615, 1616, 1617, 1601, 1602, 1603, 1604, 1605, 1606, 1607, 1588, 1589, 1590, 1591, 1592, 1593, 1594] (by decide +kernel) (by decide +kernel)
set_option maxRecDepth 20000 in
theorem gL_law_X10_run : GoodIn wsL_law (wsV RL 67 RX10 yX10_run wsX10_run) := goodIn_app (goodIn_of _ (by decide +kernel)) ggL_law_X10_run
set_option maxRecDepth 20000 in
theorem ggL_law_X11_run : GoodIn wsL_law wsX11_run := goodIn_r _ [931, 248, 210, 209, 187, 737, 738, 5, 739, 902, 903, 904, 905, 459, 167, 168, 906, 907, 908, 909, 169, 211, 185, 212, 170, 213, 186, 172, 784, 785, 786, 787, 184, 788, 789, 790, 910, 911, 912, 913, 173, 174, 188, 914, 915, 916, 917, 918, 795, 796, 797, 798, 207, 840, 841, 842, 843, 221, 222, 223, 224, 208, 1484, 1485, 1486, 1487, 1488, 1489, 1490, 1491, 1492, 1493, 1494, 1495, 1496, 1497, 1498, 1499, 1500, 1501, 1502, 1503, 1504, 1505, 1506, 1507, 1508, 1509, 1510, 1511, 1512, 1513, 1514, 1515, 1516, 1517, 1518, 1519, 1520, 1521, 1522, 1523, 1524, 1525, 1526, 1527, 1528, 1529, 1530, 1531, 1532, 1533, 1534, 1535, 1536, 1537, 1538, 1539, 1540, 1541, 1542, 1543, 1544, 1545, 1546, 1547, 1548, 1549, 1550, 1551, 1552, 1553, 1554, 1555, 1556, 1557] (by decide +kernel) (by decide +kernel)
set_option maxRecDepth 20000 in
theorem gL_law_X11_run : GoodIn wsL_law (wsV RL 70 RX11 yX11_run wsX11_run) := goodIn_app (goodIn_of _ (by decide +kernel)) ggL_law_X11_run
set_option maxRecDepth 20000 in
theorem ggL_law_X10_mouse : GoodIn wsL_law wsX10_mouse := goodIn_r _ [935, 40, 812, 813, 822, 823, 254, 1469, 1470, 1471, 1472, 1473, 1474, 1475, 1476, 1477, 1478, 1479, 1480, 1481, 1482, 1483, 1608, 1609, 1610, 1611, 1612, 1613, 1614, 1615, 1616, 1617] (by decide +kernel) (by decide +kernel)
set_option maxRecDepth 20000 in
theorem gL_law_X10_mouse : GoodIn wsL_law (wsV RL 71 RX10 yX10_mouse wsX10_mouse) := goodIn_app (goodIn_of _ (by decide +kernel)) ggL_law_X10_mouse
set_option maxRecDepth 20000 in
theorem ggL_law_X11_mouse : GoodIn wsL_law wsX11_mouse := goodIn_r _ [939, 248, 210, 211, 212, 213, 187, 1484, 1485, 1486, 1487, 1488, 1489, 1490, 1491, 1492, 1493, 1494, 1495, 1496, 1497, 1498, 1499, 1500, 1501, 1502, 1503, 1504, 1505, 1506, 1507, 1508, 1509, 1510, 1511, 1512, 1513, 1514, 1515, 1516, 1517, 1518, 1519, 1520, 1521, 1522, 1523, 1524, 1525, 1526, 1527, 1528, 1529, 1530, 1531, 1532, 1533, 1534, 1535, 1536, 1537, 1538, 1539, 1540, 1541, 1542, 1543, 1544, 1545, 1546, 1547, 1548, 1549, 1550, 1551, 1552, 1553, 1554, 1555, 1556, 1557] (by decide +kernel) (by decide +kernel)
set_option maxRecDepth 20000 in
theorem gL_law_X11_mouse : GoodIn wsL_law (wsV RL 74 RX11 yX11_mouse wsX11_mouse) := goodIn_app (goodIn_of _ (by decide +kernel)) ggL_law_X11_mouse
set_option maxRecDepth 20000 in
theorem ggL_law_L_look : GoodIn wsL_law wsL_look := goodIn_ca (goodIn_ca (goodIn_r _ [943, 944, 945, 946, 947, 948, 2, 949, 950, 951, 952, 953, 36, 40, 744, 745, 746, 35, 747, 115, 954, 865, 866, 39, 867, 723, 724, 955, 860, 861, 862, 125, 956, 957, 958, 959, 960, 756, 757, 758, 106, 961, 962, 963, 964, 116, 965, 966, 967, 968, 767, 113, 1469, 1470, 1471, 1472, 1473, 1474, 1475, 1476, 1477, 1478, 1479, 1480, 1481, 1482, 1483, 1601, 1602, 1603, 1604, 1605, 1606, 1607, 1608, 1609, 1610, 1611, 1612, 1613, 1614, 1615, 1616, 1617] (by decide +kernel) (by decide +kernel)) (goodIn_sub (fun _ h => List.mem_append_left _ (List.mem_append_right _ h)) (by decide +kernel))) (goodIn_sub (fun _ h => List.mem_append_right _ h) (by decide +kernel))
set_option maxRecDepth 20000 in
theorem gL_law_L_look : GoodIn wsL_law (va_wsS RL 75 yL_look wsL_look) := goodIn_app (goodIn_of _ (by decide +kernel)) ggL_law_L_look
set_option maxRecDepth 20000 in
theorem ggL_law_X11_look : GoodIn wsL_law wsX11_look := goodIn_r _ [972, 248, 185, 186, 184, 189, 776, 777, 778, 5, 779, 221, 222, 223, 224, 207, 208, 973, 974, 975, 976, 977, 978, 979, 980, 209, 190, 784, 785, 786, 787, 788, 789, 790, 795, 796, 797, 798, 1484, 1485, 1486, 1487, 1488, 1489, 1490, 1491, 1492, 1493, 1494, 1495, 1496, 1497, 1498, 1499, 1500, 1501, 1502, 1503, 1504, 1505, 1506, 1507, 1508, 1509, 1510, 1511, 1512, 1513, 1514, 1515, 1516, 1517, 1518, 1519, 1520, 1521, 1522, 1523, 1524, 1525, 1526, 1527, 1528, 1529, 1530, 1531, 1532, 1533, 1534, 1535, 1536, 1537, 1538, 1539, 1540, 1541, 1542, 1543, 1544, 1545, 1546, 1547, 1548, 1549, 1550, 1551, 1552, 1553, 1554, 1555, 1556, 1557] (by decide +kernel) (by decide +kernel)
set_option maxRecDepth 20000 in
theorem gL_law_X11_look : GoodIn wsL_law (wsV RL 80 RX11 yX11_look wsX11_look) := goodIn_app (goodIn_of _ (by decide +kernel)) ggL_law_X11_look
set_option maxRecDepth 20000 in
theorem ggL_law_X11_thrown : GoodIn wsL_law wsX11_thrown := goodIn_r _ [984, 248, 1484, 1485, 1486, 1487, 1488, 1489, 1490, 1491, 1492, 1493, 1494, 1495, 1496, 1497, 1498, 1499, 1500, 1501, 1502, 1503, 1504, 1505, 1506, 1507, 1508, 1509, 1510, 1511, 1512, 1513, 1514, 1515, 1516, 1517, 1518, 1519, 1520, 1521, 1522, 1523, 1524, 1525, 1526, 1527, 1528, 1529, 1530, 1531, 1532, 1533, 1534, 1535, 1536, 1537, 1538, 1539, 1540, 1541, 1542, 1543, 1544, 1545, 1546, 1547, 1548, 1549, 1550, 1551, 1552, 1553, 1554, 1555, 1556, 1557] (by decide +kernel) (by decide +kernel)
set_option maxRecDepth 20000 in
theorem gL_law_X11_thrown : GoodIn wsL_law (wsV RL 81 RX11 yX11_thrown wsX11_thrown) := goodIn_app (goodIn_of _ (by decide +kernel)) ggL_law_X11_thrown
set_option maxRecDepth 20000 in
theorem ggL_law_X10_comes : GoodIn wsL_law wsX10_comes := goodIn_r _ [988, 36, 989, 990, 991, 992, 35, 993, 116, 115, 965, 966, 967, 968, 106, 767, 113, 994, 995, 996, 2, 997, 49, 998, 28, 707, 708, 709, 39, 710, 711, 712, 713, 714, 715, 716, 717, 718, 719, 720, 721, 722, 723, 724, 125, 999, 923, 924, 925, 926, 858, 124, 927, 849, 850, 851, 852, 853, 854, 855, 856, 857, 859, 860, 861, 862, 863, 756, 757, 758, 864, 865, 866, 867, 868, 869, 870, 27, 871, 382, 82, 81, 83, 84, 872, 873, 874, 875, 876, 354, 355, 356, 877, 878, 879, 880, 881, 882, 883, 884, 885, 886, 887, 888, 889, 890, 891, 892, 893, 894, 895, 896, 897, 1469, 1470, 1471, 1472, 1473, 1474, 1475, 1476, 1477, 1478, 1479, 1480, 1481, 1482, 1483, 1601, 1602, 1603, 1604, 1605, 1606, 1607, 1608, 1609, 1610, 1611, 1612, 1613, 1614, 1615, 1616, 1617, 1588, 1589, 1590, 1591, 1592, 1593, 1594] (by decide +kernel) (by decide +kernel)
set_option maxRecDepth 20000 in
theorem gL_law_X10_comes : GoodIn wsL_law (wsV RL 84 RX10 yX10_comes wsX10_comes) := goodIn_app (goodIn_of _ (by decide +kernel)) ggL_law_X10_comes
set_option maxRecDepth 20000 in
theorem ggL_law_X11_comes : GoodIn wsL_law wsX11_comes := goodIn_r _ [1003, 248, 189, 737, 738, 5, 739, 1004, 1005, 1006, 1007, 192, 207, 208, 209, 210, 211, 212, 213, 216, 184, 185, 186, 977, 978, 979, 980, 190, 784, 785, 786, 787, 788, 789, 790, 795, 796, 797, 798, 221, 222, 223, 224, 1008, 1009, 1010, 1011, 840, 841, 842, 843, 1012, 1013, 1014, 1015, 902, 903, 904, 905, 459, 167, 168, 906, 907, 908, 909, 169, 170, 172, 910, 911, 912, 913, 173, 174, 188, 914, 915, 916, 917, 918, 1016, 1017, 1018, 1019, 1484, 1485, 1486, 1487, 1488, 1489, 1490, 1491, 1492, 1493, 1494, 1495, 1496, 1497, 1498, 1499, 1500, 1501, 1502, 1503, 1504, 1505, 1506, 1507, 1508, 1509, 1510, 1511, 1512, 1513, 1514, 1515, 1516, 1517, 1518, 1519, 1520, 1521, 1522, 1523, 1524, 1525, 1526, 1527, 1528, 1529, 1530, 1531, 1532, 1533, 1534, 1535, 1536, 1537, 1538, 1539, 1540, 1541, 1542, 1543, 1544, 1545, 1546, 1547, 1548, 1549, 1550, 1551, 1552, 1553, 1554, 1555, 1556, 1557] (by decide +kernel) (by decide +kernel)
set_option maxRecDepth 20000 in
theorem gL_law_X11_comes : GoodIn wsL_law (wsV RL 87 RX11 yX11_comes wsX11_comes) := goodIn_app (goodIn_of _ (by decide +kernel)) ggL_law_X11_comes
set_option maxRecDepth 20000 in
theorem ggL_law_X10_second : GoodIn wsL_law wsX10_second := goodIn_r _ [1023, 36, 49, 998, 744, 745, 746, 35, 747, 115, 994, 995, 996, 2, 997, 28, 707, 708, 709, 39, 710, 711, 712, 713, 714, 715, 716, 717, 718, 719, 720, 721, 722, 723, 724, 125, 999, 923, 924, 925, 926, 858, 124, 927, 849, 850, 851, 852, 853, 854, 855, 856, 857, 859, 860, 861, 862, 863, 756, 757, 758, 106, 864, 865, 866, 867, 868, 869, 870, 27, 871, 382, 82, 81, 83, 84, 872, 873, 874, 875, 876, 354, 355, 356, 877, 878, 879, 880, 881, 882, 883, 884, 885, 886, 887, 888, 889, 890, 891, 892, 893, 894, 895, 896, 897, 1469, 1470, 1471, 1472, 1473, 1474, 1475, 1476, 1477, 1478, 1479, 1480, 1481, 1482, 1483, 1608, 1609, 1610, 1611, 1612, 1613, 1614, 1615, 1616, 1617, 1601, 1602, 1603, 1604, 1605, 1606, 1607, 1588, 1589, 1590, 1591, 1592, 1593, 1594] (by decide +kernel) (by decide +kernel)
set_option maxRecDepth 20000 in
theorem gL_law_X10_second : GoodIn wsL_law (wsV RL 88 RX10 yX10_second wsX10_second) := goodIn_app (goodIn_of _ (by decide +kernel)) ggL_law_X10_second
set_option maxRecDepth 20000 in
theorem ggL_law_X11_second : GoodIn wsL_law wsX11_second := goodIn_r _ [1027, 248, 918, 210, 211, 212, 213, 776, 777, 778, 5, 779, 221, 222, 223, 224, 207, 208, 737, 738, 739, 1004, 1005, 1006, 1007, 192, 209, 216, 184, 185, 186, 1008, 1009, 1010, 1011, 840, 841, 842, 843, 1012, 1013, 1014, 1015, 902, 903, 904, 905, 459, 167, 168, 906, 907, 908, 909, 169, 170, 172, 784, 785, 786, 787, 788, 789, 790, 910, 911, 912, 913, 173, 174, 188, 914, 915, 916, 917, 795, 796, 797, 798, 1016, 1017, 1018, 1019, 1484, 1485, 1486, 1487, 1488, 1489, 1490, 1491, 1492, 1493, 1494, 1495, 1496, 1497, 1498, 1499, 1500, 1501, 1502, 1503, 1504, 1505, 1506, 1507, 1508, 1509, 1510, 1511, 1512, 1513, 1514, 1515, 1516, 1517, 1518, 1519, 1520, 1521, 1522, 1523, 1524, 1525, 1526, 1527, 1528, 1529, 1530, 1531, 1532, 1533, 1534, 1535, 1536, 1537, 1538, 1539, 1540, 1541, 1542, 1543, 1544, 1545, 1546, 1547, 1548, 1549, 1550, 1551, 1552, 1553, 1554, 1555, 1556, 1557] (by decide +kernel) (by decide +kernel)
set_option maxRecDepth 20000 in
theorem gL_law_X11_second : GoodIn wsL_law (wsV RL 91 RX11 yX11_second wsX11_second) := goodIn_app (goodIn_of _ (by decide +kernel)) ggL_law_X11_second
set_option maxRecDepth 20000 in
theorem ggL_law_X10_held : GoodIn wsL_law wsX10_held := goodIn_r _ [1031, 53, 28, 1032, 1033, 52, 1034, 1035, 1036, 1037, 1038, 452, 137, 138, 1039, 1040, 1041, 1042, 1043, 1044, 1045, 1046, 133, 1047, 1048, 1049, 1050, 110, 111, 35, 112, 113, 114, 115, 116, 108, 107, 117, 118, 119, 120, 106, 1051, 991, 992, 993, 965, 966, 967, 968, 767, 1052, 1053, 1054, 1055, 1056, 135, 1057, 1058, 1059, 1060, 1061, 1062, 1063, 1064, 1065, 1066, 1067, 1068, 1069, 1070, 1071, 1072, 1073, 1074, 1075, 1076, 1077, 1078, 1079, 760, 761, 762, 763, 764, 765, 766, 768, 769, 770, 771, 1080, 708, 709, 39, 710, 711, 712, 713, 714, 715, 716, 717, 718, 719, 720, 721, 722, 723, 724, 125, 1081, 924, 925, 926, 858, 124, 927, 849, 850, 851, 852, 853, 854, 855, 856, 857, 859, 860, 861, 862, 863, 756, 757, 758, 864, 865, 866, 867, 868, 869, 870, 27, 871, 382, 82, 81, 83, 84, 872, 873, 874, 875, 876, 354, 355, 356, 877, 878, 879, 880, 881, 882, 883, 884, 885, 886, 887, 888, 889, 890, 891, 892, 893, 894, 895, 896, 897, 1469, 1470, 1471, 1472, 1473, 1474, 1475, 1476, 1477, 1478, 1479, 1480, 1481, 1482, 1483, 1625, 1626, 1627, 1628, 1629, 1630, 1631, 1632, 1633, 1634, 1635, 1636, 1637, 1601, 1602, 1603, 1604, 1605, 1606, 1607, 1608, 1609, 1610, 1611, 1612, 1613, 1614, 1615, 1616, 1617, 1588, 1589, 1590, 1591, 1592, 1593, 1594] (by decide +kernel) (by decide +kernel)
set_option maxRecDepth 20000 in
theorem gL_law_X10_held : GoodIn wsL_law (wsV RL 92 RX10 yX10_held wsX10_held) := goodIn_app (goodIn_of _ (by decide +kernel)) ggL_law_X10_held
set_option maxRecDepth 20000 in
theorem ggL_law_X11_held : GoodIn wsL_law wsX11_held := goodIn_r _ [1085, 248, 194, 195, 1086, 1087, 5, 1088, 737, 738, 739, 1089, 1090, 1091, 1092, 193, 196, 189, 1004, 1005, 1006, 1007, 192, 207, 208, 209, 210, 211, 212, 213, 216, 184, 185, 186, 1093, 1094, 1095, 1096, 1097, 1098, 1099, 1100, 1101, 1102, 1103, 1104, 217, 218, 219, 220, 221, 222, 223, 224, 788, 789, 790, 1105, 1106, 1107, 1108, 791, 792, 793, 794, 795, 796, 797, 798, 977, 978, 979, 980, 190, 784, 785, 786, 787, 1109, 1110, 1111, 1112, 197, 198, 1008, 1009, 1010, 1011, 840, 841, 842, 843, 1012, 1013, 1014, 1015, 902, 903, 904, 905, 459, 167, 168, 906, 907, 908, 909, 169, 170, 172, 910, 911, 912, 913, 173, 174, 188, 914, 915, 916, 917, 918, 1016, 1017, 1018, 1019, 1484, 1485, 1486, 1487, 1488, 1489, 1490, 1491, 1492, 1493, 1494, 1495, 1496, 1497, 1498, 1499, 1500, 1501, 1502, 1503, 1504, 1505, 1506, 1507, 1508, 1509, 1510, 1511, 1512, 1513, 1514, 1515, 1516, 1517, 1518, 1519, 1520, 1521, 1522, 1523, 1524, 1525, 1526, 1527, 1528, 1529, 1530, 1531, 1532, 1533, 1534, 1535, 1536, 1537, 1538, 1539, 1540, 1541, 1542, 1543, 1544, 1545, 1546, 1547, 1548, 1549, 1550, 1551, 1552, 1553, 1554, 1555, 1556, 1557] (by decide +kernel) (by decide +kernel)
set_option maxRecDepth 20000 in
theorem gL_law_X11_held : GoodIn wsL_law (wsV RL 96 RX11 yX11_held wsX11_held) := goodIn_app (goodIn_of _ (by decide +kernel)) ggL_law_X11_held
set_option maxRecDepth 20000 in
theorem ggL_law_X10_longest : GoodIn wsL_law wsX10_longest := goodIn_r _ [1116, 53, 28, 1032, 1033, 52, 1034, 1117, 1118, 1119, 1120, 453, 139, 140, 141, 1039, 1040, 1041, 1042, 1043, 1044, 1045, 1046, 133, 1047, 1048, 1049, 1050, 110, 111, 35, 112, 113, 114, 115, 116, 108, 107, 117, 118, 119, 120, 106, 1051, 991, 992, 993, 965, 966, 967, 968, 767, 1121, 1122, 1123, 1124, 1056, 135, 1057, 1058, 1059, 1060, 1061, 1062, 1063, 1064, 1065, 1066, 1067, 1068, 1069, 1070, 1071, 1072, 1073, 1074, 1075, 1076, 1077, 1078, 1079, 760, 761, 762, 763, 764, 765, 766, 768, 769, 770, 771, 1080, 708, 709, 39, 710, 711, 712, 713, 714, 715, 716, 717, 718, 719, 720, 721, 722, 723, 724, 125, 1081, 924, 925, 926, 858, 124, 927, 849, 850, 851, 852, 853, 854, 855, 856, 857, 859, 860, 861, 862, 863, 756, 757, 758, 864, 865, 866, 867, 868, 869, 870, 27, 871, 382, 82, 81, 83, 84, 872, 873, 874, 875, 876, 354, 355, 356, 877, 878, 879, 880, 881, 882, 883, 884, 885, 886, 887, 888, 889, 890, 891, 892, 893, 894, 895, 896, 897, 1469, 1470, 1471, 1472, 1473, 1474, 1475, 1476, 1477, 1478, 1479, 1480, 1481, 1482, 1483, 1625, 1626, 1627, 1628, 1629, 1630, 1631, 1632, 1633, 1634, 1635, 1636, 1637, 1601, 1602, 1603, 1604, 1605, 1606, 1607, 1608, 1609, 1610, 1611, 1612, 1613, 1614, 1615, 1616, 1617, 1588, 1589, 1590, 1591, 1592, 1593, 1594] (by decide +kernel) (by decide +kernel)
set_option maxRecDepth 20000 in
theorem gL_law_X10_longest : GoodIn wsL_law (wsV RL 97 RX10 yX10_longest wsX10_longest) := goodIn_app (goodIn_of _ (by decide +kernel)) ggL_law_X10_longest
set_option maxRecDepth 20000 in
theorem ggL_law_X11_longest : GoodIn wsL_law wsX11_longest := goodIn_r _ [1128, 248, 196, 197, 198, 1086, 1087, 5, 1088, 737, 738, 739, 1089, 1090, 1091, 1092, 193, 194, 195, 189, 1004, 1005, 1006, 1007, 192, 207, 208, 209, 210, 211, 212, 213, 216, 184, 185, 186, 1093, 1094, 1095, 1096, 1097, 1098, 1099, 1100, 1101, 1102, 1103, 1104, 217, 218, 219, 220, 221, 222, 223, 224, 788, 789, 790, 1105, 1106, 1107, 1108, 791, 792, 793, 794, 795, 796, 797, 798, 977, 978, 979, 980, 190, 784, 785, 786, 787, 1109, 1110, 1111, 1112, 1008, 1009, 1010, 1011, 840, 841, 842, 843, 1012, 1013, 1014, 1015, 902, 903, 904, 905, 459, 167, 168, 906, 907, 908, 909, 169, 170, 172, 910, 911, 912, 913, 173, 174, 188, 914, 915, 916, 917, 918, 1016, 1017, 1018, 1019, 1484, 1485, 1486, 1487, 1488, 1489, 1490, 1491, 1492, 1493, 1494, 1495, 1496, 1497, 1498, 1499, 1500, 1501, 1502, 1503, 1504, 1505, 1506, 1507, 1508, 1509, 1510, 1511, 1512, 1513, 1514, 1515, 1516, 1517, 1518, 1519, 1520, 1521, 1522, 1523, 1524, 1525, 1526, 1527, 1528, 1529, 1530, 1531, 1532, 1533, 1534, 1535, 1536, 1537, 1538, 1539, 1540, 1541, 1542, 1543, 1544, 1545, 1546, 1547, 1548, 1549, 1550, 1551, 1552, 1553, 1554, 1555, 1556, 1557] (by decide +kernel) (by decide +kernel)
set_option maxRecDepth 20000 in
theorem gL_law_X11_longest : GoodIn wsL_law (wsV RL 100 RX11 yX11_longest wsX11_longest) := goodIn_app (goodIn_of _ (by decide +kernel)) ggL_law_X11_longest
set_option maxRecDepth 20000 in
theorem ggL_law_X10_needs : GoodIn wsL_law wsX10_needs := goodIn_r _ [1132, 53, 28, 1032, 1033, 52, 1034, 1133, 1134, 1135, 1136, 136, 1137, 1056, 1138, 1139, 1140, 27, 1141, 382, 81, 80, 79, 1142, 438, 439, 1043, 1044, 1045, 1046, 133, 1047, 1048, 1049, 1050, 110, 111, 35, 112, 113, 114, 115, 116, 108, 107, 117, 118, 119, 120, 106, 1051, 991, 992, 993, 965, 966, 967, 968, 767, 1057, 1058, 1059, 1060, 1061, 1062, 1063, 1064, 1065, 1066, 1067, 1068, 1069, 1070, 1071, 1072, 1073, 1074, 1075, 1076, 1077, 1078, 1079, 760, 761, 762, 763, 764, 765, 766, 768, 769, 770, 771, 1143, 1144, 1145, 1146, 135, 1147, 1148, 1080, 708, 709, 39, 710, 711, 712, 713, 714, 715, 716, 717, 718, 719, 720, 721, 722, 723, 724, 125, 1149, 849, 850, 851, 124, 852, 853, 854, 855, 856, 857, 858, 859, 860, 861, 862, 863, 756, 757, 758, 864, 865, 866, 867, 868, 869, 870, 871, 82, 83, 84, 872, 873, 874, 875, 876, 354, 355, 356, 877, 878, 879, 880, 881, 882, 883, 884, 885, 886, 887, 888, 889, 890, 891, 892, 893, 894, 895, 896, 897, 1150, 1151, 1152, 1153, 1469, 1470, 1471, 1472, 1473, 1474, 1475, 1476, 1477, 1478, 1479, 1480, 1481, 1482, 1483, 1625, 1626, 1627, 1628, 1629, 1630, 1631, 1632, 1633, 1634, 1635, 1636, 1637, 1608, 1609, 1610, 1611, 1612, 1613, 1614, 1615, 1616, 1617, 1588, 1589, 1590, 1591, 1592, 1593, 1594, 1601, 1602, 1603, 1604, 1605, 1606, 1607] (by decide +kernel) (by decide +kernel)
set_option maxRecDepth 20000 in
theorem gL_law_X10_needs : GoodIn wsL_law (wsV RL 101 RX10 yX10_needs wsX10_needs) := goodIn_app (goodIn_of _ (by decide +kernel)) ggL_law_X10_needs
set_option maxRecDepth 20000 in
theorem ggL_law_X11_needs : GoodIn wsL_law wsX11_needs := goodIn_r _ [1157, 248, 189, 737, 738, 5, 739, 1086, 1087, 1088, 1004, 1005, 1006, 1007, 192, 207, 208, 209, 210, 211, 212, 213, 216, 184, 185, 186, 1093, 1094, 1095, 1096, 1097, 1098, 1099, 1100, 1101, 1102, 1103, 1104, 217, 218, 219, 220, 221, 222, 223, 224, 788, 789, 790, 1105, 1106, 1107, 1108, 791, 792, 793, 794, 795, 796, 797, 798, 977, 978, 979, 980, 190, 784, 785, 786, 787, 1158, 1159, 1160, 1161, 199, 188, 1008, 1009, 1010, 1011, 840, 841, 842, 843, 902, 903, 904, 905, 459, 167, 168, 906, 907, 908, 909, 169, 170, 172, 910, 911, 912, 913, 173, 174, 914, 915, 916, 917, 918, 1016, 1017, 1018, 1019, 1484, 1485, 1486, 1487, 1488, 1489, 1490, 1491, 1492, 1493, 1494, 1495, 1496, 1497, 1498, 1499, 1500, 1501, 1502, 1503, 1504, 1505, 1506, 1507, 1508, 1509, 1510, 1511, 1512, 1513, 1514, 1515, 1516, 1517, 1518, 1519, 1520, 1521, 1522, 1523, 1524, 1525, 1526, 1527, 1528, 1529, 1530, 1531, 1532, 1533, 1534, 1535, 1536, 1537, 1538, 1539, 1540, 1541, 1542, 1543, 1544, 1545, 1546, 1547, 1548, 1549, 1550, 1551, 1552, 1553, 1554, 1555, 1556, 1557] (by decide +kernel) (by decide +kernel)
set_option maxRecDepth 20000 in
theorem gL_law_X11_needs : GoodIn wsL_law (wsV RL 104 RX11 yX11_needs wsX11_needs) := goodIn_app (goodIn_of _ (by decide +kernel)) ggL_law_X11_needs
set_option maxRecDepth 20000 in
theorem ggL_law_X10_knows : GoodIn wsL_law wsX10_knows := goodIn_r _ [1165, 36, 989, 803, 40, 744, 745, 746, 35, 747, 115, 954, 865, 866, 39, 867, 723, 724, 755, 756, 757, 758, 106, 1166, 769, 770, 771, 107, 1469, 1470, 1471, 1472, 1473, 1474, 1475, 1476, 1477, 1478, 1479, 1480, 1481, 1482, 1483, 1601, 1602, 1603, 1604, 1605, 1606, 1607, 1608, 1609, 1610, 1611, 1612, 1613, 1614, 1615, 1616, 1617] (by decide +kernel) (by decide +kernel)
set_option maxRecDepth 20000 in
theorem gL_law_X10_knows : GoodIn wsL_law (wsV RL 105 RX10 yX10_knows wsX10_knows) := goodIn_app (goodIn_of _ (by decide +kernel)) ggL_law_X10_knows
set_option maxRecDepth 20000 in
theorem ggL_law_X11_knows : GoodIn wsL_law wsX11_knows := goodIn_r _ [1170, 248, 209, 185, 776, 777, 778, 5, 779, 221, 222, 223, 224, 207, 208, 784, 785, 786, 787, 184, 788, 789, 790, 795, 796, 797, 798, 1484, 1485, 1486, 1487, 1488, 1489, 1490, 1491, 1492, 1493, 1494, 1495, 1496, 1497, 1498, 1499, 1500, 1501, 1502, 1503, 1504, 1505, 1506, 1507, 1508, 1509, 1510, 1511, 1512, 1513, 1514, 1515, 1516, 1517, 1518, 1519, 1520, 1521, 1522, 1523, 1524, 1525, 1526, 1527, 1528, 1529, 1530, 1531, 1532, 1533, 1534, 1535, 1536, 1537, 1538, 1539, 1540, 1541, 1542, 1543, 1544, 1545, 1546, 1547, 1548, 1549, 1550, 1551, 1552, 1553, 1554, 1555, 1556, 1557] (by decide +kernel) (by decide +kernel)
set_option maxRecDepth 20000 in
theorem gL_law_X11_knows : GoodIn wsL_law (wsV RL 108 RX11 yX11_knows wsX11_knows) := goodIn_app (goodIn_of _ (by decide +kernel)) ggL_law_X11_knows
set_option maxRecDepth 20000 in
theorem ggL_law_X10_pull : GoodIn wsL_law wsX10_pull := goodIn_r _ [1174, 40, 998, 44, 32, 36, 1175, 1176, 1177, 43, 1178, 1179, 634, 1180, 1181, 635, 1182, 1183, 1184, 39, 1185, 715, 716, 1186, 858, 1187, 864, 865, 866, 867, 723, 724, 863, 756, 757, 35, 758, 106, 1188, 1189, 1190, 31, 1191, 539, 1192, 1193, 1194, 1195, 100, 101, 99, 729, 730, 731, 732, 632, 633, 1196, 1197, 1198, 1199, 1200, 573, 574, 1201, 1202, 1203, 1204, 881, 882, 883, 884, 885, 877, 878, 879, 880, 886, 887, 888, 889, 890, 891, 892, 1469, 1470, 1471, 1472, 1473, 1474, 1475, 1476, 1477, 1478, 1479, 1480, 1481, 1482, 1483, 1608, 1609, 1610, 1611, 1612, 1613, 1614, 1615, 1616, 1617, 1618, 1619, 1620, 1621, 1622, 1623, 1624, 1601, 1602, 1603, 1604, 1605, 1606, 1607, 1595, 1596, 1597, 1598, 1599, 1600] (by decide +kernel) (by decide +kernel)
set_option maxRecDepth 20000 in
theorem gL_law_X10_pull : GoodIn wsL_law (wsV RL 109 RX10 yX10_pull wsX10_pull) := goodIn_app (goodIn_of _ (by decide +kernel)) ggL_law_X10_pull
set_option maxRecDepth 20000 in
theorem ggL_law_X11_pull : GoodIn wsL_law wsX11_pull := goodIn_r _ [1208, 248, 918, 737, 738, 5, 739, 1209, 1210, 1211, 1212, 1213, 216, 1214, 1215, 229, 1216, 1217, 1218, 1219, 210, 211, 209, 185, 784, 785, 786, 787, 184, 788, 789, 790, 1220, 1221, 1222, 1223, 643, 214, 215, 1224, 1225, 1226, 1227, 176, 177, 178, 200, 179, 180, 914, 915, 916, 917, 795, 796, 797, 798, 207, 1484, 1485, 1486, 1487, 1488, 1489, 1490, 1491, 1492, 1493, 1494, 1495, 1496, 1497, 1498, 1499, 1500, 1501, 1502, 1503, 1504, 1505, 1506, 1507, 1508, 1509, 1510, 1511, 1512, 1513, 1514, 1515, 1516, 1517, 1518, 1519, 1520, 1521, 1522, 1523, 1524, 1525, 1526, 1527, 1528, 1529, 1530, 1531, 1532, 1533, 1534, 1535, 1536, 1537, 1538, 1539, 1540, 1541, 1542, 1543, 1544, 1545, 1546, 1547, 1548, 1549, 1550, 1551, 1552, 1553, 1554, 1555, 1556, 1557] (by decide +kernel) (by decide +kernel)
set_option maxRecDepth 20000 in
theorem gL_law_X11_pull : GoodIn wsL_law (wsV RL 112 RX11 yX11_pull wsX11_pull) := goodIn_app (goodIn_of _ (by decide +kernel)) ggL_law_X11_pull
set_option maxRecDepth 20000 in
theorem ggL_law_X10_pullRun : GoodIn wsL_law wsX10_pullRun := goodIn_r _ [1231, 40, 812, 36, 803, 44, 32, 1175, 1176, 1177, 43, 1178, 1179, 634, 1180, 1181, 635, 1182, 1183, 1184, 39, 1185, 715, 716, 1186, 858, 1187, 864, 865, 866, 867, 723, 724, 863, 756, 757, 35, 758, 106, 1188, 1189, 1190, 31, 1191, 539, 1192, 1193, 1194, 1195, 100, 101, 99, 729, 730, 731, 732, 632, 633, 1196, 1197, 1198, 1199, 1200, 573, 574, 1201, 1202, 1203, 1204, 881, 882, 883, 884, 885, 877, 878, 879, 880, 886, 887, 888, 889, 890, 891, 892, 1469, 1470, 1471, 1472, 1473, 1474, 1475, 1476, 1477, 1478, 1479, 1480, 1481, 1482, 1483, 1608, 1609, 1610, 1611, 1612, 1613, 1614, 1615, 1616, 1617, 1601, 1602, 1603, 1604, 1605, 1606, 1607, 1618, 1619, 1620, 1621, 1622, 1623, 1624, 1595, 1596, 1597, 1598, 1599, 1600] (by decide +kernel) (by decide +kernel)
set_option maxRecDepth 20000 in
theorem gL_law_X10_pullRun : GoodIn wsL_law (wsV RL 113 RX10 yX10_pullRun wsX10_pullRun) := goodIn_app (goodIn_of _ (by decide +kernel)) ggL_law_X10_pullRun
set_option maxRecDepth 20000 in
theorem ggL_law_X11_pullRun : GoodIn wsL_law wsX11_pullRun := goodIn_r _ [1235, 248, 210, 209, 737, 738, 5, 739, 1209, 1210, 1211, 1212, 1213, 216, 1214, 1215, 229, 1216, 1217, 1218, 1219, 211, 185, 784, 785, 786, 787, 184, 788, 789, 790, 1220, 1221, 1222, 1223, 643, 214, 215, 1224, 1225, 1226, 1227, 176, 177, 178, 200, 179, 180, 914, 915, 916, 917, 918, 795, 796, 797, 798, 207, 1484, 1485, 1486, 1487, 1488, 1489, 1490, 1491, 1492, 1493, 1494, 1495, 1496, 1497, 1498, 1499, 1500, 1501, 1502, 1503, 1504, 1505, 1506, 1507, 1508, 1509, 1510, 1511, 1512, 1513, 1514, 1515, 1516, 1517, 1518, 1519, 1520, 1521, 1522, 1523, 1524, 1525, 1526, 1527, 1528, 1529, 1530, 1531, 1532, 1533, 1534, 1535, 1536, 1537, 1538, 1539, 1540, 1541, 1542, 1543, 1544, 1545, 1546, 1547, 1548, 1549, 1550, 1551, 1552, 1553, 1554, 1555, 1556, 1557] (by decide +kernel) (by decide +kernel)
set_option maxRecDepth 20000 in
theorem gL_law_X11_pullRun : GoodIn wsL_law (wsV RL 116 RX11 yX11_pullRun wsX11_pullRun) := goodIn_app (goodIn_of _ (by decide +kernel)) ggL_law_X11_pullRun
set_option maxRecDepth 20000 in
theorem ggL_law_X10_relays : GoodIn wsL_law wsX10_relays := goodIn_r _ [1239, 44, 1240, 1469, 1470, 1471, 1472, 1473, 1474, 1475, 1476, 1477, 1478, 1479, 1480, 1481, 1482, 1483, 1618, 1619, 1620, 1621, 1622, 1623, 1624] (by decide +kernel) (by decide +kernel)
set_option maxRecDepth 20000 in
theorem gL_law_X10_relays : GoodIn wsL_law (wsV RL 117 RX10 yX10_relays wsX10_relays) := goodIn_app (goodIn_of _ (by decide +kernel)) ggL_law_X10_relays
set_option maxRecDepth 20000 in
theorem ggL_law_X11_relays : GoodIn wsL_law wsX11_relays := goodIn_r _ [1244, 248, 216, 1484, 1485, 1486, 1487, 1488, 1489, 1490, 1491, 1492, 1493, 1494, 1495, 1496, 1497, 1498, 1499, 1500, 1501, 1502, 1503, 1504, 1505, 1506, 1507, 1508, 1509, 1510, 1511, 1512, 1513, 1514, 1515, 1516, 1517, 1518, 1519, 1520, 1521, 1522, 1523, 1524, 1525, 1526, 1527, 1528, 1529, 1530, 1531, 1532, 1533, 1534, 1535, 1536, 1537, 1538, 1539, 1540, 1541, 1542, 1543, 1544, 1545, 1546, 1547, 1548, 1549, 1550, 1551, 1552, 1553, 1554, 1555, 1556, 1557] (by decide +kernel) (by decide +kernel)
set_option maxRecDepth 20000 in
theorem gL_law_X11_relays : GoodIn wsL_law (wsV RL 120 RX11 yX11_relays wsX11_relays) := goodIn_app (goodIn_of _ (by decide +kernel)) ggL_law_X11_relays
set_option maxRecDepth 20000 in
theorem ggL_law_X10_race : GoodIn wsL_law wsX10_race := goodIn_r _ [1248, 44, 32, 1249, 1250, 1251, 43, 1252, 635, 1180, 1181, 1253, 1254, 1255, 1256, 1257, 1258, 1259, 1260, 1261, 1179, 1262, 1193, 1194, 31, 1195, 100, 101, 99, 1469, 1470, 1471, 1472, 1473, 1474, 1475, 1476, 1477, 1478, 1479, 1480, 1481, 1482, 1483, 1618, 1619, 1620, 1621, 1622, 1623, 1624, 1595, 1596, 1597, 1598, 1599, 1600] (by decide +kernel) (by decide +kernel)
set_option maxRecDepth 20000 in
theorem gL_law_X10_race : GoodIn wsL_law (wsV RL 121 RX10 yX10_race wsX10_race) := goodIn_app (goodIn_of _ (by decide +kernel)) ggL_law_X10_race
set_option maxRecDepth 20000 in
theorem ggL_law_X11_race : GoodIn wsL_law wsX11_race := goodIn_r _ [1266, 248, 229, 1214, 1215, 643, 788, 789, 5, 790, 1267, 1268, 1269, 1270, 1213, 1224, 1225, 1226, 1227, 176, 177, 178, 200, 179, 180, 1484, 1485, 1486, 1487, 1488, 1489, 1490, 1491, 1492, 1493, 1494, 1495, 1496, 1497, 1498, 1499, 1500, 1501, 1502, 1503, 1504, 1505, 1506, 1507, 1508, 1509, 1510, 1511, 1512, 1513, 1514, 1515, 1516, 1517, 1518, 1519, 1520, 1521, 1522, 1523, 1524, 1525, 1526, 1527, 1528, 1529, 1530, 1531, 1532, 1533, 1534, 1535, 1536, 1537, 1538, 1539, 1540, 1541, 1542, 1543, 1544, 1545, 1546, 1547, 1548, 1549, 1550, 1551, 1552, 1553, 1554, 1555, 1556, 1557] (by decide +kernel) (by decide +kernel)
set_option maxRecDepth 20000 in
theorem gL_law_X11_race : GoodIn wsL_law (wsV RL 124 RX11 yX11_race wsX11_race) := goodIn_app (goodIn_of _ (by decide +kernel)) ggL_law_X11_race
set_option maxRecDepth 20000 in
theorem ggL_law_X10_stick : GoodIn wsL_law wsX10_stick := goodIn_r _ [1274, 32, 526, 44, 1275, 1276, 1277, 43, 1278, 632, 633, 1279, 1280, 1281, 1282, 634, 729, 730, 731, 732, 1469, 1470, 1471, 1472, 1473, 1474, 1475, 1476, 1477, 1478, 1479, 1480, 1481, 1482, 1483, 1595, 1596, 1597, 1598, 1599, 1600, 1618, 1619, 1620, 1621, 1622, 1623, 1624] (by decide +kernel) (by decide +kernel)
set_option maxRecDepth 20000 in
theorem gL_law_X10_stick : GoodIn wsL_law (wsV RL 125 RX10 yX10_stick wsX10_stick) := goodIn_app (goodIn_of _ (by decide +kernel)) ggL_law_X10_stick
set_option maxRecDepth 20000 in
theorem ggL_law_X11_stick : GoodIn wsL_law wsX11_stick := goodIn_r _ [1286, 248, 643, 737, 738, 5, 739, 1287, 1288, 1289, 1290, 214, 215, 216, 1484, 1485, 1486, 1487, 1488, 1489, 1490, 1491, 1492, 1493, 1494, 1495, 1496, 1497, 1498, 1499, 1500, 1501, 1502, 1503, 1504, 1505, 1506, 1507, 1508, 1509, 1510, 1511, 1512, 1513, 1514, 1515, 1516, 1517, 1518, 1519, 1520, 1521, 1522, 1523, 1524, 1525, 1526, 1527, 1528, 1529, 1530, 1531, 1532, 1533, 1534, 1535, 1536, 1537, 1538, 1539, 1540, 1541, 1542, 1543, 1544, 1545, 1546, 1547, 1548, 1549, 1550, 1551, 1552, 1553, 1554, 1555, 1556, 1557] (by decide +kernel) (by decide +kernel)
set_option maxRecDepth 20000 in
theorem gL_law_X11_stick : GoodIn wsL_law (wsV RL 128 RX11 yX11_stick wsX11_stick) := goodIn_app (goodIn_of _ (by decide +kernel)) ggL_law_X11_stick
set_option maxRecDepth 20000 in
theorem ggL_law_X10_stuck : GoodIn wsL_law wsX10_stuck := goodIn_r _ [1294, 44, 1295, 1469, 1470, 1471, 1472, 1473, 1474, 1475, 1476, 1477, 1478, 1479, 1480, 1481, 1482, 1483, 1618, 1619, 1620, 1621, 1622, 1623, 1624] (by decide +kernel) (by decide +kernel)
set_option maxRecDepth 20000 in
theorem gL_law_X10_stuck : GoodIn wsL_law (wsV RL 129 RX10 yX10_stuck wsX10_stuck) := goodIn_app (goodIn_of _ (by decide +kernel)) ggL_law_X10_stuck
set_option maxRecDepth 20000 in
theorem ggL_law_X11_stuck : GoodIn wsL_law wsX11_stuck := goodIn_r _ [1299, 248, 214, 1484, 1485, 1486, 1487, 1488, 1489, 1490, 1491, 1492, 1493, 1494, 1495, 1496, 1497, 1498, 1499, 1500, 1501, 1502, 1503, 1504, 1505, 1506, 1507, 1508, 1509, 1510, 1511, 1512, 1513, 1514, 1515, 1516, 1517, 1518, 1519, 1520, 1521, 1522, 1523, 1524, 1525, 1526, 1527, 1528, 1529, 1530, 1531, 1532, 1533, 1534, 1535, 1536, 1537, 1538, 1539, 1540, 1541, 1542, 1543, 1544, 1545, 1546, 1547, 1548, 1549, 1550, 1551, 1552, 1553, 1554, 1555, 1556, 1557] (by decide +kernel) (by decide +kernel)
set_option maxRecDepth 20000 in
theorem gL_law_X11_stuck : GoodIn wsL_law (wsV RL 132 RX11 yX11_stuck wsX11_stuck) := goodIn_app (goodIn_of _ (by decide +kernel)) ggL_law_X11_stuck
set_option maxRecDepth 20000 in
theorem ggL_law_X10_same : GoodIn wsL_law wsX10_same := goodIn_r _ [1303, 57, 32, 40, 36, 44, 28, 1304, 1305, 56, 1306, 1307, 1308, 1309, 1310, 148, 150, 154, 152, 1311, 1312, 1313, 39, 1314, 715, 716, 717, 718, 723, 724, 125, 1315, 1316, 1317, 35, 1318, 113, 114, 115, 116, 106, 108, 107, 1319, 1320, 1321, 43, 1322, 632, 633, 1323, 1324, 1325, 1326, 634, 1327, 1328, 1329, 1330, 156, 155, 157, 1331, 849, 850, 851, 124, 852, 853, 854, 855, 856, 857, 858, 859, 860, 861, 862, 863, 756, 757, 758, 864, 865, 866, 867, 868, 869, 870, 27, 871, 382, 82, 81, 83, 84, 872, 873, 874, 875, 876, 354, 355, 356, 877, 878, 879, 880, 881, 882, 883, 884, 885, 886, 887, 888, 889, 890, 891, 892, 893, 894, 895, 896, 897, 719, 720, 721, 722, 1332, 1176, 1177, 1178, 1179, 1180, 1181, 635, 1182, 1183, 1184, 1185, 1186, 1187, 1188, 1189, 1190, 31, 1191, 539, 1192, 1193, 1194, 1195, 100, 101, 99, 729, 730, 731, 732, 1196, 1197, 1198, 1199, 1200, 573, 574, 1201, 1202, 1203, 1204, 1333, 1151, 1152, 1153, 1334, 1335, 1336, 1337, 1469, 1470, 1471, 1472, 1473, 1474, 1475, 1476, 1477, 1478, 1479, 1480, 1481, 1482, 1483, 1638, 1639, 1640, 1641, 1642, 1643, 1644, 1645, 1646, 1647, 1648, 1649, 1608, 1609, 1610, 1611, 1612, 1613, 1614, 1615, 1616, 1617, 1601, 1602, 1603, 1604, 1605, 1606, 1607, 1618, 1619, 1620, 1621, 1622, 1623, 1624, 1588, 1589, 1590, 1591, 1592, 1593, 1594, 1595, 1596, 1597, 1598, 1599, 1600] (by decide +kernel) (by decide +kernel)
set_option maxRecDepth 20000 in
theorem gL_law_X10_same : GoodIn wsL_law (wsV RL 133 RX10 yX10_same wsX10_same) := goodIn_app (goodIn_of _ (by decide +kernel)) ggL_law_X10_same
set_option maxRecDepth 20000 in
theorem ggL_law_X11_same : GoodIn wsL_law wsX11_same := goodIn_r _ [1341, 248, 214, 215, 216, 210, 211, 201, 185, 737, 738, 5, 739, 1004, 1005, 1006, 1007, 192, 207, 208, 209, 212, 213, 184, 186, 1016, 1017, 1018, 1019, 1220, 1221, 1222, 1223, 643, 1216, 1217, 1218, 1219, 784, 785, 786, 787, 788, 789, 790, 1224, 1225, 1226, 1227, 176, 177, 178, 200, 179, 180, 914, 915, 916, 917, 918, 795, 796, 797, 798, 221, 222, 223, 224, 902, 903, 904, 905, 459, 167, 168, 906, 907, 908, 909, 169, 170, 172, 910, 911, 912, 913, 173, 174, 188, 840, 841, 842, 843, 1484, 1485, 1486, 1487, 1488, 1489, 1490, 1491, 1492, 1493, 1494, 1495, 1496, 1497, 1498, 1499, 1500, 1501, 1502, 1503, 1504, 1505, 1506, 1507, 1508, 1509, 1510, 1511, 1512, 1513, 1514, 1515, 1516, 1517, 1518, 1519, 1520, 1521, 1522, 1523, 1524, 1525, 1526, 1527, 1528, 1529, 1530, 1531, 1532, 1533, 1534, 1535, 1536, 1537, 1538, 1539, 1540, 1541, 1542, 1543, 1544, 1545, 1546, 1547, 1548, 1549, 1550, 1551, 1552, 1553, 1554, 1555, 1556, 1557] (by decide +kernel) (by decide +kernel)
set_option maxRecDepth 20000 in
theorem gL_law_X11_same : GoodIn wsL_law (wsV RL 136 RX11 yX11_same wsX11_same) := goodIn_app (goodIn_of _ (by decide +kernel)) ggL_law_X11_same
set_option maxRecDepth 20000 in
theorem ggL_law_X10_suspects : GoodIn wsL_law wsX10_suspects := goodIn_r _ [1345, 57, 32, 40, 36, 44, 1346, 1347, 1304, 1305, 56, 1306, 1307, 1308, 1309, 1310, 148, 150, 154, 152, 1311, 1312, 1313, 39, 1314, 715, 716, 717, 718, 723, 724, 125, 1315, 1316, 1317, 35, 1318, 113, 114, 115, 116, 106, 108, 107, 1319, 1320, 1321, 43, 1322, 632, 633, 1323, 1324, 1325, 1326, 634, 1348, 1349, 1350, 1351, 1352, 1353, 1354, 1355, 1356, 1357, 1358, 155, 157, 158, 1332, 1176, 1177, 1178, 1179, 1180, 1181, 635, 1182, 1183, 1184, 1185, 1186, 858, 1187, 864, 865, 866, 867, 863, 756, 757, 758, 1188, 1189, 1190, 31, 1191, 539, 1192, 1193, 1194, 1195, 100, 101, 99, 729, 730, 731, 732, 1196, 1197, 1198, 1199, 1200, 573, 574, 1201, 1202, 1203, 1204, 881, 882, 883, 884, 885, 877, 878, 879, 880, 886, 887, 888, 889, 890, 891, 892, 1359, 1360, 1361, 1362, 1363, 1364, 1365, 1366, 1367, 1368, 1369, 1469, 1470, 1471, 1472, 1473, 1474, 1475, 1476, 1477, 1478, 1479, 1480, 1481, 1482, 1483, 1638, 1639, 1640, 1641, 1642, 1643, 1644, 1645, 1646, 1647, 1648, 1649, 1608, 1609, 1610, 1611, 1612, 1613, 1614, 1615, 1616, 1617, 1601, 1602, 1603, 1604, 1605, 1606, 1607, 1618, 1619, 1620, 1621, 1622, 1623, 1624, 1595, 1596, 1597, 1598, 1599, 1600] (by decide +kernel) (by decide +kernel)
set_option maxRecDepth 20000 in
theorem gL_law_X10_suspects : GoodIn wsL_law (wsV RL 137 RX10 yX10_suspects wsX10_suspects) := goodIn_app (goodIn_of _ (by decide +kernel)) ggL_law_X10_suspects
set_option maxRecDepth 20000 in
theorem ggL_law_X11_suspects : GoodIn wsL_law wsX11_suspects := goodIn_r _ [1373, 248, 1374, 1375, 737, 738, 5, 739, 1376, 1377, 1378, 1379, 643, 1004, 1005, 1006, 1007, 192, 207, 208, 209, 210, 211, 212, 213, 216, 184, 185, 186, 1380, 1381, 1382, 1383, 214, 215, 1384, 1385, 1386, 1387, 202, 1016, 1017, 1018, 1019, 1220, 1221, 1222, 1223, 1216, 1217, 1218, 1219, 784, 785, 786, 787, 788, 789, 790, 1224, 1225, 1226, 1227, 176, 177, 178, 200, 179, 180, 914, 915, 916, 917, 918, 795, 796, 797, 798, 1388, 1389, 1390, 1391, 1392, 1393, 1394, 1395, 1484, 1485, 1486, 1487, 1488, 1489, 1490, 1491, 1492, 1493, 1494, 1495, 1496, 1497, 1498, 1499, 1500, 1501, 1502, 1503, 1504, 1505, 1506, 1507, 1508, 1509, 1510, 1511, 1512, 1513, 1514, 1515, 1516, 1517, 1518, 1519, 1520, 1521, 1522, 1523, 1524, 1525, 1526, 1527, 1528, 1529, 1530, 1531, 1532, 1533, 1534, 1535, 1536, 1537, 1538, 1539, 1540, 1541, 1542, 1543, 1544, 1545, 1546, 1547, 1548, 1549, 1550, 1551, 1552, 1553, 1554, 1555, 1556, 1557] (by decide +kernel) (by decide +kernel)
set_option maxRecDepth 20000 in
theorem gL_law_X11_suspects : GoodIn wsL_law (wsV RL 140 RX11 yX11_suspects wsX11_suspects) := goodIn_app (goodIn_of _ (by decide +kernel)) ggL_law_X11_suspects
set_option maxRecDepth 20000 in
theorem ggL_law_X10_trial : GoodIn wsL_law wsX10_trial := goodIn_r _ [1399, 57, 32, 40, 36, 44, 1400, 1401, 1304, 1305, 56, 1306, 1307, 1308, 1309, 1310, 148, 150, 154, 152, 1311, 1312, 1313, 39, 1314, 715, 716, 717, 718, 723, 724, 125, 1315, 1316, 1317, 35, 1318, 113, 114, 115, 116, 106, 108, 107, 1319, 1320, 1321, 43, 1322, 632, 633, 1323, 1324, 1325, 1326, 634, 1348, 1349, 1350, 1351, 1352, 1353, 1354, 1355, 1356, 1357, 1358, 155, 157, 158, 1332, 1176, 1177, 1178, 1179, 1180, 1181, 635, 1182, 1183, 1184, 1185, 1186, 858, 1187, 864, 865, 866, 867, 863, 756, 757, 758, 1188, 1189, 1190, 31, 1191, 539, 1192, 1193, 1194, 1195, 100, 101, 99, 729, 730, 731, 732, 1196, 1197, 1198, 1199, 1200, 573, 574, 1201, 1202, 1203, 1204, 881, 882, 883, 884, 885, 877, 878, 879, 880, 886, 887, 888, 889, 890, 891, 892, 1359, 1360, 1361, 1362, 1363, 1364, 1365, 1366, 1367, 1368, 1369, 1402, 1403, 1404, 1405, 1406, 1407, 1408, 1409, 1410, 1411, 1412, 1413, 1414, 1415, 1416, 146, 1417, 1418, 1419, 1063, 1064, 1065, 1420, 1421, 1422, 1423, 1071, 1072, 1073, 1074, 1075, 1076, 1077, 1078, 960, 1079, 760, 761, 762, 763, 764, 765, 766, 767, 768, 769, 770, 771, 1424, 1425, 1426, 1427, 1469, 1470, 1471, 1472, 1473, 1474, 1475, 1476, 1477, 1478, 1479, 1480, 1481, 1482, 1483, 1638, 1639, 1640, 1641, 1642, 1643, 1644, 1645, 1646, 1647, 1648, 1649, 1608, 1609, 1610, 1611, 1612, 1613, 1614, 1615, 1616, 1617, 1601, 1602, 1603, 1604, 1605, 1606, 1607, 1618, 1619, 1620, 1621, 1622, 1623, 1624, 1595, 1596, 1597, 1598, 1599, 1600] (by decide +kernel) (by decide +kernel)
set_option maxRecDepth 20000 in
theorem gL_law_X10_trial : GoodIn wsL_law (wsV RL 141 RX10 yX10_trial wsX10_trial) := goodIn_app (goodIn_of _ (by decide +kernel)) ggL_law_X10_trial
set_option maxRecDepth 20000 in
theorem ggL_law_X11_trial : GoodIn wsL_law wsX11_trial := goodIn_r _ [1431, 248, 1374, 1375, 737, 738, 5, 739, 1376, 1377, 1378, 1379, 643, 1004, 1005, 1006, 1007, 192, 207, 208, 209, 210, 211, 212, 213, 216, 184, 185, 186, 1380, 1381, 1382, 1383, 214, 215, 1384, 1385, 1386, 1387, 202, 1016, 1017, 1018, 1019, 1220, 1221, 1222, 1223, 1216, 1217, 1218, 1219, 784, 785, 786, 787, 788, 789, 790, 1224, 1225, 1226, 1227, 176, 177, 178, 200, 179, 180, 914, 915, 916, 917, 918, 795, 796, 797, 798, 1388, 1389, 1390, 1391, 1392, 1393, 1394, 1395, 1432, 1433, 1434, 1097, 1098, 1099, 1100, 1105, 1106, 1107, 1108, 791, 792, 793, 794, 1484, 1485, 1486, 1487, 1488, 1489, 1490, 1491, 1492, 1493, 1494, 1495, 1496, 1497, 1498, 1499, 1500, 1501, 1502, 1503, 1504, 1505, 1506, 1507, 1508, 1509, 1510, 1511, 1512, 1513, 1514, 1515, 1516, 1517, 1518, 1519, 1520, 1521, 1522, 1523, 1524, 1525, 1526, 1527, 1528, 1529, 1530, 1531, 1532, 1533, 1534, 1535, 1536, 1537, 1538, 1539, 1540, 1541, 1542, 1543, 1544, 1545, 1546, 1547, 1548, 1549, 1550, 1551, 1552, 1553, 1554, 1555, 1556, 1557] (by decide +kernel) (by decide +kernel)
set_option maxRecDepth 20000 in
theorem gL_law_X11_trial : GoodIn wsL_law (wsV RL 144 RX11 yX11_trial wsX11_trial) := goodIn_app (goodIn_of _ (by decide +kernel)) ggL_law_X11_trial
set_option maxRecDepth 20000 in
theorem ggL_law_X10_keep : GoodIn wsL_law wsX10_keep := goodIn_r _ [1438, 45, 36, 46, 40, 48, 44, 1240, 525, 1439, 1316, 1317, 35, 1318, 113, 114, 115, 116, 106, 108, 107, 1440, 1312, 1313, 39, 1314, 715, 716, 717, 718, 723, 724, 125, 1469, 1470, 1471, 1472, 1473, 1474, 1475, 1476, 1477, 1478, 1479, 1480, 1481, 1482, 1483, 1618, 1619, 1620, 1621, 1622, 1623, 1624, 1601, 1602, 1603, 1604, 1605, 1606, 1607, 1608, 1609, 1610, 1611, 1612, 1613, 1614, 1615, 1616, 1617] (by decide +kernel) (by decide +kernel)
set_option maxRecDepth 20000 in
theorem gL_law_X10_keep : GoodIn wsL_law (wsV RL 145 RX10 yX10_keep wsX10_keep) := goodIn_app (goodIn_of _ (by decide +kernel)) ggL_law_X10_keep
set_option maxRecDepth 20000 in
theorem ggL_law_X11_keep : GoodIn wsL_law wsX11_keep := goodIn_r _ [1444, 248, 191, 737, 738, 5, 739, 1004, 1005, 1006, 1007, 192, 207, 208, 209, 210, 211, 212, 213, 216, 184, 185, 186, 1484, 1485, 1486, 1487, 1488, 1489, 1490, 1491, 1492, 1493, 1494, 1495, 1496, 1497, 1498, 1499, 1500, 1501, 1502, 1503, 1504, 1505, 1506, 1507, 1508, 1509, 1510, 1511, 1512, 1513, 1514, 1515, 1516, 1517, 1518, 1519, 1520, 1521, 1522, 1523, 1524, 1525, 1526, 1527, 1528, 1529, 1530, 1531, 1532, 1533, 1534, 1535, 1536, 1537, 1538, 1539, 1540, 1541, 1542, 1543, 1544, 1545, 1546, 1547, 1548, 1549, 1550, 1551, 1552, 1553, 1554, 1555, 1556, 1557] (by decide +kernel) (by decide +kernel)
set_option maxRecDepth 20000 in
theorem gL_law_X11_keep : GoodIn wsL_law (wsV RL 148 RX11 yX11_keep wsX11_keep) := goodIn_app (goodIn_of _ (by decide +kernel)) ggL_law_X11_keep
set_option maxRecDepth 20000 in
theorem ggL_law_X10_restore : GoodIn wsL_law wsX10_restore := goodIn_r _ [1448, 525, 36, 45, 40, 46, 44, 48, 1439, 1316, 1317, 35, 1318, 113, 114, 115, 116, 106, 108, 107, 1440, 1312, 1313, 39, 1314, 715, 716, 717, 718, 723, 724, 125, 1449, 730, 731, 43, 732, 632, 633, 634, 1469, 1470, 1471, 1472, 1473, 1474, 1475, 1476, 1477, 1478, 1479, 1480, 1481, 1482, 1483, 1601, 1602, 1603, 1604, 1605, 1606, 1607, 1608, 1609, 1610, 1611, 1612, 1613, 1614, 1615, 1616, 1617, 1618, 1619, 1620, 1621, 1622, 1623, 1624] (by decide +kernel) (by decide +kernel)
set_option maxRecDepth 20000 in
theorem gL_law_X10_restore : GoodIn wsL_law (wsV RL 149 RX10 yX10_restore wsX10_restore) := goodIn_app (goodIn_of _ (by decide +kernel)) ggL_law_X10_restore
set_option maxRecDepth 20000 in
theorem ggL_law_X11_restore : GoodIn wsL_law wsX11_restore := goodIn_r _ [1453, 248, 191, 216, 214, 215, 737, 738, 5, 739, 1016, 1017, 1018, 1019, 192, 207, 208, 209, 210, 211, 212, 213, 184, 185, 186, 1484, 1485, 1486, 1487, 1488, 1489, 1490, 1491, 1492, 1493, 1494, 1495, 1496, 1497, 1498, 1499, 1500, 1501, 1502, 1503, 1504, 1505, 1506, 1507, 1508, 1509, 1510, 1511, 1512, 1513, 1514, 1515, 1516, 1517, 1518, 1519, 1520, 1521, 1522, 1523, 1524, 1525, 1526, 1527, 1528, 1529, 1530, 1531, 1532, 1533, 1534, 1535, 1536, 1537, 1538, 1539, 1540, 1541, 1542, 1543, 1544, 1545, 1546, 1547, 1548, 1549, 1550, 1551, 1552, 1553, 1554, 1555, 1556, 1557] (by decide +kernel) (by decide +kernel)
set_option maxRecDepth 20000 in
theorem gL_law_X11_restore : GoodIn wsL_law (wsV RL 152 RX11 yX11_restore wsX11_restore) := goodIn_app (goodIn_of _ (by decide +kernel)) ggL_law_X11_restore
set_option maxRecDepth 20000 in
theorem ggL_law_X10_count : GoodIn wsL_law wsX10_count := goodIn_r _ [1457, 36, 989, 28, 255, 32, 526, 1458, 803, 525, 1459, 1460, 1461, 35, 1462, 106, 108, 767, 1463, 829, 830, 831, 832, 833, 834, 1464, 1407, 1408, 1409, 1410, 1411, 1412, 1469, 1470, 1471, 1472, 1473, 1474, 1475, 1476, 1477, 1478, 1479, 1480, 1481, 1482, 1483, 1601, 1602, 1603, 1604, 1605, 1606, 1607, 1588, 1589, 1590, 1591, 1592, 1593, 1594, 1595, 1596, 1597, 1598, 1599, 1600] (by decide +kernel) (by decide +kernel)
set_option maxRecDepth 20000 in
theorem gL_law_X10_count : GoodIn wsL_law (wsV RL 153 RX10 yX10_count wsX10_count) := goodIn_app (goodIn_of _ (by decide +kernel)) ggL_law_X10_count
set_option maxRecDepth 20000 in
theorem ggL_law_X11_count : GoodIn wsL_law wsX11_count := goodIn_r _ [1468, 248, 459, 643, 644, 209, 191, 221, 222, 223, 5, 224, 207, 208, 1097, 1098, 1099, 1100, 1105, 1106, 1107, 1108, 784, 785, 786, 787, 184, 788, 789, 790, 1484, 1485, 1486, 1487, 1488, 1489, 1490, 1491, 1492, 1493, 1494, 1495, 1496, 1497, 1498, 1499, 1500, 1501, 1502, 1503, 1504, 1505, 1506, 1507, 1508, 1509, 1510, 1511, 1512, 1513, 1514, 1515, 1516, 1517, 1518, 1519, 1520, 1521, 1522, 1523, 1524, 1525, 1526, 1527, 1528, 1529, 1530, 1531, 1532, 1533, 1534, 1535, 1536, 1537, 1538, 1539, 1540, 1541, 1542, 1543, 1544, 1545, 1546, 1547, 1548, 1549, 1550, 1551, 1552, 1553, 1554, 1555, 1556, 1557] (by decide +kernel) (by decide +kernel)
set_option maxRecDepth 20000 in
theorem gL_law_X11_count : GoodIn wsL_law (wsV RL 156 RX11 yX11_count wsX11_count) := goodIn_app (goodIn_of _ (by decide +kernel)) ggL_law_X11_count
