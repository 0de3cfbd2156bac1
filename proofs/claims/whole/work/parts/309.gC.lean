set_option maxRecDepth 100000 in
theorem gw_wsX5_isSlot : wsX5_isSlot.all goodWord = true := by decide +kernel
set_option maxRecDepth 100000 in
theorem gw_wsX5_isParameter : wsX5_isParameter.all goodWord = true := by decide +kernel
set_option maxRecDepth 100000 in
theorem gw_wsX5_clearSlot : wsX5_clearSlot.all goodWord = true := by decide +kernel
set_option maxRecDepth 100000 in
theorem gw_wsX5_rowOf : wsX5_rowOf.all goodWord = true := by decide +kernel
set_option maxRecDepth 100000 in
theorem gw_wsX5_placeInRow : wsX5_placeInRow.all goodWord = true := by decide +kernel
set_option maxRecDepth 100000 in
theorem gw_wsX5_isPoint : wsX5_isPoint.all goodWord = true := by decide +kernel
set_option maxRecDepth 100000 in
theorem gw_wsX5_pointIn : wsX5_pointIn.all goodWord = true := by decide +kernel
set_option maxRecDepth 100000 in
theorem gw_wsX5_limbsOf : wsX5_limbsOf.all goodWord = true := by decide +kernel
set_option maxRecDepth 100000 in
theorem gw_wsX5_endFeeding : wsX5_endFeeding.all goodWord = true := by decide +kernel
set_option maxRecDepth 100000 in
theorem gw_wsX0_takeParameters : wsX0_takeParameters.all goodWord = true := by decide +kernel
set_option maxRecDepth 100000 in
theorem gw_wsX0_holds : wsX0_holds.all goodWord = true := by decide +kernel
set_option maxRecDepth 100000 in
theorem gw_wsX5_onCurve : wsX5_onCurve.all goodWord = true := by decide +kernel
set_option maxRecDepth 100000 in
theorem gw_wsX4_startAtIdentity : wsX4_startAtIdentity.all goodWord = true := by decide +kernel
set_option maxRecDepth 100000 in
theorem gw_wsX4_addPoint : wsX4_addPoint.all goodWord = true := by decide +kernel
set_option maxRecDepth 100000 in
theorem gw_wsX5_writeRunningSum : wsX5_writeRunningSum.all goodWord = true := by decide +kernel
set_option maxRecDepth 100000 in
theorem gw_wsX5_addPts : wsX5_addPts.all goodWord = true := by decide +kernel
set_option maxRecDepth 100000 in
theorem gw_wsX5_isScalar : wsX5_isScalar.all goodWord = true := by decide +kernel
set_option maxRecDepth 100000 in
theorem gw_wsX5_scalarIn : wsX5_scalarIn.all goodWord = true := by decide +kernel
set_option maxRecDepth 100000 in
theorem gw_wsX4_takeTimes : wsX4_takeTimes.all goodWord = true := by decide +kernel
set_option maxRecDepth 100000 in
theorem gw_wsX2_copyFrom : wsX2_copyFrom.all goodWord = true := by decide +kernel
set_option maxRecDepth 100000 in
theorem gw_wsX0_mirror : wsX0_mirror.all goodWord = true := by decide +kernel
set_option maxRecDepth 100000 in
theorem gw_wsX2_sameAs : wsX2_sameAs.all goodWord = true := by decide +kernel
set_option maxRecDepth 100000 in
theorem gw_wsX3_takeModulus : wsX3_takeModulus.all goodWord = true := by decide +kernel
set_option maxRecDepth 100000 in
theorem gw_wsX5_isSignaturePart : wsX5_isSignaturePart.all goodWord = true := by decide +kernel
set_option maxRecDepth 100000 in
theorem gw_wsX3_invert : wsX3_invert.all goodWord = true := by decide +kernel
set_option maxRecDepth 100000 in
theorem gw_wsX3_reduce : wsX3_reduce.all goodWord = true := by decide +kernel
set_option maxRecDepth 100000 in
theorem gw_wsX3_multiply : wsX3_multiply.all goodWord = true := by decide +kernel
set_option maxRecDepth 100000 in
theorem gw_wsX4_writeTo : wsX4_writeTo.all goodWord = true := by decide +kernel
set_option maxRecDepth 100000 in
theorem gw_wsX1_compare : wsX1_compare.all goodWord = true := by decide +kernel
set_option maxRecDepth 100000 in
theorem gw_wsX5_combineModuloOrder : wsX5_combineModuloOrder.all goodWord = true := by decide +kernel
set_option maxRecDepth 100000 in
theorem gw_wsX1_copy : wsX1_copy.all goodWord = true := by decide +kernel
set_option maxRecDepth 100000 in
theorem gw_wsX2_becomeIdentity : wsX2_becomeIdentity.all goodWord = true := by decide +kernel
set_option maxRecDepth 100000 in
theorem gw_wsX1_set : wsX1_set.all goodWord = true := by decide +kernel
set_option maxRecDepth 100000 in
theorem gw_wsX1_isZero : wsX1_isZero.all goodWord = true := by decide +kernel
set_option maxRecDepth 100000 in
theorem gw_wsX3_add : wsX3_add.all goodWord = true := by decide +kernel
set_option maxRecDepth 100000 in
theorem gw_wsX3_subtract : wsX3_subtract.all goodWord = true := by decide +kernel
set_option maxRecDepth 100000 in
theorem ggX5_select_X5_isSlot : GoodIn wsX5_select wsX5_isSlot := goodIn_r _ [7] rfl gw_wsX5_isSlot
set_option maxRecDepth 100000 in
theorem gX5_select_X5_isSlot : GoodIn wsX5_select (va_wsS RX5 85 yX5_isSlot wsX5_isSlot) := goodIn_app (goodIn_of _ (by decide +kernel)) ggX5_select_X5_isSlot
set_option maxRecDepth 100000 in
theorem ggX5_select_X5_isParameter : GoodIn wsX5_select wsX5_isParameter := goodIn_r _ [10] rfl gw_wsX5_isParameter
set_option maxRecDepth 100000 in
theorem gX5_select_X5_isParameter : GoodIn wsX5_select (va_wsS RX5 89 yX5_isParameter wsX5_isParameter) := goodIn_app (goodIn_of _ (by decide +kernel)) ggX5_select_X5_isParameter
set_option maxRecDepth 100000 in
theorem ggX5_select_X5_clearSlot : GoodIn wsX5_select wsX5_clearSlot := goodIn_r _ [14, 15, 16, 6, 17, 18, 19, 20, 21, 22, 23, 24, 25, 26, 27, 28, 29, 30, 31, 32, 33, 34, 35, 36, 37, 38, 39, 40, 41, 42, 43, 44, 45, 46, 8, 9, 10, 47, 48, 49, 50, 51, 52, 53, 54, 55, 56, 57, 58, 59, 60, 61, 62, 63, 64, 65, 66, 67, 68, 69, 70, 71] rfl gw_wsX5_clearSlot
set_option maxRecDepth 100000 in
theorem gX5_select_X5_clearSlot : GoodIn wsX5_select (wsV RX5 92 RX5 yX5_clearSlot wsX5_clearSlot) := goodIn_app (goodIn_of _ (by decide +kernel)) ggX5_select_X5_clearSlot
set_option maxRecDepth 100000 in
theorem ggX5_feedLimb_X5_rowOf : GoodIn wsX5_feedLimb wsX5_rowOf := goodIn_r _ [8, 9, 10, 11, 12, 13, 14, 7, 15, 16, 17, 18, 19, 20, 21, 22, 23, 24, 25, 26, 27, 28, 44, 45, 46, 47, 48, 49, 50, 51, 52, 53, 54, 55, 56, 57, 58, 59] rfl gw_wsX5_rowOf
set_option maxRecDepth 100000 in
theorem gX5_feedLimb_X5_rowOf : GoodIn wsX5_feedLimb (wsV RX5 95 RX5 yX5_rowOf wsX5_rowOf) := goodIn_app (goodIn_of _ (by decide +kernel)) ggX5_feedLimb_X5_rowOf
set_option maxRecDepth 100000 in
theorem ggX5_feedLimb_X5_placeInRow : GoodIn wsX5_feedLimb wsX5_placeInRow := goodIn_r _ [32, 10, 44, 45, 46, 47, 48, 49, 50, 51, 52, 53, 54, 55, 56] rfl gw_wsX5_placeInRow
set_option maxRecDepth 100000 in
theorem gX5_feedLimb_X5_placeInRow : GoodIn wsX5_feedLimb (wsV RX5 99 RX5 yX5_placeInRow wsX5_placeInRow) := goodIn_app (goodIn_of _ (by decide +kernel)) ggX5_feedLimb_X5_placeInRow
set_option maxRecDepth 100000 in
theorem ggX5_feedLimb_X5_isPoint : GoodIn wsX5_feedLimb wsX5_isPoint := goodIn_r _ [35] rfl gw_wsX5_isPoint
set_option maxRecDepth 100000 in
theorem gX5_feedLimb_X5_isPoint : GoodIn wsX5_feedLimb (va_wsS RX5 103 yX5_isPoint wsX5_isPoint) := goodIn_app (goodIn_of _ (by decide +kernel)) ggX5_feedLimb_X5_isPoint
set_option maxRecDepth 100000 in
theorem ggX5_feedLimb_X5_pointIn : GoodIn wsX5_feedLimb wsX5_pointIn := goodIn_r _ [27, 28, 44, 45, 46, 47, 48, 49, 50, 51, 52, 53, 54, 55, 56] rfl gw_wsX5_pointIn
set_option maxRecDepth 100000 in
theorem gX5_feedLimb_X5_pointIn : GoodIn wsX5_feedLimb (wsV RX5 106 RX5 yX5_pointIn wsX5_pointIn) := goodIn_app (goodIn_of _ (by decide +kernel)) ggX5_feedLimb_X5_pointIn
set_option maxRecDepth 100000 in
theorem ggX5_feedLimb_X5_limbsOf : GoodIn wsX5_feedLimb wsX5_limbsOf := goodIn_r _ [39, 10, 33, 34, 7, 35, 44, 45, 46, 47, 48, 49, 50, 51, 52, 53, 54, 55, 56] rfl gw_wsX5_limbsOf
set_option maxRecDepth 100000 in
theorem gX5_feedLimb_X5_limbsOf : GoodIn wsX5_feedLimb (wsV RX5 113 RX5 yX5_limbsOf wsX5_limbsOf) := goodIn_app (goodIn_of _ (by decide +kernel)) ggX5_feedLimb_X5_limbsOf
set_option maxRecDepth 100000 in
theorem ggX5_feedLimb_X5_endFeeding : GoodIn wsX5_feedLimb wsX5_endFeeding := goodIn_r _ [43, 1, 2, 44, 45, 46, 47, 48, 49, 50, 51, 52, 53, 54, 55, 56] rfl gw_wsX5_endFeeding
set_option maxRecDepth 100000 in
theorem gX5_feedLimb_X5_endFeeding : GoodIn wsX5_feedLimb (wsV RX5 116 RX5 yX5_endFeeding wsX5_endFeeding) := goodIn_app (goodIn_of _ (by decide +kernel)) ggX5_feedLimb_X5_endFeeding
set_option maxRecDepth 100000 in
theorem ggX5_seal_X0_takeParameters : GoodIn wsX5_seal wsX0_takeParameters := goodIn_r _ [8, 9, 10, 11, 12, 13, 14, 15, 16, 17, 18, 19, 20, 21, 22, 23, 24, 25, 26, 27, 28, 29, 30, 31, 32, 33, 34, 35, 36, 37, 38, 39, 40, 41, 42, 43, 44, 45, 46, 47, 48, 49, 50, 51, 52, 7, 53, 54, 55, 56, 57, 58, 59, 60, 61, 62, 63, 64, 65, 66, 67, 68, 69, 70, 71, 72, 73, 74, 75, 76, 77, 78, 79, 80, 81, 82, 83, 84, 85, 86, 87, 88, 89, 90, 91, 92, 93, 94, 95, 96, 97, 98, 99, 100, 101, 102, 103, 104, 105, 106, 129, 130, 131, 132, 133, 134, 135, 136, 137, 138, 139, 140, 141, 142, 143, 144] rfl gw_wsX0_takeParameters
set_option maxRecDepth 100000 in
theorem gX5_seal_X0_takeParameters : GoodIn wsX5_seal (wsV RX5 119 RX0 yX0_takeParameters wsX0_takeParameters) := goodIn_app (goodIn_of _ (by decide +kernel)) ggX5_seal_X0_takeParameters
set_option maxRecDepth 100000 in
theorem ggX5_seal_X5_isParameter : GoodIn wsX5_seal wsX5_isParameter := goodIn_r _ [110] rfl gw_wsX5_isParameter
set_option maxRecDepth 100000 in
theorem gX5_seal_X5_isParameter : GoodIn wsX5_seal (va_wsS RX5 89 yX5_isParameter wsX5_isParameter) := goodIn_app (goodIn_of _ (by decide +kernel)) ggX5_seal_X5_isParameter
set_option maxRecDepth 100000 in
theorem ggX5_seal_X5_endFeeding : GoodIn wsX5_seal wsX5_endFeeding := goodIn_r _ [114, 3, 115, 116, 117, 118, 119, 120, 121, 122, 123, 124, 125, 126, 127, 128] rfl gw_wsX5_endFeeding
set_option maxRecDepth 100000 in
theorem gX5_seal_X5_endFeeding : GoodIn wsX5_seal (wsV RX5 116 RX5 yX5_endFeeding wsX5_endFeeding) := goodIn_app (goodIn_of _ (by decide +kernel)) ggX5_seal_X5_endFeeding
set_option maxRecDepth 100000 in
theorem ggX5_limb_X5_isSlot : GoodIn wsX5_limb wsX5_isSlot := goodIn_r _ [4] rfl gw_wsX5_isSlot
set_option maxRecDepth 100000 in
theorem gX5_limb_X5_isSlot : GoodIn wsX5_limb (va_wsS RX5 85 yX5_isSlot wsX5_isSlot) := goodIn_app (goodIn_of _ (by decide +kernel)) ggX5_limb_X5_isSlot
set_option maxRecDepth 100000 in
theorem ggX5_limb_X5_limbsOf : GoodIn wsX5_limb wsX5_limbsOf := goodIn_r _ [8, 9, 10, 11, 3, 12, 40, 41, 42, 43, 44, 45, 46, 47, 48, 49, 50, 51, 52] rfl gw_wsX5_limbsOf
set_option maxRecDepth 100000 in
theorem gX5_limb_X5_limbsOf : GoodIn wsX5_limb (wsV RX5 113 RX5 yX5_limbsOf wsX5_limbsOf) := goodIn_app (goodIn_of _ (by decide +kernel)) ggX5_limb_X5_limbsOf
set_option maxRecDepth 100000 in
theorem ggX5_limb_X5_rowOf : GoodIn wsX5_limb wsX5_rowOf := goodIn_r _ [16, 17, 9, 18, 19, 20, 21, 3, 22, 23, 24, 25, 26, 27, 28, 29, 30, 31, 32, 33, 34, 35, 40, 41, 42, 43, 44, 45, 46, 47, 48, 49, 50, 51, 52, 53, 54, 55] rfl gw_wsX5_rowOf
set_option maxRecDepth 100000 in
theorem gX5_limb_X5_rowOf : GoodIn wsX5_limb (wsV RX5 95 RX5 yX5_rowOf wsX5_rowOf) := goodIn_app (goodIn_of _ (by decide +kernel)) ggX5_limb_X5_rowOf
set_option maxRecDepth 100000 in
theorem ggX5_limb_X5_placeInRow : GoodIn wsX5_limb wsX5_placeInRow := goodIn_r _ [39, 9, 40, 41, 42, 43, 44, 45, 46, 47, 48, 49, 50, 51, 52] rfl gw_wsX5_placeInRow
set_option maxRecDepth 100000 in
theorem gX5_limb_X5_placeInRow : GoodIn wsX5_limb (wsV RX5 99 RX5 yX5_placeInRow wsX5_placeInRow) := goodIn_app (goodIn_of _ (by decide +kernel)) ggX5_limb_X5_placeInRow
set_option maxRecDepth 100000 in
theorem ggX5_onCurve_X5_isPoint : GoodIn wsX5_onCurve wsX5_isPoint := goodIn_r _ [6] rfl gw_wsX5_isPoint
set_option maxRecDepth 100000 in
theorem gX5_onCurve_X5_isPoint : GoodIn wsX5_onCurve (va_wsS RX5 103 yX5_isPoint wsX5_isPoint) := goodIn_app (goodIn_of _ (by decide +kernel)) ggX5_onCurve_X5_isPoint
set_option maxRecDepth 100000 in
theorem ggX5_onCurve_X5_pointIn : GoodIn wsX5_onCurve wsX5_pointIn := goodIn_r _ [10, 11, 74, 75, 76, 77, 78, 79, 80, 81, 82, 83, 84, 85, 86] rfl gw_wsX5_pointIn
set_option maxRecDepth 100000 in
theorem gX5_onCurve_X5_pointIn : GoodIn wsX5_onCurve (wsV RX5 106 RX5 yX5_pointIn wsX5_pointIn) := goodIn_app (goodIn_of _ (by decide +kernel)) ggX5_onCurve_X5_pointIn
set_option maxRecDepth 100000 in
theorem ggX5_onCurve_X0_holds : GoodIn wsX5_onCurve wsX0_holds := goodIn_r _ [16, 17, 18, 19, 20, 21, 22, 23, 24, 25, 26, 27, 28, 29, 30, 31, 32, 33, 34, 35, 36, 37, 38, 39, 40, 41, 42, 43, 44, 45, 46, 47, 48, 49, 50, 51, 52, 53, 54, 55, 56, 57, 58, 59, 60, 61, 62, 63, 64, 65, 66, 67, 68, 69, 70, 71, 72, 73, 87, 88, 89, 90, 91, 92, 93, 94, 95, 96, 97, 98, 99, 100, 101, 102, 103, 104, 105] rfl gw_wsX0_holds
set_option maxRecDepth 100000 in
theorem gX5_onCurve_X0_holds : GoodIn wsX5_onCurve (wsV RX5 123 RX0 yX0_holds wsX0_holds) := goodIn_app (goodIn_of _ (by decide +kernel)) ggX5_onCurve_X0_holds
set_option maxRecDepth 100000 in
theorem ggX5_isInfinity_X5_isPoint : GoodIn wsX5_isInfinity wsX5_isPoint := goodIn_r _ [5] rfl gw_wsX5_isPoint
set_option maxRecDepth 100000 in
theorem gX5_isInfinity_X5_isPoint : GoodIn wsX5_isInfinity (va_wsS RX5 103 yX5_isPoint wsX5_isPoint) := goodIn_app (goodIn_of _ (by decide +kernel)) ggX5_isInfinity_X5_isPoint
set_option maxRecDepth 100000 in
theorem ggX5_isInfinity_X5_pointIn : GoodIn wsX5_isInfinity wsX5_pointIn := goodIn_r _ [9, 10, 14, 15, 16, 17, 18, 19, 20, 21, 22, 23, 24, 25, 26] rfl gw_wsX5_pointIn
set_option maxRecDepth 100000 in
theorem gX5_isInfinity_X5_pointIn : GoodIn wsX5_isInfinity (wsV RX5 106 RX5 yX5_pointIn wsX5_pointIn) := goodIn_app (goodIn_of _ (by decide +kernel)) ggX5_isInfinity_X5_pointIn
set_option maxRecDepth 100000 in
theorem ggX5_addPts_X5_isPoint : GoodIn wsX5_addPts wsX5_isPoint := goodIn_r _ [5] rfl gw_wsX5_isPoint
set_option maxRecDepth 100000 in
theorem gX5_addPts_X5_isPoint : GoodIn wsX5_addPts (va_wsS RX5 103 yX5_isPoint wsX5_isPoint) := goodIn_app (goodIn_of _ (by decide +kernel)) ggX5_addPts_X5_isPoint
set_option maxRecDepth 100000 in
theorem ggX5_addPts_X5_onCurve : GoodIn wsX5_addPts wsX5_onCurve := goodIn_r _ [9, 10, 11, 2, 3, 4, 5, 12, 13, 14, 15, 16, 17, 18, 19, 20, 21, 22, 23, 24, 25, 26, 27, 28, 29, 30, 31, 32, 33, 34, 35, 36, 37, 38, 39, 40, 41, 42, 43, 44, 45, 46, 47, 48, 49, 50, 51, 52, 53, 54, 55, 56, 57, 58, 59, 60, 61, 62, 63, 64, 65, 66, 67, 68, 69, 70, 71, 72, 73, 74, 75, 76, 77, 78, 208, 209, 210, 211, 212, 213, 214, 215, 216, 217, 218, 219, 220, 221, 222, 223, 224, 225, 226, 227, 228, 229, 230, 231, 232, 233, 234, 235, 236, 237, 238, 239] rfl gw_wsX5_onCurve
set_option maxRecDepth 100000 in
theorem gX5_addPts_X5_onCurve : GoodIn wsX5_addPts (wsV RX5 127 RX5 yX5_onCurve wsX5_onCurve) := goodIn_app (goodIn_of _ (by decide +kernel)) ggX5_addPts_X5_onCurve
set_option maxRecDepth 100000 in
theorem ggX5_addPts_X4_startAtIdentity : GoodIn wsX5_addPts wsX4_startAtIdentity := goodIn_r _ [83, 84, 85, 86, 87, 33, 88, 89, 44, 45, 46, 240, 241, 242, 243, 244, 245, 246, 247, 248, 249, 250, 251] rfl gw_wsX4_startAtIdentity
set_option maxRecDepth 100000 in
theorem gX5_addPts_X4_startAtIdentity : GoodIn wsX5_addPts (wsV RX5 130 RX4 yX4_startAtIdentity wsX4_startAtIdentity) := goodIn_app (goodIn_of _ (by decide +kernel)) ggX5_addPts_X4_startAtIdentity
set_option maxRecDepth 100000 in
theorem ggX5_addPts_X5_pointIn : GoodIn wsX5_addPts wsX5_pointIn := goodIn_r _ [15, 16, 208, 209, 210, 211, 212, 213, 214, 215, 216, 217, 218, 219, 220] rfl gw_wsX5_pointIn
set_option maxRecDepth 100000 in
theorem gX5_addPts_X5_pointIn : GoodIn wsX5_addPts (wsV RX5 106 RX5 yX5_pointIn wsX5_pointIn) := goodIn_app (goodIn_of _ (by decide +kernel)) ggX5_addPts_X5_pointIn
set_option maxRecDepth 100000 in
theorem ggX5_addPts_X4_addPoint : GoodIn wsX5_addPts wsX4_addPoint := goodIn_r _ [93, 94, 84, 95, 96, 97, 98, 99, 100, 101, 102, 103, 104, 82, 105, 106, 85, 107, 108, 109, 36, 37, 38, 39, 40, 41, 42, 43, 44, 45, 46, 47, 48, 49, 50, 51, 52, 53, 54, 55, 56, 57, 58, 59, 60, 61, 62, 63, 64, 65, 66, 67, 68, 110, 111, 33, 112, 113, 114, 115, 116, 117, 118, 119, 120, 73, 74, 75, 76, 77, 121, 122, 123, 124, 125, 126, 127, 128, 129, 130, 131, 132, 133, 134, 135, 136, 137, 138, 139, 140, 141, 142, 70, 71, 72, 78, 32, 34, 143, 144, 145, 146, 147, 148, 149, 150, 151, 86, 87, 88, 89, 221, 222, 223, 240, 241, 242, 243, 244, 245, 246, 247, 248, 249, 250, 251, 230, 231, 232, 233, 234, 235, 236, 237, 238, 239] rfl gw_wsX4_addPoint
set_option maxRecDepth 100000 in
theorem gX5_addPts_X4_addPoint : GoodIn wsX5_addPts (wsV RX5 133 RX4 yX4_addPoint wsX4_addPoint) := goodIn_app (goodIn_of _ (by decide +kernel)) ggX5_addPts_X4_addPoint
set_option maxRecDepth 100000 in
theorem ggX5_addPts_X5_writeRunningSum : GoodIn wsX5_addPts wsX5_writeRunningSum := goodIn_r _ [155, 1, 12, 13, 14, 4, 15, 16, 156, 157, 158, 82, 159, 99, 131, 85, 84, 106, 107, 95, 108, 97, 94, 160, 161, 162, 38, 163, 164, 165, 166, 167, 73, 168, 111, 33, 112, 113, 114, 115, 116, 169, 87, 88, 89, 44, 45, 46, 170, 122, 123, 124, 125, 126, 171, 172, 173, 174, 175, 176, 177, 178, 179, 180, 181, 182, 183, 184, 185, 186, 187, 77, 188, 189, 190, 191, 192, 118, 119, 120, 74, 75, 76, 193, 194, 195, 196, 197, 198, 199, 200, 201, 109, 36, 37, 39, 40, 41, 42, 43, 47, 48, 49, 50, 51, 52, 53, 54, 55, 56, 57, 58, 59, 60, 61, 62, 63, 64, 65, 66, 67, 68, 202, 203, 204, 205, 206, 207, 208, 209, 210, 211, 212, 213, 214, 215, 216, 217, 218, 219, 220, 240, 241, 242, 243, 244, 245, 246, 247, 248, 249, 250, 251, 221, 222, 223, 230, 231, 232, 233, 234, 235, 236, 237, 238, 239] rfl gw_wsX5_writeRunningSum
set_option maxRecDepth 100000 in
theorem gX5_addPts_X5_writeRunningSum : GoodIn wsX5_addPts (wsV RX5 137 RX5 yX5_writeRunningSum wsX5_writeRunningSum) := goodIn_app (goodIn_of _ (by decide +kernel)) ggX5_addPts_X5_writeRunningSum
set_option maxRecDepth 100000 in
theorem ggX5_dbl_X5_addPts : GoodIn wsX5_dbl wsX5_addPts := goodIn_r _ [5, 6, 7, 8, 4, 9, 10, 11, 12, 13, 14, 15, 16, 17, 18, 19, 20, 21, 22, 23, 24, 25, 26, 27, 28, 29, 30, 31, 32, 33, 34, 35, 36, 37, 38, 39, 40, 41, 42, 43, 44, 45, 46, 47, 48, 49, 50, 51, 52, 53, 54, 55, 56, 57, 58, 59, 60, 61, 62, 63, 64, 65, 66, 67, 68, 69, 70, 71, 72, 73, 74, 75, 76, 77, 78, 79, 80, 81, 82, 83, 84, 85, 86, 87, 88, 89, 90, 91, 92, 93, 94, 95, 96, 97, 98, 99, 100, 101, 102, 103, 104, 105, 106, 107, 108, 109, 110, 111, 112, 113, 114, 115, 116, 117, 118, 119, 120, 121, 122, 123, 124, 125, 126, 127, 128, 129, 130, 131, 132, 133, 134, 135, 136, 137, 138, 139, 140, 141, 142, 143, 144, 145, 146, 147, 148, 149, 150, 151, 152, 153, 154, 155, 156, 157, 158, 159, 160, 161, 162, 163, 164, 165, 166, 167, 168, 169, 170, 171, 172, 173, 174, 175, 176, 177, 178, 179, 180, 181, 182, 183, 184, 185, 186, 187, 188, 189, 190, 191, 192, 193, 194, 195, 196, 197, 198, 199, 200, 201, 202, 203, 204, 205, 206, 207, 208, 209, 210, 211, 212, 213, 214, 215, 216, 217, 218, 219, 220, 221, 222, 223, 224, 225, 226, 227, 228, 229, 230, 231, 232, 233, 234, 235, 236, 237, 238, 239, 240, 241, 242, 243, 244, 245, 246, 247, 248, 249, 250, 251, 252, 253, 254, 255] rfl gw_wsX5_addPts
set_option maxRecDepth 100000 in
theorem gX5_dbl_X5_addPts : GoodIn wsX5_dbl (wsV RX5 140 RX5 yX5_addPts wsX5_addPts) := goodIn_app (goodIn_of _ (by decide +kernel)) ggX5_dbl_X5_addPts
set_option maxRecDepth 100000 in
theorem ggX5_scalarMul_X5_isPoint : GoodIn wsX5_scalarMul wsX5_isPoint := goodIn_r _ [5] rfl gw_wsX5_isPoint
set_option maxRecDepth 100000 in
theorem gX5_scalarMul_X5_isPoint : GoodIn wsX5_scalarMul (va_wsS RX5 103 yX5_isPoint wsX5_isPoint) := goodIn_app (goodIn_of _ (by decide +kernel)) ggX5_scalarMul_X5_isPoint
set_option maxRecDepth 100000 in
theorem ggX5_scalarMul_X5_isScalar : GoodIn wsX5_scalarMul wsX5_isScalar := goodIn_r _ [8] rfl gw_wsX5_isScalar
set_option maxRecDepth 100000 in
theorem gX5_scalarMul_X5_isScalar : GoodIn wsX5_scalarMul (va_wsS RX5 144 yX5_isScalar wsX5_isScalar) := goodIn_app (goodIn_of _ (by decide +kernel)) ggX5_scalarMul_X5_isScalar
set_option maxRecDepth 100000 in
theorem ggX5_scalarMul_X5_onCurve : GoodIn wsX5_scalarMul wsX5_onCurve := goodIn_r _ [12, 13, 14, 2, 3, 4, 5, 15, 16, 17, 18, 19, 20, 21, 22, 23, 24, 25, 26, 27, 28, 29, 30, 31, 32, 33, 34, 35, 36, 37, 38, 39, 40, 41, 42, 43, 44, 45, 46, 47, 48, 49, 50, 51, 52, 53, 54, 55, 56, 57, 58, 59, 60, 61, 62, 63, 64, 65, 66, 67, 68, 69, 70, 71, 72, 73, 74, 75, 76, 77, 78, 79, 80, 81, 220, 221, 222, 223, 224, 225, 226, 227, 228, 229, 230, 231, 232, 233, 234, 235, 236, 237, 238, 239, 240, 241, 242, 243, 244, 245, 246, 247, 248, 249, 250, 251] rfl gw_wsX5_onCurve
set_option maxRecDepth 100000 in
theorem gX5_scalarMul_X5_onCurve : GoodIn wsX5_scalarMul (wsV RX5 127 RX5 yX5_onCurve wsX5_onCurve) := goodIn_app (goodIn_of _ (by decide +kernel)) ggX5_scalarMul_X5_onCurve
set_option maxRecDepth 100000 in
theorem ggX5_scalarMul_X5_scalarIn : GoodIn wsX5_scalarMul wsX5_scalarIn := goodIn_r _ [85, 86, 220, 221, 222, 223, 224, 225, 226, 227, 228, 229, 230, 231, 232] rfl gw_wsX5_scalarIn
set_option maxRecDepth 100000 in
theorem gX5_scalarMul_X5_scalarIn : GoodIn wsX5_scalarMul (wsV RX5 147 RX5 yX5_scalarIn wsX5_scalarIn) := goodIn_app (goodIn_of _ (by decide +kernel)) ggX5_scalarMul_X5_scalarIn
set_option maxRecDepth 100000 in
theorem ggX5_scalarMul_X5_pointIn : GoodIn wsX5_scalarMul wsX5_pointIn := goodIn_r _ [18, 19, 220, 221, 222, 223, 224, 225, 226, 227, 228, 229, 230, 231, 232] rfl gw_wsX5_pointIn
set_option maxRecDepth 100000 in
theorem gX5_scalarMul_X5_pointIn : GoodIn wsX5_scalarMul (wsV RX5 106 RX5 yX5_pointIn wsX5_pointIn) := goodIn_app (goodIn_of _ (by decide +kernel)) ggX5_scalarMul_X5_pointIn
set_option maxRecDepth 100000 in
theorem ggX5_scalarMul_X4_takeTimes : GoodIn wsX5_scalarMul wsX4_takeTimes := goodIn_r _ [91, 92, 93, 94, 90, 95, 96, 97, 98, 99, 36, 100, 101, 47, 48, 49, 102, 103, 104, 105, 106, 107, 108, 109, 110, 111, 112, 113, 114, 115, 116, 117, 118, 119, 39, 40, 41, 42, 43, 44, 45, 46, 50, 51, 52, 53, 54, 55, 56, 57, 58, 59, 60, 61, 62, 63, 64, 65, 66, 67, 68, 69, 70, 71, 120, 121, 122, 123, 124, 125, 73, 74, 75, 76, 77, 78, 79, 80, 81, 35, 37, 126, 127, 128, 129, 130, 131, 132, 133, 134, 135, 136, 137, 138, 139, 140, 141, 142, 143, 144, 145, 146, 147, 148, 149, 150, 151, 152, 153, 154, 155, 156, 157, 158, 159, 160, 161, 162, 163, 252, 253, 254, 255, 256, 257, 258, 259, 260, 261, 262, 263, 242, 243, 244, 245, 246, 247, 248, 249, 250, 251, 233, 234, 235] rfl gw_wsX4_takeTimes
set_option maxRecDepth 100000 in
theorem gX5_scalarMul_X4_takeTimes : GoodIn wsX5_scalarMul (wsV RX5 151 RX4 yX4_takeTimes wsX4_takeTimes) := goodIn_app (goodIn_of _ (by decide +kernel)) ggX5_scalarMul_X4_takeTimes
set_option maxRecDepth 100000 in
theorem ggX5_scalarMul_X5_writeRunningSum : GoodIn wsX5_scalarMul wsX5_writeRunningSum := goodIn_r _ [167, 1, 15, 16, 17, 4, 18, 19, 168, 169, 170, 90, 171, 107, 112, 97, 96, 108, 147, 111, 148, 106, 139, 172, 173, 174, 41, 175, 176, 177, 178, 179, 76, 180, 150, 36, 151, 152, 153, 154, 155, 181, 99, 100, 101, 47, 48, 49, 182, 114, 115, 116, 117, 118, 183, 184, 185, 186, 187, 188, 189, 190, 191, 192, 193, 194, 195, 196, 197, 198, 199, 80, 200, 201, 202, 203, 204, 132, 133, 134, 77, 78, 79, 205, 206, 207, 208, 209, 210, 211, 212, 213, 119, 39, 40, 42, 43, 44, 45, 46, 50, 51, 52, 53, 54, 55, 56, 57, 58, 59, 60, 61, 62, 63, 64, 65, 66, 67, 68, 69, 70, 71, 214, 215, 216, 217, 218, 219, 220, 221, 222, 223, 224, 225, 226, 227, 228, 229, 230, 231, 232, 252, 253, 254, 255, 256, 257, 258, 259, 260, 261, 262, 263, 233, 234, 235, 242, 243, 244, 245, 246, 247, 248, 249, 250, 251] rfl gw_wsX5_writeRunningSum
set_option maxRecDepth 100000 in
theorem gX5_scalarMul_X5_writeRunningSum : GoodIn wsX5_scalarMul (wsV RX5 137 RX5 yX5_writeRunningSum wsX5_writeRunningSum) := goodIn_app (goodIn_of _ (by decide +kernel)) ggX5_scalarMul_X5_writeRunningSum
set_option maxRecDepth 100000 in
theorem ggX5_negate_X5_isPoint : GoodIn wsX5_negate wsX5_isPoint := goodIn_r _ [5] rfl gw_wsX5_isPoint
set_option maxRecDepth 100000 in
theorem gX5_negate_X5_isPoint : GoodIn wsX5_negate (va_wsS RX5 103 yX5_isPoint wsX5_isPoint) := goodIn_app (goodIn_of _ (by decide +kernel)) ggX5_negate_X5_isPoint
set_option maxRecDepth 100000 in
theorem ggX5_negate_X5_onCurve : GoodIn wsX5_negate wsX5_onCurve := goodIn_r _ [9, 10, 1, 2, 3, 4, 5, 11, 12, 13, 14, 15, 16, 17, 18, 19, 20, 21, 22, 23, 24, 25, 26, 27, 28, 29, 30, 31, 32, 33, 34, 35, 36, 37, 38, 39, 40, 41, 42, 43, 44, 45, 46, 47, 48, 49, 50, 51, 52, 53, 54, 55, 56, 57, 58, 59, 60, 61, 62, 63, 64, 65, 66, 67, 68, 69, 70, 71, 72, 73, 74, 75, 76, 77, 117, 118, 119, 120, 121, 122, 123, 124, 125, 126, 127, 128, 129, 130, 131, 132, 133, 134, 135, 136, 137, 138, 139, 140, 141, 142, 143, 144, 145, 146, 147, 148] rfl gw_wsX5_onCurve
set_option maxRecDepth 100000 in
theorem gX5_negate_X5_onCurve : GoodIn wsX5_negate (wsV RX5 127 RX5 yX5_onCurve wsX5_onCurve) := goodIn_app (goodIn_of _ (by decide +kernel)) ggX5_negate_X5_onCurve
set_option maxRecDepth 100000 in
theorem ggX5_negate_X5_pointIn : GoodIn wsX5_negate wsX5_pointIn := goodIn_r _ [14, 15, 117, 118, 119, 120, 121, 122, 123, 124, 125, 126, 127, 128, 129] rfl gw_wsX5_pointIn
set_option maxRecDepth 100000 in
theorem gX5_negate_X5_pointIn : GoodIn wsX5_negate (wsV RX5 106 RX5 yX5_pointIn wsX5_pointIn) := goodIn_app (goodIn_of _ (by decide +kernel)) ggX5_negate_X5_pointIn
set_option maxRecDepth 100000 in
theorem ggX5_negate_X2_copyFrom : GoodIn wsX5_negate wsX2_copyFrom := goodIn_r _ [82, 83, 84, 85, 86, 87, 32, 88, 89, 90, 91, 92, 130, 131, 132] rfl gw_wsX2_copyFrom
set_option maxRecDepth 100000 in
theorem gX5_negate_X2_copyFrom : GoodIn wsX5_negate (wsV RX5 155 RX2 yX2_copyFrom wsX2_copyFrom) := goodIn_app (goodIn_of _ (by decide +kernel)) ggX5_negate_X2_copyFrom
set_option maxRecDepth 100000 in
theorem ggX5_negate_X0_mirror : GoodIn wsX5_negate wsX0_mirror := goodIn_r _ [96, 24, 26, 25, 97, 98, 32, 99, 100, 101, 102, 103, 104, 105, 106, 43, 44, 45, 107, 108, 109, 37, 110, 72, 73, 74, 75, 76, 130, 131, 132, 133, 134, 135, 136, 137, 138, 139, 140, 141, 142, 143, 144, 145, 146, 147, 148] rfl gw_wsX0_mirror
set_option maxRecDepth 100000 in
theorem gX5_negate_X0_mirror : GoodIn wsX5_negate (wsV RX5 158 RX0 yX0_mirror wsX0_mirror) := goodIn_app (goodIn_of _ (by decide +kernel)) ggX5_negate_X0_mirror
set_option maxRecDepth 100000 in
theorem ggX5_negate_X5_endFeeding : GoodIn wsX5_negate wsX5_endFeeding := goodIn_r _ [114, 115, 116, 117, 118, 119, 120, 121, 122, 123, 124, 125, 126, 127, 128, 129] rfl gw_wsX5_endFeeding
set_option maxRecDepth 100000 in
theorem gX5_negate_X5_endFeeding : GoodIn wsX5_negate (wsV RX5 116 RX5 yX5_endFeeding wsX5_endFeeding) := goodIn_app (goodIn_of _ (by decide +kernel)) ggX5_negate_X5_endFeeding
set_option maxRecDepth 100000 in
theorem ggX5_isSame_X5_isPoint : GoodIn wsX5_isSame wsX5_isPoint := goodIn_r _ [4] rfl gw_wsX5_isPoint
set_option maxRecDepth 100000 in
theorem gX5_isSame_X5_isPoint : GoodIn wsX5_isSame (va_wsS RX5 103 yX5_isPoint wsX5_isPoint) := goodIn_app (goodIn_of _ (by decide +kernel)) ggX5_isSame_X5_isPoint
set_option maxRecDepth 100000 in
theorem ggX5_isSame_X5_pointIn : GoodIn wsX5_isSame wsX5_pointIn := goodIn_r _ [8, 9, 22, 23, 24, 25, 26, 27, 28, 29, 30, 31, 32, 33, 34] rfl gw_wsX5_pointIn
set_option maxRecDepth 100000 in
theorem gX5_isSame_X5_pointIn : GoodIn wsX5_isSame (wsV RX5 106 RX5 yX5_pointIn wsX5_pointIn) := goodIn_app (goodIn_of _ (by decide +kernel)) ggX5_isSame_X5_pointIn
set_option maxRecDepth 100000 in
theorem ggX5_isSame_X2_sameAs : GoodIn wsX5_isSame wsX2_sameAs := goodIn_r _ [14, 15, 16, 17, 18, 19, 20, 21, 35, 36, 37] rfl gw_wsX2_sameAs
set_option maxRecDepth 100000 in
theorem gX5_isSame_X2_sameAs : GoodIn wsX5_isSame (wsV RX5 161 RX2 yX2_sameAs wsX2_sameAs) := goodIn_app (goodIn_of _ (by decide +kernel)) ggX5_isSame_X2_sameAs
set_option maxRecDepth 100000 in
theorem ggX5_verify_X5_onCurve : GoodIn wsX5_verify wsX5_onCurve := goodIn_r _ [13, 14, 15, 16, 17, 12, 18, 19, 20, 21, 22, 23, 24, 25, 26, 27, 28, 29, 30, 31, 32, 33, 34, 35, 36, 37, 38, 39, 40, 41, 42, 43, 44, 45, 46, 47, 48, 49, 50, 51, 52, 53, 54, 55, 56, 57, 58, 59, 60, 61, 62, 63, 64, 65, 66, 67, 68, 69, 70, 71, 72, 73, 74, 75, 76, 77, 78, 79, 80, 81, 82, 83, 84, 85, 238, 239, 240, 241, 242, 243, 244, 245, 246, 247, 248, 249, 250, 251, 252, 253, 254, 255, 256, 257, 258, 259, 260, 261, 262, 263, 264, 265, 266, 267, 268, 269] rfl gw_wsX5_onCurve
set_option maxRecDepth 100000 in
theorem gX5_verify_X5_onCurve : GoodIn wsX5_verify (wsV RX5 127 RX5 yX5_onCurve wsX5_onCurve) := goodIn_app (goodIn_of _ (by decide +kernel)) ggX5_verify_X5_onCurve
set_option maxRecDepth 100000 in
theorem ggX5_verify_X5_isScalar : GoodIn wsX5_verify wsX5_isScalar := goodIn_r _ [88] rfl gw_wsX5_isScalar
set_option maxRecDepth 100000 in
theorem gX5_verify_X5_isScalar : GoodIn wsX5_verify (va_wsS RX5 144 yX5_isScalar wsX5_isScalar) := goodIn_app (goodIn_of _ (by decide +kernel)) ggX5_verify_X5_isScalar
set_option maxRecDepth 100000 in
theorem ggX5_verify_X3_takeModulus : GoodIn wsX5_verify wsX3_takeModulus := goodIn_r _ [92, 80, 48, 67, 58, 93, 94, 40, 95, 96, 97, 98, 99, 100, 101, 102, 103, 104, 105, 106, 107, 108, 109, 110, 84, 260, 261, 262, 263, 264, 265, 266, 267, 268, 269] rfl gw_wsX3_takeModulus
set_option maxRecDepth 100000 in
theorem gX5_verify_X3_takeModulus : GoodIn wsX5_verify (wsV RX5 164 RX3 yX3_takeModulus wsX3_takeModulus) := goodIn_app (goodIn_of _ (by decide +kernel)) ggX5_verify_X3_takeModulus
set_option maxRecDepth 100000 in
theorem ggX5_verify_X5_scalarIn : GoodIn wsX5_verify wsX5_scalarIn := goodIn_r _ [114, 115, 238, 239, 240, 241, 242, 243, 244, 245, 246, 247, 248, 249, 250] rfl gw_wsX5_scalarIn
set_option maxRecDepth 100000 in
theorem gX5_verify_X5_scalarIn : GoodIn wsX5_verify (wsV RX5 147 RX5 yX5_scalarIn wsX5_scalarIn) := goodIn_app (goodIn_of _ (by decide +kernel)) ggX5_verify_X5_scalarIn
set_option maxRecDepth 100000 in
theorem ggX5_verify_X5_isSignaturePart : GoodIn wsX5_verify wsX5_isSignaturePart := goodIn_r _ [119, 2, 120, 121, 40, 122, 123, 101, 102, 124, 39, 41, 238, 239, 240, 241, 242, 243, 244, 245, 246, 247, 248, 249, 250] rfl gw_wsX5_isSignaturePart
set_option maxRecDepth 100000 in
theorem gX5_verify_X5_isSignaturePart : GoodIn wsX5_verify (wsV RX5 168 RX5 yX5_isSignaturePart wsX5_isSignaturePart) := goodIn_app (goodIn_of _ (by decide +kernel)) ggX5_verify_X5_isSignaturePart
set_option maxRecDepth 100000 in
theorem ggX5_verify_X3_invert : GoodIn wsX5_verify wsX3_invert := goodIn_r _ [128, 129, 130, 131, 132, 80, 93, 94, 40, 95, 96, 97, 98, 99, 133, 134, 135, 136, 51, 52, 53, 137, 121, 122, 123, 101, 102, 138, 139, 140, 141, 142, 143, 144, 104, 105, 106, 107, 145, 146, 147, 148, 109, 110, 84, 149, 150, 151, 152, 153, 154, 155, 45, 156, 81, 82, 83, 260, 261, 262, 263, 264, 265, 266, 267, 268, 269] rfl gw_wsX3_invert
set_option maxRecDepth 100000 in
theorem gX5_verify_X3_invert : GoodIn wsX5_verify (wsV RX5 171 RX3 yX3_invert wsX3_invert) := goodIn_app (goodIn_of _ (by decide +kernel)) ggX5_verify_X3_invert
set_option maxRecDepth 100000 in
theorem ggX5_verify_X3_reduce : GoodIn wsX5_verify wsX3_reduce := goodIn_r _ [160, 47, 161, 97, 98, 99, 54, 55, 56, 45, 57, 48, 58, 49, 59, 60, 61, 62, 63, 64, 65, 66, 67, 68, 69, 70, 71, 72, 73, 74, 75, 260, 261, 262, 263, 264, 265, 266, 267, 268, 269] rfl gw_wsX3_reduce
set_option maxRecDepth 100000 in
theorem gX5_verify_X3_reduce : GoodIn wsX5_verify (wsV RX5 175 RX3 yX3_reduce wsX3_reduce) := goodIn_app (goodIn_of _ (by decide +kernel)) ggX5_verify_X3_reduce
set_option maxRecDepth 100000 in
theorem ggX5_verify_X3_multiply : GoodIn wsX5_verify wsX3_multiply := goodIn_r _ [46, 47, 48, 49, 50, 51, 52, 53, 54, 55, 56, 45, 57, 58, 59, 60, 61, 62, 63, 64, 65, 66, 67, 68, 69, 70, 71, 72, 73, 74, 75, 260, 261, 262, 263, 264, 265, 266, 267, 268, 269] rfl gw_wsX3_multiply
set_option maxRecDepth 100000 in
theorem gX5_verify_X3_multiply : GoodIn wsX5_verify (wsV RX5 179 RX3 yX3_multiply wsX3_multiply) := goodIn_app (goodIn_of _ (by decide +kernel)) ggX5_verify_X3_multiply
set_option maxRecDepth 100000 in
theorem ggX5_verify_X5_pointIn : GoodIn wsX5_verify wsX5_pointIn := goodIn_r _ [22, 23, 238, 239, 240, 241, 242, 243, 244, 245, 246, 247, 248, 249, 250] rfl gw_wsX5_pointIn
set_option maxRecDepth 100000 in
theorem gX5_verify_X5_pointIn : GoodIn wsX5_verify (wsV RX5 106 RX5 yX5_pointIn wsX5_pointIn) := goodIn_app (goodIn_of _ (by decide +kernel)) ggX5_verify_X5_pointIn
set_option maxRecDepth 100000 in
theorem ggX5_verify_X4_takeTimes : GoodIn wsX5_verify wsX4_takeTimes := goodIn_r _ [167, 168, 169, 170, 166, 171, 172, 173, 174, 134, 40, 135, 136, 51, 52, 53, 175, 176, 177, 178, 179, 180, 181, 182, 183, 184, 185, 186, 121, 122, 123, 101, 102, 187, 43, 44, 45, 46, 47, 48, 49, 50, 54, 55, 56, 57, 58, 59, 60, 61, 62, 63, 64, 65, 66, 67, 68, 69, 70, 71, 72, 73, 74, 75, 188, 189, 190, 191, 192, 193, 77, 78, 79, 80, 81, 82, 83, 84, 85, 39, 41, 194, 195, 196, 197, 198, 199, 154, 155, 156, 200, 201, 202, 203, 204, 205, 206, 207, 208, 209, 210, 211, 212, 213, 214, 94, 95, 96, 97, 98, 99, 215, 216, 217, 218, 219, 220, 221, 222, 270, 271, 272, 273, 274, 275, 276, 277, 278, 279, 280, 281, 260, 261, 262, 263, 264, 265, 266, 267, 268, 269, 251, 252, 253] rfl gw_wsX4_takeTimes
set_option maxRecDepth 100000 in
theorem gX5_verify_X4_takeTimes : GoodIn wsX5_verify (wsV RX5 151 RX4 yX4_takeTimes wsX4_takeTimes) := goodIn_app (goodIn_of _ (by decide +kernel)) ggX5_verify_X4_takeTimes
set_option maxRecDepth 100000 in
theorem ggX5_verify_X4_writeTo : GoodIn wsX5_verify wsX4_writeTo := goodIn_r _ [226, 180, 185, 173, 172, 181, 212, 184, 213, 179, 204, 227, 126, 127, 45, 128, 129, 130, 131, 132, 80, 93, 94, 40, 95, 96, 97, 98, 99, 133, 134, 135, 136, 51, 52, 53, 137, 121, 122, 123, 101, 102, 138, 139, 140, 141, 142, 143, 144, 104, 105, 106, 107, 145, 146, 147, 148, 109, 110, 84, 149, 150, 151, 152, 153, 154, 155, 156, 81, 82, 83, 228, 229, 230, 231, 232, 233, 234, 235, 236, 187, 43, 44, 46, 47, 48, 49, 50, 54, 55, 56, 57, 58, 59, 60, 61, 62, 63, 64, 65, 66, 67, 68, 69, 70, 71, 72, 73, 74, 75, 270, 271, 272, 273, 274, 275, 276, 277, 278, 279, 280, 281, 251, 252, 253, 260, 261, 262, 263, 264, 265, 266, 267, 268, 269] rfl gw_wsX4_writeTo
set_option maxRecDepth 100000 in
theorem gX5_verify_X4_writeTo : GoodIn wsX5_verify (wsV RX5 183 RX4 yX4_writeTo wsX4_writeTo) := goodIn_app (goodIn_of _ (by decide +kernel)) ggX5_verify_X4_writeTo
set_option maxRecDepth 100000 in
theorem ggX5_verify_X4_addPoint : GoodIn wsX5_verify wsX4_addPoint := goodIn_r _ [203, 204, 172, 184, 205, 179, 206, 180, 207, 183, 208, 209, 210, 166, 211, 181, 173, 212, 213, 187, 43, 44, 45, 46, 47, 48, 49, 50, 51, 52, 53, 54, 55, 56, 57, 58, 59, 60, 61, 62, 63, 64, 65, 66, 67, 68, 69, 70, 71, 72, 73, 74, 75, 214, 94, 40, 95, 96, 97, 98, 99, 199, 154, 155, 156, 80, 81, 82, 83, 84, 186, 121, 122, 123, 101, 102, 215, 216, 217, 218, 185, 175, 176, 177, 178, 182, 188, 189, 190, 191, 192, 193, 77, 78, 79, 85, 39, 41, 194, 195, 196, 197, 198, 219, 220, 221, 222, 174, 134, 135, 136, 251, 252, 253, 270, 271, 272, 273, 274, 275, 276, 277, 278, 279, 280, 281, 260, 261, 262, 263, 264, 265, 266, 267, 268, 269] rfl gw_wsX4_addPoint
set_option maxRecDepth 100000 in
theorem gX5_verify_X4_addPoint : GoodIn wsX5_verify (wsV RX5 133 RX4 yX4_addPoint wsX4_addPoint) := goodIn_app (goodIn_of _ (by decide +kernel)) ggX5_verify_X4_addPoint
set_option maxRecDepth 100000 in
theorem ggX5_verify_X1_compare : GoodIn wsX5_verify wsX1_compare := goodIn_r _ [41] rfl gw_wsX1_compare
set_option maxRecDepth 100000 in
theorem gX5_verify_X1_compare : GoodIn wsX5_verify (va_wsS RX5 189 yX1_compare wsX1_compare) := goodIn_app (goodIn_of _ (by decide +kernel)) ggX5_verify_X1_compare
set_option maxRecDepth 100000 in
theorem ggX5_reckon_X5_isScalar : GoodIn wsX5_reckon wsX5_isScalar := goodIn_r _ [8] rfl gw_wsX5_isScalar
set_option maxRecDepth 100000 in
theorem gX5_reckon_X5_isScalar : GoodIn wsX5_reckon (va_wsS RX5 144 yX5_isScalar wsX5_isScalar) := goodIn_app (goodIn_of _ (by decide +kernel)) ggX5_reckon_X5_isScalar
set_option maxRecDepth 100000 in
theorem ggX5_reckon_X3_takeModulus : GoodIn wsX5_reckon wsX3_takeModulus := goodIn_r _ [13, 14, 15, 16, 17, 18, 19, 20, 21, 22, 23, 24, 25, 26, 27, 28, 29, 30, 31, 32, 33, 34, 35, 36, 37, 148, 149, 150, 151, 152, 153, 154, 155, 156, 157] rfl gw_wsX3_takeModulus
set_option maxRecDepth 100000 in
theorem gX5_reckon_X3_takeModulus : GoodIn wsX5_reckon (wsV RX5 164 RX3 yX3_takeModulus wsX3_takeModulus) := goodIn_app (goodIn_of _ (by decide +kernel)) ggX5_reckon_X3_takeModulus
set_option maxRecDepth 100000 in
theorem ggX5_reckon_X5_scalarIn : GoodIn wsX5_reckon wsX5_scalarIn := goodIn_r _ [41, 42, 135, 136, 137, 138, 139, 140, 141, 142, 143, 144, 145, 146, 147] rfl gw_wsX5_scalarIn
set_option maxRecDepth 100000 in
theorem gX5_reckon_X5_scalarIn : GoodIn wsX5_reckon (wsV RX5 147 RX5 yX5_scalarIn wsX5_scalarIn) := goodIn_app (goodIn_of _ (by decide +kernel)) ggX5_reckon_X5_scalarIn
set_option maxRecDepth 100000 in
theorem ggX5_reckon_X3_reduce : GoodIn wsX5_reckon wsX3_reduce := goodIn_r _ [46, 47, 48, 23, 24, 25, 49, 50, 51, 12, 52, 15, 17, 53, 54, 55, 56, 57, 58, 59, 60, 61, 16, 62, 63, 64, 65, 66, 67, 68, 69, 148, 149, 150, 151, 152, 153, 154, 155, 156, 157] rfl gw_wsX3_reduce
set_option maxRecDepth 100000 in
theorem gX5_reckon_X3_reduce : GoodIn wsX5_reckon (wsV RX5 175 RX3 yX3_reduce wsX3_reduce) := goodIn_app (goodIn_of _ (by decide +kernel)) ggX5_reckon_X3_reduce
set_option maxRecDepth 100000 in
theorem ggX5_reckon_X3_invert : GoodIn wsX5_reckon wsX3_invert := goodIn_r _ [73, 74, 75, 76, 77, 14, 18, 19, 20, 21, 22, 23, 24, 25, 78, 79, 80, 81, 82, 83, 84, 85, 86, 87, 88, 27, 28, 89, 90, 91, 92, 93, 94, 95, 30, 31, 32, 33, 96, 97, 98, 99, 35, 36, 37, 100, 101, 102, 103, 104, 105, 106, 12, 107, 108, 109, 110, 148, 149, 150, 151, 152, 153, 154, 155, 156, 157] rfl gw_wsX3_invert
set_option maxRecDepth 100000 in
theorem gX5_reckon_X3_invert : GoodIn wsX5_reckon (wsV RX5 171 RX3 yX3_invert wsX3_invert) := goodIn_app (goodIn_of _ (by decide +kernel)) ggX5_reckon_X3_invert
set_option maxRecDepth 100000 in
theorem ggX5_reckon_X5_combineModuloOrder : GoodIn wsX5_reckon wsX5_combineModuloOrder := goodIn_r _ [114, 1, 3, 4, 115, 116, 117, 12, 118, 14, 108, 109, 20, 110, 37, 119, 120, 121, 122, 105, 106, 107, 123, 124, 125, 126, 47, 15, 53, 127, 82, 83, 84, 49, 50, 51, 52, 17, 54, 55, 56, 57, 58, 59, 60, 61, 16, 62, 63, 64, 65, 66, 67, 68, 69, 135, 136, 137, 138, 139, 140, 141, 142, 143, 144, 145, 146, 147, 148, 149, 150, 151, 152, 153, 154, 155, 156, 157] rfl gw_wsX5_combineModuloOrder
set_option maxRecDepth 100000 in
theorem gX5_reckon_X5_combineModuloOrder : GoodIn wsX5_reckon (wsV RX5 195 RX5 yX5_combineModuloOrder wsX5_combineModuloOrder) := goodIn_app (goodIn_of _ (by decide +kernel)) ggX5_reckon_X5_combineModuloOrder
set_option maxRecDepth 100000 in
theorem ggX5_reckon_X1_copy : GoodIn wsX5_reckon wsX1_copy := goodIn_r _ [21, 22, 23, 24, 25] rfl gw_wsX1_copy
set_option maxRecDepth 100000 in
theorem gX5_reckon_X1_copy : GoodIn wsX5_reckon (va_wsS RX5 198 yX1_copy wsX1_copy) := goodIn_app (goodIn_of _ (by decide +kernel)) ggX5_reckon_X1_copy
set_option maxRecDepth 100000 in
theorem ggX5_reckon_X5_endFeeding : GoodIn wsX5_reckon wsX5_endFeeding := goodIn_r _ [132, 133, 134, 135, 136, 137, 138, 139, 140, 141, 142, 143, 144, 145, 146, 147] rfl gw_wsX5_endFeeding
set_option maxRecDepth 100000 in
theorem gX5_reckon_X5_endFeeding : GoodIn wsX5_reckon (wsV RX5 116 RX5 yX5_endFeeding wsX5_endFeeding) := goodIn_app (goodIn_of _ (by decide +kernel)) ggX5_reckon_X5_endFeeding
set_option maxRecDepth 100000 in
theorem ggX5_limbsOf_X5_isPoint : GoodIn wsX5_limbsOf wsX5_isPoint := goodIn_r _ [5] rfl gw_wsX5_isPoint
set_option maxRecDepth 100000 in
theorem gX5_limbsOf_X5_isPoint : GoodIn wsX5_limbsOf (va_wsS RX5 103 yX5_isPoint wsX5_isPoint) := goodIn_app (goodIn_of _ (by decide +kernel)) ggX5_limbsOf_X5_isPoint
set_option maxRecDepth 100000 in
theorem ggX5_rowOf_X5_isParameter : GoodIn wsX5_rowOf wsX5_isParameter := goodIn_r _ [8] rfl gw_wsX5_isParameter
set_option maxRecDepth 100000 in
theorem gX5_rowOf_X5_isParameter : GoodIn wsX5_rowOf (va_wsS RX5 89 yX5_isParameter wsX5_isParameter) := goodIn_app (goodIn_of _ (by decide +kernel)) ggX5_rowOf_X5_isParameter
set_option maxRecDepth 100000 in
theorem ggX5_rowOf_X5_isScalar : GoodIn wsX5_rowOf wsX5_isScalar := goodIn_r _ [11] rfl gw_wsX5_isScalar
set_option maxRecDepth 100000 in
theorem gX5_rowOf_X5_isScalar : GoodIn wsX5_rowOf (va_wsS RX5 144 yX5_isScalar wsX5_isScalar) := goodIn_app (goodIn_of _ (by decide +kernel)) ggX5_rowOf_X5_isScalar
set_option maxRecDepth 100000 in
theorem ggX5_rowOf_X5_scalarIn : GoodIn wsX5_rowOf wsX5_scalarIn := goodIn_r _ [15, 16, 22, 23, 24, 25, 26, 27, 28, 29, 30, 31, 32, 33, 34] rfl gw_wsX5_scalarIn
set_option maxRecDepth 100000 in
theorem gX5_rowOf_X5_scalarIn : GoodIn wsX5_rowOf (wsV RX5 147 RX5 yX5_scalarIn wsX5_scalarIn) := goodIn_app (goodIn_of _ (by decide +kernel)) ggX5_rowOf_X5_scalarIn
set_option maxRecDepth 100000 in
theorem ggX5_rowOf_X5_pointIn : GoodIn wsX5_rowOf wsX5_pointIn := goodIn_r _ [20, 21, 22, 23, 24, 25, 26, 27, 28, 29, 30, 31, 32, 33, 34] rfl gw_wsX5_pointIn
set_option maxRecDepth 100000 in
theorem gX5_rowOf_X5_pointIn : GoodIn wsX5_rowOf (wsV RX5 106 RX5 yX5_pointIn wsX5_pointIn) := goodIn_app (goodIn_of _ (by decide +kernel)) ggX5_rowOf_X5_pointIn
set_option maxRecDepth 100000 in
theorem ggX5_clearSlot_X5_isPoint : GoodIn wsX5_clearSlot wsX5_isPoint := goodIn_r _ [4] rfl gw_wsX5_isPoint
set_option maxRecDepth 100000 in
theorem gX5_clearSlot_X5_isPoint : GoodIn wsX5_clearSlot (va_wsS RX5 103 yX5_isPoint wsX5_isPoint) := goodIn_app (goodIn_of _ (by decide +kernel)) ggX5_clearSlot_X5_isPoint
set_option maxRecDepth 100000 in
theorem ggX5_clearSlot_X5_pointIn : GoodIn wsX5_clearSlot wsX5_pointIn := goodIn_r _ [8, 9, 46, 47, 48, 49, 50, 51, 52, 53, 54, 55, 56, 57, 58] rfl gw_wsX5_pointIn
set_option maxRecDepth 100000 in
theorem gX5_clearSlot_X5_pointIn : GoodIn wsX5_clearSlot (wsV RX5 106 RX5 yX5_pointIn wsX5_pointIn) := goodIn_app (goodIn_of _ (by decide +kernel)) ggX5_clearSlot_X5_pointIn
set_option maxRecDepth 100000 in
theorem ggX5_clearSlot_X2_becomeIdentity : GoodIn wsX5_clearSlot wsX2_becomeIdentity := goodIn_r _ [14, 15, 16, 17, 18, 19, 20, 21, 22, 23, 24, 25, 59, 60, 61] rfl gw_wsX2_becomeIdentity
set_option maxRecDepth 100000 in
theorem gX5_clearSlot_X2_becomeIdentity : GoodIn wsX5_clearSlot (wsV RX5 204 RX2 yX2_becomeIdentity wsX2_becomeIdentity) := goodIn_app (goodIn_of _ (by decide +kernel)) ggX5_clearSlot_X2_becomeIdentity
set_option maxRecDepth 100000 in
theorem ggX5_clearSlot_X5_rowOf : GoodIn wsX5_clearSlot wsX5_rowOf := goodIn_r _ [29, 30, 31, 32, 33, 34, 35, 3, 36, 37, 38, 39, 40, 41, 42, 43, 44, 5, 6, 7, 8, 9, 46, 47, 48, 49, 50, 51, 52, 53, 54, 55, 56, 57, 58, 59, 60, 61] rfl gw_wsX5_rowOf
set_option maxRecDepth 100000 in
theorem gX5_clearSlot_X5_rowOf : GoodIn wsX5_clearSlot (wsV RX5 95 RX5 yX5_rowOf wsX5_rowOf) := goodIn_app (goodIn_of _ (by decide +kernel)) ggX5_clearSlot_X5_rowOf
set_option maxRecDepth 100000 in
theorem ggX5_clearSlot_X1_set : GoodIn wsX5_clearSlot wsX1_set := goodIn_r _ [21, 22, 23, 24, 25] rfl gw_wsX1_set
set_option maxRecDepth 100000 in
theorem gX5_clearSlot_X1_set : GoodIn wsX5_clearSlot (va_wsS RX5 207 yX1_set wsX1_set) := goodIn_app (goodIn_of _ (by decide +kernel)) ggX5_clearSlot_X1_set
set_option maxRecDepth 100000 in
theorem ggX5_writeRunningSum_X5_pointIn : GoodIn wsX5_writeRunningSum wsX5_pointIn := goodIn_r _ [6, 7, 128, 129, 130, 131, 132, 133, 134, 135, 136, 137, 138, 139, 140] rfl gw_wsX5_pointIn
set_option maxRecDepth 100000 in
theorem gX5_writeRunningSum_X5_pointIn : GoodIn wsX5_writeRunningSum (wsV RX5 106 RX5 yX5_pointIn wsX5_pointIn) := goodIn_app (goodIn_of _ (by decide +kernel)) ggX5_writeRunningSum_X5_pointIn
set_option maxRecDepth 100000 in
theorem ggX5_writeRunningSum_X4_writeTo : GoodIn wsX5_writeRunningSum wsX4_writeTo := goodIn_r _ [12, 13, 14, 15, 16, 17, 18, 19, 20, 21, 22, 23, 24, 25, 26, 27, 28, 29, 30, 31, 32, 33, 34, 35, 36, 37, 38, 39, 40, 41, 42, 43, 44, 45, 46, 47, 48, 49, 50, 51, 52, 53, 54, 55, 56, 57, 58, 59, 60, 61, 62, 63, 64, 65, 66, 67, 68, 69, 70, 71, 72, 73, 74, 75, 76, 77, 78, 79, 80, 81, 82, 83, 84, 85, 86, 87, 88, 89, 90, 91, 92, 93, 94, 95, 96, 97, 98, 99, 100, 101, 102, 103, 104, 105, 106, 107, 108, 109, 110, 111, 112, 113, 114, 115, 116, 117, 118, 119, 120, 121, 141, 142, 143, 144, 145, 146, 147, 148, 149, 150, 151, 152, 153, 154, 155, 156, 157, 158, 159, 160, 161, 162, 163, 164, 165] rfl gw_wsX4_writeTo
set_option maxRecDepth 100000 in
theorem gX5_writeRunningSum_X4_writeTo : GoodIn wsX5_writeRunningSum (wsV RX5 183 RX4 yX4_writeTo wsX4_writeTo) := goodIn_app (goodIn_of _ (by decide +kernel)) ggX5_writeRunningSum_X4_writeTo
set_option maxRecDepth 100000 in
theorem ggX5_writeRunningSum_X5_endFeeding : GoodIn wsX5_writeRunningSum wsX5_endFeeding := goodIn_r _ [125, 126, 127, 128, 129, 130, 131, 132, 133, 134, 135, 136, 137, 138, 139, 140] rfl gw_wsX5_endFeeding
set_option maxRecDepth 100000 in
theorem gX5_writeRunningSum_X5_endFeeding : GoodIn wsX5_writeRunningSum (wsV RX5 116 RX5 yX5_endFeeding wsX5_endFeeding) := goodIn_app (goodIn_of _ (by decide +kernel)) ggX5_writeRunningSum_X5_endFeeding
set_option maxRecDepth 100000 in
theorem ggX5_isSignaturePart_X1_isZero : GoodIn wsX5_isSignaturePart wsX1_isZero := goodIn_r _ [5, 6, 7, 4, 8] rfl gw_wsX1_isZero
set_option maxRecDepth 100000 in
theorem gX5_isSignaturePart_X1_isZero : GoodIn wsX5_isSignaturePart (va_wsS RX5 211 yX1_isZero wsX1_isZero) := goodIn_app (goodIn_of _ (by decide +kernel)) ggX5_isSignaturePart_X1_isZero
set_option maxRecDepth 100000 in
theorem ggX5_isSignaturePart_X1_compare : GoodIn wsX5_isSignaturePart wsX1_compare := goodIn_r _ [11] rfl gw_wsX1_compare
set_option maxRecDepth 100000 in
theorem gX5_isSignaturePart_X1_compare : GoodIn wsX5_isSignaturePart (va_wsS RX5 189 yX1_compare wsX1_compare) := goodIn_app (goodIn_of _ (by decide +kernel)) ggX5_isSignaturePart_X1_compare
set_option maxRecDepth 100000 in
theorem ggX5_combineModuloOrder_X3_add : GoodIn wsX5_combineModuloOrder wsX3_add := goodIn_r _ [8, 9, 10, 11, 12, 13, 14, 15, 16, 17, 68, 69, 70, 71, 72, 73, 74, 75, 76, 77] rfl gw_wsX3_add
set_option maxRecDepth 100000 in
theorem gX5_combineModuloOrder_X3_add : GoodIn wsX5_combineModuloOrder (wsV RX5 214 RX3 yX3_add wsX3_add) := goodIn_app (goodIn_of _ (by decide +kernel)) ggX5_combineModuloOrder_X3_add
set_option maxRecDepth 100000 in
theorem ggX5_combineModuloOrder_X3_subtract : GoodIn wsX5_combineModuloOrder wsX3_subtract := goodIn_r _ [21, 9, 10, 11, 12, 13, 14, 68, 69, 70, 71, 72, 73, 74, 75, 76, 77] rfl gw_wsX3_subtract
set_option maxRecDepth 100000 in
theorem gX5_combineModuloOrder_X3_subtract : GoodIn wsX5_combineModuloOrder (wsV RX5 217 RX3 yX3_subtract wsX3_subtract) := goodIn_app (goodIn_of _ (by decide +kernel)) ggX5_combineModuloOrder_X3_subtract
set_option maxRecDepth 100000 in
theorem ggX5_combineModuloOrder_X3_multiply : GoodIn wsX5_combineModuloOrder wsX3_multiply := goodIn_r _ [25, 26, 27, 28, 29, 30, 31, 32, 33, 34, 35, 7, 36, 37, 38, 39, 40, 41, 42, 43, 44, 45, 46, 47, 48, 49, 50, 51, 52, 53, 54, 68, 69, 70, 71, 72, 73, 74, 75, 76, 77] rfl gw_wsX3_multiply
set_option maxRecDepth 100000 in
theorem gX5_combineModuloOrder_X3_multiply : GoodIn wsX5_combineModuloOrder (wsV RX5 179 RX3 yX3_multiply wsX3_multiply) := goodIn_app (goodIn_of _ (by decide +kernel)) ggX5_combineModuloOrder_X3_multiply
