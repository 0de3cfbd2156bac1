set_option maxRecDepth 100000 in
theorem gwF_wsX6_loadParameters : wsX6_loadParameters.all goodWord = true := by decide +kernel
set_option maxRecDepth 100000 in
theorem gwF_wsX6_small : wsX6_small.all goodWord = true := by decide +kernel
set_option maxRecDepth 100000 in
theorem gwF_wsX6_isOdd : wsX6_isOdd.all goodWord = true := by decide +kernel
set_option maxRecDepth 100000 in
theorem gwF_wsX6_compare : wsX6_compare.all goodWord = true := by decide +kernel
set_option maxRecDepth 100000 in
theorem gwF_wsX6_times : wsX6_times.all goodWord = true := by decide +kernel
set_option maxRecDepth 100000 in
theorem gwF_wsX6_sum : wsX6_sum.all goodWord = true := by decide +kernel
set_option maxRecDepth 100000 in
theorem gwF_wsX6_isZero : wsX6_isZero.all goodWord = true := by decide +kernel
set_option maxRecDepth 100000 in
theorem gwF_wsX6_stopFeeding : wsX6_stopFeeding.all goodWord = true := by decide +kernel
set_option maxRecDepth 100000 in
theorem gwF_wsX6_limbsOf : wsX6_limbsOf.all goodWord = true := by decide +kernel
set_option maxRecDepth 100000 in
theorem gwF_wsX6_isPoint : wsX6_isPoint.all goodWord = true := by decide +kernel
set_option maxRecDepth 100000 in
theorem gwF_wsX6_loadPoint : wsX6_loadPoint.all goodWord = true := by decide +kernel
set_option maxRecDepth 100000 in
theorem gwF_wsX6_isOn : wsX6_isOn.all goodWord = true := by decide +kernel
set_option maxRecDepth 100000 in
theorem gwF_wsX6_isGood : wsX6_isGood.all goodWord = true := by decide +kernel
set_option maxRecDepth 100000 in
theorem gwF_wsX6_sumPoints : wsX6_sumPoints.all goodWord = true := by decide +kernel
set_option maxRecDepth 100000 in
theorem gwF_wsX6_storePoint : wsX6_storePoint.all goodWord = true := by decide +kernel
set_option maxRecDepth 100000 in
theorem gwF_wsX6_addPts : wsX6_addPts.all goodWord = true := by decide +kernel
set_option maxRecDepth 100000 in
theorem gwF_wsX6_isScalar : wsX6_isScalar.all goodWord = true := by decide +kernel
set_option maxRecDepth 100000 in
theorem gwF_wsX6_load : wsX6_load.all goodWord = true := by decide +kernel
set_option maxRecDepth 100000 in
theorem gwF_wsX6_multiply : wsX6_multiply.all goodWord = true := by decide +kernel
set_option maxRecDepth 100000 in
theorem gwF_wsX6_y : wsX6_y.all goodWord = true := by decide +kernel
set_option maxRecDepth 100000 in
theorem gwF_wsX6_minus : wsX6_minus.all goodWord = true := by decide +kernel
set_option maxRecDepth 100000 in
theorem gwF_wsX6_inverse : wsX6_inverse.all goodWord = true := by decide +kernel
set_option maxRecDepth 100000 in
theorem gwF_wsX6_x : wsX6_x.all goodWord = true := by decide +kernel
set_option maxRecDepth 100000 in
theorem gwF_wsX6_rest : wsX6_rest.all goodWord = true := by decide +kernel
set_option maxRecDepth 100000 in
theorem gwF_wsX6_difference : wsX6_difference.all goodWord = true := by decide +kernel
set_option maxRecDepth 100000 in
theorem gwF_wsX6_get : wsX6_get.all goodWord = true := by decide +kernel
set_option maxRecDepth 100000 in
theorem gwF_wsX6_written : wsX6_written.all goodWord = true := by decide +kernel
set_option maxRecDepth 100000 in
theorem ggX6_seal_X6_loadParameters : GoodIn wsX6_seal wsX6_loadParameters := goodIn_r _ [7, 8, 9, 10, 6, 11, 12, 13, 14, 15, 16, 17, 18, 19, 20, 21, 22, 83, 84, 85, 86, 87, 88, 89, 90, 91, 92, 93, 94] rfl gwF_wsX6_loadParameters
set_option maxRecDepth 100000 in
theorem gX6_seal_X6_loadParameters : GoodIn wsX6_seal (wsV RX6 156 RX6 yX6_loadParameters wsX6_loadParameters) := goodIn_app (goodIn_of _ (by decide +kernel)) ggX6_seal_X6_loadParameters
set_option maxRecDepth 100000 in
theorem ggX6_seal_X6_small : GoodIn wsX6_seal wsX6_small := goodIn_r _ [22, 14, 15, 16, 6, 17, 18, 83, 84, 85, 86, 87, 88, 89, 90, 91, 92, 93, 94] rfl gwF_wsX6_small
set_option maxRecDepth 100000 in
theorem gX6_seal_X6_small : GoodIn wsX6_seal (wsV RX6 64 RX6 yX6_small wsX6_small) := goodIn_app (goodIn_of _ (by decide +kernel)) ggX6_seal_X6_small
set_option maxRecDepth 100000 in
theorem ggX6_seal_X6_isOdd : GoodIn wsX6_seal wsX6_isOdd := goodIn_r _ [26, 27, 28, 29, 6, 30, 18, 83, 84, 85, 86, 87, 88, 89, 90, 91, 92, 93, 94] rfl gwF_wsX6_isOdd
set_option maxRecDepth 100000 in
theorem gX6_seal_X6_isOdd : GoodIn wsX6_seal (wsV RX6 106 RX6 yX6_isOdd wsX6_isOdd) := goodIn_app (goodIn_of _ (by decide +kernel)) ggX6_seal_X6_isOdd
set_option maxRecDepth 100000 in
theorem ggX6_seal_X6_compare : GoodIn wsX6_seal wsX6_compare := goodIn_r _ [34, 27, 28, 29, 6, 30, 18, 83, 84, 85, 86, 87, 88, 89, 90, 91, 92, 93, 94] rfl gwF_wsX6_compare
set_option maxRecDepth 100000 in
theorem gX6_seal_X6_compare : GoodIn wsX6_seal (wsV RX6 72 RX6 yX6_compare wsX6_compare) := goodIn_app (goodIn_of _ (by decide +kernel)) ggX6_seal_X6_compare
set_option maxRecDepth 100000 in
theorem ggX6_seal_X6_times : GoodIn wsX6_seal wsX6_times := goodIn_r _ [38, 39, 40, 41, 6, 42, 43, 44, 45, 27, 28, 29, 30, 18, 46, 47, 48, 49, 50, 51, 52, 53, 54, 55, 56, 57, 58, 59, 60, 61, 14, 15, 16, 17, 83, 84, 85, 86, 87, 88, 89, 90, 91, 92, 93, 94] rfl gwF_wsX6_times
set_option maxRecDepth 100000 in
theorem gX6_seal_X6_times : GoodIn wsX6_seal (wsV RX6 144 RX6 yX6_times wsX6_times) := goodIn_app (goodIn_of _ (by decide +kernel)) ggX6_seal_X6_times
set_option maxRecDepth 100000 in
theorem ggX6_seal_X6_sum : GoodIn wsX6_seal wsX6_sum := goodIn_r _ [65, 66, 67, 68, 6, 69, 44, 27, 28, 29, 30, 18, 14, 15, 16, 17, 31, 32, 33, 34, 70, 71, 72, 73, 61, 83, 84, 85, 86, 87, 88, 89, 90, 91, 92, 93, 94] rfl gwF_wsX6_sum
set_option maxRecDepth 100000 in
theorem gX6_seal_X6_sum : GoodIn wsX6_seal (wsV RX6 147 RX6 yX6_sum wsX6_sum) := goodIn_app (goodIn_of _ (by decide +kernel)) ggX6_seal_X6_sum
set_option maxRecDepth 100000 in
theorem ggX6_seal_X6_isZero : GoodIn wsX6_seal wsX6_isZero := goodIn_r _ [77, 27, 28, 29, 6, 30, 18, 83, 84, 85, 86, 87, 88, 89, 90, 91, 92, 93, 94] rfl gwF_wsX6_isZero
set_option maxRecDepth 100000 in
theorem gX6_seal_X6_isZero : GoodIn wsX6_seal (wsV RX6 115 RX6 yX6_isZero wsX6_isZero) := goodIn_app (goodIn_of _ (by decide +kernel)) ggX6_seal_X6_isZero
set_option maxRecDepth 100000 in
theorem ggX6_seal_X6_stopFeeding : GoodIn wsX6_seal wsX6_stopFeeding := goodIn_r _ [81, 2, 82, 83, 84, 85, 86, 87, 88, 89, 90, 91, 92, 93, 94] rfl gwF_wsX6_stopFeeding
set_option maxRecDepth 100000 in
theorem gX6_seal_X6_stopFeeding : GoodIn wsX6_seal (wsV RX6 54 RX6 yX6_stopFeeding wsX6_stopFeeding) := goodIn_app (goodIn_of _ (by decide +kernel)) ggX6_seal_X6_stopFeeding
set_option maxRecDepth 100000 in
theorem ggX6_limb_X6_limbsOf : GoodIn wsX6_limb wsX6_limbsOf := goodIn_r _ [6, 7, 8, 9, 5, 10, 11, 12, 13, 14, 15, 16, 17, 18, 19, 20, 21, 22] rfl gwF_wsX6_limbsOf
set_option maxRecDepth 100000 in
theorem gX6_limb_X6_limbsOf : GoodIn wsX6_limb (wsV RX6 50 RX6 yX6_limbsOf wsX6_limbsOf) := goodIn_app (goodIn_of _ (by decide +kernel)) ggX6_limb_X6_limbsOf
set_option maxRecDepth 100000 in
theorem ggX6_isGood_X6_isPoint : GoodIn wsX6_isGood wsX6_isPoint := goodIn_r _ [5] rfl gwF_wsX6_isPoint
set_option maxRecDepth 100000 in
theorem gX6_isGood_X6_isPoint : GoodIn wsX6_isGood (va_wsS RX6 39 yX6_isPoint wsX6_isPoint) := goodIn_app (goodIn_of _ (by decide +kernel)) ggX6_isGood_X6_isPoint
set_option maxRecDepth 100000 in
theorem ggX6_isGood_X6_loadParameters : GoodIn wsX6_isGood wsX6_loadParameters := goodIn_r _ [9, 10, 11, 12, 4, 13, 14, 15, 16, 17, 18, 19, 20, 21, 22, 23, 24, 88, 89, 90, 91, 92, 93, 94, 95, 96, 97, 98, 99] rfl gwF_wsX6_loadParameters
set_option maxRecDepth 100000 in
theorem gX6_isGood_X6_loadParameters : GoodIn wsX6_isGood (wsV RX6 156 RX6 yX6_loadParameters wsX6_loadParameters) := goodIn_app (goodIn_of _ (by decide +kernel)) ggX6_isGood_X6_loadParameters
set_option maxRecDepth 100000 in
theorem ggX6_isGood_X6_loadPoint : GoodIn wsX6_isGood wsX6_loadPoint := goodIn_r _ [28, 29, 30, 14, 31, 32, 4, 33, 10, 11, 12, 13, 15, 16, 17, 18, 19, 20, 34, 35, 36, 88, 89, 90, 91, 92, 93, 94, 95, 96, 97, 98, 99] rfl gwF_wsX6_loadPoint
set_option maxRecDepth 100000 in
theorem gX6_isGood_X6_loadPoint : GoodIn wsX6_isGood (wsV RX6 159 RX6 yX6_loadPoint wsX6_loadPoint) := goodIn_app (goodIn_of _ (by decide +kernel)) ggX6_isGood_X6_loadPoint
set_option maxRecDepth 100000 in
theorem ggX6_isGood_X6_isOn : GoodIn wsX6_isGood wsX6_isOn := goodIn_r _ [40, 29, 31, 32, 4, 33, 41, 42, 43, 44, 45, 46, 47, 48, 20, 34, 35, 36, 49, 50, 51, 52, 53, 54, 55, 56, 57, 58, 59, 60, 61, 62, 63, 64, 65, 66, 67, 68, 69, 70, 71, 72, 73, 74, 75, 16, 17, 18, 19, 76, 77, 78, 79, 80, 81, 82, 83, 84, 85, 86, 87, 88, 89, 90, 91, 92, 93, 94, 95, 96, 97, 98, 99] rfl gwF_wsX6_isOn
set_option maxRecDepth 100000 in
theorem gX6_isGood_X6_isOn : GoodIn wsX6_isGood (wsV RX6 162 RX6 yX6_isOn wsX6_isOn) := goodIn_app (goodIn_of _ (by decide +kernel)) ggX6_isGood_X6_isOn
set_option maxRecDepth 100000 in
theorem ggX6_onCurve_X6_isGood : GoodIn wsX6_onCurve wsX6_isGood := goodIn_r _ [5, 6, 7, 8, 4, 9, 10, 11, 12, 13, 14, 15, 16, 17, 18, 19, 20, 21, 22, 23, 24, 25, 26, 27, 28, 29, 30, 31, 32, 33, 34, 35, 36, 37, 38, 39, 40, 41, 42, 43, 44, 45, 46, 47, 48, 49, 50, 51, 52, 53, 54, 55, 56, 57, 58, 59, 60, 61, 62, 63, 64, 65, 66, 67, 68, 69, 70, 71, 72, 73, 74, 75, 76, 77, 78, 79, 80, 81, 82, 83, 84, 85, 86, 87, 88, 89, 90, 91, 92, 93, 94, 95, 96, 97, 98, 99, 100, 101, 102, 103] rfl gwF_wsX6_isGood
set_option maxRecDepth 100000 in
theorem gX6_onCurve_X6_isGood : GoodIn wsX6_onCurve (wsV RX6 165 RX6 yX6_isGood wsX6_isGood) := goodIn_app (goodIn_of _ (by decide +kernel)) ggX6_onCurve_X6_isGood
set_option maxRecDepth 100000 in
theorem ggX6_isInfinity_X6_isPoint : GoodIn wsX6_isInfinity wsX6_isPoint := goodIn_r _ [5] rfl gwF_wsX6_isPoint
set_option maxRecDepth 100000 in
theorem gX6_isInfinity_X6_isPoint : GoodIn wsX6_isInfinity (va_wsS RX6 39 yX6_isPoint wsX6_isPoint) := goodIn_app (goodIn_of _ (by decide +kernel)) ggX6_isInfinity_X6_isPoint
set_option maxRecDepth 100000 in
theorem ggX6_addPts_X6_isPoint : GoodIn wsX6_addPts wsX6_isPoint := goodIn_r _ [4] rfl gwF_wsX6_isPoint
set_option maxRecDepth 100000 in
theorem gX6_addPts_X6_isPoint : GoodIn wsX6_addPts (va_wsS RX6 39 yX6_isPoint wsX6_isPoint) := goodIn_app (goodIn_of _ (by decide +kernel)) ggX6_addPts_X6_isPoint
set_option maxRecDepth 100000 in
theorem ggX6_addPts_X6_isGood : GoodIn wsX6_addPts wsX6_isGood := goodIn_r _ [8, 9, 1, 2, 3, 4, 10, 11, 12, 13, 14, 15, 16, 17, 18, 19, 20, 21, 22, 23, 24, 25, 26, 27, 28, 29, 30, 31, 32, 33, 34, 35, 36, 37, 38, 39, 40, 41, 42, 43, 44, 45, 46, 47, 48, 49, 50, 51, 52, 53, 54, 55, 56, 57, 58, 59, 60, 61, 62, 63, 64, 65, 66, 67, 68, 69, 70, 71, 72, 73, 74, 75, 76, 77, 78, 79, 80, 81, 82, 83, 84, 85, 86, 87, 88, 89, 90, 91, 146, 147, 148, 149, 150, 151, 152, 153, 154, 155, 156, 157] rfl gwF_wsX6_isGood
set_option maxRecDepth 100000 in
theorem gX6_addPts_X6_isGood : GoodIn wsX6_addPts (wsV RX6 165 RX6 yX6_isGood wsX6_isGood) := goodIn_app (goodIn_of _ (by decide +kernel)) ggX6_addPts_X6_isGood
set_option maxRecDepth 100000 in
theorem ggX6_addPts_X6_sumPoints : GoodIn wsX6_addPts wsX6_sumPoints := goodIn_r _ [95, 33, 96, 97, 98, 3, 99, 35, 36, 37, 100, 101, 102, 103, 49, 50, 51, 52, 24, 20, 21, 22, 23, 38, 39, 40, 45, 46, 47, 48, 80, 81, 82, 83, 84, 85, 86, 87, 62, 88, 89, 90, 91, 79, 104, 105, 106, 107, 53, 54, 55, 56, 57, 58, 59, 60, 61, 63, 64, 65, 66, 67, 68, 69, 70, 71, 72, 73, 74, 75, 76, 77, 78, 108, 109, 110, 111, 112, 113, 114, 115, 25, 26, 27, 28, 116, 117, 118, 119, 120, 121, 122, 123, 124, 125, 126, 127, 128, 129, 130, 131, 146, 147, 148, 149, 150, 151, 152, 153, 154, 155, 156, 157] rfl gwF_wsX6_sumPoints
set_option maxRecDepth 100000 in
theorem gX6_addPts_X6_sumPoints : GoodIn wsX6_addPts (wsV RX6 153 RX6 yX6_sumPoints wsX6_sumPoints) := goodIn_app (goodIn_of _ (by decide +kernel)) ggX6_addPts_X6_sumPoints
set_option maxRecDepth 100000 in
theorem ggX6_addPts_X6_storePoint : GoodIn wsX6_addPts wsX6_storePoint := goodIn_r _ [135, 19, 18, 33, 34, 35, 36, 3, 37, 49, 50, 51, 52, 24, 38, 39, 40, 136, 137, 138, 139, 140, 141, 142, 143, 144, 145, 146, 147, 148, 149, 150, 151, 152, 153, 154, 155, 156, 157] rfl gwF_wsX6_storePoint
set_option maxRecDepth 100000 in
theorem gX6_addPts_X6_storePoint : GoodIn wsX6_addPts (wsV RX6 169 RX6 yX6_storePoint wsX6_storePoint) := goodIn_app (goodIn_of _ (by decide +kernel)) ggX6_addPts_X6_storePoint
set_option maxRecDepth 100000 in
theorem ggX6_dbl_X6_addPts : GoodIn wsX6_dbl wsX6_addPts := goodIn_r _ [5, 6, 7, 4, 8, 9, 10, 11, 12, 13, 14, 15, 16, 17, 18, 19, 20, 21, 22, 23, 24, 25, 26, 27, 28, 29, 30, 31, 32, 33, 34, 35, 36, 37, 38, 39, 40, 41, 42, 43, 44, 45, 46, 47, 48, 49, 50, 51, 52, 53, 54, 55, 56, 57, 58, 59, 60, 61, 62, 63, 64, 65, 66, 67, 68, 69, 70, 71, 72, 73, 74, 75, 76, 77, 78, 79, 80, 81, 82, 83, 84, 85, 86, 87, 88, 89, 90, 91, 92, 93, 94, 95, 96, 97, 98, 99, 100, 101, 102, 103, 104, 105, 106, 107, 108, 109, 110, 111, 112, 113, 114, 115, 116, 117, 118, 119, 120, 121, 122, 123, 124, 125, 126, 127, 128, 129, 130, 131, 132, 133, 134, 135, 136, 137, 138, 139, 140, 141, 142, 143, 144, 145, 146, 147, 148, 149, 150, 151, 152, 153, 154, 155, 156, 157, 158, 159, 160, 161] rfl gwF_wsX6_addPts
set_option maxRecDepth 100000 in
theorem gX6_dbl_X6_addPts : GoodIn wsX6_dbl (wsV RX6 172 RX6 yX6_addPts wsX6_addPts) := goodIn_app (goodIn_of _ (by decide +kernel)) ggX6_dbl_X6_addPts
set_option maxRecDepth 100000 in
theorem ggX6_scalarMul_X6_isPoint : GoodIn wsX6_scalarMul wsX6_isPoint := goodIn_r _ [4] rfl gwF_wsX6_isPoint
set_option maxRecDepth 100000 in
theorem gX6_scalarMul_X6_isPoint : GoodIn wsX6_scalarMul (va_wsS RX6 39 yX6_isPoint wsX6_isPoint) := goodIn_app (goodIn_of _ (by decide +kernel)) ggX6_scalarMul_X6_isPoint
set_option maxRecDepth 100000 in
theorem ggX6_scalarMul_X6_isScalar : GoodIn wsX6_scalarMul wsX6_isScalar := goodIn_r _ [7] rfl gwF_wsX6_isScalar
set_option maxRecDepth 100000 in
theorem gX6_scalarMul_X6_isScalar : GoodIn wsX6_scalarMul (va_wsS RX6 175 yX6_isScalar wsX6_isScalar) := goodIn_app (goodIn_of _ (by decide +kernel)) ggX6_scalarMul_X6_isScalar
set_option maxRecDepth 100000 in
theorem ggX6_scalarMul_X6_isGood : GoodIn wsX6_scalarMul wsX6_isGood := goodIn_r _ [11, 12, 1, 2, 3, 4, 13, 14, 15, 16, 17, 18, 19, 20, 21, 22, 23, 24, 25, 26, 27, 28, 29, 30, 31, 32, 33, 34, 35, 36, 37, 38, 39, 40, 41, 42, 43, 44, 45, 46, 47, 48, 49, 50, 51, 52, 53, 54, 55, 56, 57, 58, 59, 60, 61, 62, 63, 64, 65, 66, 67, 68, 69, 70, 71, 72, 73, 74, 75, 76, 77, 78, 79, 80, 81, 82, 83, 84, 85, 86, 87, 88, 89, 90, 91, 92, 93, 94, 153, 154, 155, 156, 157, 158, 159, 160, 161, 162, 163, 164] rfl gwF_wsX6_isGood
set_option maxRecDepth 100000 in
theorem gX6_scalarMul_X6_isGood : GoodIn wsX6_scalarMul (wsV RX6 165 RX6 yX6_isGood wsX6_isGood) := goodIn_app (goodIn_of _ (by decide +kernel)) ggX6_scalarMul_X6_isGood
set_option maxRecDepth 100000 in
theorem ggX6_scalarMul_X6_load : GoodIn wsX6_scalarMul wsX6_load := goodIn_r _ [20, 21, 22, 23, 24, 25, 3, 26, 27, 153, 154, 155, 156, 157, 158, 159, 160, 161, 162, 163, 164] rfl gwF_wsX6_load
set_option maxRecDepth 100000 in
theorem gX6_scalarMul_X6_load : GoodIn wsX6_scalarMul (wsV RX6 61 RX6 yX6_load wsX6_load) := goodIn_app (goodIn_of _ (by decide +kernel)) ggX6_scalarMul_X6_load
set_option maxRecDepth 100000 in
theorem ggX6_scalarMul_X6_multiply : GoodIn wsX6_scalarMul wsX6_multiply := goodIn_r _ [98, 36, 52, 53, 54, 3, 55, 27, 99, 100, 101, 102, 103, 104, 105, 106, 38, 39, 40, 107, 108, 109, 110, 23, 24, 25, 26, 41, 42, 43, 48, 49, 50, 51, 83, 84, 85, 86, 87, 88, 89, 90, 65, 91, 92, 93, 94, 82, 111, 112, 113, 114, 56, 57, 58, 59, 60, 61, 62, 63, 64, 66, 67, 68, 69, 70, 71, 72, 73, 74, 75, 76, 77, 78, 79, 80, 81, 115, 116, 117, 118, 119, 120, 121, 122, 28, 29, 30, 31, 123, 124, 125, 126, 127, 128, 129, 130, 131, 132, 133, 134, 135, 136, 137, 138, 153, 154, 155, 156, 157, 158, 159, 160, 161, 162, 163, 164] rfl gwF_wsX6_multiply
set_option maxRecDepth 100000 in
theorem gX6_scalarMul_X6_multiply : GoodIn wsX6_scalarMul (wsV RX6 178 RX6 yX6_multiply wsX6_multiply) := goodIn_app (goodIn_of _ (by decide +kernel)) ggX6_scalarMul_X6_multiply
set_option maxRecDepth 100000 in
theorem ggX6_scalarMul_X6_storePoint : GoodIn wsX6_scalarMul wsX6_storePoint := goodIn_r _ [142, 22, 21, 36, 37, 38, 39, 3, 40, 52, 53, 54, 55, 27, 41, 42, 43, 143, 144, 145, 146, 147, 148, 149, 150, 151, 152, 153, 154, 155, 156, 157, 158, 159, 160, 161, 162, 163, 164] rfl gwF_wsX6_storePoint
set_option maxRecDepth 100000 in
theorem gX6_scalarMul_X6_storePoint : GoodIn wsX6_scalarMul (wsV RX6 169 RX6 yX6_storePoint wsX6_storePoint) := goodIn_app (goodIn_of _ (by decide +kernel)) ggX6_scalarMul_X6_storePoint
set_option maxRecDepth 100000 in
theorem ggX6_negate_X6_isPoint : GoodIn wsX6_negate wsX6_isPoint := goodIn_r _ [5] rfl gwF_wsX6_isPoint
set_option maxRecDepth 100000 in
theorem gX6_negate_X6_isPoint : GoodIn wsX6_negate (va_wsS RX6 39 yX6_isPoint wsX6_isPoint) := goodIn_app (goodIn_of _ (by decide +kernel)) ggX6_negate_X6_isPoint
set_option maxRecDepth 100000 in
theorem ggX6_negate_X6_isGood : GoodIn wsX6_negate wsX6_isGood := goodIn_r _ [9, 10, 2, 3, 4, 5, 11, 12, 13, 14, 15, 16, 17, 18, 19, 20, 21, 22, 23, 24, 25, 26, 27, 28, 29, 30, 31, 32, 33, 1, 34, 35, 36, 37, 38, 39, 40, 41, 42, 43, 44, 45, 46, 47, 48, 49, 50, 51, 52, 53, 54, 55, 56, 57, 58, 59, 60, 61, 62, 63, 64, 65, 66, 67, 68, 69, 70, 71, 72, 73, 74, 75, 76, 77, 78, 79, 80, 81, 82, 83, 84, 85, 86, 87, 88, 89, 90, 91, 110, 111, 112, 113, 114, 115, 116, 117, 118, 119, 120, 121] rfl gwF_wsX6_isGood
set_option maxRecDepth 100000 in
theorem gX6_negate_X6_isGood : GoodIn wsX6_negate (wsV RX6 165 RX6 yX6_isGood wsX6_isGood) := goodIn_app (goodIn_of _ (by decide +kernel)) ggX6_negate_X6_isGood
set_option maxRecDepth 100000 in
theorem ggX6_negate_X6_y : GoodIn wsX6_negate wsX6_y := goodIn_r _ [40] rfl gwF_wsX6_y
set_option maxRecDepth 100000 in
theorem gX6_negate_X6_y : GoodIn wsX6_negate (va_wsS RX6 138 yX6_y wsX6_y) := goodIn_app (goodIn_of _ (by decide +kernel)) ggX6_negate_X6_y
set_option maxRecDepth 100000 in
theorem ggX6_negate_X6_isZero : GoodIn wsX6_negate wsX6_isZero := goodIn_r _ [95, 49, 50, 51, 4, 52, 25, 110, 111, 112, 113, 114, 115, 116, 117, 118, 119, 120, 121] rfl gwF_wsX6_isZero
set_option maxRecDepth 100000 in
theorem gX6_negate_X6_isZero : GoodIn wsX6_negate (wsV RX6 115 RX6 yX6_isZero wsX6_isZero) := goodIn_app (goodIn_of _ (by decide +kernel)) ggX6_negate_X6_isZero
set_option maxRecDepth 100000 in
theorem ggX6_negate_X6_minus : GoodIn wsX6_negate wsX6_minus := goodIn_r _ [91, 79, 49, 50, 51, 4, 52, 25, 21, 22, 23, 24, 110, 111, 112, 113, 114, 115, 116, 117, 118, 119, 120, 121] rfl gwF_wsX6_minus
set_option maxRecDepth 100000 in
theorem gX6_negate_X6_minus : GoodIn wsX6_negate (wsV RX6 103 RX6 yX6_minus wsX6_minus) := goodIn_app (goodIn_of _ (by decide +kernel)) ggX6_negate_X6_minus
set_option maxRecDepth 100000 in
theorem ggX6_negate_X6_storePoint : GoodIn wsX6_negate wsX6_storePoint := goodIn_r _ [99, 20, 19, 1, 34, 35, 36, 4, 37, 49, 50, 51, 52, 25, 38, 39, 40, 100, 101, 102, 103, 104, 105, 106, 107, 108, 109, 110, 111, 112, 113, 114, 115, 116, 117, 118, 119, 120, 121] rfl gwF_wsX6_storePoint
set_option maxRecDepth 100000 in
theorem gX6_negate_X6_storePoint : GoodIn wsX6_negate (wsV RX6 169 RX6 yX6_storePoint wsX6_storePoint) := goodIn_app (goodIn_of _ (by decide +kernel)) ggX6_negate_X6_storePoint
set_option maxRecDepth 100000 in
theorem ggX6_isSame_X6_isPoint : GoodIn wsX6_isSame wsX6_isPoint := goodIn_r _ [7] rfl gwF_wsX6_isPoint
set_option maxRecDepth 100000 in
theorem gX6_isSame_X6_isPoint : GoodIn wsX6_isSame (va_wsS RX6 39 yX6_isPoint wsX6_isPoint) := goodIn_app (goodIn_of _ (by decide +kernel)) ggX6_isSame_X6_isPoint
set_option maxRecDepth 100000 in
theorem ggX6_verify_X6_isScalar : GoodIn wsX6_verify wsX6_isScalar := goodIn_r _ [5] rfl gwF_wsX6_isScalar
set_option maxRecDepth 100000 in
theorem gX6_verify_X6_isScalar : GoodIn wsX6_verify (va_wsS RX6 175 yX6_isScalar wsX6_isScalar) := goodIn_app (goodIn_of _ (by decide +kernel)) ggX6_verify_X6_isScalar
set_option maxRecDepth 100000 in
theorem ggX6_verify_X6_isGood : GoodIn wsX6_verify wsX6_isGood := goodIn_r _ [9, 10, 11, 12, 4, 13, 14, 15, 16, 17, 18, 19, 20, 21, 22, 23, 24, 25, 26, 27, 28, 29, 30, 31, 32, 33, 34, 35, 36, 1, 37, 38, 39, 40, 41, 42, 43, 44, 45, 46, 47, 48, 49, 50, 51, 52, 53, 54, 55, 56, 57, 58, 59, 60, 61, 62, 63, 64, 65, 66, 67, 68, 69, 70, 71, 72, 73, 74, 75, 76, 77, 78, 79, 80, 81, 82, 83, 84, 85, 86, 87, 88, 89, 90, 91, 92, 93, 94, 151, 152, 153, 154, 155, 156, 157, 158, 159, 160, 161, 162] rfl gwF_wsX6_isGood
set_option maxRecDepth 100000 in
theorem gX6_verify_X6_isGood : GoodIn wsX6_verify (wsV RX6 165 RX6 yX6_isGood wsX6_isGood) := goodIn_app (goodIn_of _ (by decide +kernel)) ggX6_verify_X6_isGood
set_option maxRecDepth 100000 in
theorem ggX6_verify_X6_isZero : GoodIn wsX6_verify wsX6_isZero := goodIn_r _ [98, 52, 53, 54, 4, 55, 28, 151, 152, 153, 154, 155, 156, 157, 158, 159, 160, 161, 162] rfl gwF_wsX6_isZero
set_option maxRecDepth 100000 in
theorem gX6_verify_X6_isZero : GoodIn wsX6_verify (wsV RX6 115 RX6 yX6_isZero wsX6_isZero) := goodIn_app (goodIn_of _ (by decide +kernel)) ggX6_verify_X6_isZero
set_option maxRecDepth 100000 in
theorem ggX6_verify_X6_load : GoodIn wsX6_verify wsX6_load := goodIn_r _ [21, 22, 23, 24, 25, 26, 4, 27, 28, 151, 152, 153, 154, 155, 156, 157, 158, 159, 160, 161, 162] rfl gwF_wsX6_load
set_option maxRecDepth 100000 in
theorem gX6_verify_X6_load : GoodIn wsX6_verify (wsV RX6 61 RX6 yX6_load wsX6_load) := goodIn_app (goodIn_of _ (by decide +kernel)) ggX6_verify_X6_load
set_option maxRecDepth 100000 in
theorem ggX6_verify_X6_compare : GoodIn wsX6_verify wsX6_compare := goodIn_r _ [51, 52, 53, 54, 4, 55, 28, 151, 152, 153, 154, 155, 156, 157, 158, 159, 160, 161, 162] rfl gwF_wsX6_compare
set_option maxRecDepth 100000 in
theorem gX6_verify_X6_compare : GoodIn wsX6_verify (wsV RX6 72 RX6 yX6_compare wsX6_compare) := goodIn_app (goodIn_of _ (by decide +kernel)) ggX6_verify_X6_compare
set_option maxRecDepth 100000 in
theorem ggX6_verify_X6_inverse : GoodIn wsX6_verify wsX6_inverse := goodIn_r _ [102, 64, 65, 73, 103, 104, 105, 4, 106, 48, 49, 50, 51, 52, 53, 54, 55, 28, 29, 30, 31, 32, 24, 25, 26, 27, 107, 108, 109, 110, 111, 112, 113, 114, 115, 116, 117, 118, 95, 96, 97, 98, 119, 120, 121, 122, 123, 124, 125, 126, 87, 88, 89, 90, 91, 92, 93, 94, 82, 127, 128, 129, 130, 131, 132, 133, 134, 135, 136, 137, 138, 66, 67, 68, 69, 70, 71, 72, 74, 75, 76, 77, 78, 79, 80, 81, 60, 61, 62, 63, 151, 152, 153, 154, 155, 156, 157, 158, 159, 160, 161, 162] rfl gwF_wsX6_inverse
set_option maxRecDepth 100000 in
theorem gX6_verify_X6_inverse : GoodIn wsX6_verify (wsV RX6 181 RX6 yX6_inverse wsX6_inverse) := goodIn_app (goodIn_of _ (by decide +kernel)) ggX6_verify_X6_inverse
set_option maxRecDepth 100000 in
theorem ggX6_verify_X6_times : GoodIn wsX6_verify wsX6_times := goodIn_r _ [59, 60, 61, 62, 4, 63, 64, 65, 66, 52, 53, 54, 55, 28, 67, 68, 69, 70, 71, 72, 73, 74, 75, 76, 77, 78, 79, 80, 81, 82, 24, 25, 26, 27, 151, 152, 153, 154, 155, 156, 157, 158, 159, 160, 161, 162] rfl gwF_wsX6_times
set_option maxRecDepth 100000 in
theorem gX6_verify_X6_times : GoodIn wsX6_verify (wsV RX6 144 RX6 yX6_times wsX6_times) := goodIn_app (goodIn_of _ (by decide +kernel)) ggX6_verify_X6_times
set_option maxRecDepth 100000 in
theorem ggX6_verify_X6_multiply : GoodIn wsX6_verify wsX6_multiply := goodIn_r _ [142, 1, 52, 53, 54, 4, 55, 28, 143, 144, 145, 146, 147, 148, 149, 150, 38, 39, 40, 115, 116, 117, 118, 24, 25, 26, 27, 41, 42, 43, 48, 49, 50, 51, 83, 84, 85, 86, 87, 88, 89, 90, 65, 91, 92, 93, 94, 82, 95, 96, 97, 98, 56, 57, 58, 59, 60, 61, 62, 63, 64, 66, 67, 68, 69, 70, 71, 72, 73, 74, 75, 76, 77, 78, 79, 80, 81, 127, 128, 129, 130, 111, 112, 113, 114, 29, 30, 31, 32, 103, 104, 105, 106, 107, 108, 109, 110, 119, 120, 121, 122, 123, 124, 125, 126, 151, 152, 153, 154, 155, 156, 157, 158, 159, 160, 161, 162] rfl gwF_wsX6_multiply
set_option maxRecDepth 100000 in
theorem gX6_verify_X6_multiply : GoodIn wsX6_verify (wsV RX6 178 RX6 yX6_multiply wsX6_multiply) := goodIn_app (goodIn_of _ (by decide +kernel)) ggX6_verify_X6_multiply
set_option maxRecDepth 100000 in
theorem ggX6_verify_X6_sumPoints : GoodIn wsX6_verify wsX6_sumPoints := goodIn_r _ [146, 1, 147, 148, 149, 4, 150, 38, 39, 40, 115, 116, 117, 118, 52, 53, 54, 55, 28, 24, 25, 26, 27, 41, 42, 43, 48, 49, 50, 51, 83, 84, 85, 86, 87, 88, 89, 90, 65, 91, 92, 93, 94, 82, 95, 96, 97, 98, 56, 57, 58, 59, 60, 61, 62, 63, 64, 66, 67, 68, 69, 70, 71, 72, 73, 74, 75, 76, 77, 78, 79, 80, 81, 127, 128, 129, 130, 111, 112, 113, 114, 29, 30, 31, 32, 103, 104, 105, 106, 107, 108, 109, 110, 119, 120, 121, 122, 123, 124, 125, 126, 151, 152, 153, 154, 155, 156, 157, 158, 159, 160, 161, 162] rfl gwF_wsX6_sumPoints
set_option maxRecDepth 100000 in
theorem gX6_verify_X6_sumPoints : GoodIn wsX6_verify (wsV RX6 153 RX6 yX6_sumPoints wsX6_sumPoints) := goodIn_app (goodIn_of _ (by decide +kernel)) ggX6_verify_X6_sumPoints
set_option maxRecDepth 100000 in
theorem ggX6_verify_X6_x : GoodIn wsX6_verify wsX6_x := goodIn_r _ [40] rfl gwF_wsX6_x
set_option maxRecDepth 100000 in
theorem gX6_verify_X6_x : GoodIn wsX6_verify (va_wsS RX6 135 yX6_x wsX6_x) := goodIn_app (goodIn_of _ (by decide +kernel)) ggX6_verify_X6_x
set_option maxRecDepth 100000 in
theorem ggX6_verify_X6_rest : GoodIn wsX6_verify wsX6_rest := goodIn_r _ [134, 135, 136, 137, 4, 138, 64, 66, 52, 53, 54, 55, 28, 67, 68, 69, 70, 71, 72, 65, 73, 74, 75, 76, 77, 78, 79, 80, 81, 82, 24, 25, 26, 27, 151, 152, 153, 154, 155, 156, 157, 158, 159, 160, 161, 162] rfl gwF_wsX6_rest
set_option maxRecDepth 100000 in
theorem gX6_verify_X6_rest : GoodIn wsX6_verify (wsV RX6 132 RX6 yX6_rest wsX6_rest) := goodIn_app (goodIn_of _ (by decide +kernel)) ggX6_verify_X6_rest
set_option maxRecDepth 100000 in
theorem ggX6_reckon_X6_loadParameters : GoodIn wsX6_reckon wsX6_loadParameters := goodIn_r _ [7, 8, 9, 10, 6, 11, 1, 2, 12, 13, 14, 15, 16, 17, 18, 19, 20, 125, 126, 127, 128, 129, 130, 131, 132, 133, 134, 135, 136] rfl gwF_wsX6_loadParameters
set_option maxRecDepth 100000 in
theorem gX6_reckon_X6_loadParameters : GoodIn wsX6_reckon (wsV RX6 156 RX6 yX6_loadParameters wsX6_loadParameters) := goodIn_app (goodIn_of _ (by decide +kernel)) ggX6_reckon_X6_loadParameters
set_option maxRecDepth 100000 in
theorem ggX6_reckon_X6_isScalar : GoodIn wsX6_reckon wsX6_isScalar := goodIn_r _ [23] rfl gwF_wsX6_isScalar
set_option maxRecDepth 100000 in
theorem gX6_reckon_X6_isScalar : GoodIn wsX6_reckon (va_wsS RX6 175 yX6_isScalar wsX6_isScalar) := goodIn_app (goodIn_of _ (by decide +kernel)) ggX6_reckon_X6_isScalar
set_option maxRecDepth 100000 in
theorem ggX6_reckon_X6_isZero : GoodIn wsX6_reckon wsX6_isZero := goodIn_r _ [27, 28, 29, 30, 6, 31, 16, 125, 126, 127, 128, 129, 130, 131, 132, 133, 134, 135, 136] rfl gwF_wsX6_isZero
set_option maxRecDepth 100000 in
theorem gX6_reckon_X6_isZero : GoodIn wsX6_reckon (wsV RX6 115 RX6 yX6_isZero wsX6_isZero) := goodIn_app (goodIn_of _ (by decide +kernel)) ggX6_reckon_X6_isZero
set_option maxRecDepth 100000 in
theorem ggX6_reckon_X6_load : GoodIn wsX6_reckon wsX6_load := goodIn_r _ [11, 1, 2, 12, 13, 14, 6, 15, 16, 125, 126, 127, 128, 129, 130, 131, 132, 133, 134, 135, 136] rfl gwF_wsX6_load
set_option maxRecDepth 100000 in
theorem gX6_reckon_X6_load : GoodIn wsX6_reckon (wsV RX6 61 RX6 yX6_load wsX6_load) := goodIn_app (goodIn_of _ (by decide +kernel)) ggX6_reckon_X6_load
set_option maxRecDepth 100000 in
theorem ggX6_reckon_X6_rest : GoodIn wsX6_reckon wsX6_rest := goodIn_r _ [35, 36, 37, 38, 6, 39, 40, 41, 28, 29, 30, 31, 16, 42, 43, 44, 45, 46, 47, 48, 49, 50, 51, 52, 53, 54, 55, 56, 57, 58, 12, 13, 14, 15, 125, 126, 127, 128, 129, 130, 131, 132, 133, 134, 135, 136] rfl gwF_wsX6_rest
set_option maxRecDepth 100000 in
theorem gX6_reckon_X6_rest : GoodIn wsX6_reckon (wsV RX6 132 RX6 yX6_rest wsX6_rest) := goodIn_app (goodIn_of _ (by decide +kernel)) ggX6_reckon_X6_rest
set_option maxRecDepth 100000 in
theorem ggX6_reckon_X6_sum : GoodIn wsX6_reckon wsX6_sum := goodIn_r _ [62, 63, 64, 65, 6, 66, 48, 28, 29, 30, 31, 16, 12, 13, 14, 15, 67, 68, 69, 70, 71, 72, 73, 74, 58, 125, 126, 127, 128, 129, 130, 131, 132, 133, 134, 135, 136] rfl gwF_wsX6_sum
set_option maxRecDepth 100000 in
theorem gX6_reckon_X6_sum : GoodIn wsX6_reckon (wsV RX6 147 RX6 yX6_sum wsX6_sum) := goodIn_app (goodIn_of _ (by decide +kernel)) ggX6_reckon_X6_sum
set_option maxRecDepth 100000 in
theorem ggX6_reckon_X6_difference : GoodIn wsX6_reckon wsX6_difference := goodIn_r _ [78, 67, 68, 69, 6, 70, 28, 29, 30, 31, 16, 71, 72, 73, 74, 58, 12, 13, 14, 15, 63, 64, 65, 66, 48, 125, 126, 127, 128, 129, 130, 131, 132, 133, 134, 135, 136] rfl gwF_wsX6_difference
set_option maxRecDepth 100000 in
theorem gX6_reckon_X6_difference : GoodIn wsX6_reckon (wsV RX6 124 RX6 yX6_difference wsX6_difference) := goodIn_app (goodIn_of _ (by decide +kernel)) ggX6_reckon_X6_difference
set_option maxRecDepth 100000 in
theorem ggX6_reckon_X6_times : GoodIn wsX6_reckon wsX6_times := goodIn_r _ [82, 83, 84, 85, 6, 86, 40, 48, 41, 28, 29, 30, 31, 16, 42, 43, 44, 45, 46, 47, 49, 50, 51, 52, 53, 54, 55, 56, 57, 58, 12, 13, 14, 15, 125, 126, 127, 128, 129, 130, 131, 132, 133, 134, 135, 136] rfl gwF_wsX6_times
set_option maxRecDepth 100000 in
theorem gX6_reckon_X6_times : GoodIn wsX6_reckon (wsV RX6 144 RX6 yX6_times wsX6_times) := goodIn_app (goodIn_of _ (by decide +kernel)) ggX6_reckon_X6_times
set_option maxRecDepth 100000 in
theorem ggX6_reckon_X6_inverse : GoodIn wsX6_reckon wsX6_inverse := goodIn_r _ [90, 40, 48, 49, 91, 92, 93, 6, 94, 67, 68, 69, 70, 28, 29, 30, 31, 16, 17, 18, 19, 20, 12, 13, 14, 15, 95, 96, 97, 98, 99, 100, 101, 102, 103, 104, 105, 106, 24, 25, 26, 27, 107, 108, 109, 110, 111, 112, 113, 114, 63, 64, 65, 66, 71, 72, 73, 74, 58, 75, 76, 77, 78, 32, 33, 34, 35, 36, 37, 38, 39, 41, 42, 43, 44, 45, 46, 47, 50, 51, 52, 53, 54, 55, 56, 57, 83, 84, 85, 86, 125, 126, 127, 128, 129, 130, 131, 132, 133, 134, 135, 136] rfl gwF_wsX6_inverse
set_option maxRecDepth 100000 in
theorem gX6_reckon_X6_inverse : GoodIn wsX6_reckon (wsV RX6 181 RX6 yX6_inverse wsX6_inverse) := goodIn_app (goodIn_of _ (by decide +kernel)) ggX6_reckon_X6_inverse
set_option maxRecDepth 100000 in
theorem ggX6_reckon_X6_get : GoodIn wsX6_reckon wsX6_get := goodIn_r _ [31, 16, 125, 126, 127, 128, 129, 130, 131, 132, 133, 134, 135, 136] rfl gwF_wsX6_get
set_option maxRecDepth 100000 in
theorem gX6_reckon_X6_get : GoodIn wsX6_reckon (wsV RX6 68 RX6 yX6_get wsX6_get) := goodIn_app (goodIn_of _ (by decide +kernel)) ggX6_reckon_X6_get
set_option maxRecDepth 100000 in
theorem ggX6_reckon_X6_written : GoodIn wsX6_reckon wsX6_written := goodIn_r _ [118, 119, 120, 121, 122, 6, 123, 124, 125, 126, 127, 128, 129, 130, 131, 132, 133, 134, 135, 136] rfl gwF_wsX6_written
set_option maxRecDepth 100000 in
theorem gX6_reckon_X6_written : GoodIn wsX6_reckon (wsV RX6 141 RX6 yX6_written wsX6_written) := goodIn_app (goodIn_of _ (by decide +kernel)) ggX6_reckon_X6_written
