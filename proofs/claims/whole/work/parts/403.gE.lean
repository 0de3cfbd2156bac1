set_option maxRecDepth 100000 in
theorem gwE_wsX6_toU : wsX6_toU.all goodWord = true := by decide +kernel
set_option maxRecDepth 100000 in
theorem gwE_wsX6_divide : wsX6_divide.all goodWord = true := by decide +kernel
set_option maxRecDepth 100000 in
theorem gwE_wsX6_productToU : wsX6_productToU.all goodWord = true := by decide +kernel
set_option maxRecDepth 100000 in
theorem gwE_wsX6_plus : wsX6_plus.all goodWord = true := by decide +kernel
set_option maxRecDepth 100000 in
theorem gwE_wsX6_compare : wsX6_compare.all goodWord = true := by decide +kernel
set_option maxRecDepth 100000 in
theorem gwE_wsX6_minus : wsX6_minus.all goodWord = true := by decide +kernel
set_option maxRecDepth 100000 in
theorem gwE_wsX6_isOdd : wsX6_isOdd.all goodWord = true := by decide +kernel
set_option maxRecDepth 100000 in
theorem gwE_wsX6_halve : wsX6_halve.all goodWord = true := by decide +kernel
set_option maxRecDepth 100000 in
theorem gwE_wsX6_copy : wsX6_copy.all goodWord = true := by decide +kernel
set_option maxRecDepth 100000 in
theorem gwE_wsX6_small : wsX6_small.all goodWord = true := by decide +kernel
set_option maxRecDepth 100000 in
theorem gwE_wsX6_isZero : wsX6_isZero.all goodWord = true := by decide +kernel
set_option maxRecDepth 100000 in
theorem gwE_wsX6_isOne : wsX6_isOne.all goodWord = true := by decide +kernel
set_option maxRecDepth 100000 in
theorem gwE_wsX6_halveModulo : wsX6_halveModulo.all goodWord = true := by decide +kernel
set_option maxRecDepth 100000 in
theorem gwE_wsX6_difference : wsX6_difference.all goodWord = true := by decide +kernel
set_option maxRecDepth 100000 in
theorem gwE_wsX6_inverseOdd : wsX6_inverseOdd.all goodWord = true := by decide +kernel
set_option maxRecDepth 100000 in
theorem gwE_wsX6_rest : wsX6_rest.all goodWord = true := by decide +kernel
set_option maxRecDepth 100000 in
theorem gwE_wsX6_set : wsX6_set.all goodWord = true := by decide +kernel
set_option maxRecDepth 100000 in
theorem gwE_wsX6_x : wsX6_x.all goodWord = true := by decide +kernel
set_option maxRecDepth 100000 in
theorem gwE_wsX6_load : wsX6_load.all goodWord = true := by decide +kernel
set_option maxRecDepth 100000 in
theorem gwE_wsX6_y : wsX6_y.all goodWord = true := by decide +kernel
set_option maxRecDepth 100000 in
theorem gwE_wsX6_get : wsX6_get.all goodWord = true := by decide +kernel
set_option maxRecDepth 100000 in
theorem gwE_wsX6_written : wsX6_written.all goodWord = true := by decide +kernel
set_option maxRecDepth 100000 in
theorem gwE_wsX6_times : wsX6_times.all goodWord = true := by decide +kernel
set_option maxRecDepth 100000 in
theorem gwE_wsX6_sum : wsX6_sum.all goodWord = true := by decide +kernel
set_option maxRecDepth 100000 in
theorem gwE_wsX6_copyPoint : wsX6_copyPoint.all goodWord = true := by decide +kernel
set_option maxRecDepth 100000 in
theorem gwE_wsX6_sumPoints : wsX6_sumPoints.all goodWord = true := by decide +kernel
set_option maxRecDepth 100000 in
theorem ggX6_rest_X6_toU : GoodIn wsX6_rest wsX6_toU := goodIn_r _ [5, 6, 7, 8, 9, 10, 4, 11, 12, 34, 35, 36, 37, 38, 39, 40, 41, 42, 43, 44, 45] rfl gwE_wsX6_toU
set_option maxRecDepth 100000 in
theorem gX6_rest_X6_toU : GoodIn wsX6_rest (wsV RX6 90 RX6 yX6_toU wsX6_toU) := goodIn_app (goodIn_of _ (by decide +kernel)) ggX6_rest_X6_toU
set_option maxRecDepth 100000 in
theorem ggX6_rest_X6_divide : GoodIn wsX6_rest wsX6_divide := goodIn_r _ [16, 17, 18, 19, 20, 7, 6, 21, 22, 23, 4, 24, 8, 9, 10, 11, 12, 25, 26, 27, 28, 29, 30, 31, 32, 33, 34, 35, 36, 37, 38, 39, 40, 41, 42, 43, 44, 45] rfl gwE_wsX6_divide
set_option maxRecDepth 100000 in
theorem gX6_rest_X6_divide : GoodIn wsX6_rest (wsV RX6 94 RX6 yX6_divide wsX6_divide) := goodIn_app (goodIn_of _ (by decide +kernel)) ggX6_rest_X6_divide
set_option maxRecDepth 100000 in
theorem ggX6_times_X6_productToU : GoodIn wsX6_times wsX6_productToU := goodIn_r _ [5, 6, 7, 8, 9, 10, 11, 4, 12, 13, 34, 35, 36, 37, 38, 39, 40, 41, 42, 43, 44, 45] rfl gwE_wsX6_productToU
set_option maxRecDepth 100000 in
theorem gX6_times_X6_productToU : GoodIn wsX6_times (wsV RX6 97 RX6 yX6_productToU wsX6_productToU) := goodIn_app (goodIn_of _ (by decide +kernel)) ggX6_times_X6_productToU
set_option maxRecDepth 100000 in
theorem ggX6_times_X6_divide : GoodIn wsX6_times wsX6_divide := goodIn_r _ [17, 18, 19, 7, 20, 8, 6, 21, 22, 23, 4, 24, 9, 10, 11, 12, 13, 25, 26, 27, 28, 29, 30, 31, 32, 33, 34, 35, 36, 37, 38, 39, 40, 41, 42, 43, 44, 45] rfl gwE_wsX6_divide
set_option maxRecDepth 100000 in
theorem gX6_times_X6_divide : GoodIn wsX6_times (wsV RX6 94 RX6 yX6_divide wsX6_divide) := goodIn_app (goodIn_of _ (by decide +kernel)) ggX6_times_X6_divide
set_option maxRecDepth 100000 in
theorem ggX6_sum_X6_plus : GoodIn wsX6_sum wsX6_plus := goodIn_r _ [5, 6, 7, 8, 9, 4, 10, 11, 12, 13, 14, 15, 25, 26, 27, 28, 29, 30, 31, 32, 33, 34, 35, 36] rfl gwE_wsX6_plus
set_option maxRecDepth 100000 in
theorem gX6_sum_X6_plus : GoodIn wsX6_sum (wsV RX6 100 RX6 yX6_plus wsX6_plus) := goodIn_app (goodIn_of _ (by decide +kernel)) ggX6_sum_X6_plus
set_option maxRecDepth 100000 in
theorem ggX6_sum_X6_compare : GoodIn wsX6_sum wsX6_compare := goodIn_r _ [19, 7, 8, 9, 4, 10, 11, 25, 26, 27, 28, 29, 30, 31, 32, 33, 34, 35, 36] rfl gwE_wsX6_compare
set_option maxRecDepth 100000 in
theorem gX6_sum_X6_compare : GoodIn wsX6_sum (wsV RX6 72 RX6 yX6_compare wsX6_compare) := goodIn_app (goodIn_of _ (by decide +kernel)) ggX6_sum_X6_compare
set_option maxRecDepth 100000 in
theorem ggX6_sum_X6_minus : GoodIn wsX6_sum wsX6_minus := goodIn_r _ [23, 24, 7, 8, 9, 4, 10, 11, 12, 13, 14, 15, 25, 26, 27, 28, 29, 30, 31, 32, 33, 34, 35, 36] rfl gwE_wsX6_minus
set_option maxRecDepth 100000 in
theorem gX6_sum_X6_minus : GoodIn wsX6_sum (wsV RX6 103 RX6 yX6_minus wsX6_minus) := goodIn_app (goodIn_of _ (by decide +kernel)) ggX6_sum_X6_minus
set_option maxRecDepth 100000 in
theorem ggX6_difference_X6_compare : GoodIn wsX6_difference wsX6_compare := goodIn_r _ [5, 6, 7, 8, 4, 9, 10, 25, 26, 27, 28, 29, 30, 31, 32, 33, 34, 35, 36] rfl gwE_wsX6_compare
set_option maxRecDepth 100000 in
theorem gX6_difference_X6_compare : GoodIn wsX6_difference (wsV RX6 72 RX6 yX6_compare wsX6_compare) := goodIn_app (goodIn_of _ (by decide +kernel)) ggX6_difference_X6_compare
set_option maxRecDepth 100000 in
theorem ggX6_difference_X6_minus : GoodIn wsX6_difference wsX6_minus := goodIn_r _ [14, 15, 6, 7, 8, 4, 9, 10, 16, 17, 18, 19, 25, 26, 27, 28, 29, 30, 31, 32, 33, 34, 35, 36] rfl gwE_wsX6_minus
set_option maxRecDepth 100000 in
theorem gX6_difference_X6_minus : GoodIn wsX6_difference (wsV RX6 103 RX6 yX6_minus wsX6_minus) := goodIn_app (goodIn_of _ (by decide +kernel)) ggX6_difference_X6_minus
set_option maxRecDepth 100000 in
theorem ggX6_difference_X6_plus : GoodIn wsX6_difference wsX6_plus := goodIn_r _ [23, 24, 6, 7, 8, 4, 9, 10, 16, 17, 18, 19, 25, 26, 27, 28, 29, 30, 31, 32, 33, 34, 35, 36] rfl gwE_wsX6_plus
set_option maxRecDepth 100000 in
theorem gX6_difference_X6_plus : GoodIn wsX6_difference (wsV RX6 100 RX6 yX6_plus wsX6_plus) := goodIn_app (goodIn_of _ (by decide +kernel)) ggX6_difference_X6_plus
set_option maxRecDepth 100000 in
theorem ggX6_halveModulo_X6_isOdd : GoodIn wsX6_halveModulo wsX6_isOdd := goodIn_r _ [5, 6, 7, 8, 4, 9, 10, 24, 25, 26, 27, 28, 29, 30, 31, 32, 33, 34, 35] rfl gwE_wsX6_isOdd
set_option maxRecDepth 100000 in
theorem gX6_halveModulo_X6_isOdd : GoodIn wsX6_halveModulo (wsV RX6 106 RX6 yX6_isOdd wsX6_isOdd) := goodIn_app (goodIn_of _ (by decide +kernel)) ggX6_halveModulo_X6_isOdd
set_option maxRecDepth 100000 in
theorem ggX6_halveModulo_X6_plus : GoodIn wsX6_halveModulo wsX6_plus := goodIn_r _ [14, 15, 6, 7, 8, 4, 9, 10, 16, 17, 18, 19, 24, 25, 26, 27, 28, 29, 30, 31, 32, 33, 34, 35] rfl gwE_wsX6_plus
set_option maxRecDepth 100000 in
theorem gX6_halveModulo_X6_plus : GoodIn wsX6_halveModulo (wsV RX6 100 RX6 yX6_plus wsX6_plus) := goodIn_app (goodIn_of _ (by decide +kernel)) ggX6_halveModulo_X6_plus
set_option maxRecDepth 100000 in
theorem ggX6_halveModulo_X6_halve : GoodIn wsX6_halveModulo wsX6_halve := goodIn_r _ [23, 6, 7, 8, 4, 9, 10, 16, 17, 18, 19, 24, 25, 26, 27, 28, 29, 30, 31, 32, 33, 34, 35] rfl gwE_wsX6_halve
set_option maxRecDepth 100000 in
theorem gX6_halveModulo_X6_halve : GoodIn wsX6_halveModulo (wsV RX6 109 RX6 yX6_halve wsX6_halve) := goodIn_app (goodIn_of _ (by decide +kernel)) ggX6_halveModulo_X6_halve
set_option maxRecDepth 100000 in
theorem ggX6_inverseOdd_X6_copy : GoodIn wsX6_inverseOdd wsX6_copy := goodIn_r _ [5, 6, 7, 8, 4, 9, 10, 11, 12, 13, 14, 57, 58, 59, 60, 61, 62, 63, 64, 65, 66, 67, 68] rfl gwE_wsX6_copy
set_option maxRecDepth 100000 in
theorem gX6_inverseOdd_X6_copy : GoodIn wsX6_inverseOdd (wsV RX6 112 RX6 yX6_copy wsX6_copy) := goodIn_app (goodIn_of _ (by decide +kernel)) ggX6_inverseOdd_X6_copy
set_option maxRecDepth 100000 in
theorem ggX6_inverseOdd_X6_small : GoodIn wsX6_inverseOdd wsX6_small := goodIn_r _ [18, 11, 12, 13, 4, 14, 10, 57, 58, 59, 60, 61, 62, 63, 64, 65, 66, 67, 68] rfl gwE_wsX6_small
set_option maxRecDepth 100000 in
theorem gX6_inverseOdd_X6_small : GoodIn wsX6_inverseOdd (wsV RX6 64 RX6 yX6_small wsX6_small) := goodIn_app (goodIn_of _ (by decide +kernel)) ggX6_inverseOdd_X6_small
set_option maxRecDepth 100000 in
theorem ggX6_inverseOdd_X6_isZero : GoodIn wsX6_inverseOdd wsX6_isZero := goodIn_r _ [22, 6, 7, 8, 4, 9, 10, 57, 58, 59, 60, 61, 62, 63, 64, 65, 66, 67, 68] rfl gwE_wsX6_isZero
set_option maxRecDepth 100000 in
theorem gX6_inverseOdd_X6_isZero : GoodIn wsX6_inverseOdd (wsV RX6 115 RX6 yX6_isZero wsX6_isZero) := goodIn_app (goodIn_of _ (by decide +kernel)) ggX6_inverseOdd_X6_isZero
set_option maxRecDepth 100000 in
theorem ggX6_inverseOdd_X6_isOne : GoodIn wsX6_inverseOdd wsX6_isOne := goodIn_r _ [26, 27, 28, 29, 4, 30, 6, 7, 8, 9, 10, 57, 58, 59, 60, 61, 62, 63, 64, 65, 66, 67, 68] rfl gwE_wsX6_isOne
set_option maxRecDepth 100000 in
theorem gX6_inverseOdd_X6_isOne : GoodIn wsX6_inverseOdd (wsV RX6 118 RX6 yX6_isOne wsX6_isOne) := goodIn_app (goodIn_of _ (by decide +kernel)) ggX6_inverseOdd_X6_isOne
set_option maxRecDepth 100000 in
theorem ggX6_inverseOdd_X6_isOdd : GoodIn wsX6_inverseOdd wsX6_isOdd := goodIn_r _ [34, 6, 7, 8, 4, 9, 10, 57, 58, 59, 60, 61, 62, 63, 64, 65, 66, 67, 68] rfl gwE_wsX6_isOdd
set_option maxRecDepth 100000 in
theorem gX6_inverseOdd_X6_isOdd : GoodIn wsX6_inverseOdd (wsV RX6 106 RX6 yX6_isOdd wsX6_isOdd) := goodIn_app (goodIn_of _ (by decide +kernel)) ggX6_inverseOdd_X6_isOdd
set_option maxRecDepth 100000 in
theorem ggX6_inverseOdd_X6_halve : GoodIn wsX6_inverseOdd wsX6_halve := goodIn_r _ [38, 6, 7, 8, 4, 9, 10, 11, 12, 13, 14, 57, 58, 59, 60, 61, 62, 63, 64, 65, 66, 67, 68] rfl gwE_wsX6_halve
set_option maxRecDepth 100000 in
theorem gX6_inverseOdd_X6_halve : GoodIn wsX6_inverseOdd (wsV RX6 109 RX6 yX6_halve wsX6_halve) := goodIn_app (goodIn_of _ (by decide +kernel)) ggX6_inverseOdd_X6_halve
set_option maxRecDepth 100000 in
theorem ggX6_inverseOdd_X6_halveModulo : GoodIn wsX6_inverseOdd wsX6_halveModulo := goodIn_r _ [42, 31, 32, 33, 4, 34, 6, 7, 8, 9, 10, 43, 44, 45, 46, 47, 11, 12, 13, 14, 35, 36, 37, 38, 57, 58, 59, 60, 61, 62, 63, 64, 65, 66, 67, 68] rfl gwE_wsX6_halveModulo
set_option maxRecDepth 100000 in
theorem gX6_inverseOdd_X6_halveModulo : GoodIn wsX6_inverseOdd (wsV RX6 121 RX6 yX6_halveModulo wsX6_halveModulo) := goodIn_app (goodIn_of _ (by decide +kernel)) ggX6_inverseOdd_X6_halveModulo
set_option maxRecDepth 100000 in
theorem ggX6_inverseOdd_X6_compare : GoodIn wsX6_inverseOdd wsX6_compare := goodIn_r _ [30, 6, 7, 8, 4, 9, 10, 57, 58, 59, 60, 61, 62, 63, 64, 65, 66, 67, 68] rfl gwE_wsX6_compare
set_option maxRecDepth 100000 in
theorem gX6_inverseOdd_X6_compare : GoodIn wsX6_inverseOdd (wsV RX6 72 RX6 yX6_compare wsX6_compare) := goodIn_app (goodIn_of _ (by decide +kernel)) ggX6_inverseOdd_X6_compare
set_option maxRecDepth 100000 in
theorem ggX6_inverseOdd_X6_minus : GoodIn wsX6_inverseOdd wsX6_minus := goodIn_r _ [51, 52, 6, 7, 8, 4, 9, 10, 11, 12, 13, 14, 57, 58, 59, 60, 61, 62, 63, 64, 65, 66, 67, 68] rfl gwE_wsX6_minus
set_option maxRecDepth 100000 in
theorem gX6_inverseOdd_X6_minus : GoodIn wsX6_inverseOdd (wsV RX6 103 RX6 yX6_minus wsX6_minus) := goodIn_app (goodIn_of _ (by decide +kernel)) ggX6_inverseOdd_X6_minus
set_option maxRecDepth 100000 in
theorem ggX6_inverseOdd_X6_difference : GoodIn wsX6_inverseOdd wsX6_difference := goodIn_r _ [56, 27, 28, 29, 4, 30, 6, 7, 8, 9, 10, 48, 49, 50, 51, 52, 11, 12, 13, 14, 43, 44, 45, 46, 47, 57, 58, 59, 60, 61, 62, 63, 64, 65, 66, 67, 68] rfl gwE_wsX6_difference
set_option maxRecDepth 100000 in
theorem gX6_inverseOdd_X6_difference : GoodIn wsX6_inverseOdd (wsV RX6 124 RX6 yX6_difference wsX6_difference) := goodIn_app (goodIn_of _ (by decide +kernel)) ggX6_inverseOdd_X6_difference
set_option maxRecDepth 100000 in
theorem ggX6_inverse_X6_isOne : GoodIn wsX6_inverse wsX6_isOne := goodIn_r _ [8, 9, 10, 11, 7, 12, 13, 14, 15, 16, 17, 90, 91, 92, 93, 94, 95, 96, 97, 98, 99, 100, 101] rfl gwE_wsX6_isOne
set_option maxRecDepth 100000 in
theorem gX6_inverse_X6_isOne : GoodIn wsX6_inverse (wsV RX6 118 RX6 yX6_isOne wsX6_isOne) := goodIn_app (goodIn_of _ (by decide +kernel)) ggX6_inverse_X6_isOne
set_option maxRecDepth 100000 in
theorem ggX6_inverse_X6_small : GoodIn wsX6_inverse wsX6_small := goodIn_r _ [21, 22, 23, 24, 7, 25, 17, 90, 91, 92, 93, 94, 95, 96, 97, 98, 99, 100, 101] rfl gwE_wsX6_small
set_option maxRecDepth 100000 in
theorem gX6_inverse_X6_small : GoodIn wsX6_inverse (wsV RX6 64 RX6 yX6_small wsX6_small) := goodIn_app (goodIn_of _ (by decide +kernel)) ggX6_inverse_X6_small
set_option maxRecDepth 100000 in
theorem ggX6_inverse_X6_isOdd : GoodIn wsX6_inverse wsX6_isOdd := goodIn_r _ [29, 13, 14, 15, 7, 16, 17, 90, 91, 92, 93, 94, 95, 96, 97, 98, 99, 100, 101] rfl gwE_wsX6_isOdd
set_option maxRecDepth 100000 in
theorem gX6_inverse_X6_isOdd : GoodIn wsX6_inverse (wsV RX6 106 RX6 yX6_isOdd wsX6_isOdd) := goodIn_app (goodIn_of _ (by decide +kernel)) ggX6_inverse_X6_isOdd
set_option maxRecDepth 100000 in
theorem ggX6_inverse_X6_inverseOdd : GoodIn wsX6_inverse wsX6_inverseOdd := goodIn_r _ [33, 34, 35, 36, 7, 37, 13, 14, 15, 16, 17, 22, 23, 24, 25, 18, 19, 20, 21, 38, 39, 40, 41, 4, 5, 6, 8, 9, 10, 11, 12, 26, 27, 28, 29, 42, 43, 44, 45, 46, 47, 48, 49, 50, 51, 52, 53, 2, 54, 55, 56, 57, 58, 59, 60, 61, 62, 90, 91, 92, 93, 94, 95, 96, 97, 98, 99, 100, 101] rfl gwE_wsX6_inverseOdd
set_option maxRecDepth 100000 in
theorem gX6_inverse_X6_inverseOdd : GoodIn wsX6_inverse (wsV RX6 128 RX6 yX6_inverseOdd wsX6_inverseOdd) := goodIn_app (goodIn_of _ (by decide +kernel)) ggX6_inverse_X6_inverseOdd
set_option maxRecDepth 100000 in
theorem ggX6_inverse_X6_rest : GoodIn wsX6_inverse wsX6_rest := goodIn_r _ [66, 67, 68, 69, 7, 70, 1, 71, 13, 14, 15, 16, 17, 72, 73, 74, 75, 76, 77, 2, 3, 78, 79, 80, 81, 82, 83, 84, 85, 58, 22, 23, 24, 25, 90, 91, 92, 93, 94, 95, 96, 97, 98, 99, 100, 101] rfl gwE_wsX6_rest
set_option maxRecDepth 100000 in
theorem gX6_inverse_X6_rest : GoodIn wsX6_inverse (wsV RX6 132 RX6 yX6_rest wsX6_rest) := goodIn_app (goodIn_of _ (by decide +kernel)) ggX6_inverse_X6_rest
set_option maxRecDepth 100000 in
theorem ggX6_inverse_X6_minus : GoodIn wsX6_inverse wsX6_minus := goodIn_r _ [57, 58, 13, 14, 15, 7, 16, 17, 22, 23, 24, 25, 90, 91, 92, 93, 94, 95, 96, 97, 98, 99, 100, 101] rfl gwE_wsX6_minus
set_option maxRecDepth 100000 in
theorem gX6_inverse_X6_minus : GoodIn wsX6_inverse (wsV RX6 103 RX6 yX6_minus wsX6_minus) := goodIn_app (goodIn_of _ (by decide +kernel)) ggX6_inverse_X6_minus
set_option maxRecDepth 100000 in
theorem ggX6_inverse_X6_productToU : GoodIn wsX6_inverse wsX6_productToU := goodIn_r _ [89, 1, 2, 71, 13, 14, 15, 7, 16, 17, 90, 91, 92, 93, 94, 95, 96, 97, 98, 99, 100, 101] rfl gwE_wsX6_productToU
set_option maxRecDepth 100000 in
theorem gX6_inverse_X6_productToU : GoodIn wsX6_inverse (wsV RX6 97 RX6 yX6_productToU wsX6_productToU) := goodIn_app (goodIn_of _ (by decide +kernel)) ggX6_inverse_X6_productToU
set_option maxRecDepth 100000 in
theorem ggX6_inverse_X6_divide : GoodIn wsX6_inverse wsX6_divide := goodIn_r _ [75, 76, 77, 2, 3, 71, 1, 78, 79, 80, 7, 81, 13, 14, 15, 16, 17, 82, 83, 84, 85, 58, 22, 23, 24, 25, 90, 91, 92, 93, 94, 95, 96, 97, 98, 99, 100, 101] rfl gwE_wsX6_divide
set_option maxRecDepth 100000 in
theorem gX6_inverse_X6_divide : GoodIn wsX6_inverse (wsV RX6 94 RX6 yX6_divide wsX6_divide) := goodIn_app (goodIn_of _ (by decide +kernel)) ggX6_inverse_X6_divide
set_option maxRecDepth 100000 in
theorem ggX6_inverse_X6_set : GoodIn wsX6_inverse wsX6_set := goodIn_r _ [25, 17, 90, 91, 92, 93, 94, 95, 96, 97, 98, 99, 100, 101] rfl gwE_wsX6_set
set_option maxRecDepth 100000 in
theorem gX6_inverse_X6_set : GoodIn wsX6_inverse (wsV RX6 57 RX6 yX6_set wsX6_set) := goodIn_app (goodIn_of _ (by decide +kernel)) ggX6_inverse_X6_set
set_option maxRecDepth 100000 in
theorem ggX6_loadPoint_X6_x : GoodIn wsX6_loadPoint wsX6_x := goodIn_r _ [7] rfl gwE_wsX6_x
set_option maxRecDepth 100000 in
theorem gX6_loadPoint_X6_x : GoodIn wsX6_loadPoint (va_wsS RX6 135 yX6_x wsX6_x) := goodIn_app (goodIn_of _ (by decide +kernel)) ggX6_loadPoint_X6_x
set_option maxRecDepth 100000 in
theorem ggX6_loadPoint_X6_load : GoodIn wsX6_loadPoint wsX6_load := goodIn_r _ [11, 3, 12, 13, 14, 15, 6, 16, 17, 21, 22, 23, 24, 25, 26, 27, 28, 29, 30, 31, 32] rfl gwE_wsX6_load
set_option maxRecDepth 100000 in
theorem gX6_loadPoint_X6_load : GoodIn wsX6_loadPoint (wsV RX6 61 RX6 yX6_load wsX6_load) := goodIn_app (goodIn_of _ (by decide +kernel)) ggX6_loadPoint_X6_load
set_option maxRecDepth 100000 in
theorem ggX6_loadPoint_X6_y : GoodIn wsX6_loadPoint wsX6_y := goodIn_r _ [20] rfl gwE_wsX6_y
set_option maxRecDepth 100000 in
theorem gX6_loadPoint_X6_y : GoodIn wsX6_loadPoint (va_wsS RX6 138 yX6_y wsX6_y) := goodIn_app (goodIn_of _ (by decide +kernel)) ggX6_loadPoint_X6_y
set_option maxRecDepth 100000 in
theorem ggX6_storePoint_X6_x : GoodIn wsX6_storePoint wsX6_x := goodIn_r _ [8] rfl gwE_wsX6_x
set_option maxRecDepth 100000 in
theorem gX6_storePoint_X6_x : GoodIn wsX6_storePoint (va_wsS RX6 135 yX6_x wsX6_x) := goodIn_app (goodIn_of _ (by decide +kernel)) ggX6_storePoint_X6_x
set_option maxRecDepth 100000 in
theorem ggX6_storePoint_X6_get : GoodIn wsX6_storePoint wsX6_get := goodIn_r _ [12, 13, 27, 28, 29, 30, 31, 32, 33, 34, 35, 36, 37, 38] rfl gwE_wsX6_get
set_option maxRecDepth 100000 in
theorem gX6_storePoint_X6_get : GoodIn wsX6_storePoint (wsV RX6 68 RX6 yX6_get wsX6_get) := goodIn_app (goodIn_of _ (by decide +kernel)) ggX6_storePoint_X6_get
set_option maxRecDepth 100000 in
theorem ggX6_storePoint_X6_y : GoodIn wsX6_storePoint wsX6_y := goodIn_r _ [16] rfl gwE_wsX6_y
set_option maxRecDepth 100000 in
theorem gX6_storePoint_X6_y : GoodIn wsX6_storePoint (va_wsS RX6 138 yX6_y wsX6_y) := goodIn_app (goodIn_of _ (by decide +kernel)) ggX6_storePoint_X6_y
set_option maxRecDepth 100000 in
theorem ggX6_storePoint_X6_written : GoodIn wsX6_storePoint wsX6_written := goodIn_r _ [20, 21, 22, 23, 24, 7, 25, 26, 27, 28, 29, 30, 31, 32, 33, 34, 35, 36, 37, 38] rfl gwE_wsX6_written
set_option maxRecDepth 100000 in
theorem gX6_storePoint_X6_written : GoodIn wsX6_storePoint (wsV RX6 141 RX6 yX6_written wsX6_written) := goodIn_app (goodIn_of _ (by decide +kernel)) ggX6_storePoint_X6_written
set_option maxRecDepth 100000 in
theorem ggX6_copyPoint_X6_x : GoodIn wsX6_copyPoint wsX6_x := goodIn_r _ [5] rfl gwE_wsX6_x
set_option maxRecDepth 100000 in
theorem gX6_copyPoint_X6_x : GoodIn wsX6_copyPoint (va_wsS RX6 135 yX6_x wsX6_x) := goodIn_app (goodIn_of _ (by decide +kernel)) ggX6_copyPoint_X6_x
set_option maxRecDepth 100000 in
theorem ggX6_copyPoint_X6_copy : GoodIn wsX6_copyPoint wsX6_copy := goodIn_r _ [9, 10, 11, 12, 4, 13, 14, 15, 16, 17, 18, 22, 23, 24, 25, 26, 27, 28, 29, 30, 31, 32, 33] rfl gwE_wsX6_copy
set_option maxRecDepth 100000 in
theorem gX6_copyPoint_X6_copy : GoodIn wsX6_copyPoint (wsV RX6 112 RX6 yX6_copy wsX6_copy) := goodIn_app (goodIn_of _ (by decide +kernel)) ggX6_copyPoint_X6_copy
set_option maxRecDepth 100000 in
theorem ggX6_copyPoint_X6_y : GoodIn wsX6_copyPoint wsX6_y := goodIn_r _ [21] rfl gwE_wsX6_y
set_option maxRecDepth 100000 in
theorem gX6_copyPoint_X6_y : GoodIn wsX6_copyPoint (va_wsS RX6 138 yX6_y wsX6_y) := goodIn_app (goodIn_of _ (by decide +kernel)) ggX6_copyPoint_X6_y
set_option maxRecDepth 100000 in
theorem ggX6_isOn_X6_x : GoodIn wsX6_isOn wsX6_x := goodIn_r _ [5] rfl gwE_wsX6_x
set_option maxRecDepth 100000 in
theorem gX6_isOn_X6_x : GoodIn wsX6_isOn (va_wsS RX6 135 yX6_x wsX6_x) := goodIn_app (goodIn_of _ (by decide +kernel)) ggX6_isOn_X6_x
set_option maxRecDepth 100000 in
theorem ggX6_isOn_X6_compare : GoodIn wsX6_isOn wsX6_compare := goodIn_r _ [9, 10, 11, 12, 4, 13, 14, 61, 62, 63, 64, 65, 66, 67, 68, 69, 70, 71, 72] rfl gwE_wsX6_compare
set_option maxRecDepth 100000 in
theorem gX6_isOn_X6_compare : GoodIn wsX6_isOn (wsV RX6 72 RX6 yX6_compare wsX6_compare) := goodIn_app (goodIn_of _ (by decide +kernel)) ggX6_isOn_X6_compare
set_option maxRecDepth 100000 in
theorem ggX6_isOn_X6_y : GoodIn wsX6_isOn wsX6_y := goodIn_r _ [17] rfl gwE_wsX6_y
set_option maxRecDepth 100000 in
theorem gX6_isOn_X6_y : GoodIn wsX6_isOn (va_wsS RX6 138 yX6_y wsX6_y) := goodIn_app (goodIn_of _ (by decide +kernel)) ggX6_isOn_X6_y
set_option maxRecDepth 100000 in
theorem ggX6_isOn_X6_times : GoodIn wsX6_isOn wsX6_times := goodIn_r _ [21, 22, 23, 24, 4, 25, 26, 27, 28, 10, 11, 12, 13, 14, 29, 30, 31, 32, 33, 34, 35, 36, 37, 38, 39, 40, 41, 42, 43, 44, 45, 46, 47, 48, 61, 62, 63, 64, 65, 66, 67, 68, 69, 70, 71, 72] rfl gwE_wsX6_times
set_option maxRecDepth 100000 in
theorem gX6_isOn_X6_times : GoodIn wsX6_isOn (wsV RX6 144 RX6 yX6_times wsX6_times) := goodIn_app (goodIn_of _ (by decide +kernel)) ggX6_isOn_X6_times
set_option maxRecDepth 100000 in
theorem ggX6_isOn_X6_sum : GoodIn wsX6_isOn wsX6_sum := goodIn_r _ [52, 53, 54, 55, 4, 56, 27, 10, 11, 12, 13, 14, 45, 46, 47, 48, 6, 7, 8, 9, 57, 58, 59, 60, 44, 61, 62, 63, 64, 65, 66, 67, 68, 69, 70, 71, 72] rfl gwE_wsX6_sum
set_option maxRecDepth 100000 in
theorem gX6_isOn_X6_sum : GoodIn wsX6_isOn (wsV RX6 147 RX6 yX6_sum wsX6_sum) := goodIn_app (goodIn_of _ (by decide +kernel)) ggX6_isOn_X6_sum
set_option maxRecDepth 100000 in
theorem ggX6_sumPoints_X6_copyPoint : GoodIn wsX6_sumPoints wsX6_copyPoint := goodIn_r _ [6, 1, 7, 8, 5, 9, 10, 11, 12, 13, 14, 15, 16, 17, 18, 19, 20, 21, 22, 23, 24, 25, 101, 102, 103, 104, 105, 106, 107, 108, 109, 110, 111, 112] rfl gwE_wsX6_copyPoint
set_option maxRecDepth 100000 in
theorem gX6_sumPoints_X6_copyPoint : GoodIn wsX6_sumPoints (wsV RX6 150 RX6 yX6_copyPoint wsX6_copyPoint) := goodIn_app (goodIn_of _ (by decide +kernel)) ggX6_sumPoints_X6_copyPoint
set_option maxRecDepth 100000 in
theorem ggX6_sumPoints_X6_x : GoodIn wsX6_sumPoints wsX6_x := goodIn_r _ [9] rfl gwE_wsX6_x
set_option maxRecDepth 100000 in
theorem gX6_sumPoints_X6_x : GoodIn wsX6_sumPoints (va_wsS RX6 135 yX6_x wsX6_x) := goodIn_app (goodIn_of _ (by decide +kernel)) ggX6_sumPoints_X6_x
set_option maxRecDepth 100000 in
theorem ggX6_sumPoints_X6_compare : GoodIn wsX6_sumPoints wsX6_compare := goodIn_r _ [29, 14, 15, 16, 5, 17, 18, 101, 102, 103, 104, 105, 106, 107, 108, 109, 110, 111, 112] rfl gwE_wsX6_compare
set_option maxRecDepth 100000 in
theorem gX6_sumPoints_X6_compare : GoodIn wsX6_sumPoints (wsV RX6 72 RX6 yX6_compare wsX6_compare) := goodIn_app (goodIn_of _ (by decide +kernel)) ggX6_sumPoints_X6_compare
set_option maxRecDepth 100000 in
theorem ggX6_sumPoints_X6_y : GoodIn wsX6_sumPoints wsX6_y := goodIn_r _ [25] rfl gwE_wsX6_y
set_option maxRecDepth 100000 in
theorem gX6_sumPoints_X6_y : GoodIn wsX6_sumPoints (va_wsS RX6 138 yX6_y wsX6_y) := goodIn_app (goodIn_of _ (by decide +kernel)) ggX6_sumPoints_X6_y
set_option maxRecDepth 100000 in
theorem ggX6_sumPoints_X6_sum : GoodIn wsX6_sumPoints wsX6_sum := goodIn_r _ [33, 34, 35, 36, 5, 37, 38, 14, 15, 16, 17, 18, 19, 20, 21, 22, 26, 27, 28, 29, 39, 40, 41, 42, 43, 101, 102, 103, 104, 105, 106, 107, 108, 109, 110, 111, 112] rfl gwE_wsX6_sum
set_option maxRecDepth 100000 in
theorem gX6_sumPoints_X6_sum : GoodIn wsX6_sumPoints (wsV RX6 147 RX6 yX6_sum wsX6_sum) := goodIn_app (goodIn_of _ (by decide +kernel)) ggX6_sumPoints_X6_sum
set_option maxRecDepth 100000 in
theorem ggX6_sumPoints_X6_isZero : GoodIn wsX6_sumPoints wsX6_isZero := goodIn_r _ [47, 14, 15, 16, 5, 17, 18, 101, 102, 103, 104, 105, 106, 107, 108, 109, 110, 111, 112] rfl gwE_wsX6_isZero
set_option maxRecDepth 100000 in
theorem gX6_sumPoints_X6_isZero : GoodIn wsX6_sumPoints (wsV RX6 115 RX6 yX6_isZero wsX6_isZero) := goodIn_app (goodIn_of _ (by decide +kernel)) ggX6_sumPoints_X6_isZero
set_option maxRecDepth 100000 in
theorem ggX6_sumPoints_X6_times : GoodIn wsX6_sumPoints wsX6_times := goodIn_r _ [51, 52, 53, 54, 5, 55, 56, 38, 57, 14, 15, 16, 17, 18, 58, 59, 60, 61, 62, 63, 64, 65, 66, 67, 68, 69, 70, 71, 72, 43, 19, 20, 21, 22, 101, 102, 103, 104, 105, 106, 107, 108, 109, 110, 111, 112] rfl gwE_wsX6_times
set_option maxRecDepth 100000 in
theorem gX6_sumPoints_X6_times : GoodIn wsX6_sumPoints (wsV RX6 144 RX6 yX6_times wsX6_times) := goodIn_app (goodIn_of _ (by decide +kernel)) ggX6_sumPoints_X6_times
set_option maxRecDepth 100000 in
theorem ggX6_sumPoints_X6_difference : GoodIn wsX6_sumPoints wsX6_difference := goodIn_r _ [76, 26, 27, 28, 5, 29, 14, 15, 16, 17, 18, 39, 40, 41, 42, 43, 19, 20, 21, 22, 34, 35, 36, 37, 38, 101, 102, 103, 104, 105, 106, 107, 108, 109, 110, 111, 112] rfl gwE_wsX6_difference
set_option maxRecDepth 100000 in
theorem gX6_sumPoints_X6_difference : GoodIn wsX6_sumPoints (wsV RX6 124 RX6 yX6_difference wsX6_difference) := goodIn_app (goodIn_of _ (by decide +kernel)) ggX6_sumPoints_X6_difference
set_option maxRecDepth 100000 in
theorem ggX6_sumPoints_X6_inverseOdd : GoodIn wsX6_sumPoints wsX6_inverseOdd := goodIn_r _ [80, 10, 11, 12, 5, 13, 14, 15, 16, 17, 18, 19, 20, 21, 22, 81, 82, 83, 84, 44, 45, 46, 47, 85, 86, 87, 88, 26, 27, 28, 29, 89, 90, 91, 92, 93, 94, 95, 96, 97, 98, 99, 100, 34, 35, 36, 37, 38, 39, 40, 41, 42, 43, 73, 74, 75, 76, 101, 102, 103, 104, 105, 106, 107, 108, 109, 110, 111, 112] rfl gwE_wsX6_inverseOdd
set_option maxRecDepth 100000 in
theorem gX6_sumPoints_X6_inverseOdd : GoodIn wsX6_sumPoints (wsV RX6 128 RX6 yX6_inverseOdd wsX6_inverseOdd) := goodIn_app (goodIn_of _ (by decide +kernel)) ggX6_sumPoints_X6_inverseOdd
set_option maxRecDepth 100000 in
theorem ggX6_sumPoints_X6_copy : GoodIn wsX6_sumPoints wsX6_copy := goodIn_r _ [13, 14, 15, 16, 5, 17, 18, 19, 20, 21, 22, 101, 102, 103, 104, 105, 106, 107, 108, 109, 110, 111, 112] rfl gwE_wsX6_copy
set_option maxRecDepth 100000 in
theorem gX6_sumPoints_X6_copy : GoodIn wsX6_sumPoints (wsV RX6 112 RX6 yX6_copy wsX6_copy) := goodIn_app (goodIn_of _ (by decide +kernel)) ggX6_sumPoints_X6_copy
set_option maxRecDepth 100000 in
theorem ggX6_multiply_X6_get : GoodIn wsX6_multiply wsX6_get := goodIn_r _ [6, 7, 105, 106, 107, 108, 109, 110, 111, 112, 113, 114, 115, 116] rfl gwE_wsX6_get
set_option maxRecDepth 100000 in
theorem gX6_multiply_X6_get : GoodIn wsX6_multiply (wsV RX6 68 RX6 yX6_get wsX6_get) := goodIn_app (goodIn_of _ (by decide +kernel)) ggX6_multiply_X6_get
set_option maxRecDepth 100000 in
theorem ggX6_multiply_X6_sumPoints : GoodIn wsX6_multiply wsX6_sumPoints := goodIn_r _ [11, 1, 12, 13, 14, 5, 15, 16, 17, 18, 19, 20, 21, 22, 2, 3, 4, 6, 7, 23, 24, 25, 26, 27, 28, 29, 30, 31, 32, 33, 34, 35, 36, 37, 38, 39, 40, 41, 42, 43, 44, 45, 46, 47, 48, 49, 50, 51, 52, 53, 54, 55, 56, 57, 58, 59, 60, 61, 62, 63, 64, 65, 66, 67, 68, 69, 70, 71, 72, 73, 74, 75, 76, 77, 78, 79, 80, 81, 82, 83, 84, 85, 86, 87, 88, 89, 90, 91, 92, 93, 94, 95, 96, 97, 98, 99, 100, 101, 102, 103, 104, 105, 106, 107, 108, 109, 110, 111, 112, 113, 114, 115, 116] rfl gwE_wsX6_sumPoints
set_option maxRecDepth 100000 in
theorem gX6_multiply_X6_sumPoints : GoodIn wsX6_multiply (wsV RX6 153 RX6 yX6_sumPoints wsX6_sumPoints) := goodIn_app (goodIn_of _ (by decide +kernel)) ggX6_multiply_X6_sumPoints
