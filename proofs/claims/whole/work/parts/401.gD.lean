set_option maxRecDepth 100000 in
theorem gw_wsX6_isPoint : wsX6_isPoint.all goodWord = true := by decide +kernel
set_option maxRecDepth 100000 in
theorem gw_wsX6_limbsOf : wsX6_limbsOf.all goodWord = true := by decide +kernel
set_option maxRecDepth 100000 in
theorem gw_wsX6_stopFeeding : wsX6_stopFeeding.all goodWord = true := by decide +kernel
set_option maxRecDepth 100000 in
theorem gw_wsX6_set : wsX6_set.all goodWord = true := by decide +kernel
set_option maxRecDepth 100000 in
theorem gw_wsX6_load : wsX6_load.all goodWord = true := by decide +kernel
set_option maxRecDepth 100000 in
theorem gw_wsX6_small : wsX6_small.all goodWord = true := by decide +kernel
set_option maxRecDepth 100000 in
theorem gw_wsX6_get : wsX6_get.all goodWord = true := by decide +kernel
set_option maxRecDepth 100000 in
theorem gw_wsX6_compare : wsX6_compare.all goodWord = true := by decide +kernel
set_option maxRecDepth 100000 in
theorem gw_wsX6_length : wsX6_length.all goodWord = true := by decide +kernel
set_option maxRecDepth 100000 in
theorem gw_wsX6_digit : wsX6_digit.all goodWord = true := by decide +kernel
set_option maxRecDepth 100000 in
theorem ggX6_limbsOf_X6_isPoint : GoodIn wsX6_limbsOf wsX6_isPoint := goodIn_r _ [5] rfl gw_wsX6_isPoint
set_option maxRecDepth 100000 in
theorem gX6_limbsOf_X6_isPoint : GoodIn wsX6_limbsOf (va_wsS RX6 39 yX6_isPoint wsX6_isPoint) := goodIn_app (goodIn_of _ (by decide +kernel)) ggX6_limbsOf_X6_isPoint
set_option maxRecDepth 100000 in
theorem ggX6_feedLimb_X6_isPoint : GoodIn wsX6_feedLimb wsX6_isPoint := goodIn_r _ [8] rfl gw_wsX6_isPoint
set_option maxRecDepth 100000 in
theorem gX6_feedLimb_X6_isPoint : GoodIn wsX6_feedLimb (va_wsS RX6 39 yX6_isPoint wsX6_isPoint) := goodIn_app (goodIn_of _ (by decide +kernel)) ggX6_feedLimb_X6_isPoint
set_option maxRecDepth 100000 in
theorem ggX6_feedLimb_X6_limbsOf : GoodIn wsX6_feedLimb wsX6_limbsOf := goodIn_r _ [12, 13, 5, 6, 7, 8, 18, 19, 20, 21, 22, 23, 24, 25, 26, 27, 28, 29] rfl gw_wsX6_limbsOf
set_option maxRecDepth 100000 in
theorem gX6_feedLimb_X6_limbsOf : GoodIn wsX6_feedLimb (wsV RX6 50 RX6 yX6_limbsOf wsX6_limbsOf) := goodIn_app (goodIn_of _ (by decide +kernel)) ggX6_feedLimb_X6_limbsOf
set_option maxRecDepth 100000 in
theorem ggX6_feedLimb_X6_stopFeeding : GoodIn wsX6_feedLimb wsX6_stopFeeding := goodIn_r _ [17, 1, 3, 18, 19, 20, 21, 22, 23, 24, 25, 26, 27, 28, 29] rfl gw_wsX6_stopFeeding
set_option maxRecDepth 100000 in
theorem gX6_feedLimb_X6_stopFeeding : GoodIn wsX6_feedLimb (wsV RX6 54 RX6 yX6_stopFeeding wsX6_stopFeeding) := goodIn_app (goodIn_of _ (by decide +kernel)) ggX6_feedLimb_X6_stopFeeding
set_option maxRecDepth 100000 in
theorem ggX6_written_X6_stopFeeding : GoodIn wsX6_written wsX6_stopFeeding := goodIn_r _ [6, 1, 7, 8, 9, 10, 11, 12, 13, 14, 15, 16, 17, 18, 19] rfl gw_wsX6_stopFeeding
set_option maxRecDepth 100000 in
theorem gX6_written_X6_stopFeeding : GoodIn wsX6_written (wsV RX6 54 RX6 yX6_stopFeeding wsX6_stopFeeding) := goodIn_app (goodIn_of _ (by decide +kernel)) ggX6_written_X6_stopFeeding
set_option maxRecDepth 100000 in
theorem ggX6_load_X6_set : GoodIn wsX6_load wsX6_set := goodIn_r _ [7, 8, 9, 10, 11, 12, 13, 14, 15, 16, 17, 18, 19, 20] rfl gw_wsX6_set
set_option maxRecDepth 100000 in
theorem gX6_load_X6_set : GoodIn wsX6_load (wsV RX6 57 RX6 yX6_set wsX6_set) := goodIn_app (goodIn_of _ (by decide +kernel)) ggX6_load_X6_set
set_option maxRecDepth 100000 in
theorem ggX6_loadParameters_X6_load : GoodIn wsX6_loadParameters wsX6_load := goodIn_r _ [5, 6, 7, 8, 9, 10, 4, 11, 12, 17, 18, 19, 20, 21, 22, 23, 24, 25, 26, 27, 28] rfl gw_wsX6_load
set_option maxRecDepth 100000 in
theorem gX6_loadParameters_X6_load : GoodIn wsX6_loadParameters (wsV RX6 61 RX6 yX6_load wsX6_load) := goodIn_app (goodIn_of _ (by decide +kernel)) ggX6_loadParameters_X6_load
set_option maxRecDepth 100000 in
theorem ggX6_loadParameters_X6_small : GoodIn wsX6_loadParameters wsX6_small := goodIn_r _ [16, 8, 9, 10, 4, 11, 12, 17, 18, 19, 20, 21, 22, 23, 24, 25, 26, 27, 28] rfl gw_wsX6_small
set_option maxRecDepth 100000 in
theorem gX6_loadParameters_X6_small : GoodIn wsX6_loadParameters (wsV RX6 64 RX6 yX6_small wsX6_small) := goodIn_app (goodIn_of _ (by decide +kernel)) ggX6_loadParameters_X6_small
set_option maxRecDepth 100000 in
theorem ggX6_small_X6_set : GoodIn wsX6_small wsX6_set := goodIn_r _ [5, 6, 7, 8, 9, 10, 11, 12, 13, 14, 15, 16, 17, 18] rfl gw_wsX6_set
set_option maxRecDepth 100000 in
theorem gX6_small_X6_set : GoodIn wsX6_small (wsV RX6 57 RX6 yX6_set wsX6_set) := goodIn_app (goodIn_of _ (by decide +kernel)) ggX6_small_X6_set
set_option maxRecDepth 100000 in
theorem ggX6_copy_X6_get : GoodIn wsX6_copy wsX6_get := goodIn_r _ [5, 6, 11, 12, 13, 14, 15, 16, 17, 18, 19, 20, 21, 22] rfl gw_wsX6_get
set_option maxRecDepth 100000 in
theorem gX6_copy_X6_get : GoodIn wsX6_copy (wsV RX6 68 RX6 yX6_get wsX6_get) := goodIn_app (goodIn_of _ (by decide +kernel)) ggX6_copy_X6_get
set_option maxRecDepth 100000 in
theorem ggX6_copy_X6_set : GoodIn wsX6_copy wsX6_set := goodIn_r _ [10, 6, 11, 12, 13, 14, 15, 16, 17, 18, 19, 20, 21, 22] rfl gw_wsX6_set
set_option maxRecDepth 100000 in
theorem gX6_copy_X6_set : GoodIn wsX6_copy (wsV RX6 57 RX6 yX6_set wsX6_set) := goodIn_app (goodIn_of _ (by decide +kernel)) ggX6_copy_X6_set
set_option maxRecDepth 100000 in
theorem ggX6_compare_X6_get : GoodIn wsX6_compare wsX6_get := goodIn_r _ [5, 6, 7, 8, 9, 10, 11, 12, 13, 14, 15, 16, 17, 18] rfl gw_wsX6_get
set_option maxRecDepth 100000 in
theorem gX6_compare_X6_get : GoodIn wsX6_compare (wsV RX6 68 RX6 yX6_get wsX6_get) := goodIn_app (goodIn_of _ (by decide +kernel)) ggX6_compare_X6_get
set_option maxRecDepth 100000 in
theorem ggX6_isZero_X6_get : GoodIn wsX6_isZero wsX6_get := goodIn_r _ [5, 6, 7, 8, 9, 10, 11, 12, 13, 14, 15, 16, 17, 18] rfl gw_wsX6_get
set_option maxRecDepth 100000 in
theorem gX6_isZero_X6_get : GoodIn wsX6_isZero (wsV RX6 68 RX6 yX6_get wsX6_get) := goodIn_app (goodIn_of _ (by decide +kernel)) ggX6_isZero_X6_get
set_option maxRecDepth 100000 in
theorem ggX6_isOne_X6_compare : GoodIn wsX6_isOne wsX6_compare := goodIn_r _ [5, 6, 7, 8, 4, 9, 10, 11, 12, 13, 14, 15, 16, 17, 18, 19, 20, 21, 22] rfl gw_wsX6_compare
set_option maxRecDepth 100000 in
theorem gX6_isOne_X6_compare : GoodIn wsX6_isOne (wsV RX6 72 RX6 yX6_compare wsX6_compare) := goodIn_app (goodIn_of _ (by decide +kernel)) ggX6_isOne_X6_compare
set_option maxRecDepth 100000 in
theorem ggX6_plus_X6_get : GoodIn wsX6_plus wsX6_get := goodIn_r _ [6, 7, 12, 13, 14, 15, 16, 17, 18, 19, 20, 21, 22, 23] rfl gw_wsX6_get
set_option maxRecDepth 100000 in
theorem gX6_plus_X6_get : GoodIn wsX6_plus (wsV RX6 68 RX6 yX6_get wsX6_get) := goodIn_app (goodIn_of _ (by decide +kernel)) ggX6_plus_X6_get
set_option maxRecDepth 100000 in
theorem ggX6_plus_X6_set : GoodIn wsX6_plus wsX6_set := goodIn_r _ [11, 7, 12, 13, 14, 15, 16, 17, 18, 19, 20, 21, 22, 23] rfl gw_wsX6_set
set_option maxRecDepth 100000 in
theorem gX6_plus_X6_set : GoodIn wsX6_plus (wsV RX6 57 RX6 yX6_set wsX6_set) := goodIn_app (goodIn_of _ (by decide +kernel)) ggX6_plus_X6_set
set_option maxRecDepth 100000 in
theorem ggX6_minus_X6_get : GoodIn wsX6_minus wsX6_get := goodIn_r _ [6, 7, 12, 13, 14, 15, 16, 17, 18, 19, 20, 21, 22, 23] rfl gw_wsX6_get
set_option maxRecDepth 100000 in
theorem gX6_minus_X6_get : GoodIn wsX6_minus (wsV RX6 68 RX6 yX6_get wsX6_get) := goodIn_app (goodIn_of _ (by decide +kernel)) ggX6_minus_X6_get
set_option maxRecDepth 100000 in
theorem ggX6_minus_X6_set : GoodIn wsX6_minus wsX6_set := goodIn_r _ [11, 7, 12, 13, 14, 15, 16, 17, 18, 19, 20, 21, 22, 23] rfl gw_wsX6_set
set_option maxRecDepth 100000 in
theorem gX6_minus_X6_set : GoodIn wsX6_minus (wsV RX6 57 RX6 yX6_set wsX6_set) := goodIn_app (goodIn_of _ (by decide +kernel)) ggX6_minus_X6_set
set_option maxRecDepth 100000 in
theorem ggX6_halve_X6_get : GoodIn wsX6_halve wsX6_get := goodIn_r _ [5, 6, 11, 12, 13, 14, 15, 16, 17, 18, 19, 20, 21, 22] rfl gw_wsX6_get
set_option maxRecDepth 100000 in
theorem gX6_halve_X6_get : GoodIn wsX6_halve (wsV RX6 68 RX6 yX6_get wsX6_get) := goodIn_app (goodIn_of _ (by decide +kernel)) ggX6_halve_X6_get
set_option maxRecDepth 100000 in
theorem ggX6_halve_X6_set : GoodIn wsX6_halve wsX6_set := goodIn_r _ [10, 6, 11, 12, 13, 14, 15, 16, 17, 18, 19, 20, 21, 22] rfl gw_wsX6_set
set_option maxRecDepth 100000 in
theorem gX6_halve_X6_set : GoodIn wsX6_halve (wsV RX6 57 RX6 yX6_set wsX6_set) := goodIn_app (goodIn_of _ (by decide +kernel)) ggX6_halve_X6_set
set_option maxRecDepth 100000 in
theorem ggX6_isOdd_X6_get : GoodIn wsX6_isOdd wsX6_get := goodIn_r _ [5, 6, 7, 8, 9, 10, 11, 12, 13, 14, 15, 16, 17, 18] rfl gw_wsX6_get
set_option maxRecDepth 100000 in
theorem gX6_isOdd_X6_get : GoodIn wsX6_isOdd (wsV RX6 68 RX6 yX6_get wsX6_get) := goodIn_app (goodIn_of _ (by decide +kernel)) ggX6_isOdd_X6_get
set_option maxRecDepth 100000 in
theorem ggX6_length_X6_get : GoodIn wsX6_length wsX6_get := goodIn_r _ [5, 6, 7, 8, 9, 10, 11, 12, 13, 14, 15, 16, 17, 18] rfl gw_wsX6_get
set_option maxRecDepth 100000 in
theorem gX6_length_X6_get : GoodIn wsX6_length (wsV RX6 68 RX6 yX6_get wsX6_get) := goodIn_app (goodIn_of _ (by decide +kernel)) ggX6_length_X6_get
set_option maxRecDepth 100000 in
theorem ggX6_toU_X6_get : GoodIn wsX6_toU wsX6_get := goodIn_r _ [7, 8, 9, 10, 11, 12, 13, 14, 15, 16, 17, 18, 19, 20] rfl gw_wsX6_get
set_option maxRecDepth 100000 in
theorem gX6_toU_X6_get : GoodIn wsX6_toU (wsV RX6 68 RX6 yX6_get wsX6_get) := goodIn_app (goodIn_of _ (by decide +kernel)) ggX6_toU_X6_get
set_option maxRecDepth 100000 in
theorem ggX6_productToU_X6_get : GoodIn wsX6_productToU wsX6_get := goodIn_r _ [8, 9, 10, 11, 12, 13, 14, 15, 16, 17, 18, 19, 20, 21] rfl gw_wsX6_get
set_option maxRecDepth 100000 in
theorem gX6_productToU_X6_get : GoodIn wsX6_productToU (wsV RX6 68 RX6 yX6_get wsX6_get) := goodIn_app (goodIn_of _ (by decide +kernel)) ggX6_productToU_X6_get
set_option maxRecDepth 100000 in
theorem ggX6_divide_X6_length : GoodIn wsX6_divide wsX6_length := goodIn_r _ [11, 12, 13, 14, 10, 15, 16, 26, 27, 28, 29, 30, 31, 32, 33, 34, 35, 36, 37] rfl gw_wsX6_length
set_option maxRecDepth 100000 in
theorem gX6_divide_X6_length : GoodIn wsX6_divide (wsV RX6 82 RX6 yX6_length wsX6_length) := goodIn_app (goodIn_of _ (by decide +kernel)) ggX6_divide_X6_length
set_option maxRecDepth 100000 in
theorem ggX6_divide_X6_get : GoodIn wsX6_divide wsX6_get := goodIn_r _ [15, 16, 26, 27, 28, 29, 30, 31, 32, 33, 34, 35, 36, 37] rfl gw_wsX6_get
set_option maxRecDepth 100000 in
theorem gX6_divide_X6_get : GoodIn wsX6_divide (wsV RX6 68 RX6 yX6_get wsX6_get) := goodIn_app (goodIn_of _ (by decide +kernel)) ggX6_divide_X6_get
set_option maxRecDepth 100000 in
theorem ggX6_divide_X6_digit : GoodIn wsX6_divide wsX6_digit := goodIn_r _ [20, 6, 2, 21, 3, 26, 27, 28, 29, 30, 31, 32, 33, 34, 35, 36, 37] rfl gw_wsX6_digit
set_option maxRecDepth 100000 in
theorem gX6_divide_X6_digit : GoodIn wsX6_divide (wsV RX6 86 RX6 yX6_digit wsX6_digit) := goodIn_app (goodIn_of _ (by decide +kernel)) ggX6_divide_X6_digit
set_option maxRecDepth 100000 in
theorem ggX6_divide_X6_set : GoodIn wsX6_divide wsX6_set := goodIn_r _ [25, 16, 26, 27, 28, 29, 30, 31, 32, 33, 34, 35, 36, 37] rfl gw_wsX6_set
set_option maxRecDepth 100000 in
theorem gX6_divide_X6_set : GoodIn wsX6_divide (wsV RX6 57 RX6 yX6_set wsX6_set) := goodIn_app (goodIn_of _ (by decide +kernel)) ggX6_divide_X6_set
