set_option maxRecDepth 100000 in
theorem gwB_wsX1_set : wsX1_set.all goodWord = true := by decide +kernel
set_option maxRecDepth 100000 in
theorem gwB_wsX4_startAtIdentity : wsX4_startAtIdentity.all goodWord = true := by decide +kernel
set_option maxRecDepth 100000 in
theorem gwB_wsX4_addItself : wsX4_addItself.all goodWord = true := by decide +kernel
set_option maxRecDepth 100000 in
theorem gwB_wsX4_addPoint : wsX4_addPoint.all goodWord = true := by decide +kernel
set_option maxRecDepth 100000 in
theorem gwB_wsX4_bringToSameZ : wsX4_bringToSameZ.all goodWord = true := by decide +kernel
set_option maxRecDepth 100000 in
theorem gwB_wsX1_copy : wsX1_copy.all goodWord = true := by decide +kernel
set_option maxRecDepth 100000 in
theorem gwB_wsX3_subtract : wsX3_subtract.all goodWord = true := by decide +kernel
set_option maxRecDepth 100000 in
theorem gwB_wsX1_isZero : wsX1_isZero.all goodWord = true := by decide +kernel
set_option maxRecDepth 100000 in
theorem gwB_wsX4_addAlongChord : wsX4_addAlongChord.all goodWord = true := by decide +kernel
set_option maxRecDepth 100000 in
theorem gwB_wsX4_addAtSameX : wsX4_addAtSameX.all goodWord = true := by decide +kernel
set_option maxRecDepth 100000 in
theorem gwB_wsX3_invert : wsX3_invert.all goodWord = true := by decide +kernel
set_option maxRecDepth 100000 in
theorem gwB_wsX2_becomeIdentity : wsX2_becomeIdentity.all goodWord = true := by decide +kernel
set_option maxRecDepth 100000 in
theorem gwB_wsX3_multiply : wsX3_multiply.all goodWord = true := by decide +kernel
set_option maxRecDepth 100000 in
theorem gwB_wsX3_thrice : wsX3_thrice.all goodWord = true := by decide +kernel
set_option maxRecDepth 100000 in
theorem gwB_wsX3_add : wsX3_add.all goodWord = true := by decide +kernel
set_option maxRecDepth 100000 in
theorem gwB_wsX3_twice : wsX3_twice.all goodWord = true := by decide +kernel
set_option maxRecDepth 100000 in
theorem gwB_wsX2_init : wsX2_init.all goodWord = true := by decide +kernel
set_option maxRecDepth 100000 in
theorem gwB_wsX3_init : wsX3_init.all goodWord = true := by decide +kernel
set_option maxRecDepth 100000 in
theorem gwB_wsX0_init : wsX0_init.all goodWord = true := by decide +kernel
set_option maxRecDepth 100000 in
theorem gwB_wsX4_init : wsX4_init.all goodWord = true := by decide +kernel
set_option maxRecDepth 100000 in
theorem ggX4_startAtIdentity_X1_set : GoodIn wsX4_startAtIdentity wsX1_set := goodIn_r _ [6, 7, 8, 9, 10] rfl gwB_wsX1_set
set_option maxRecDepth 100000 in
theorem gX4_startAtIdentity_X1_set : GoodIn wsX4_startAtIdentity (va_wsS RX4 50 yX1_set wsX1_set) := goodIn_app (goodIn_of _ (by decide +kernel)) ggX4_startAtIdentity_X1_set
set_option maxRecDepth 100000 in
theorem ggX4_takeTimes_X4_startAtIdentity : GoodIn wsX4_takeTimes wsX4_startAtIdentity := goodIn_r _ [5, 6, 7, 8, 9, 10, 11, 12, 13, 14, 15, 119, 120, 121, 122, 123, 124, 125, 126, 127, 128, 129, 130] rfl gwB_wsX4_startAtIdentity
set_option maxRecDepth 100000 in
theorem gX4_takeTimes_X4_startAtIdentity : GoodIn wsX4_takeTimes (wsV RX4 56 RX4 yX4_startAtIdentity wsX4_startAtIdentity) := goodIn_app (goodIn_of _ (by decide +kernel)) ggX4_takeTimes_X4_startAtIdentity
set_option maxRecDepth 100000 in
theorem ggX4_takeTimes_X4_addItself : GoodIn wsX4_takeTimes wsX4_addItself := goodIn_r _ [19, 6, 20, 21, 22, 7, 23, 24, 25, 26, 27, 28, 10, 29, 30, 31, 32, 33, 34, 35, 36, 37, 38, 39, 40, 41, 13, 14, 15, 42, 43, 44, 45, 46, 47, 48, 49, 50, 51, 52, 53, 54, 55, 56, 57, 58, 59, 60, 61, 62, 63, 64, 65, 66, 67, 68, 69, 70, 71, 72, 73, 74, 75, 76, 77, 78, 79, 80, 81, 82, 83, 84, 85, 86, 87, 88, 89, 119, 120, 121, 122, 123, 124, 125, 126, 127, 128, 129, 130, 131, 132, 133, 134, 135, 136, 137, 138, 139, 140] rfl gwB_wsX4_addItself
set_option maxRecDepth 100000 in
theorem gX4_takeTimes_X4_addItself : GoodIn wsX4_takeTimes (wsV RX4 59 RX4 yX4_addItself wsX4_addItself) := goodIn_app (goodIn_of _ (by decide +kernel)) ggX4_takeTimes_X4_addItself
set_option maxRecDepth 100000 in
theorem ggX4_takeTimes_X4_addPoint : GoodIn wsX4_takeTimes wsX4_addPoint := goodIn_r _ [93, 94, 6, 25, 95, 20, 96, 21, 97, 24, 98, 99, 100, 4, 101, 22, 7, 102, 103, 33, 34, 35, 36, 37, 38, 39, 40, 41, 13, 14, 15, 42, 43, 44, 45, 46, 47, 48, 49, 50, 51, 52, 53, 54, 55, 56, 57, 58, 59, 60, 61, 62, 63, 104, 105, 10, 106, 107, 108, 109, 110, 86, 87, 88, 89, 73, 74, 75, 76, 77, 27, 28, 29, 30, 31, 32, 111, 112, 113, 114, 26, 16, 17, 18, 19, 23, 64, 65, 66, 67, 68, 69, 70, 71, 72, 78, 79, 80, 81, 82, 83, 84, 85, 115, 116, 117, 118, 8, 9, 11, 12, 141, 142, 143, 119, 120, 121, 122, 123, 124, 125, 126, 127, 128, 129, 130, 131, 132, 133, 134, 135, 136, 137, 138, 139, 140] rfl gwB_wsX4_addPoint
set_option maxRecDepth 100000 in
theorem gX4_takeTimes_X4_addPoint : GoodIn wsX4_takeTimes (wsV RX4 62 RX4 yX4_addPoint wsX4_addPoint) := goodIn_app (goodIn_of _ (by decide +kernel)) ggX4_takeTimes_X4_addPoint
set_option maxRecDepth 100000 in
theorem ggX4_addPoint_X4_bringToSameZ : GoodIn wsX4_addPoint wsX4_bringToSameZ := goodIn_r _ [14, 7, 15, 16, 4, 17, 6, 18, 19, 20, 21, 22, 23, 24, 25, 26, 27, 28, 29, 30, 31, 32, 33, 34, 35, 36, 37, 38, 39, 40, 41, 42, 43, 44, 45, 46, 47, 48, 49, 50, 51, 52, 114, 115, 116, 117, 118, 119, 120, 121, 122, 123, 124, 125, 111, 112, 113, 126, 127, 128, 129, 130, 131, 132, 133, 134, 135] rfl gwB_wsX4_bringToSameZ
set_option maxRecDepth 100000 in
theorem gX4_addPoint_X4_bringToSameZ : GoodIn wsX4_addPoint (wsV RX4 69 RX4 yX4_bringToSameZ wsX4_bringToSameZ) := goodIn_app (goodIn_of _ (by decide +kernel)) ggX4_addPoint_X4_bringToSameZ
set_option maxRecDepth 100000 in
theorem ggX4_addPoint_X1_copy : GoodIn wsX4_addPoint wsX1_copy := goodIn_r _ [56, 57, 58, 59, 60] rfl gwB_wsX1_copy
set_option maxRecDepth 100000 in
theorem gX4_addPoint_X1_copy : GoodIn wsX4_addPoint (va_wsS RX4 72 yX1_copy wsX1_copy) := goodIn_app (goodIn_of _ (by decide +kernel)) ggX4_addPoint_X1_copy
set_option maxRecDepth 100000 in
theorem ggX4_addPoint_X3_subtract : GoodIn wsX4_addPoint wsX3_subtract := goodIn_r _ [64, 65, 66, 67, 55, 68, 69, 126, 127, 128, 129, 130, 131, 132, 133, 134, 135] rfl gwB_wsX3_subtract
set_option maxRecDepth 100000 in
theorem gX4_addPoint_X3_subtract : GoodIn wsX4_addPoint (wsV RX4 76 RX3 yX3_subtract wsX3_subtract) := goodIn_app (goodIn_of _ (by decide +kernel)) ggX4_addPoint_X3_subtract
set_option maxRecDepth 100000 in
theorem ggX4_addPoint_X1_isZero : GoodIn wsX4_addPoint wsX1_isZero := goodIn_r _ [72, 73, 74, 55, 75] rfl gwB_wsX1_isZero
set_option maxRecDepth 100000 in
theorem gX4_addPoint_X1_isZero : GoodIn wsX4_addPoint (va_wsS RX4 82 yX1_isZero wsX1_isZero) := goodIn_app (goodIn_of _ (by decide +kernel)) ggX4_addPoint_X1_isZero
set_option maxRecDepth 100000 in
theorem ggX4_addPoint_X4_addAlongChord : GoodIn wsX4_addPoint wsX4_addAlongChord := goodIn_r _ [79, 7, 16, 8, 15, 80, 3, 9, 5, 19, 20, 21, 22, 23, 24, 25, 26, 27, 28, 29, 30, 31, 32, 33, 34, 35, 36, 37, 38, 39, 40, 41, 42, 43, 44, 45, 46, 47, 48, 49, 50, 51, 52, 61, 62, 63, 64, 65, 66, 67, 55, 68, 69, 114, 115, 116, 117, 118, 119, 120, 121, 122, 123, 124, 125, 126, 127, 128, 129, 130, 131, 132, 133, 134, 135] rfl gwB_wsX4_addAlongChord
set_option maxRecDepth 100000 in
theorem gX4_addPoint_X4_addAlongChord : GoodIn wsX4_addPoint (wsV RX4 86 RX4 yX4_addAlongChord wsX4_addAlongChord) := goodIn_app (goodIn_of _ (by decide +kernel)) ggX4_addPoint_X4_addAlongChord
set_option maxRecDepth 100000 in
theorem ggX4_addPoint_X4_addItself : GoodIn wsX4_addPoint wsX4_addItself := goodIn_r _ [84, 2, 5, 7, 15, 16, 85, 9, 3, 80, 70, 71, 55, 72, 73, 74, 75, 19, 20, 21, 22, 23, 24, 25, 26, 27, 28, 29, 30, 31, 32, 33, 34, 35, 36, 37, 38, 39, 40, 41, 42, 43, 44, 45, 46, 47, 48, 49, 50, 51, 52, 86, 87, 88, 89, 90, 91, 92, 93, 94, 65, 66, 67, 68, 69, 95, 96, 97, 98, 99, 100, 101, 102, 61, 62, 63, 64, 114, 115, 116, 117, 118, 119, 120, 121, 122, 123, 124, 125, 126, 127, 128, 129, 130, 131, 132, 133, 134, 135] rfl gwB_wsX4_addItself
set_option maxRecDepth 100000 in
theorem gX4_addPoint_X4_addItself : GoodIn wsX4_addPoint (wsV RX4 59 RX4 yX4_addItself wsX4_addItself) := goodIn_app (goodIn_of _ (by decide +kernel)) ggX4_addPoint_X4_addItself
set_option maxRecDepth 100000 in
theorem ggX4_addPoint_X4_addAtSameX : GoodIn wsX4_addPoint wsX4_addAtSameX := goodIn_r _ [106, 7, 15, 6, 5, 2, 16, 98, 92, 93, 22, 94, 65, 66, 67, 55, 68, 69, 95, 96, 97, 70, 71, 72, 73, 74, 75, 107, 108, 109, 110, 28, 29, 30, 114, 115, 116, 117, 118, 119, 120, 121, 122, 123, 124, 125, 126, 127, 128, 129, 130, 131, 132, 133, 134, 135] rfl gwB_wsX4_addAtSameX
set_option maxRecDepth 100000 in
theorem gX4_addPoint_X4_addAtSameX : GoodIn wsX4_addPoint (wsV RX4 89 RX4 yX4_addAtSameX wsX4_addAtSameX) := goodIn_app (goodIn_of _ (by decide +kernel)) ggX4_addPoint_X4_addAtSameX
set_option maxRecDepth 100000 in
theorem ggX4_writeTo_X3_invert : GoodIn wsX4_writeTo wsX3_invert := goodIn_r _ [15, 16, 17, 18, 19, 20, 21, 22, 23, 24, 25, 26, 27, 28, 29, 30, 31, 32, 33, 34, 35, 36, 37, 38, 39, 40, 41, 42, 43, 44, 45, 46, 47, 48, 49, 50, 51, 52, 53, 54, 55, 56, 57, 58, 59, 60, 61, 62, 63, 64, 65, 66, 14, 67, 68, 69, 70, 125, 126, 127, 128, 129, 130, 131, 132, 133, 134] rfl gwB_wsX3_invert
set_option maxRecDepth 100000 in
theorem gX4_writeTo_X3_invert : GoodIn wsX4_writeTo (wsV RX4 92 RX3 yX3_invert wsX3_invert) := goodIn_app (goodIn_of _ (by decide +kernel)) ggX4_writeTo_X3_invert
set_option maxRecDepth 100000 in
theorem ggX4_writeTo_X2_becomeIdentity : GoodIn wsX4_writeTo wsX2_becomeIdentity := goodIn_r _ [75, 76, 77, 78, 79, 30, 23, 31, 32, 33, 34, 35, 122, 123, 124] rfl gwB_wsX2_becomeIdentity
set_option maxRecDepth 100000 in
theorem gX4_writeTo_X2_becomeIdentity : GoodIn wsX4_writeTo (wsV RX4 96 RX2 yX2_becomeIdentity wsX2_becomeIdentity) := goodIn_app (goodIn_of _ (by decide +kernel)) ggX4_writeTo_X2_becomeIdentity
set_option maxRecDepth 100000 in
theorem ggX4_writeTo_X3_multiply : GoodIn wsX4_writeTo wsX3_multiply := goodIn_r _ [83, 84, 85, 86, 87, 33, 34, 35, 88, 89, 90, 14, 91, 92, 93, 94, 95, 96, 97, 98, 99, 100, 101, 102, 103, 104, 105, 106, 107, 108, 109, 125, 126, 127, 128, 129, 130, 131, 132, 133, 134] rfl gwB_wsX3_multiply
set_option maxRecDepth 100000 in
theorem gX4_writeTo_X3_multiply : GoodIn wsX4_writeTo (wsV RX4 99 RX3 yX3_multiply wsX3_multiply) := goodIn_app (goodIn_of _ (by decide +kernel)) ggX4_writeTo_X3_multiply
set_option maxRecDepth 100000 in
theorem ggX4_bringToSameZ_X3_multiply : GoodIn wsX4_bringToSameZ wsX3_multiply := goodIn_r _ [12, 13, 14, 15, 16, 17, 18, 19, 20, 21, 22, 11, 23, 24, 25, 26, 27, 28, 29, 30, 31, 32, 33, 34, 35, 36, 37, 38, 39, 40, 41, 57, 58, 59, 60, 61, 62, 63, 64, 65, 66] rfl gwB_wsX3_multiply
set_option maxRecDepth 100000 in
theorem gX4_bringToSameZ_X3_multiply : GoodIn wsX4_bringToSameZ (wsV RX4 99 RX3 yX3_multiply wsX3_multiply) := goodIn_app (goodIn_of _ (by decide +kernel)) ggX4_bringToSameZ_X3_multiply
set_option maxRecDepth 100000 in
theorem ggX4_addItself_X1_isZero : GoodIn wsX4_addItself wsX1_isZero := goodIn_r _ [13, 14, 15, 12, 16] rfl gwB_wsX1_isZero
set_option maxRecDepth 100000 in
theorem gX4_addItself_X1_isZero : GoodIn wsX4_addItself (va_wsS RX4 82 yX1_isZero wsX1_isZero) := goodIn_app (goodIn_of _ (by decide +kernel)) ggX4_addItself_X1_isZero
set_option maxRecDepth 100000 in
theorem ggX4_addItself_X3_multiply : GoodIn wsX4_addItself wsX3_multiply := goodIn_r _ [21, 22, 23, 24, 25, 26, 27, 28, 29, 30, 31, 20, 32, 33, 34, 35, 36, 37, 38, 39, 40, 41, 42, 43, 44, 45, 46, 47, 48, 49, 50, 89, 90, 91, 92, 93, 94, 95, 96, 97, 98] rfl gwB_wsX3_multiply
set_option maxRecDepth 100000 in
theorem gX4_addItself_X3_multiply : GoodIn wsX4_addItself (wsV RX4 99 RX3 yX3_multiply wsX3_multiply) := goodIn_app (goodIn_of _ (by decide +kernel)) ggX4_addItself_X3_multiply
set_option maxRecDepth 100000 in
theorem ggX4_addItself_X3_thrice : GoodIn wsX4_addItself wsX3_thrice := goodIn_r _ [54, 55, 56, 57, 58, 20, 59, 60, 61, 62, 12, 63, 64, 65, 66, 67, 89, 90, 91, 92, 93, 94, 95, 96, 97, 98] rfl gwB_wsX3_thrice
set_option maxRecDepth 100000 in
theorem gX4_addItself_X3_thrice : GoodIn wsX4_addItself (wsV RX4 104 RX3 yX3_thrice wsX3_thrice) := goodIn_app (goodIn_of _ (by decide +kernel)) ggX4_addItself_X3_thrice
set_option maxRecDepth 100000 in
theorem ggX4_addItself_X3_add : GoodIn wsX4_addItself wsX3_add := goodIn_r _ [59, 60, 61, 62, 12, 63, 64, 65, 66, 67, 89, 90, 91, 92, 93, 94, 95, 96, 97, 98] rfl gwB_wsX3_add
set_option maxRecDepth 100000 in
theorem gX4_addItself_X3_add : GoodIn wsX4_addItself (wsV RX4 107 RX3 yX3_add wsX3_add) := goodIn_app (goodIn_of _ (by decide +kernel)) ggX4_addItself_X3_add
set_option maxRecDepth 100000 in
theorem ggX4_addItself_X3_twice : GoodIn wsX4_addItself wsX3_twice := goodIn_r _ [72, 56, 57, 58, 20, 59, 60, 61, 62, 12, 63, 64, 65, 66, 67, 89, 90, 91, 92, 93, 94, 95, 96, 97, 98] rfl gwB_wsX3_twice
set_option maxRecDepth 100000 in
theorem gX4_addItself_X3_twice : GoodIn wsX4_addItself (wsV RX4 110 RX3 yX3_twice wsX3_twice) := goodIn_app (goodIn_of _ (by decide +kernel)) ggX4_addItself_X3_twice
set_option maxRecDepth 100000 in
theorem ggX4_addItself_X3_subtract : GoodIn wsX4_addItself wsX3_subtract := goodIn_r _ [76, 60, 61, 62, 12, 63, 64, 89, 90, 91, 92, 93, 94, 95, 96, 97, 98] rfl gwB_wsX3_subtract
set_option maxRecDepth 100000 in
theorem gX4_addItself_X3_subtract : GoodIn wsX4_addItself (wsV RX4 76 RX3 yX3_subtract wsX3_subtract) := goodIn_app (goodIn_of _ (by decide +kernel)) ggX4_addItself_X3_subtract
set_option maxRecDepth 100000 in
theorem ggX4_addAlongChord_X3_multiply : GoodIn wsX4_addAlongChord wsX3_multiply := goodIn_r _ [13, 14, 15, 16, 17, 18, 19, 20, 21, 22, 23, 12, 24, 25, 26, 27, 28, 29, 30, 31, 32, 33, 34, 35, 36, 37, 38, 39, 40, 41, 42, 65, 66, 67, 68, 69, 70, 71, 72, 73, 74] rfl gwB_wsX3_multiply
set_option maxRecDepth 100000 in
theorem gX4_addAlongChord_X3_multiply : GoodIn wsX4_addAlongChord (wsV RX4 99 RX3 yX3_multiply wsX3_multiply) := goodIn_app (goodIn_of _ (by decide +kernel)) ggX4_addAlongChord_X3_multiply
set_option maxRecDepth 100000 in
theorem ggX4_addAlongChord_X3_subtract : GoodIn wsX4_addAlongChord wsX3_subtract := goodIn_r _ [46, 47, 48, 49, 50, 51, 52, 65, 66, 67, 68, 69, 70, 71, 72, 73, 74] rfl gwB_wsX3_subtract
set_option maxRecDepth 100000 in
theorem gX4_addAlongChord_X3_subtract : GoodIn wsX4_addAlongChord (wsV RX4 76 RX3 yX3_subtract wsX3_subtract) := goodIn_app (goodIn_of _ (by decide +kernel)) ggX4_addAlongChord_X3_subtract
set_option maxRecDepth 100000 in
theorem ggX4_addAtSameX_X3_add : GoodIn wsX4_addAtSameX wsX3_add := goodIn_r _ [11, 12, 13, 14, 15, 16, 17, 18, 19, 20, 46, 47, 48, 49, 50, 51, 52, 53, 54, 55] rfl gwB_wsX3_add
set_option maxRecDepth 100000 in
theorem gX4_addAtSameX_X3_add : GoodIn wsX4_addAtSameX (wsV RX4 107 RX3 yX3_add wsX3_add) := goodIn_app (goodIn_of _ (by decide +kernel)) ggX4_addAtSameX_X3_add
set_option maxRecDepth 100000 in
theorem ggX4_addAtSameX_X1_isZero : GoodIn wsX4_addAtSameX wsX1_isZero := goodIn_r _ [23, 24, 25, 15, 26] rfl gwB_wsX1_isZero
set_option maxRecDepth 100000 in
theorem gX4_addAtSameX_X1_isZero : GoodIn wsX4_addAtSameX (va_wsS RX4 82 yX1_isZero wsX1_isZero) := goodIn_app (goodIn_of _ (by decide +kernel)) ggX4_addAtSameX_X1_isZero
set_option maxRecDepth 100000 in
theorem ggX4_addAtSameX_X1_set : GoodIn wsX4_addAtSameX wsX1_set := goodIn_r _ [29, 30, 31, 32, 33] rfl gwB_wsX1_set
set_option maxRecDepth 100000 in
theorem gX4_addAtSameX_X1_set : GoodIn wsX4_addAtSameX (va_wsS RX4 50 yX1_set wsX1_set) := goodIn_app (goodIn_of _ (by decide +kernel)) ggX4_addAtSameX_X1_set
set_option maxRecDepth 100000 in
theorem ggX5_init_X2_init : GoodIn wsX5_init wsX2_init := goodIn_r _ [40, 41, 2, 3, 13, 42, 43, 44, 98, 99, 100] rfl gwB_wsX2_init
set_option maxRecDepth 100000 in
theorem gX5_init_X2_init : GoodIn wsX5_init (wsX2_init) := ggX5_init_X2_init
set_option maxRecDepth 100000 in
theorem ggX5_init_X3_init : GoodIn wsX5_init wsX3_init := goodIn_r _ [47, 48, 2, 3, 13, 49, 50, 51, 52, 53, 54, 55, 56, 57, 58, 101, 102, 103, 104, 105, 106, 107, 108, 109, 110] rfl gwB_wsX3_init
set_option maxRecDepth 100000 in
theorem gX5_init_X3_init : GoodIn wsX5_init (wsX3_init) := ggX5_init_X3_init
set_option maxRecDepth 100000 in
theorem ggX5_init_X0_init : GoodIn wsX5_init wsX0_init := goodIn_r _ [61, 62, 2, 3, 63, 64, 65, 66, 13, 67, 68, 111, 112, 113, 114, 115, 116] rfl gwB_wsX0_init
set_option maxRecDepth 100000 in
theorem gX5_init_X0_init : GoodIn wsX5_init (wsX0_init) := ggX5_init_X0_init
set_option maxRecDepth 100000 in
theorem ggX5_init_X4_init : GoodIn wsX5_init wsX4_init := goodIn_r _ [71, 72, 2, 3, 73, 74, 13, 75, 76, 77, 78, 79, 80, 81, 82, 83, 84, 117, 118, 119, 120, 121, 122, 123, 124, 125, 126, 127, 128] rfl gwB_wsX4_init
set_option maxRecDepth 100000 in
theorem gX5_init_X4_init : GoodIn wsX5_init (wsX4_init) := ggX5_init_X4_init
