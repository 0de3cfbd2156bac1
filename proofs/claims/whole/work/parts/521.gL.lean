set_option maxRecDepth 100000 in
theorem gwL_wsX5_init : wsX5_init.all goodWord = true := by decide +kernel
set_option maxRecDepth 100000 in
theorem gwL_wsX6_init : wsX6_init.all goodWord = true := by decide +kernel
set_option maxRecDepth 100000 in
theorem gwL_wsX5_select : wsX5_select.all goodWord = true := by decide +kernel
set_option maxRecDepth 100000 in
theorem gwL_wsX6_select : wsX6_select.all goodWord = true := by decide +kernel
set_option maxRecDepth 100000 in
theorem gwL_wsX5_feedLimb : wsX5_feedLimb.all goodWord = true := by decide +kernel
set_option maxRecDepth 100000 in
theorem gwL_wsX6_feedLimb : wsX6_feedLimb.all goodWord = true := by decide +kernel
set_option maxRecDepth 100000 in
theorem gwL_wsX5_seal : wsX5_seal.all goodWord = true := by decide +kernel
set_option maxRecDepth 100000 in
theorem gwL_wsX6_seal : wsX6_seal.all goodWord = true := by decide +kernel
set_option maxRecDepth 100000 in
theorem gwL_wsX5_open : wsX5_open.all goodWord = true := by decide +kernel
set_option maxRecDepth 100000 in
theorem gwL_wsX6_open : wsX6_open.all goodWord = true := by decide +kernel
set_option maxRecDepth 100000 in
theorem gwL_wsX5_limb : wsX5_limb.all goodWord = true := by decide +kernel
set_option maxRecDepth 100000 in
theorem gwL_wsX6_limb : wsX6_limb.all goodWord = true := by decide +kernel
set_option maxRecDepth 100000 in
theorem gwL_wsX5_onCurve : wsX5_onCurve.all goodWord = true := by decide +kernel
set_option maxRecDepth 100000 in
theorem gwL_wsX6_onCurve : wsX6_onCurve.all goodWord = true := by decide +kernel
set_option maxRecDepth 100000 in
theorem gwL_wsX5_isInfinity : wsX5_isInfinity.all goodWord = true := by decide +kernel
set_option maxRecDepth 100000 in
theorem gwL_wsX6_isInfinity : wsX6_isInfinity.all goodWord = true := by decide +kernel
set_option maxRecDepth 100000 in
theorem gwL_wsX5_addPts : wsX5_addPts.all goodWord = true := by decide +kernel
set_option maxRecDepth 100000 in
theorem gwL_wsX6_addPts : wsX6_addPts.all goodWord = true := by decide +kernel
set_option maxRecDepth 100000 in
theorem gwL_wsX5_dbl : wsX5_dbl.all goodWord = true := by decide +kernel
set_option maxRecDepth 100000 in
theorem gwL_wsX6_dbl : wsX6_dbl.all goodWord = true := by decide +kernel
set_option maxRecDepth 100000 in
theorem gwL_wsX5_scalarMul : wsX5_scalarMul.all goodWord = true := by decide +kernel
set_option maxRecDepth 100000 in
theorem gwL_wsX6_scalarMul : wsX6_scalarMul.all goodWord = true := by decide +kernel
set_option maxRecDepth 100000 in
theorem gwL_wsX5_negate : wsX5_negate.all goodWord = true := by decide +kernel
set_option maxRecDepth 100000 in
theorem gwL_wsX6_negate : wsX6_negate.all goodWord = true := by decide +kernel
set_option maxRecDepth 100000 in
theorem gwL_wsX5_isSame : wsX5_isSame.all goodWord = true := by decide +kernel
set_option maxRecDepth 100000 in
theorem gwL_wsX6_isSame : wsX6_isSame.all goodWord = true := by decide +kernel
set_option maxRecDepth 100000 in
theorem gwL_wsX5_verify : wsX5_verify.all goodWord = true := by decide +kernel
set_option maxRecDepth 100000 in
theorem gwL_wsX6_verify : wsX6_verify.all goodWord = true := by decide +kernel
set_option maxRecDepth 100000 in
theorem gwL_wsX5_reckon : wsX5_reckon.all goodWord = true := by decide +kernel
set_option maxRecDepth 100000 in
theorem gwL_wsX6_reckon : wsX6_reckon.all goodWord = true := by decide +kernel
set_option maxRecDepth 100000 in
theorem gwL_wsX5_state : wsX5_state.all goodWord = true := by decide +kernel
set_option maxRecDepth 100000 in
theorem gwL_wsX6_state : wsX6_state.all goodWord = true := by decide +kernel
set_option maxRecDepth 100000 in
theorem ggL_law_L_cell : GoodIn wsL_law wsL_cell := goodIn_r _ [9] (by decide +kernel) (by decide +kernel)
set_option maxRecDepth 100000 in
theorem gL_law_L_cell : GoodIn wsL_law (va_wsS RL 9 yL_cell wsL_cell) := goodIn_app (goodIn_of _ (by decide +kernel)) ggL_law_L_cell
set_option maxRecDepth 100000 in
theorem ggL_law_X5_init : GoodIn wsL_law wsX5_init := goodIn_r _ [12, 13, 14, 15, 16, 17, 18, 19, 20, 21, 22, 23, 24, 25, 26, 27, 28, 29, 30, 31, 32, 33, 34, 35, 36, 37, 38, 39, 40, 41, 42, 43, 44, 45, 46, 47, 48, 49, 50, 51, 52, 53, 54, 55, 56, 57, 58, 59, 60, 61, 62, 63, 64, 65, 66, 67, 68, 69, 70, 71, 72, 73, 74, 75, 76, 77, 78, 79, 80, 81, 82, 83, 84, 85, 86, 87, 88, 89, 90, 91, 92, 93, 94, 95, 96, 648, 649, 650, 651, 652, 653, 654, 655, 656, 657, 658, 659, 660, 673, 674, 675, 676, 677, 678, 679, 680, 681, 682, 683, 684, 685, 686, 687, 688, 689, 690, 691, 692, 693, 694, 695, 696, 697, 698, 699, 700, 701, 702, 703] rfl gwL_wsX5_init
set_option maxRecDepth 100000 in
theorem gL_law_X5_init : GoodIn wsL_law (wsX5_init) := ggL_law_X5_init
set_option maxRecDepth 100000 in
theorem ggL_law_X6_init : GoodIn wsL_law wsX6_init := goodIn_r _ [99, 100, 14, 15, 25, 101, 102, 103, 104, 105, 106, 107, 108, 109, 110, 661, 662, 663, 664, 665, 666, 667, 668, 669, 670, 671, 672] rfl gwL_wsX6_init
set_option maxRecDepth 100000 in
theorem gL_law_X6_init : GoodIn wsL_law (wsX6_init) := ggL_law_X6_init
set_option maxRecDepth 100000 in
theorem ggL_law_X5_select : GoodIn wsL_law wsX5_select := goodIn_r _ [114, 47, 48, 49, 115, 116, 2, 117, 118, 119, 120, 121, 122, 123, 124, 125, 126, 127, 128, 129, 130, 131, 28, 132, 133, 134, 30, 135, 54, 55, 56, 136, 137, 138, 139, 140, 141, 142, 143, 144, 145, 146, 147, 26, 23, 148, 149, 150, 151, 152, 153, 154, 155, 156, 31, 157, 648, 649, 650, 651, 652, 653, 654, 655, 656, 657, 658, 659, 660, 673, 674, 675] rfl gwL_wsX5_select
set_option maxRecDepth 100000 in
theorem gL_law_X5_select : GoodIn wsL_law (wsV RL 21 RX5 yX5_select wsX5_select) := goodIn_app (goodIn_of _ (by decide +kernel)) ggL_law_X5_select
set_option maxRecDepth 100000 in
theorem ggL_law_X6_select : GoodIn wsL_law wsX6_select := goodIn_r _ [161, 162, 101, 103, 104, 163, 661, 662, 663, 664, 665, 666, 667, 668, 669, 670, 671, 672] rfl gwL_wsX6_select
set_option maxRecDepth 100000 in
theorem gL_law_X6_select : GoodIn wsL_law (wsV RL 25 RX6 yX6_select wsX6_select) := goodIn_app (goodIn_of _ (by decide +kernel)) ggL_law_X6_select
set_option maxRecDepth 100000 in
theorem ggL_law_X5_feedLimb : GoodIn wsL_law wsX5_feedLimb := goodIn_r _ [167, 48, 49, 168, 144, 145, 146, 2, 147, 26, 23, 148, 149, 118, 119, 120, 150, 151, 152, 153, 154, 155, 156, 31, 128, 129, 130, 131, 28, 169, 170, 171, 172, 125, 126, 127, 173, 174, 175, 176, 177, 178, 179, 180, 648, 649, 650, 651, 652, 653, 654, 655, 656, 657, 658, 659, 660, 673, 674, 675] rfl gwL_wsX5_feedLimb
set_option maxRecDepth 100000 in
theorem gL_law_X5_feedLimb : GoodIn wsL_law (wsV RL 26 RX5 yX5_feedLimb wsX5_feedLimb) := goodIn_app (goodIn_of _ (by decide +kernel)) ggL_law_X5_feedLimb
set_option maxRecDepth 100000 in
theorem ggL_law_X6_feedLimb : GoodIn wsL_law wsX6_feedLimb := goodIn_r _ [184, 104, 101, 163, 103, 185, 186, 5, 187, 188, 189, 190, 191, 110, 192, 193, 194, 195, 661, 662, 663, 664, 665, 666, 667, 668, 669, 670, 671, 672] rfl gwL_wsX6_feedLimb
set_option maxRecDepth 100000 in
theorem gL_law_X6_feedLimb : GoodIn wsL_law (wsV RL 29 RX6 yX6_feedLimb wsX6_feedLimb) := goodIn_app (goodIn_of _ (by decide +kernel)) ggL_law_X6_feedLimb
set_option maxRecDepth 100000 in
theorem ggL_law_X5_seal : GoodIn wsL_law wsX5_seal := goodIn_r _ [199, 47, 39, 48, 200, 201, 202, 38, 203, 75, 76, 77, 78, 204, 205, 138, 206, 207, 208, 209, 210, 211, 212, 213, 214, 215, 216, 217, 218, 219, 220, 34, 221, 61, 69, 70, 62, 222, 223, 224, 225, 226, 227, 228, 229, 230, 231, 232, 233, 234, 235, 236, 237, 238, 79, 80, 239, 240, 241, 242, 63, 243, 244, 141, 142, 143, 245, 246, 247, 248, 249, 250, 18, 251, 252, 253, 254, 255, 256, 257, 258, 259, 260, 261, 262, 263, 264, 265, 266, 267, 268, 269, 270, 271, 272, 273, 274, 275, 276, 277, 278, 279, 64, 280, 281, 282, 283, 118, 119, 2, 120, 177, 178, 179, 180, 49, 648, 649, 650, 651, 652, 653, 654, 655, 656, 657, 658, 659, 660, 686, 687, 688, 689, 690, 691, 676, 677, 678, 679, 680, 681, 682, 683, 684, 685] rfl gwL_wsX5_seal
set_option maxRecDepth 100000 in
theorem gL_law_X5_seal : GoodIn wsL_law (wsV RL 30 RX5 yX5_seal wsX5_seal) := goodIn_app (goodIn_of _ (by decide +kernel)) ggL_law_X5_seal
set_option maxRecDepth 100000 in
theorem ggL_law_X6_seal : GoodIn wsL_law wsX6_seal := goodIn_r _ [287, 162, 104, 288, 289, 290, 5, 291, 292, 293, 294, 295, 110, 101, 296, 297, 298, 299, 105, 300, 301, 302, 303, 304, 305, 306, 307, 308, 309, 310, 311, 312, 313, 314, 315, 316, 317, 318, 319, 320, 321, 322, 323, 107, 324, 325, 326, 327, 328, 329, 330, 108, 109, 331, 332, 333, 334, 335, 336, 337, 338, 339, 340, 341, 342, 343, 344, 345, 346, 347, 348, 349, 350, 351, 352, 353, 354, 355, 192, 193, 194, 195, 163, 661, 662, 663, 664, 665, 666, 667, 668, 669, 670, 671, 672] rfl gwL_wsX6_seal
set_option maxRecDepth 100000 in
theorem gL_law_X6_seal : GoodIn wsL_law (wsV RL 34 RX6 yX6_seal wsX6_seal) := goodIn_app (goodIn_of _ (by decide +kernel)) ggL_law_X6_seal
set_option maxRecDepth 100000 in
theorem ggL_law_X5_open : GoodIn wsL_law wsX5_open := goodIn_r _ [359, 47, 648, 649, 650, 651, 652, 653, 654, 655, 656, 657, 658, 659, 660] rfl gwL_wsX5_open
set_option maxRecDepth 100000 in
theorem gL_law_X5_open : GoodIn wsL_law (wsV RL 35 RX5 yX5_open wsX5_open) := goodIn_app (goodIn_of _ (by decide +kernel)) ggL_law_X5_open
set_option maxRecDepth 100000 in
theorem ggL_law_X6_open : GoodIn wsL_law wsX6_open := goodIn_r _ [363, 162, 661, 662, 663, 664, 665, 666, 667, 668, 669, 670, 671, 672] rfl gwL_wsX6_open
set_option maxRecDepth 100000 in
theorem gL_law_X6_open : GoodIn wsL_law (wsV RL 39 RX6 yX6_open wsX6_open) := goodIn_app (goodIn_of _ (by decide +kernel)) ggL_law_X6_open
set_option maxRecDepth 100000 in
theorem ggL_law_X5_limb : GoodIn wsL_law wsX5_limb := goodIn_r _ [367, 115, 116, 2, 117, 173, 174, 175, 176, 23, 125, 126, 127, 144, 145, 146, 147, 26, 148, 149, 118, 119, 120, 150, 151, 152, 153, 154, 155, 156, 31, 128, 129, 130, 131, 28, 169, 170, 171, 172, 648, 649, 650, 651, 652, 653, 654, 655, 656, 657, 658, 659, 660, 673, 674, 675] rfl gwL_wsX5_limb
set_option maxRecDepth 100000 in
theorem gL_law_X5_limb : GoodIn wsL_law (wsV RL 40 RX5 yX5_limb wsX5_limb) := goodIn_app (goodIn_of _ (by decide +kernel)) ggL_law_X5_limb
set_option maxRecDepth 100000 in
theorem ggL_law_X6_limb : GoodIn wsL_law wsX6_limb := goodIn_r _ [371, 101, 188, 189, 190, 5, 191, 110, 185, 186, 187, 661, 662, 663, 664, 665, 666, 667, 668, 669, 670, 671, 672] rfl gwL_wsX6_limb
set_option maxRecDepth 100000 in
theorem gL_law_X6_limb : GoodIn wsL_law (wsV RL 44 RX6 yX6_limb wsX6_limb) := goodIn_app (goodIn_of _ (by decide +kernel)) ggL_law_X6_limb
set_option maxRecDepth 100000 in
theorem ggL_law_X5_onCurve : GoodIn wsL_law wsX5_onCurve := goodIn_r _ [375, 47, 39, 125, 126, 2, 127, 128, 129, 130, 131, 28, 376, 377, 378, 38, 379, 380, 381, 75, 382, 78, 79, 80, 76, 77, 215, 216, 138, 217, 239, 240, 241, 34, 242, 63, 69, 243, 244, 141, 142, 143, 245, 246, 247, 248, 62, 249, 250, 18, 251, 252, 253, 254, 255, 70, 256, 257, 258, 259, 260, 261, 262, 263, 280, 269, 270, 271, 61, 272, 273, 274, 234, 275, 648, 649, 650, 651, 652, 653, 654, 655, 656, 657, 658, 659, 660, 673, 674, 675, 686, 687, 688, 689, 690, 691, 676, 677, 678, 679, 680, 681, 682, 683, 684, 685] rfl gwL_wsX5_onCurve
set_option maxRecDepth 100000 in
theorem gL_law_X5_onCurve : GoodIn wsL_law (wsV RL 45 RX5 yX5_onCurve wsX5_onCurve) := goodIn_app (goodIn_of _ (by decide +kernel)) ggL_law_X5_onCurve
set_option maxRecDepth 100000 in
theorem ggL_law_X6_onCurve : GoodIn wsL_law wsX6_onCurve := goodIn_r _ [386, 387, 388, 389, 5, 390, 162, 185, 186, 187, 288, 289, 290, 291, 292, 293, 294, 295, 110, 101, 296, 297, 298, 299, 105, 300, 301, 302, 303, 391, 392, 393, 394, 106, 103, 395, 396, 397, 398, 399, 400, 401, 402, 403, 404, 312, 313, 314, 315, 308, 309, 310, 311, 316, 317, 318, 319, 320, 321, 322, 323, 107, 324, 325, 326, 327, 328, 329, 330, 108, 109, 331, 332, 333, 334, 335, 336, 337, 338, 339, 340, 341, 342, 343, 344, 345, 346, 347, 348, 349, 350, 351, 661, 662, 663, 664, 665, 666, 667, 668, 669, 670, 671, 672] rfl gwL_wsX6_onCurve
set_option maxRecDepth 100000 in
theorem gL_law_X6_onCurve : GoodIn wsL_law (wsV RL 48 RX6 yX6_onCurve wsX6_onCurve) := goodIn_app (goodIn_of _ (by decide +kernel)) ggL_law_X6_onCurve
set_option maxRecDepth 100000 in
theorem ggL_law_X5_isInfinity : GoodIn wsL_law wsX5_isInfinity := goodIn_r _ [408, 168, 125, 126, 2, 127, 128, 129, 130, 131, 28, 673, 674, 675, 648, 649, 650, 651, 652, 653, 654, 655, 656, 657, 658, 659, 660] rfl gwL_wsX5_isInfinity
set_option maxRecDepth 100000 in
theorem gL_law_X5_isInfinity : GoodIn wsL_law (wsV RL 49 RX5 yX5_isInfinity wsX5_isInfinity) := goodIn_app (goodIn_of _ (by decide +kernel)) ggL_law_X5_isInfinity
set_option maxRecDepth 100000 in
theorem ggL_law_X6_isInfinity : GoodIn wsL_law wsX6_isInfinity := goodIn_r _ [412, 103, 185, 186, 5, 187, 661, 662, 663, 664, 665, 666, 667, 668, 669, 670, 671, 672] rfl gwL_wsX6_isInfinity
set_option maxRecDepth 100000 in
theorem gL_law_X6_isInfinity : GoodIn wsL_law (wsV RL 52 RX6 yX6_isInfinity wsX6_isInfinity) := goodIn_app (goodIn_of _ (by decide +kernel)) ggL_law_X6_isInfinity
set_option maxRecDepth 100000 in
theorem ggL_law_X5_addPts : GoodIn wsL_law wsX5_addPts := goodIn_r _ [416, 43, 125, 126, 2, 127, 417, 373, 374, 375, 47, 39, 128, 129, 130, 131, 28, 376, 377, 378, 38, 379, 380, 381, 75, 382, 78, 79, 80, 76, 77, 215, 216, 138, 217, 239, 240, 241, 34, 242, 63, 69, 243, 244, 141, 142, 143, 245, 246, 247, 248, 62, 249, 250, 18, 251, 252, 253, 254, 255, 70, 256, 257, 258, 259, 260, 261, 262, 263, 280, 269, 270, 271, 61, 272, 273, 274, 234, 275, 418, 419, 420, 42, 421, 90, 89, 422, 137, 139, 140, 423, 424, 425, 426, 427, 87, 91, 88, 92, 85, 93, 94, 428, 429, 430, 431, 95, 432, 433, 434, 435, 223, 224, 225, 226, 227, 228, 436, 437, 438, 439, 440, 282, 283, 207, 208, 209, 441, 442, 443, 444, 96, 445, 446, 447, 448, 86, 449, 277, 278, 279, 64, 268, 450, 451, 265, 266, 267, 452, 453, 454, 455, 456, 457, 458, 459, 460, 461, 462, 463, 464, 465, 466, 467, 65, 66, 67, 68, 222, 468, 469, 470, 471, 472, 473, 205, 206, 210, 211, 212, 213, 214, 474, 475, 476, 477, 232, 233, 478, 479, 480, 481, 482, 483, 133, 134, 30, 135, 54, 55, 56, 136, 177, 178, 179, 180, 48, 49, 648, 649, 650, 651, 652, 653, 654, 655, 656, 657, 658, 659, 660, 673, 674, 675, 686, 687, 688, 689, 690, 691, 676, 677, 678, 679, 680, 681, 682, 683, 684, 685, 692, 693, 694, 695, 696, 697, 698, 699, 700, 701, 702, 703] rfl gwL_wsX5_addPts
set_option maxRecDepth 100000 in
theorem gL_law_X5_addPts : GoodIn wsL_law (wsV RL 53 RX5 yX5_addPts wsX5_addPts) := goodIn_app (goodIn_of _ (by decide +kernel)) ggL_law_X5_addPts
set_option maxRecDepth 100000 in
theorem ggL_law_X6_addPts : GoodIn wsL_law wsX6_addPts := goodIn_r _ [487, 185, 186, 5, 187, 387, 388, 389, 390, 162, 288, 289, 290, 291, 292, 293, 294, 295, 110, 101, 296, 297, 298, 299, 105, 300, 301, 302, 303, 391, 392, 393, 394, 106, 103, 395, 396, 397, 398, 399, 400, 401, 402, 403, 404, 312, 313, 314, 315, 308, 309, 310, 311, 316, 317, 318, 319, 320, 321, 322, 323, 107, 324, 325, 326, 327, 328, 329, 330, 108, 109, 331, 332, 333, 334, 335, 336, 337, 338, 339, 340, 341, 342, 343, 344, 345, 346, 347, 348, 349, 350, 351, 488, 489, 490, 491, 492, 493, 494, 495, 496, 497, 498, 499, 352, 353, 354, 355, 500, 501, 502, 503, 504, 505, 506, 507, 508, 509, 510, 511, 304, 305, 306, 307, 512, 513, 514, 515, 516, 517, 518, 519, 520, 521, 522, 523, 524, 525, 526, 527, 104, 192, 193, 194, 195, 163, 661, 662, 663, 664, 665, 666, 667, 668, 669, 670, 671, 672] rfl gwL_wsX6_addPts
set_option maxRecDepth 100000 in
theorem gL_law_X6_addPts : GoodIn wsL_law (wsV RL 57 RX6 yX6_addPts wsX6_addPts) := goodIn_app (goodIn_of _ (by decide +kernel)) ggL_law_X6_addPts
set_option maxRecDepth 100000 in
theorem ggL_law_X5_dbl : GoodIn wsL_law wsX5_dbl := goodIn_r _ [531, 532, 414, 415, 2, 416, 43, 125, 126, 127, 417, 373, 374, 375, 47, 39, 128, 129, 130, 131, 28, 376, 377, 378, 38, 379, 380, 381, 75, 382, 78, 79, 80, 76, 77, 215, 216, 138, 217, 239, 240, 241, 34, 242, 63, 69, 243, 244, 141, 142, 143, 245, 246, 247, 248, 62, 249, 250, 18, 251, 252, 253, 254, 255, 70, 256, 257, 258, 259, 260, 261, 262, 263, 280, 269, 270, 271, 61, 272, 273, 274, 234, 275, 418, 419, 420, 42, 421, 90, 89, 422, 137, 139, 140, 423, 424, 425, 426, 427, 87, 91, 88, 92, 85, 93, 94, 428, 429, 430, 431, 95, 432, 433, 434, 435, 223, 224, 225, 226, 227, 228, 436, 437, 438, 439, 440, 282, 283, 207, 208, 209, 441, 442, 443, 444, 96, 445, 446, 447, 448, 86, 449, 277, 278, 279, 64, 268, 450, 451, 265, 266, 267, 452, 453, 454, 455, 456, 457, 458, 459, 460, 461, 462, 463, 464, 465, 466, 467, 65, 66, 67, 68, 222, 468, 469, 470, 471, 472, 473, 205, 206, 210, 211, 212, 213, 214, 474, 475, 476, 477, 232, 233, 478, 479, 480, 481, 482, 483, 133, 134, 30, 135, 54, 55, 56, 136, 177, 178, 179, 180, 48, 49, 648, 649, 650, 651, 652, 653, 654, 655, 656, 657, 658, 659, 660, 673, 674, 675, 686, 687, 688, 689, 690, 691, 676, 677, 678, 679, 680, 681, 682, 683, 684, 685, 692, 693, 694, 695, 696, 697, 698, 699, 700, 701, 702, 703] rfl gwL_wsX5_dbl
set_option maxRecDepth 100000 in
theorem gL_law_X5_dbl : GoodIn wsL_law (wsV RL 58 RX5 yX5_dbl wsX5_dbl) := goodIn_app (goodIn_of _ (by decide +kernel)) ggL_law_X5_dbl
set_option maxRecDepth 100000 in
theorem ggL_law_X6_dbl : GoodIn wsL_law wsX6_dbl := goodIn_r _ [536, 537, 485, 486, 5, 487, 185, 186, 187, 387, 388, 389, 390, 162, 288, 289, 290, 291, 292, 293, 294, 295, 110, 101, 296, 297, 298, 299, 105, 300, 301, 302, 303, 391, 392, 393, 394, 106, 103, 395, 396, 397, 398, 399, 400, 401, 402, 403, 404, 312, 313, 314, 315, 308, 309, 310, 311, 316, 317, 318, 319, 320, 321, 322, 323, 107, 324, 325, 326, 327, 328, 329, 330, 108, 109, 331, 332, 333, 334, 335, 336, 337, 338, 339, 340, 341, 342, 343, 344, 345, 346, 347, 348, 349, 350, 351, 488, 489, 490, 491, 492, 493, 494, 495, 496, 497, 498, 499, 352, 353, 354, 355, 500, 501, 502, 503, 504, 505, 506, 507, 508, 509, 510, 511, 304, 305, 306, 307, 512, 513, 514, 515, 516, 517, 518, 519, 520, 521, 522, 523, 524, 525, 526, 527, 104, 192, 193, 194, 195, 163, 661, 662, 663, 664, 665, 666, 667, 668, 669, 670, 671, 672] rfl gwL_wsX6_dbl
set_option maxRecDepth 100000 in
theorem gL_law_X6_dbl : GoodIn wsL_law (wsV RL 62 RX6 yX6_dbl wsX6_dbl) := goodIn_app (goodIn_of _ (by decide +kernel)) ggL_law_X6_dbl
set_option maxRecDepth 100000 in
theorem ggL_law_X5_scalarMul : GoodIn wsL_law wsX5_scalarMul := goodIn_r _ [541, 43, 125, 126, 2, 127, 150, 151, 152, 417, 373, 374, 375, 47, 39, 128, 129, 130, 131, 28, 376, 377, 378, 38, 379, 380, 381, 75, 382, 78, 79, 80, 76, 77, 215, 216, 138, 217, 239, 240, 241, 34, 242, 63, 69, 243, 244, 141, 142, 143, 245, 246, 247, 248, 62, 249, 250, 18, 251, 252, 253, 254, 255, 70, 256, 257, 258, 259, 260, 261, 262, 263, 280, 269, 270, 271, 61, 272, 273, 274, 234, 275, 153, 154, 155, 156, 31, 542, 543, 544, 42, 545, 546, 419, 420, 421, 90, 89, 422, 137, 139, 140, 445, 446, 447, 448, 88, 85, 95, 86, 94, 87, 96, 440, 282, 283, 207, 208, 209, 434, 449, 277, 278, 279, 64, 268, 450, 451, 265, 266, 267, 436, 437, 438, 439, 547, 424, 425, 426, 427, 91, 92, 93, 428, 429, 430, 431, 432, 433, 435, 223, 224, 225, 226, 227, 228, 441, 442, 443, 444, 452, 453, 454, 455, 456, 457, 458, 459, 460, 461, 462, 463, 464, 465, 466, 467, 65, 66, 67, 68, 222, 468, 469, 470, 471, 472, 473, 205, 206, 210, 211, 212, 213, 214, 474, 475, 476, 477, 232, 233, 478, 479, 480, 481, 482, 483, 133, 134, 30, 135, 54, 55, 56, 136, 177, 178, 179, 180, 48, 49, 648, 649, 650, 651, 652, 653, 654, 655, 656, 657, 658, 659, 660, 673, 674, 675, 686, 687, 688, 689, 690, 691, 676, 677, 678, 679, 680, 681, 682, 683, 684, 685, 692, 693, 694, 695, 696, 697, 698, 699, 700, 701, 702, 703] rfl gwL_wsX5_scalarMul
set_option maxRecDepth 100000 in
theorem gL_law_X5_scalarMul : GoodIn wsL_law (wsV RL 63 RX5 yX5_scalarMul wsX5_scalarMul) := goodIn_app (goodIn_of _ (by decide +kernel)) ggL_law_X5_scalarMul
set_option maxRecDepth 100000 in
theorem ggL_law_X6_scalarMul : GoodIn wsL_law wsX6_scalarMul := goodIn_r _ [551, 185, 186, 5, 187, 552, 553, 554, 387, 388, 389, 390, 162, 288, 289, 290, 291, 292, 293, 294, 295, 110, 101, 296, 297, 298, 299, 105, 300, 301, 302, 303, 391, 392, 393, 394, 106, 103, 395, 396, 397, 398, 399, 400, 401, 402, 403, 404, 312, 313, 314, 315, 308, 309, 310, 311, 316, 317, 318, 319, 320, 321, 322, 323, 107, 324, 325, 326, 327, 328, 329, 330, 108, 109, 331, 332, 333, 334, 335, 336, 337, 338, 339, 340, 341, 342, 343, 344, 345, 346, 347, 348, 349, 350, 351, 555, 556, 557, 558, 488, 489, 490, 491, 492, 493, 494, 495, 496, 497, 498, 499, 352, 353, 354, 355, 500, 501, 502, 503, 504, 505, 506, 507, 508, 509, 510, 511, 304, 305, 306, 307, 512, 513, 514, 515, 516, 517, 518, 519, 520, 521, 522, 523, 524, 525, 526, 527, 104, 192, 193, 194, 195, 163, 661, 662, 663, 664, 665, 666, 667, 668, 669, 670, 671, 672] rfl gwL_wsX6_scalarMul
set_option maxRecDepth 100000 in
theorem gL_law_X6_scalarMul : GoodIn wsL_law (wsV RL 66 RX6 yX6_scalarMul wsX6_scalarMul) := goodIn_app (goodIn_of _ (by decide +kernel)) ggL_law_X6_scalarMul
set_option maxRecDepth 100000 in
theorem ggL_law_X5_negate : GoodIn wsL_law wsX5_negate := goodIn_r _ [562, 39, 125, 126, 2, 127, 417, 373, 374, 375, 47, 128, 129, 130, 131, 28, 376, 377, 378, 38, 379, 380, 381, 75, 382, 78, 79, 80, 76, 77, 215, 216, 138, 217, 239, 240, 241, 34, 242, 63, 69, 243, 244, 141, 142, 143, 245, 246, 247, 248, 62, 249, 250, 18, 251, 252, 253, 254, 255, 70, 256, 257, 258, 259, 260, 261, 262, 263, 280, 269, 270, 271, 61, 272, 273, 274, 234, 275, 563, 564, 565, 30, 566, 54, 55, 56, 567, 223, 224, 225, 226, 227, 228, 568, 569, 570, 571, 281, 282, 283, 207, 208, 209, 572, 137, 139, 140, 573, 437, 438, 439, 177, 178, 179, 180, 48, 49, 648, 649, 650, 651, 652, 653, 654, 655, 656, 657, 658, 659, 660, 673, 674, 675, 686, 687, 688, 689, 690, 691, 676, 677, 678, 679, 680, 681, 682, 683, 684, 685] rfl gwL_wsX5_negate
set_option maxRecDepth 100000 in
theorem gL_law_X5_negate : GoodIn wsL_law (wsV RL 67 RX5 yX5_negate wsX5_negate) := goodIn_app (goodIn_of _ (by decide +kernel)) ggL_law_X5_negate
set_option maxRecDepth 100000 in
theorem ggL_law_X6_negate : GoodIn wsL_law wsX6_negate := goodIn_r _ [577, 106, 185, 186, 5, 187, 387, 388, 389, 390, 162, 288, 289, 290, 291, 292, 293, 294, 295, 110, 101, 296, 297, 298, 299, 105, 300, 301, 302, 303, 391, 392, 393, 394, 103, 395, 396, 397, 398, 399, 400, 401, 402, 403, 404, 312, 313, 314, 315, 308, 309, 310, 311, 316, 317, 318, 319, 320, 321, 322, 323, 107, 324, 325, 326, 327, 328, 329, 330, 108, 109, 331, 332, 333, 334, 335, 336, 337, 338, 339, 340, 341, 342, 343, 344, 345, 346, 347, 348, 349, 350, 351, 352, 353, 354, 355, 520, 521, 522, 523, 524, 525, 526, 527, 104, 192, 193, 194, 195, 163, 661, 662, 663, 664, 665, 666, 667, 668, 669, 670, 671, 672] rfl gwL_wsX6_negate
set_option maxRecDepth 100000 in
theorem gL_law_X6_negate : GoodIn wsL_law (wsV RL 70 RX6 yX6_negate wsX6_negate) := goodIn_app (goodIn_of _ (by decide +kernel)) ggL_law_X6_negate
set_option maxRecDepth 100000 in
theorem ggL_law_X5_isSame : GoodIn wsL_law wsX5_isSame := goodIn_r _ [581, 125, 126, 2, 127, 128, 129, 130, 131, 28, 582, 583, 584, 30, 585, 56, 54, 55, 586, 216, 138, 217, 648, 649, 650, 651, 652, 653, 654, 655, 656, 657, 658, 659, 660, 673, 674, 675] rfl gwL_wsX5_isSame
set_option maxRecDepth 100000 in
theorem gL_law_X5_isSame : GoodIn wsL_law (wsV RL 71 RX5 yX5_isSame wsX5_isSame) := goodIn_app (goodIn_of _ (by decide +kernel)) ggL_law_X5_isSame
set_option maxRecDepth 100000 in
theorem ggL_law_X6_isSame : GoodIn wsL_law wsX6_isSame := goodIn_r _ [590, 103, 110, 101, 185, 186, 5, 187, 661, 662, 663, 664, 665, 666, 667, 668, 669, 670, 671, 672] rfl gwL_wsX6_isSame
set_option maxRecDepth 100000 in
theorem gL_law_X6_isSame : GoodIn wsL_law (wsV RL 74 RX6 yX6_isSame wsX6_isSame) := goodIn_app (goodIn_of _ (by decide +kernel)) ggL_law_X6_isSame
set_option maxRecDepth 100000 in
theorem ggL_law_X5_verify : GoodIn wsL_law wsX5_verify := goodIn_r _ [594, 35, 26, 45, 44, 43, 46, 148, 168, 417, 373, 374, 2, 375, 47, 39, 125, 126, 127, 128, 129, 130, 131, 28, 376, 377, 378, 38, 379, 380, 381, 75, 382, 78, 79, 80, 76, 77, 215, 216, 138, 217, 239, 240, 241, 34, 242, 63, 69, 243, 244, 141, 142, 143, 245, 246, 247, 248, 62, 249, 250, 18, 251, 252, 253, 254, 255, 70, 256, 257, 258, 259, 260, 261, 262, 263, 280, 269, 270, 271, 61, 272, 273, 274, 234, 275, 150, 151, 152, 595, 219, 220, 221, 222, 223, 224, 225, 226, 227, 228, 229, 208, 209, 230, 211, 212, 213, 214, 231, 232, 233, 153, 154, 155, 156, 31, 596, 597, 598, 599, 600, 282, 283, 207, 601, 602, 465, 466, 467, 65, 66, 67, 68, 468, 137, 139, 140, 469, 470, 471, 472, 473, 205, 206, 210, 474, 475, 476, 477, 478, 479, 480, 481, 482, 437, 438, 439, 603, 604, 605, 606, 607, 608, 542, 543, 544, 42, 545, 546, 419, 420, 421, 90, 89, 422, 445, 446, 447, 448, 88, 85, 95, 86, 94, 87, 96, 440, 434, 449, 277, 278, 279, 64, 268, 450, 451, 265, 266, 267, 436, 547, 424, 425, 426, 427, 91, 92, 93, 428, 429, 430, 431, 432, 433, 435, 441, 442, 443, 444, 452, 453, 454, 455, 460, 461, 462, 463, 464, 483, 133, 134, 30, 135, 54, 55, 56, 136, 423, 648, 649, 650, 651, 652, 653, 654, 655, 656, 657, 658, 659, 660, 673, 674, 675, 686, 687, 688, 689, 690, 691, 676, 677, 678, 679, 680, 681, 682, 683, 684, 685, 692, 693, 694, 695, 696, 697, 698, 699, 700, 701, 702, 703] rfl gwL_wsX5_verify
set_option maxRecDepth 100000 in
theorem gL_law_X5_verify : GoodIn wsL_law (wsV RL 75 RX5 yX5_verify wsX5_verify) := goodIn_app (goodIn_of _ (by decide +kernel)) ggL_law_X5_verify
set_option maxRecDepth 100000 in
theorem ggL_law_X6_verify : GoodIn wsL_law wsX6_verify := goodIn_r _ [612, 106, 552, 553, 5, 554, 387, 388, 389, 390, 162, 185, 186, 187, 288, 289, 290, 291, 292, 293, 294, 295, 110, 101, 296, 297, 298, 299, 105, 300, 301, 302, 303, 391, 392, 393, 394, 103, 395, 396, 397, 398, 399, 400, 401, 402, 403, 404, 312, 313, 314, 315, 308, 309, 310, 311, 316, 317, 318, 319, 320, 321, 322, 323, 107, 324, 325, 326, 327, 328, 329, 330, 108, 109, 331, 332, 333, 334, 335, 336, 337, 338, 339, 340, 341, 342, 343, 344, 345, 346, 347, 348, 349, 350, 351, 352, 353, 354, 355, 613, 614, 615, 616, 508, 509, 510, 511, 304, 305, 306, 307, 504, 505, 506, 507, 496, 497, 498, 499, 512, 513, 514, 515, 516, 517, 518, 519, 500, 501, 502, 503, 617, 618, 619, 620, 621, 622, 623, 624, 555, 556, 557, 558, 488, 489, 490, 491, 492, 493, 494, 495, 661, 662, 663, 664, 665, 666, 667, 668, 669, 670, 671, 672] rfl gwL_wsX6_verify
set_option maxRecDepth 100000 in
theorem gL_law_X6_verify : GoodIn wsL_law (wsV RL 79 RX6 yX6_verify wsX6_verify) := goodIn_app (goodIn_of _ (by decide +kernel)) ggL_law_X6_verify
set_option maxRecDepth 100000 in
theorem ggL_law_X5_reckon : GoodIn wsL_law wsX5_reckon := goodIn_r _ [628, 35, 26, 44, 45, 150, 151, 2, 152, 595, 219, 220, 34, 221, 61, 69, 70, 62, 222, 223, 138, 224, 225, 226, 227, 228, 229, 208, 209, 230, 211, 212, 213, 214, 231, 232, 233, 234, 153, 154, 155, 156, 31, 603, 604, 605, 606, 63, 607, 245, 246, 247, 248, 243, 249, 250, 18, 251, 252, 253, 254, 255, 256, 257, 258, 259, 260, 261, 262, 263, 602, 465, 466, 467, 65, 66, 67, 68, 468, 137, 139, 140, 141, 142, 143, 469, 282, 283, 207, 470, 471, 472, 473, 205, 206, 210, 474, 475, 476, 477, 478, 479, 480, 481, 482, 437, 438, 439, 272, 273, 274, 629, 630, 631, 632, 633, 269, 270, 271, 275, 216, 217, 634, 608, 240, 241, 242, 244, 635, 177, 178, 179, 180, 48, 49, 648, 649, 650, 651, 652, 653, 654, 655, 656, 657, 658, 659, 660, 676, 677, 678, 679, 680, 681, 682, 683, 684, 685] rfl gwL_wsX5_reckon
set_option maxRecDepth 100000 in
theorem gL_law_X5_reckon : GoodIn wsL_law (wsV RL 80 RX5 yX5_reckon wsX5_reckon) := goodIn_app (goodIn_of _ (by decide +kernel)) ggL_law_X5_reckon
set_option maxRecDepth 100000 in
theorem ggL_law_X6_reckon : GoodIn wsL_law wsX6_reckon := goodIn_r _ [639, 110, 101, 288, 289, 290, 5, 291, 292, 293, 294, 295, 296, 297, 298, 299, 105, 300, 301, 302, 303, 552, 553, 554, 352, 353, 354, 355, 308, 309, 310, 311, 617, 618, 619, 620, 621, 622, 623, 624, 107, 325, 326, 327, 328, 329, 330, 108, 324, 109, 331, 332, 333, 334, 335, 336, 337, 338, 339, 340, 341, 342, 343, 344, 345, 346, 347, 312, 313, 314, 315, 348, 349, 350, 351, 500, 501, 502, 503, 316, 317, 318, 319, 320, 321, 322, 323, 613, 614, 615, 616, 508, 509, 510, 511, 304, 305, 306, 307, 504, 505, 506, 507, 496, 497, 498, 499, 512, 513, 514, 515, 516, 517, 518, 519, 524, 525, 526, 527, 104, 192, 193, 194, 195, 163, 661, 662, 663, 664, 665, 666, 667, 668, 669, 670, 671, 672] rfl gwL_wsX6_reckon
set_option maxRecDepth 100000 in
theorem gL_law_X6_reckon : GoodIn wsL_law (wsV RL 84 RX6 yX6_reckon wsX6_reckon) := goodIn_app (goodIn_of _ (by decide +kernel)) ggL_law_X6_reckon
set_option maxRecDepth 100000 in
theorem ggL_law_X5_state : GoodIn wsL_law wsX5_state := goodIn_r _ [643, 23, 47, 48, 49, 648, 649, 650, 651, 652, 653, 654, 655, 656, 657, 658, 659, 660] rfl gwL_wsX5_state
set_option maxRecDepth 100000 in
theorem gL_law_X5_state : GoodIn wsL_law (wsV RL 85 RX5 yX5_state wsX5_state) := goodIn_app (goodIn_of _ (by decide +kernel)) ggL_law_X5_state
set_option maxRecDepth 100000 in
theorem ggL_law_X6_state : GoodIn wsL_law wsX6_state := goodIn_r _ [647, 110, 162, 104, 163, 661, 662, 663, 664, 665, 666, 667, 668, 669, 670, 671, 672] rfl gwL_wsX6_state
set_option maxRecDepth 100000 in
theorem gL_law_X6_state : GoodIn wsL_law (wsV RL 89 RX6 yX6_state wsX6_state) := goodIn_app (goodIn_of _ (by decide +kernel)) ggL_law_X6_state
