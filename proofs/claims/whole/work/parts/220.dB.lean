theorem dX4_init_0 : decode cX4_init 0 = .ok (.aload_n 0, 1) := by decide +kernel
theorem dX4_init_1 : decode cX4_init 1 = .ok (.invokespecial 3, 3) := by decide +kernel
theorem dX4_init_4 : decode cX4_init 4 = .ok (.aload_n 0, 1) := by decide +kernel
theorem dX4_init_5 : decode cX4_init 5 = .ok (.aload_n 2, 1) := by decide +kernel
theorem dX4_init_6 : decode cX4_init 6 = .ok (.putfield 9, 3) := by decide +kernel
theorem dX4_init_9 : decode cX4_init 9 = .ok (.aload_n 0, 1) := by decide +kernel
theorem dX4_init_10 : decode cX4_init 10 = .ok (.aload_n 3, 1) := by decide +kernel
theorem dX4_init_11 : decode cX4_init 11 = .ok (.putfield 15, 3) := by decide +kernel
theorem dX4_init_14 : decode cX4_init 14 = .ok (.aload_n 0, 1) := by decide +kernel
theorem dX4_init_15 : decode cX4_init 15 = .ok (.iload_n 1, 1) := by decide +kernel
theorem dX4_init_16 : decode cX4_init 16 = .ok (.newarray .int, 2) := by decide +kernel
theorem dX4_init_18 : decode cX4_init 18 = .ok (.putfield 19, 3) := by decide +kernel
theorem dX4_init_21 : decode cX4_init 21 = .ok (.aload_n 0, 1) := by decide +kernel
theorem dX4_init_22 : decode cX4_init 22 = .ok (.iload_n 1, 1) := by decide +kernel
theorem dX4_init_23 : decode cX4_init 23 = .ok (.newarray .int, 2) := by decide +kernel
theorem dX4_init_25 : decode cX4_init 25 = .ok (.putfield 22, 3) := by decide +kernel
theorem dX4_init_28 : decode cX4_init 28 = .ok (.aload_n 0, 1) := by decide +kernel
theorem dX4_init_29 : decode cX4_init 29 = .ok (.iload_n 1, 1) := by decide +kernel
theorem dX4_init_30 : decode cX4_init 30 = .ok (.newarray .int, 2) := by decide +kernel
theorem dX4_init_32 : decode cX4_init 32 = .ok (.putfield 25, 3) := by decide +kernel
theorem dX4_init_35 : decode cX4_init 35 = .ok (.aload_n 0, 1) := by decide +kernel
theorem dX4_init_36 : decode cX4_init 36 = .ok (.iconst 1, 1) := by decide +kernel
theorem dX4_init_37 : decode cX4_init 37 = .ok (.putfield 28, 3) := by decide +kernel
theorem dX4_init_40 : decode cX4_init 40 = .ok (.aload_n 0, 1) := by decide +kernel
theorem dX4_init_41 : decode cX4_init 41 = .ok (.iload_n 1, 1) := by decide +kernel
theorem dX4_init_42 : decode cX4_init 42 = .ok (.newarray .int, 2) := by decide +kernel
theorem dX4_init_44 : decode cX4_init 44 = .ok (.putfield 32, 3) := by decide +kernel
theorem dX4_init_47 : decode cX4_init 47 = .ok (.aload_n 0, 1) := by decide +kernel
theorem dX4_init_48 : decode cX4_init 48 = .ok (.iload_n 1, 1) := by decide +kernel
theorem dX4_init_49 : decode cX4_init 49 = .ok (.newarray .int, 2) := by decide +kernel
theorem dX4_init_51 : decode cX4_init 51 = .ok (.putfield 35, 3) := by decide +kernel
theorem dX4_init_54 : decode cX4_init 54 = .ok (.aload_n 0, 1) := by decide +kernel
theorem dX4_init_55 : decode cX4_init 55 = .ok (.iload_n 1, 1) := by decide +kernel
theorem dX4_init_56 : decode cX4_init 56 = .ok (.newarray .int, 2) := by decide +kernel
theorem dX4_init_58 : decode cX4_init 58 = .ok (.putfield 38, 3) := by decide +kernel
theorem dX4_init_61 : decode cX4_init 61 = .ok (.aload_n 0, 1) := by decide +kernel
theorem dX4_init_62 : decode cX4_init 62 = .ok (.iload_n 1, 1) := by decide +kernel
theorem dX4_init_63 : decode cX4_init 63 = .ok (.newarray .int, 2) := by decide +kernel
theorem dX4_init_65 : decode cX4_init 65 = .ok (.putfield 41, 3) := by decide +kernel
theorem dX4_init_68 : decode cX4_init 68 = .ok (.aload_n 0, 1) := by decide +kernel
theorem dX4_init_69 : decode cX4_init 69 = .ok (.iload_n 1, 1) := by decide +kernel
theorem dX4_init_70 : decode cX4_init 70 = .ok (.newarray .int, 2) := by decide +kernel
theorem dX4_init_72 : decode cX4_init 72 = .ok (.putfield 44, 3) := by decide +kernel
theorem dX4_init_75 : decode cX4_init 75 = .ok (.aload_n 0, 1) := by decide +kernel
theorem dX4_init_76 : decode cX4_init 76 = .ok (.iload_n 1, 1) := by decide +kernel
theorem dX4_init_77 : decode cX4_init 77 = .ok (.newarray .int, 2) := by decide +kernel
theorem dX4_init_79 : decode cX4_init 79 = .ok (.putfield 47, 3) := by decide +kernel
theorem dX4_init_82 : decode cX4_init 82 = .ok (.return_, 1) := by decide +kernel
set_option maxRecDepth 20000 in
theorem ggX4_startAtIdentity_X1_set : GoodIn wsX4_startAtIdentity wsX1_set := goodIn_r _ [6, 7, 8, 9, 10] (by decide +kernel) (by decide +kernel)
set_option maxRecDepth 20000 in
theorem gX4_startAtIdentity_X1_set : GoodIn wsX4_startAtIdentity (va_wsS RX4 50 yX1_set wsX1_set) := goodIn_app (goodIn_of _ (by decide +kernel)) ggX4_startAtIdentity_X1_set
theorem dX4_startAtIdentity_0 : decode cX4_startAtIdentity 0 = .ok (.aload_n 0, 1) := by decide +kernel
theorem dX4_startAtIdentity_1 : decode cX4_startAtIdentity 1 = .ok (.iconst 1, 1) := by decide +kernel
theorem dX4_startAtIdentity_2 : decode cX4_startAtIdentity 2 = .ok (.putfield 28, 3) := by decide +kernel
theorem dX4_startAtIdentity_5 : decode cX4_startAtIdentity 5 = .ok (.aload_n 0, 1) := by decide +kernel
theorem dX4_startAtIdentity_6 : decode cX4_startAtIdentity 6 = .ok (.getfield 25, 3) := by decide +kernel
theorem dX4_startAtIdentity_9 : decode cX4_startAtIdentity 9 = .ok (.iconst 1, 1) := by decide +kernel
theorem dX4_startAtIdentity_10 : decode cX4_startAtIdentity 10 = .ok (.invokestatic 50, 3) := by decide +kernel
theorem dX4_startAtIdentity_13 : decode cX4_startAtIdentity 13 = .ok (.return_, 1) := by decide +kernel
set_option maxRecDepth 20000 in
theorem ggX4_takeTimes_X4_startAtIdentity : GoodIn wsX4_takeTimes wsX4_startAtIdentity := goodIn_r _ [5, 6, 7, 8, 9, 10, 11, 12, 13, 14, 15, 119, 120, 121, 122, 123, 124, 125, 126, 127, 128, 129, 130] (by decide +kernel) (by decide +kernel)
set_option maxRecDepth 20000 in
theorem gX4_takeTimes_X4_startAtIdentity : GoodIn wsX4_takeTimes (wsV RX4 56 RX4 yX4_startAtIdentity wsX4_startAtIdentity) := goodIn_app (goodIn_of _ (by decide +kernel)) ggX4_takeTimes_X4_startAtIdentity
set_option maxRecDepth 20000 in
theorem ggX4_takeTimes_X4_addItself : GoodIn wsX4_takeTimes wsX4_addItself := goodIn_r _ [19, 6, 20, 21, 22, 7, 23, 24, 25, 26, 27, 28, 10, 29, 30, 31, 32, 33, 34, 35, 36, 37, 38, 39, 40, 41, 13, 14, 15, 42, 43, 44, 45, 46, 47, 48, 49, 50, 51, 52, 53, 54, 55, 56, 57, 58, 59, 60, 61, 62, 63, 64, 65, 66, 67, 68, 69, 70, 71, 72, 73, 74, 75, 76, 77, 78, 79, 80, 81, 82, 83, 84, 85, 86, 87, 88, 89, 119, 120, 121, 122, 123, 124, 125, 126, 127, 128, 129, 130, 131, 132, 133, 134, 135, 136, 137, 138, 139, 140] (by decide +kernel) (by decide +kernel)
set_option maxRecDepth 20000 in
theorem gX4_takeTimes_X4_addItself : GoodIn wsX4_takeTimes (wsV RX4 59 RX4 yX4_addItself wsX4_addItself) := goodIn_app (goodIn_of _ (by decide +kernel)) ggX4_takeTimes_X4_addItself
set_option maxRecDepth 20000 in
theorem ggX4_takeTimes_X4_addPoint : GoodIn wsX4_takeTimes wsX4_addPoint := goodIn_r _ [93, 94, 6, 25, 95, 20, 96, 21, 97, 24, 98, 99, 100, 4, 101, 22, 7, 102, 103, 33, 34, 35, 36, 37, 38, 39, 40, 41, 13, 14, 15, 42, 43, 44, 45, 46, 47, 48, 49, 50, 51, 52, 53, 54, 55, 56, 57, 58, 59, 60, 61, 62, 63, 104, 105, 10, 106, 107, 108, 109, 110, 86, 87, 88, 89, 73, 74, 75, 76, 77, 27, 28, 29, 30, 31, 32, 111, 112, 113, 114, 26, 16, 17, 18, 19, 23, 64, 65, 66, 67, 68, 69, 70, 71, 72, 78, 79, 80, 81, 82, 83, 84, 85, 115, 116, 117, 118, 8, 9, 11, 12, 141, 142, 143, 119, 120, 121, 122, 123, 124, 125, 126, 127, 128, 129, 130, 131, 132, 133, 134, 135, 136, 137, 138, 139, 140] (by decide +kernel) (by decide +kernel)
set_option maxRecDepth 20000 in
theorem gX4_takeTimes_X4_addPoint : GoodIn wsX4_takeTimes (wsV RX4 62 RX4 yX4_addPoint wsX4_addPoint) := goodIn_app (goodIn_of _ (by decide +kernel)) ggX4_takeTimes_X4_addPoint
theorem dX4_takeTimes_0 : decode cX4_takeTimes 0 = .ok (.aload_n 0, 1) := by decide +kernel
theorem dX4_takeTimes_1 : decode cX4_takeTimes 1 = .ok (.invokevirtual 56, 3) := by decide +kernel
theorem dX4_takeTimes_4 : decode cX4_takeTimes 4 = .ok (.aload_n 1, 1) := by decide +kernel
theorem dX4_takeTimes_5 : decode cX4_takeTimes 5 = .ok (.arraylength, 1) := by decide +kernel
theorem dX4_takeTimes_6 : decode cX4_takeTimes 6 = .ok (.iconst 1, 1) := by decide +kernel
theorem dX4_takeTimes_7 : decode cX4_takeTimes 7 = .ok (.isub, 1) := by decide +kernel
theorem dX4_takeTimes_8 : decode cX4_takeTimes 8 = .ok (.istore_n 3, 1) := by decide +kernel
theorem dX4_takeTimes_9 : decode cX4_takeTimes 9 = .ok (.iload_n 3, 1) := by decide +kernel
theorem dX4_takeTimes_10 : decode cX4_takeTimes 10 = .ok (.ifCond .lt 45, 3) := by decide +kernel
theorem dX4_takeTimes_13 : decode cX4_takeTimes 13 = .ok (.bipush 30, 2) := by decide +kernel
theorem dX4_takeTimes_15 : decode cX4_takeTimes 15 = .ok (.istore 4, 2) := by decide +kernel
theorem dX4_takeTimes_17 : decode cX4_takeTimes 17 = .ok (.iload 4, 2) := by decide +kernel
theorem dX4_takeTimes_19 : decode cX4_takeTimes 19 = .ok (.ifCond .lt 30, 3) := by decide +kernel
theorem dX4_takeTimes_22 : decode cX4_takeTimes 22 = .ok (.aload_n 0, 1) := by decide +kernel
theorem dX4_takeTimes_23 : decode cX4_takeTimes 23 = .ok (.invokevirtual 59, 3) := by decide +kernel
theorem dX4_takeTimes_26 : decode cX4_takeTimes 26 = .ok (.aload_n 1, 1) := by decide +kernel
theorem dX4_takeTimes_27 : decode cX4_takeTimes 27 = .ok (.iload_n 3, 1) := by decide +kernel
theorem dX4_takeTimes_28 : decode cX4_takeTimes 28 = .ok (.iaload, 1) := by decide +kernel
theorem dX4_takeTimes_29 : decode cX4_takeTimes 29 = .ok (.iload 4, 2) := by decide +kernel
theorem dX4_takeTimes_31 : decode cX4_takeTimes 31 = .ok (.iushr, 1) := by decide +kernel
theorem dX4_takeTimes_32 : decode cX4_takeTimes 32 = .ok (.iconst 1, 1) := by decide +kernel
theorem dX4_takeTimes_33 : decode cX4_takeTimes 33 = .ok (.iand, 1) := by decide +kernel
theorem dX4_takeTimes_34 : decode cX4_takeTimes 34 = .ok (.iconst 1, 1) := by decide +kernel
theorem dX4_takeTimes_35 : decode cX4_takeTimes 35 = .ok (.if_icmp .ne 8, 3) := by decide +kernel
theorem dX4_takeTimes_38 : decode cX4_takeTimes 38 = .ok (.aload_n 0, 1) := by decide +kernel
theorem dX4_takeTimes_39 : decode cX4_takeTimes 39 = .ok (.aload_n 2, 1) := by decide +kernel
theorem dX4_takeTimes_40 : decode cX4_takeTimes 40 = .ok (.invokevirtual 62, 3) := by decide +kernel
theorem dX4_takeTimes_43 : decode cX4_takeTimes 43 = .ok (.iinc 4 (-1), 3) := by decide +kernel
theorem dX4_takeTimes_46 : decode cX4_takeTimes 46 = .ok (.goto (-29), 3) := by decide +kernel
theorem dX4_takeTimes_49 : decode cX4_takeTimes 49 = .ok (.iinc 3 (-1), 3) := by decide +kernel
theorem dX4_takeTimes_52 : decode cX4_takeTimes 52 = .ok (.goto (-43), 3) := by decide +kernel
theorem dX4_takeTimes_55 : decode cX4_takeTimes 55 = .ok (.return_, 1) := by decide +kernel
set_option maxRecDepth 20000 in
theorem ggX4_addPoint_X4_bringToSameZ : GoodIn wsX4_addPoint wsX4_bringToSameZ := goodIn_r _ [14, 7, 15, 16, 4, 17, 6, 18, 19, 20, 21, 22, 23, 24, 25, 26, 27, 28, 29, 30, 31, 32, 33, 34, 35, 36, 37, 38, 39, 40, 41, 42, 43, 44, 45, 46, 47, 48, 49, 50, 51, 52, 114, 115, 116, 117, 118, 119, 120, 121, 122, 123, 124, 125, 111, 112, 113, 126, 127, 128, 129, 130, 131, 132, 133, 134, 135] (by decide +kernel) (by decide +kernel)
set_option maxRecDepth 20000 in
theorem gX4_addPoint_X4_bringToSameZ : GoodIn wsX4_addPoint (wsV RX4 69 RX4 yX4_bringToSameZ wsX4_bringToSameZ) := goodIn_app (goodIn_of _ (by decide +kernel)) ggX4_addPoint_X4_bringToSameZ
set_option maxRecDepth 20000 in
theorem ggX4_addPoint_X1_copy : GoodIn wsX4_addPoint wsX1_copy := goodIn_r _ [56, 57, 58, 59, 60] (by decide +kernel) (by decide +kernel)
set_option maxRecDepth 20000 in
theorem gX4_addPoint_X1_copy : GoodIn wsX4_addPoint (va_wsS RX4 72 yX1_copy wsX1_copy) := goodIn_app (goodIn_of _ (by decide +kernel)) ggX4_addPoint_X1_copy
set_option maxRecDepth 20000 in
theorem ggX4_addPoint_X3_subtract : GoodIn wsX4_addPoint wsX3_subtract := goodIn_r _ [64, 65, 66, 67, 55, 68, 69, 126, 127, 128, 129, 130, 131, 132, 133, 134, 135] (by decide +kernel) (by decide +kernel)
set_option maxRecDepth 20000 in
theorem gX4_addPoint_X3_subtract : GoodIn wsX4_addPoint (wsV RX4 76 RX3 yX3_subtract wsX3_subtract) := goodIn_app (goodIn_of _ (by decide +kernel)) ggX4_addPoint_X3_subtract
set_option maxRecDepth 20000 in
theorem ggX4_addPoint_X1_isZero : GoodIn wsX4_addPoint wsX1_isZero := goodIn_r _ [72, 73, 74, 55, 75] (by decide +kernel) (by decide +kernel)
set_option maxRecDepth 20000 in
theorem gX4_addPoint_X1_isZero : GoodIn wsX4_addPoint (va_wsS RX4 82 yX1_isZero wsX1_isZero) := goodIn_app (goodIn_of _ (by decide +kernel)) ggX4_addPoint_X1_isZero
set_option maxRecDepth 20000 in
theorem ggX4_addPoint_X4_addAlongChord : GoodIn wsX4_addPoint wsX4_addAlongChord := goodIn_r _ [79, 7, 16, 8, 15, 80, 3, 9, 5, 19, 20, 21, 22, 23, 24, 25, 26, 27, 28, 29, 30, 31, 32, 33, 34, 35, 36, 37, 38, 39, 40, 41, 42, 43, 44, 45, 46, 47, 48, 49, 50, 51, 52, 61, 62, 63, 64, 65, 66, 67, 55, 68, 69, 114, 115, 116, 117, 118, 119, 120, 121, 122, 123, 124, 125, 126, 127, 128, 129, 130, 131, 132, 133, 134, 135] (by decide +kernel) (by decide +kernel)
set_option maxRecDepth 20000 in
theorem gX4_addPoint_X4_addAlongChord : GoodIn wsX4_addPoint (wsV RX4 86 RX4 yX4_addAlongChord wsX4_addAlongChord) := goodIn_app (goodIn_of _ (by decide +kernel)) ggX4_addPoint_X4_addAlongChord
set_option maxRecDepth 20000 in
theorem ggX4_addPoint_X4_addItself : GoodIn wsX4_addPoint wsX4_addItself := goodIn_r _ [84, 2, 5, 7, 15, 16, 85, 9, 3, 80, 70, 71, 55, 72, 73, 74, 75, 19, 20, 21, 22, 23, 24, 25, 26, 27, 28, 29, 30, 31, 32, 33, 34, 35, 36, 37, 38, 39, 40, 41, 42, 43, 44, 45, 46, 47, 48, 49, 50, 51, 52, 86, 87, 88, 89, 90, 91, 92, 93, 94, 65, 66, 67, 68, 69, 95, 96, 97, 98, 99, 100, 101, 102, 61, 62, 63, 64, 114, 115, 116, 117, 118, 119, 120, 121, 122, 123, 124, 125, 126, 127, 128, 129, 130, 131, 132, 133, 134, 135] (by decide +kernel) (by decide +kernel)
set_option maxRecDepth 20000 in
theorem gX4_addPoint_X4_addItself : GoodIn wsX4_addPoint (wsV RX4 59 RX4 yX4_addItself wsX4_addItself) := goodIn_app (goodIn_of _ (by decide +kernel)) ggX4_addPoint_X4_addItself
set_option maxRecDepth 20000 in
theorem ggX4_addPoint_X4_addAtSameX : GoodIn wsX4_addPoint wsX4_addAtSameX := goodIn_r _ [106, 7, 15, 6, 5, 2, 16, 98, 92, 93, 22, 94, 65, 66, 67, 55, 68, 69, 95, 96, 97, 70, 71, 72, 73, 74, 75, 107, 108, 109, 110, 28, 29, 30, 114, 115, 116, 117, 118, 119, 120, 121, 122, 123, 124, 125, 126, 127, 128, 129, 130, 131, 132, 133, 134, 135] (by decide +kernel) (by decide +kernel)
set_option maxRecDepth 20000 in
theorem gX4_addPoint_X4_addAtSameX : GoodIn wsX4_addPoint (wsV RX4 89 RX4 yX4_addAtSameX wsX4_addAtSameX) := goodIn_app (goodIn_of _ (by decide +kernel)) ggX4_addPoint_X4_addAtSameX
theorem dX4_addPoint_0 : decode cX4_addPoint 0 = .ok (.aload_n 1, 1) := by decide +kernel
theorem dX4_addPoint_1 : decode cX4_addPoint 1 = .ok (.getfield 66, 3) := by decide +kernel
theorem dX4_addPoint_4 : decode cX4_addPoint 4 = .ok (.ifCond .eq 4, 3) := by decide +kernel
theorem dX4_addPoint_7 : decode cX4_addPoint 7 = .ok (.return_, 1) := by decide +kernel
theorem dX4_addPoint_8 : decode cX4_addPoint 8 = .ok (.aload_n 0, 1) := by decide +kernel
theorem dX4_addPoint_9 : decode cX4_addPoint 9 = .ok (.aload_n 1, 1) := by decide +kernel
theorem dX4_addPoint_10 : decode cX4_addPoint 10 = .ok (.invokevirtual 69, 3) := by decide +kernel
theorem dX4_addPoint_13 : decode cX4_addPoint 13 = .ok (.aload_n 0, 1) := by decide +kernel
theorem dX4_addPoint_14 : decode cX4_addPoint 14 = .ok (.getfield 28, 3) := by decide +kernel
theorem dX4_addPoint_17 : decode cX4_addPoint 17 = .ok (.ifCond .eq 31, 3) := by decide +kernel
theorem dX4_addPoint_20 : decode cX4_addPoint 20 = .ok (.aload_n 0, 1) := by decide +kernel
theorem dX4_addPoint_21 : decode cX4_addPoint 21 = .ok (.getfield 19, 3) := by decide +kernel
theorem dX4_addPoint_24 : decode cX4_addPoint 24 = .ok (.aload_n 0, 1) := by decide +kernel
theorem dX4_addPoint_25 : decode cX4_addPoint 25 = .ok (.getfield 32, 3) := by decide +kernel
theorem dX4_addPoint_28 : decode cX4_addPoint 28 = .ok (.invokestatic 72, 3) := by decide +kernel
theorem dX4_addPoint_31 : decode cX4_addPoint 31 = .ok (.aload_n 0, 1) := by decide +kernel
theorem dX4_addPoint_32 : decode cX4_addPoint 32 = .ok (.getfield 22, 3) := by decide +kernel
theorem dX4_addPoint_35 : decode cX4_addPoint 35 = .ok (.aload_n 0, 1) := by decide +kernel
theorem dX4_addPoint_36 : decode cX4_addPoint 36 = .ok (.getfield 35, 3) := by decide +kernel
theorem dX4_addPoint_39 : decode cX4_addPoint 39 = .ok (.invokestatic 72, 3) := by decide +kernel
theorem dX4_addPoint_42 : decode cX4_addPoint 42 = .ok (.aload_n 0, 1) := by decide +kernel
theorem dX4_addPoint_43 : decode cX4_addPoint 43 = .ok (.iconst 0, 1) := by decide +kernel
theorem dX4_addPoint_44 : decode cX4_addPoint 44 = .ok (.putfield 28, 3) := by decide +kernel
theorem dX4_addPoint_47 : decode cX4_addPoint 47 = .ok (.return_, 1) := by decide +kernel
theorem dX4_addPoint_48 : decode cX4_addPoint 48 = .ok (.aload_n 0, 1) := by decide +kernel
theorem dX4_addPoint_49 : decode cX4_addPoint 49 = .ok (.getfield 9, 3) := by decide +kernel
theorem dX4_addPoint_52 : decode cX4_addPoint 52 = .ok (.aload_n 0, 1) := by decide +kernel
theorem dX4_addPoint_53 : decode cX4_addPoint 53 = .ok (.getfield 38, 3) := by decide +kernel
theorem dX4_addPoint_56 : decode cX4_addPoint 56 = .ok (.aload_n 0, 1) := by decide +kernel
theorem dX4_addPoint_57 : decode cX4_addPoint 57 = .ok (.getfield 32, 3) := by decide +kernel
theorem dX4_addPoint_60 : decode cX4_addPoint 60 = .ok (.aload_n 0, 1) := by decide +kernel
theorem dX4_addPoint_61 : decode cX4_addPoint 61 = .ok (.getfield 19, 3) := by decide +kernel
theorem dX4_addPoint_64 : decode cX4_addPoint 64 = .ok (.invokevirtual 76, 3) := by decide +kernel
theorem dX4_addPoint_67 : decode cX4_addPoint 67 = .ok (.aload_n 0, 1) := by decide +kernel
theorem dX4_addPoint_68 : decode cX4_addPoint 68 = .ok (.getfield 9, 3) := by decide +kernel
theorem dX4_addPoint_71 : decode cX4_addPoint 71 = .ok (.aload_n 0, 1) := by decide +kernel
theorem dX4_addPoint_72 : decode cX4_addPoint 72 = .ok (.getfield 41, 3) := by decide +kernel
theorem dX4_addPoint_75 : decode cX4_addPoint 75 = .ok (.aload_n 0, 1) := by decide +kernel
theorem dX4_addPoint_76 : decode cX4_addPoint 76 = .ok (.getfield 35, 3) := by decide +kernel
theorem dX4_addPoint_79 : decode cX4_addPoint 79 = .ok (.aload_n 0, 1) := by decide +kernel
theorem dX4_addPoint_80 : decode cX4_addPoint 80 = .ok (.getfield 22, 3) := by decide +kernel
theorem dX4_addPoint_83 : decode cX4_addPoint 83 = .ok (.invokevirtual 76, 3) := by decide +kernel
theorem dX4_addPoint_86 : decode cX4_addPoint 86 = .ok (.aload_n 0, 1) := by decide +kernel
theorem dX4_addPoint_87 : decode cX4_addPoint 87 = .ok (.getfield 38, 3) := by decide +kernel
theorem dX4_addPoint_90 : decode cX4_addPoint 90 = .ok (.invokestatic 82, 3) := by decide +kernel
theorem dX4_addPoint_93 : decode cX4_addPoint 93 = .ok (.ifCond .ne 10, 3) := by decide +kernel
theorem dX4_addPoint_96 : decode cX4_addPoint 96 = .ok (.aload_n 0, 1) := by decide +kernel
theorem dX4_addPoint_97 : decode cX4_addPoint 97 = .ok (.invokevirtual 86, 3) := by decide +kernel
theorem dX4_addPoint_100 : decode cX4_addPoint 100 = .ok (.goto 24, 3) := by decide +kernel
theorem dX4_addPoint_103 : decode cX4_addPoint 103 = .ok (.aload_n 0, 1) := by decide +kernel
theorem dX4_addPoint_104 : decode cX4_addPoint 104 = .ok (.getfield 41, 3) := by decide +kernel
theorem dX4_addPoint_107 : decode cX4_addPoint 107 = .ok (.invokestatic 82, 3) := by decide +kernel
theorem dX4_addPoint_110 : decode cX4_addPoint 110 = .ok (.ifCond .eq 10, 3) := by decide +kernel
theorem dX4_addPoint_113 : decode cX4_addPoint 113 = .ok (.aload_n 0, 1) := by decide +kernel
theorem dX4_addPoint_114 : decode cX4_addPoint 114 = .ok (.invokevirtual 59, 3) := by decide +kernel
theorem dX4_addPoint_117 : decode cX4_addPoint 117 = .ok (.goto 7, 3) := by decide +kernel
theorem dX4_addPoint_120 : decode cX4_addPoint 120 = .ok (.aload_n 0, 1) := by decide +kernel
theorem dX4_addPoint_121 : decode cX4_addPoint 121 = .ok (.invokevirtual 89, 3) := by decide +kernel
theorem dX4_addPoint_124 : decode cX4_addPoint 124 = .ok (.return_, 1) := by decide +kernel
set_option maxRecDepth 20000 in
theorem ggX4_writeTo_X3_invert : GoodIn wsX4_writeTo wsX3_invert := goodIn_r _ [15, 16, 17, 18, 19, 20, 21, 22, 23, 24, 25, 26, 27, 28, 29, 30, 31, 32, 33, 34, 35, 36, 37, 38, 39, 40, 41, 42, 43, 44, 45, 46, 47, 48, 49, 50, 51, 52, 53, 54, 55, 56, 57, 58, 59, 60, 61, 62, 63, 64, 65, 66, 14, 67, 68, 69, 70, 125, 126, 127, 128, 129, 130, 131, 132, 133, 134] (by decide +kernel) (by decide +kernel)
set_option maxRecDepth 20000 in
theorem gX4_writeTo_X3_invert : GoodIn wsX4_writeTo (wsV RX4 92 RX3 yX3_invert wsX3_invert) := goodIn_app (goodIn_of _ (by decide +kernel)) ggX4_writeTo_X3_invert
set_option maxRecDepth 20000 in
theorem ggX4_writeTo_X2_becomeIdentity : GoodIn wsX4_writeTo wsX2_becomeIdentity := goodIn_r _ [75, 76, 77, 78, 79, 30, 23, 31, 32, 33, 34, 35, 122, 123, 124] (by decide +kernel) (by decide +kernel)
set_option maxRecDepth 20000 in
theorem gX4_writeTo_X2_becomeIdentity : GoodIn wsX4_writeTo (wsV RX4 96 RX2 yX2_becomeIdentity wsX2_becomeIdentity) := goodIn_app (goodIn_of _ (by decide +kernel)) ggX4_writeTo_X2_becomeIdentity
set_option maxRecDepth 20000 in
theorem ggX4_writeTo_X3_multiply : GoodIn wsX4_writeTo wsX3_multiply := goodIn_r _ [83, 84, 85, 86, 87, 33, 34, 35, 88, 89, 90, 14, 91, 92, 93, 94, 95, 96, 97, 98, 99, 100, 101, 102, 103, 104, 105, 106, 107, 108, 109, 125, 126, 127, 128, 129, 130, 131, 132, 133, 134] (by decide +kernel) (by decide +kernel)
set_option maxRecDepth 20000 in
theorem gX4_writeTo_X3_multiply : GoodIn wsX4_writeTo (wsV RX4 99 RX3 yX3_multiply wsX3_multiply) := goodIn_app (goodIn_of _ (by decide +kernel)) ggX4_writeTo_X3_multiply
theorem dX4_writeTo_0 : decode cX4_writeTo 0 = .ok (.aload_n 0, 1) := by decide +kernel
theorem dX4_writeTo_1 : decode cX4_writeTo 1 = .ok (.getfield 9, 3) := by decide +kernel
theorem dX4_writeTo_4 : decode cX4_writeTo 4 = .ok (.aload_n 0, 1) := by decide +kernel
theorem dX4_writeTo_5 : decode cX4_writeTo 5 = .ok (.getfield 47, 3) := by decide +kernel
theorem dX4_writeTo_8 : decode cX4_writeTo 8 = .ok (.aload_n 0, 1) := by decide +kernel
theorem dX4_writeTo_9 : decode cX4_writeTo 9 = .ok (.getfield 25, 3) := by decide +kernel
theorem dX4_writeTo_12 : decode cX4_writeTo 12 = .ok (.invokevirtual 92, 3) := by decide +kernel
theorem dX4_writeTo_15 : decode cX4_writeTo 15 = .ok (.ifCond .ne 5, 3) := by decide +kernel
theorem dX4_writeTo_18 : decode cX4_writeTo 18 = .ok (.iconst 0, 1) := by decide +kernel
theorem dX4_writeTo_19 : decode cX4_writeTo 19 = .ok (.ireturn, 1) := by decide +kernel
theorem dX4_writeTo_20 : decode cX4_writeTo 20 = .ok (.aload_n 0, 1) := by decide +kernel
theorem dX4_writeTo_21 : decode cX4_writeTo 21 = .ok (.getfield 28, 3) := by decide +kernel
theorem dX4_writeTo_24 : decode cX4_writeTo 24 = .ok (.ifCond .eq 9, 3) := by decide +kernel
theorem dX4_writeTo_27 : decode cX4_writeTo 27 = .ok (.aload_n 1, 1) := by decide +kernel
theorem dX4_writeTo_28 : decode cX4_writeTo 28 = .ok (.invokevirtual 96, 3) := by decide +kernel
theorem dX4_writeTo_31 : decode cX4_writeTo 31 = .ok (.iconst 1, 1) := by decide +kernel
theorem dX4_writeTo_32 : decode cX4_writeTo 32 = .ok (.ireturn, 1) := by decide +kernel
theorem dX4_writeTo_33 : decode cX4_writeTo 33 = .ok (.aload_n 0, 1) := by decide +kernel
theorem dX4_writeTo_34 : decode cX4_writeTo 34 = .ok (.getfield 9, 3) := by decide +kernel
theorem dX4_writeTo_37 : decode cX4_writeTo 37 = .ok (.aload_n 0, 1) := by decide +kernel
theorem dX4_writeTo_38 : decode cX4_writeTo 38 = .ok (.getfield 44, 3) := by decide +kernel
theorem dX4_writeTo_41 : decode cX4_writeTo 41 = .ok (.aload_n 0, 1) := by decide +kernel
theorem dX4_writeTo_42 : decode cX4_writeTo 42 = .ok (.getfield 47, 3) := by decide +kernel
theorem dX4_writeTo_45 : decode cX4_writeTo 45 = .ok (.aload_n 0, 1) := by decide +kernel
theorem dX4_writeTo_46 : decode cX4_writeTo 46 = .ok (.getfield 47, 3) := by decide +kernel
theorem dX4_writeTo_49 : decode cX4_writeTo 49 = .ok (.invokevirtual 99, 3) := by decide +kernel
theorem dX4_writeTo_52 : decode cX4_writeTo 52 = .ok (.aload_n 0, 1) := by decide +kernel
theorem dX4_writeTo_53 : decode cX4_writeTo 53 = .ok (.getfield 9, 3) := by decide +kernel
theorem dX4_writeTo_56 : decode cX4_writeTo 56 = .ok (.aload_n 1, 1) := by decide +kernel
theorem dX4_writeTo_57 : decode cX4_writeTo 57 = .ok (.getfield 102, 3) := by decide +kernel
theorem dX4_writeTo_60 : decode cX4_writeTo 60 = .ok (.aload_n 0, 1) := by decide +kernel
theorem dX4_writeTo_61 : decode cX4_writeTo 61 = .ok (.getfield 19, 3) := by decide +kernel
theorem dX4_writeTo_64 : decode cX4_writeTo 64 = .ok (.aload_n 0, 1) := by decide +kernel
theorem dX4_writeTo_65 : decode cX4_writeTo 65 = .ok (.getfield 44, 3) := by decide +kernel
theorem dX4_writeTo_68 : decode cX4_writeTo 68 = .ok (.invokevirtual 99, 3) := by decide +kernel
theorem dX4_writeTo_71 : decode cX4_writeTo 71 = .ok (.aload_n 0, 1) := by decide +kernel
theorem dX4_writeTo_72 : decode cX4_writeTo 72 = .ok (.getfield 9, 3) := by decide +kernel
theorem dX4_writeTo_75 : decode cX4_writeTo 75 = .ok (.aload_n 0, 1) := by decide +kernel
theorem dX4_writeTo_76 : decode cX4_writeTo 76 = .ok (.getfield 44, 3) := by decide +kernel
theorem dX4_writeTo_79 : decode cX4_writeTo 79 = .ok (.aload_n 0, 1) := by decide +kernel
theorem dX4_writeTo_80 : decode cX4_writeTo 80 = .ok (.getfield 44, 3) := by decide +kernel
theorem dX4_writeTo_83 : decode cX4_writeTo 83 = .ok (.aload_n 0, 1) := by decide +kernel
theorem dX4_writeTo_84 : decode cX4_writeTo 84 = .ok (.getfield 47, 3) := by decide +kernel
theorem dX4_writeTo_87 : decode cX4_writeTo 87 = .ok (.invokevirtual 99, 3) := by decide +kernel
theorem dX4_writeTo_90 : decode cX4_writeTo 90 = .ok (.aload_n 0, 1) := by decide +kernel
theorem dX4_writeTo_91 : decode cX4_writeTo 91 = .ok (.getfield 9, 3) := by decide +kernel
theorem dX4_writeTo_94 : decode cX4_writeTo 94 = .ok (.aload_n 1, 1) := by decide +kernel
theorem dX4_writeTo_95 : decode cX4_writeTo 95 = .ok (.getfield 103, 3) := by decide +kernel
theorem dX4_writeTo_98 : decode cX4_writeTo 98 = .ok (.aload_n 0, 1) := by decide +kernel
theorem dX4_writeTo_99 : decode cX4_writeTo 99 = .ok (.getfield 22, 3) := by decide +kernel
theorem dX4_writeTo_102 : decode cX4_writeTo 102 = .ok (.aload_n 0, 1) := by decide +kernel
theorem dX4_writeTo_103 : decode cX4_writeTo 103 = .ok (.getfield 44, 3) := by decide +kernel
theorem dX4_writeTo_106 : decode cX4_writeTo 106 = .ok (.invokevirtual 99, 3) := by decide +kernel
theorem dX4_writeTo_109 : decode cX4_writeTo 109 = .ok (.aload_n 1, 1) := by decide +kernel
theorem dX4_writeTo_110 : decode cX4_writeTo 110 = .ok (.iconst 0, 1) := by decide +kernel
theorem dX4_writeTo_111 : decode cX4_writeTo 111 = .ok (.putfield 66, 3) := by decide +kernel
theorem dX4_writeTo_114 : decode cX4_writeTo 114 = .ok (.iconst 1, 1) := by decide +kernel
theorem dX4_writeTo_115 : decode cX4_writeTo 115 = .ok (.ireturn, 1) := by decide +kernel
set_option maxRecDepth 20000 in
theorem ggX4_bringToSameZ_X3_multiply : GoodIn wsX4_bringToSameZ wsX3_multiply := goodIn_r _ [12, 13, 14, 15, 16, 17, 18, 19, 20, 21, 22, 11, 23, 24, 25, 26, 27, 28, 29, 30, 31, 32, 33, 34, 35, 36, 37, 38, 39, 40, 41, 57, 58, 59, 60, 61, 62, 63, 64, 65, 66] (by decide +kernel) (by decide +kernel)
set_option maxRecDepth 20000 in
theorem gX4_bringToSameZ_X3_multiply : GoodIn wsX4_bringToSameZ (wsV RX4 99 RX3 yX3_multiply wsX3_multiply) := goodIn_app (goodIn_of _ (by decide +kernel)) ggX4_bringToSameZ_X3_multiply
theorem dX4_bringToSameZ_0 : decode cX4_bringToSameZ 0 = .ok (.aload_n 0, 1) := by decide +kernel
theorem dX4_bringToSameZ_1 : decode cX4_bringToSameZ 1 = .ok (.getfield 9, 3) := by decide +kernel
theorem dX4_bringToSameZ_4 : decode cX4_bringToSameZ 4 = .ok (.aload_n 0, 1) := by decide +kernel
theorem dX4_bringToSameZ_5 : decode cX4_bringToSameZ 5 = .ok (.getfield 44, 3) := by decide +kernel
theorem dX4_bringToSameZ_8 : decode cX4_bringToSameZ 8 = .ok (.aload_n 0, 1) := by decide +kernel
theorem dX4_bringToSameZ_9 : decode cX4_bringToSameZ 9 = .ok (.getfield 25, 3) := by decide +kernel
theorem dX4_bringToSameZ_12 : decode cX4_bringToSameZ 12 = .ok (.aload_n 0, 1) := by decide +kernel
theorem dX4_bringToSameZ_13 : decode cX4_bringToSameZ 13 = .ok (.getfield 25, 3) := by decide +kernel
theorem dX4_bringToSameZ_16 : decode cX4_bringToSameZ 16 = .ok (.invokevirtual 99, 3) := by decide +kernel
theorem dX4_bringToSameZ_19 : decode cX4_bringToSameZ 19 = .ok (.aload_n 0, 1) := by decide +kernel
theorem dX4_bringToSameZ_20 : decode cX4_bringToSameZ 20 = .ok (.getfield 9, 3) := by decide +kernel
theorem dX4_bringToSameZ_23 : decode cX4_bringToSameZ 23 = .ok (.aload_n 0, 1) := by decide +kernel
theorem dX4_bringToSameZ_24 : decode cX4_bringToSameZ 24 = .ok (.getfield 32, 3) := by decide +kernel
theorem dX4_bringToSameZ_27 : decode cX4_bringToSameZ 27 = .ok (.aload_n 1, 1) := by decide +kernel
theorem dX4_bringToSameZ_28 : decode cX4_bringToSameZ 28 = .ok (.getfield 102, 3) := by decide +kernel
theorem dX4_bringToSameZ_31 : decode cX4_bringToSameZ 31 = .ok (.aload_n 0, 1) := by decide +kernel
theorem dX4_bringToSameZ_32 : decode cX4_bringToSameZ 32 = .ok (.getfield 44, 3) := by decide +kernel
theorem dX4_bringToSameZ_35 : decode cX4_bringToSameZ 35 = .ok (.invokevirtual 99, 3) := by decide +kernel
theorem dX4_bringToSameZ_38 : decode cX4_bringToSameZ 38 = .ok (.aload_n 0, 1) := by decide +kernel
theorem dX4_bringToSameZ_39 : decode cX4_bringToSameZ 39 = .ok (.getfield 9, 3) := by decide +kernel
theorem dX4_bringToSameZ_42 : decode cX4_bringToSameZ 42 = .ok (.aload_n 0, 1) := by decide +kernel
theorem dX4_bringToSameZ_43 : decode cX4_bringToSameZ 43 = .ok (.getfield 44, 3) := by decide +kernel
theorem dX4_bringToSameZ_46 : decode cX4_bringToSameZ 46 = .ok (.aload_n 0, 1) := by decide +kernel
theorem dX4_bringToSameZ_47 : decode cX4_bringToSameZ 47 = .ok (.getfield 44, 3) := by decide +kernel
theorem dX4_bringToSameZ_50 : decode cX4_bringToSameZ 50 = .ok (.aload_n 0, 1) := by decide +kernel
theorem dX4_bringToSameZ_51 : decode cX4_bringToSameZ 51 = .ok (.getfield 25, 3) := by decide +kernel
theorem dX4_bringToSameZ_54 : decode cX4_bringToSameZ 54 = .ok (.invokevirtual 99, 3) := by decide +kernel
theorem dX4_bringToSameZ_57 : decode cX4_bringToSameZ 57 = .ok (.aload_n 0, 1) := by decide +kernel
theorem dX4_bringToSameZ_58 : decode cX4_bringToSameZ 58 = .ok (.getfield 9, 3) := by decide +kernel
theorem dX4_bringToSameZ_61 : decode cX4_bringToSameZ 61 = .ok (.aload_n 0, 1) := by decide +kernel
theorem dX4_bringToSameZ_62 : decode cX4_bringToSameZ 62 = .ok (.getfield 35, 3) := by decide +kernel
theorem dX4_bringToSameZ_65 : decode cX4_bringToSameZ 65 = .ok (.aload_n 1, 1) := by decide +kernel
theorem dX4_bringToSameZ_66 : decode cX4_bringToSameZ 66 = .ok (.getfield 103, 3) := by decide +kernel
theorem dX4_bringToSameZ_69 : decode cX4_bringToSameZ 69 = .ok (.aload_n 0, 1) := by decide +kernel
theorem dX4_bringToSameZ_70 : decode cX4_bringToSameZ 70 = .ok (.getfield 44, 3) := by decide +kernel
theorem dX4_bringToSameZ_73 : decode cX4_bringToSameZ 73 = .ok (.invokevirtual 99, 3) := by decide +kernel
theorem dX4_bringToSameZ_76 : decode cX4_bringToSameZ 76 = .ok (.return_, 1) := by decide +kernel
set_option maxRecDepth 20000 in
theorem ggX4_addItself_X1_isZero : GoodIn wsX4_addItself wsX1_isZero := goodIn_r _ [13, 14, 15, 12, 16] (by decide +kernel) (by decide +kernel)
set_option maxRecDepth 20000 in
theorem gX4_addItself_X1_isZero : GoodIn wsX4_addItself (va_wsS RX4 82 yX1_isZero wsX1_isZero) := goodIn_app (goodIn_of _ (by decide +kernel)) ggX4_addItself_X1_isZero
set_option maxRecDepth 20000 in
theorem ggX4_addItself_X3_multiply : GoodIn wsX4_addItself wsX3_multiply := goodIn_r _ [21, 22, 23, 24, 25, 26, 27, 28, 29, 30, 31, 20, 32, 33, 34, 35, 36, 37, 38, 39, 40, 41, 42, 43, 44, 45, 46, 47, 48, 49, 50, 89, 90, 91, 92, 93, 94, 95, 96, 97, 98] (by decide +kernel) (by decide +kernel)
set_option maxRecDepth 20000 in
theorem gX4_addItself_X3_multiply : GoodIn wsX4_addItself (wsV RX4 99 RX3 yX3_multiply wsX3_multiply) := goodIn_app (goodIn_of _ (by decide +kernel)) ggX4_addItself_X3_multiply
set_option maxRecDepth 20000 in
theorem ggX4_addItself_X3_thrice : GoodIn wsX4_addItself wsX3_thrice := goodIn_r _ [54, 55, 56, 57, 58, 20, 59, 60, 61, 62, 12, 63, 64, 65, 66, 67, 89, 90, 91, 92, 93, 94, 95, 96, 97, 98] (by decide +kernel) (by decide +kernel)
set_option maxRecDepth 20000 in
theorem gX4_addItself_X3_thrice : GoodIn wsX4_addItself (wsV RX4 104 RX3 yX3_thrice wsX3_thrice) := goodIn_app (goodIn_of _ (by decide +kernel)) ggX4_addItself_X3_thrice
set_option maxRecDepth 20000 in
theorem ggX4_addItself_X3_add : GoodIn wsX4_addItself wsX3_add := goodIn_r _ [59, 60, 61, 62, 12, 63, 64, 65, 66, 67, 89, 90, 91, 92, 93, 94, 95, 96, 97, 98] (by decide +kernel) (by decide +kernel)
set_option maxRecDepth 20000 in
theorem gX4_addItself_X3_add : GoodIn wsX4_addItself (wsV RX4 107 RX3 yX3_add wsX3_add) := goodIn_app (goodIn_of _ (by decide +kernel)) ggX4_addItself_X3_add
set_option maxRecDepth 20000 in
theorem ggX4_addItself_X3_twice : GoodIn wsX4_addItself wsX3_twice := goodIn_r _ [72, 56, 57, 58, 20, 59, 60, 61, 62, 12, 63, 64, 65, 66, 67, 89, 90, 91, 92, 93, 94, 95, 96, 97, 98] (by decide +kernel) (by decide +kernel)
set_option maxRecDepth 20000 in
theorem gX4_addItself_X3_twice : GoodIn wsX4_addItself (wsV RX4 110 RX3 yX3_twice wsX3_twice) := goodIn_app (goodIn_of _ (by decide +kernel)) ggX4_addItself_X3_twice
set_option maxRecDepth 20000 in
theorem ggX4_addItself_X3_subtract : GoodIn wsX4_addItself wsX3_subtract := goodIn_r _ [76, 60, 61, 62, 12, 63, 64, 89, 90, 91, 92, 93, 94, 95, 96, 97, 98] (by decide +kernel) (by decide +kernel)
set_option maxRecDepth 20000 in
theorem gX4_addItself_X3_subtract : GoodIn wsX4_addItself (wsV RX4 76 RX3 yX3_subtract wsX3_subtract) := goodIn_app (goodIn_of _ (by decide +kernel)) ggX4_addItself_X3_subtract
theorem dX4_addItself_0 : decode cX4_addItself 0 = .ok (.aload_n 0, 1) := by decide +kernel
theorem dX4_addItself_1 : decode cX4_addItself 1 = .ok (.getfield 28, 3) := by decide +kernel
theorem dX4_addItself_4 : decode cX4_addItself 4 = .ok (.ifCond .eq 4, 3) := by decide +kernel
theorem dX4_addItself_7 : decode cX4_addItself 7 = .ok (.return_, 1) := by decide +kernel
theorem dX4_addItself_8 : decode cX4_addItself 8 = .ok (.aload_n 0, 1) := by decide +kernel
theorem dX4_addItself_9 : decode cX4_addItself 9 = .ok (.getfield 22, 3) := by decide +kernel
theorem dX4_addItself_12 : decode cX4_addItself 12 = .ok (.invokestatic 82, 3) := by decide +kernel
theorem dX4_addItself_15 : decode cX4_addItself 15 = .ok (.ifCond .eq 9, 3) := by decide +kernel
theorem dX4_addItself_18 : decode cX4_addItself 18 = .ok (.aload_n 0, 1) := by decide +kernel
theorem dX4_addItself_19 : decode cX4_addItself 19 = .ok (.iconst 1, 1) := by decide +kernel
theorem dX4_addItself_20 : decode cX4_addItself 20 = .ok (.putfield 28, 3) := by decide +kernel
theorem dX4_addItself_23 : decode cX4_addItself 23 = .ok (.return_, 1) := by decide +kernel
theorem dX4_addItself_24 : decode cX4_addItself 24 = .ok (.aload_n 0, 1) := by decide +kernel
theorem dX4_addItself_25 : decode cX4_addItself 25 = .ok (.getfield 9, 3) := by decide +kernel
theorem dX4_addItself_28 : decode cX4_addItself 28 = .ok (.aload_n 0, 1) := by decide +kernel
theorem dX4_addItself_29 : decode cX4_addItself 29 = .ok (.getfield 44, 3) := by decide +kernel
theorem dX4_addItself_32 : decode cX4_addItself 32 = .ok (.aload_n 0, 1) := by decide +kernel
theorem dX4_addItself_33 : decode cX4_addItself 33 = .ok (.getfield 25, 3) := by decide +kernel
theorem dX4_addItself_36 : decode cX4_addItself 36 = .ok (.aload_n 0, 1) := by decide +kernel
theorem dX4_addItself_37 : decode cX4_addItself 37 = .ok (.getfield 25, 3) := by decide +kernel
theorem dX4_addItself_40 : decode cX4_addItself 40 = .ok (.invokevirtual 99, 3) := by decide +kernel
theorem dX4_addItself_43 : decode cX4_addItself 43 = .ok (.aload_n 0, 1) := by decide +kernel
theorem dX4_addItself_44 : decode cX4_addItself 44 = .ok (.getfield 9, 3) := by decide +kernel
theorem dX4_addItself_47 : decode cX4_addItself 47 = .ok (.aload_n 0, 1) := by decide +kernel
theorem dX4_addItself_48 : decode cX4_addItself 48 = .ok (.getfield 44, 3) := by decide +kernel
theorem dX4_addItself_51 : decode cX4_addItself 51 = .ok (.aload_n 0, 1) := by decide +kernel
theorem dX4_addItself_52 : decode cX4_addItself 52 = .ok (.getfield 44, 3) := by decide +kernel
theorem dX4_addItself_55 : decode cX4_addItself 55 = .ok (.aload_n 0, 1) := by decide +kernel
theorem dX4_addItself_56 : decode cX4_addItself 56 = .ok (.getfield 44, 3) := by decide +kernel
theorem dX4_addItself_59 : decode cX4_addItself 59 = .ok (.invokevirtual 99, 3) := by decide +kernel
theorem dX4_addItself_62 : decode cX4_addItself 62 = .ok (.aload_n 0, 1) := by decide +kernel
theorem dX4_addItself_63 : decode cX4_addItself 63 = .ok (.getfield 9, 3) := by decide +kernel
theorem dX4_addItself_66 : decode cX4_addItself 66 = .ok (.aload_n 0, 1) := by decide +kernel
theorem dX4_addItself_67 : decode cX4_addItself 67 = .ok (.getfield 44, 3) := by decide +kernel
theorem dX4_addItself_70 : decode cX4_addItself 70 = .ok (.aload_n 0, 1) := by decide +kernel
theorem dX4_addItself_71 : decode cX4_addItself 71 = .ok (.getfield 44, 3) := by decide +kernel
theorem dX4_addItself_74 : decode cX4_addItself 74 = .ok (.aload_n 0, 1) := by decide +kernel
theorem dX4_addItself_75 : decode cX4_addItself 75 = .ok (.getfield 15, 3) := by decide +kernel
theorem dX4_addItself_78 : decode cX4_addItself 78 = .ok (.invokevirtual 99, 3) := by decide +kernel
theorem dX4_addItself_81 : decode cX4_addItself 81 = .ok (.aload_n 0, 1) := by decide +kernel
theorem dX4_addItself_82 : decode cX4_addItself 82 = .ok (.getfield 9, 3) := by decide +kernel
theorem dX4_addItself_85 : decode cX4_addItself 85 = .ok (.aload_n 0, 1) := by decide +kernel
theorem dX4_addItself_86 : decode cX4_addItself 86 = .ok (.getfield 41, 3) := by decide +kernel
theorem dX4_addItself_89 : decode cX4_addItself 89 = .ok (.aload_n 0, 1) := by decide +kernel
theorem dX4_addItself_90 : decode cX4_addItself 90 = .ok (.getfield 19, 3) := by decide +kernel
theorem dX4_addItself_93 : decode cX4_addItself 93 = .ok (.aload_n 0, 1) := by decide +kernel
theorem dX4_addItself_94 : decode cX4_addItself 94 = .ok (.getfield 19, 3) := by decide +kernel
theorem dX4_addItself_97 : decode cX4_addItself 97 = .ok (.invokevirtual 99, 3) := by decide +kernel
theorem dX4_addItself_100 : decode cX4_addItself 100 = .ok (.aload_n 0, 1) := by decide +kernel
theorem dX4_addItself_101 : decode cX4_addItself 101 = .ok (.getfield 9, 3) := by decide +kernel
theorem dX4_addItself_104 : decode cX4_addItself 104 = .ok (.aload_n 0, 1) := by decide +kernel
theorem dX4_addItself_105 : decode cX4_addItself 105 = .ok (.getfield 41, 3) := by decide +kernel
theorem dX4_addItself_108 : decode cX4_addItself 108 = .ok (.aload_n 0, 1) := by decide +kernel
theorem dX4_addItself_109 : decode cX4_addItself 109 = .ok (.getfield 41, 3) := by decide +kernel
theorem dX4_addItself_112 : decode cX4_addItself 112 = .ok (.invokevirtual 104, 3) := by decide +kernel
theorem dX4_addItself_115 : decode cX4_addItself 115 = .ok (.aload_n 0, 1) := by decide +kernel
theorem dX4_addItself_116 : decode cX4_addItself 116 = .ok (.getfield 9, 3) := by decide +kernel
theorem dX4_addItself_119 : decode cX4_addItself 119 = .ok (.aload_n 0, 1) := by decide +kernel
theorem dX4_addItself_120 : decode cX4_addItself 120 = .ok (.getfield 41, 3) := by decide +kernel
theorem dX4_addItself_123 : decode cX4_addItself 123 = .ok (.aload_n 0, 1) := by decide +kernel
theorem dX4_addItself_124 : decode cX4_addItself 124 = .ok (.getfield 41, 3) := by decide +kernel
theorem dX4_addItself_127 : decode cX4_addItself 127 = .ok (.aload_n 0, 1) := by decide +kernel
theorem dX4_addItself_128 : decode cX4_addItself 128 = .ok (.getfield 44, 3) := by decide +kernel
theorem dX4_addItself_131 : decode cX4_addItself 131 = .ok (.invokevirtual 107, 3) := by decide +kernel
theorem dX4_addItself_134 : decode cX4_addItself 134 = .ok (.aload_n 0, 1) := by decide +kernel
theorem dX4_addItself_135 : decode cX4_addItself 135 = .ok (.getfield 9, 3) := by decide +kernel
theorem dX4_addItself_138 : decode cX4_addItself 138 = .ok (.aload_n 0, 1) := by decide +kernel
theorem dX4_addItself_139 : decode cX4_addItself 139 = .ok (.getfield 25, 3) := by decide +kernel
theorem dX4_addItself_142 : decode cX4_addItself 142 = .ok (.aload_n 0, 1) := by decide +kernel
theorem dX4_addItself_143 : decode cX4_addItself 143 = .ok (.getfield 25, 3) := by decide +kernel
theorem dX4_addItself_146 : decode cX4_addItself 146 = .ok (.aload_n 0, 1) := by decide +kernel
theorem dX4_addItself_147 : decode cX4_addItself 147 = .ok (.getfield 22, 3) := by decide +kernel
theorem dX4_addItself_150 : decode cX4_addItself 150 = .ok (.invokevirtual 99, 3) := by decide +kernel
theorem dX4_addItself_153 : decode cX4_addItself 153 = .ok (.aload_n 0, 1) := by decide +kernel
theorem dX4_addItself_154 : decode cX4_addItself 154 = .ok (.getfield 9, 3) := by decide +kernel
theorem dX4_addItself_157 : decode cX4_addItself 157 = .ok (.aload_n 0, 1) := by decide +kernel
theorem dX4_addItself_158 : decode cX4_addItself 158 = .ok (.getfield 25, 3) := by decide +kernel
theorem dX4_addItself_161 : decode cX4_addItself 161 = .ok (.aload_n 0, 1) := by decide +kernel
theorem dX4_addItself_162 : decode cX4_addItself 162 = .ok (.getfield 25, 3) := by decide +kernel
theorem dX4_addItself_165 : decode cX4_addItself 165 = .ok (.invokevirtual 110, 3) := by decide +kernel
theorem dX4_addItself_168 : decode cX4_addItself 168 = .ok (.aload_n 0, 1) := by decide +kernel
theorem dX4_addItself_169 : decode cX4_addItself 169 = .ok (.getfield 9, 3) := by decide +kernel
theorem dX4_addItself_172 : decode cX4_addItself 172 = .ok (.aload_n 0, 1) := by decide +kernel
theorem dX4_addItself_173 : decode cX4_addItself 173 = .ok (.getfield 44, 3) := by decide +kernel
theorem dX4_addItself_176 : decode cX4_addItself 176 = .ok (.aload_n 0, 1) := by decide +kernel
theorem dX4_addItself_177 : decode cX4_addItself 177 = .ok (.getfield 22, 3) := by decide +kernel
theorem dX4_addItself_180 : decode cX4_addItself 180 = .ok (.aload_n 0, 1) := by decide +kernel
theorem dX4_addItself_181 : decode cX4_addItself 181 = .ok (.getfield 22, 3) := by decide +kernel
theorem dX4_addItself_184 : decode cX4_addItself 184 = .ok (.invokevirtual 99, 3) := by decide +kernel
theorem dX4_addItself_187 : decode cX4_addItself 187 = .ok (.aload_n 0, 1) := by decide +kernel
theorem dX4_addItself_188 : decode cX4_addItself 188 = .ok (.getfield 9, 3) := by decide +kernel
theorem dX4_addItself_191 : decode cX4_addItself 191 = .ok (.aload_n 0, 1) := by decide +kernel
theorem dX4_addItself_192 : decode cX4_addItself 192 = .ok (.getfield 47, 3) := by decide +kernel
theorem dX4_addItself_195 : decode cX4_addItself 195 = .ok (.aload_n 0, 1) := by decide +kernel
theorem dX4_addItself_196 : decode cX4_addItself 196 = .ok (.getfield 19, 3) := by decide +kernel
theorem dX4_addItself_199 : decode cX4_addItself 199 = .ok (.aload_n 0, 1) := by decide +kernel
theorem dX4_addItself_200 : decode cX4_addItself 200 = .ok (.getfield 44, 3) := by decide +kernel
theorem dX4_addItself_203 : decode cX4_addItself 203 = .ok (.invokevirtual 99, 3) := by decide +kernel
theorem dX4_addItself_206 : decode cX4_addItself 206 = .ok (.aload_n 0, 1) := by decide +kernel
theorem dX4_addItself_207 : decode cX4_addItself 207 = .ok (.getfield 9, 3) := by decide +kernel
theorem dX4_addItself_210 : decode cX4_addItself 210 = .ok (.aload_n 0, 1) := by decide +kernel
theorem dX4_addItself_211 : decode cX4_addItself 211 = .ok (.getfield 47, 3) := by decide +kernel
theorem dX4_addItself_214 : decode cX4_addItself 214 = .ok (.aload_n 0, 1) := by decide +kernel
theorem dX4_addItself_215 : decode cX4_addItself 215 = .ok (.getfield 47, 3) := by decide +kernel
theorem dX4_addItself_218 : decode cX4_addItself 218 = .ok (.invokevirtual 110, 3) := by decide +kernel
theorem dX4_addItself_221 : decode cX4_addItself 221 = .ok (.aload_n 0, 1) := by decide +kernel
theorem dX4_addItself_222 : decode cX4_addItself 222 = .ok (.getfield 9, 3) := by decide +kernel
theorem dX4_addItself_225 : decode cX4_addItself 225 = .ok (.aload_n 0, 1) := by decide +kernel
theorem dX4_addItself_226 : decode cX4_addItself 226 = .ok (.getfield 47, 3) := by decide +kernel
theorem dX4_addItself_229 : decode cX4_addItself 229 = .ok (.aload_n 0, 1) := by decide +kernel
theorem dX4_addItself_230 : decode cX4_addItself 230 = .ok (.getfield 47, 3) := by decide +kernel
theorem dX4_addItself_233 : decode cX4_addItself 233 = .ok (.invokevirtual 110, 3) := by decide +kernel
theorem dX4_addItself_236 : decode cX4_addItself 236 = .ok (.aload_n 0, 1) := by decide +kernel
theorem dX4_addItself_237 : decode cX4_addItself 237 = .ok (.getfield 9, 3) := by decide +kernel
theorem dX4_addItself_240 : decode cX4_addItself 240 = .ok (.aload_n 0, 1) := by decide +kernel
theorem dX4_addItself_241 : decode cX4_addItself 241 = .ok (.getfield 19, 3) := by decide +kernel
theorem dX4_addItself_244 : decode cX4_addItself 244 = .ok (.aload_n 0, 1) := by decide +kernel
theorem dX4_addItself_245 : decode cX4_addItself 245 = .ok (.getfield 41, 3) := by decide +kernel
theorem dX4_addItself_248 : decode cX4_addItself 248 = .ok (.aload_n 0, 1) := by decide +kernel
theorem dX4_addItself_249 : decode cX4_addItself 249 = .ok (.getfield 41, 3) := by decide +kernel
theorem dX4_addItself_252 : decode cX4_addItself 252 = .ok (.invokevirtual 99, 3) := by decide +kernel
theorem dX4_addItself_255 : decode cX4_addItself 255 = .ok (.aload_n 0, 1) := by decide +kernel
theorem dX4_addItself_256 : decode cX4_addItself 256 = .ok (.getfield 9, 3) := by decide +kernel
theorem dX4_addItself_259 : decode cX4_addItself 259 = .ok (.aload_n 0, 1) := by decide +kernel
theorem dX4_addItself_260 : decode cX4_addItself 260 = .ok (.getfield 19, 3) := by decide +kernel
theorem dX4_addItself_263 : decode cX4_addItself 263 = .ok (.aload_n 0, 1) := by decide +kernel
theorem dX4_addItself_264 : decode cX4_addItself 264 = .ok (.getfield 19, 3) := by decide +kernel
theorem dX4_addItself_267 : decode cX4_addItself 267 = .ok (.aload_n 0, 1) := by decide +kernel
theorem dX4_addItself_268 : decode cX4_addItself 268 = .ok (.getfield 47, 3) := by decide +kernel
theorem dX4_addItself_271 : decode cX4_addItself 271 = .ok (.invokevirtual 76, 3) := by decide +kernel
theorem dX4_addItself_274 : decode cX4_addItself 274 = .ok (.aload_n 0, 1) := by decide +kernel
theorem dX4_addItself_275 : decode cX4_addItself 275 = .ok (.getfield 9, 3) := by decide +kernel
theorem dX4_addItself_278 : decode cX4_addItself 278 = .ok (.aload_n 0, 1) := by decide +kernel
theorem dX4_addItself_279 : decode cX4_addItself 279 = .ok (.getfield 19, 3) := by decide +kernel
theorem dX4_addItself_282 : decode cX4_addItself 282 = .ok (.aload_n 0, 1) := by decide +kernel
theorem dX4_addItself_283 : decode cX4_addItself 283 = .ok (.getfield 19, 3) := by decide +kernel
theorem dX4_addItself_286 : decode cX4_addItself 286 = .ok (.aload_n 0, 1) := by decide +kernel
theorem dX4_addItself_287 : decode cX4_addItself 287 = .ok (.getfield 47, 3) := by decide +kernel
theorem dX4_addItself_290 : decode cX4_addItself 290 = .ok (.invokevirtual 76, 3) := by decide +kernel
theorem dX4_addItself_293 : decode cX4_addItself 293 = .ok (.aload_n 0, 1) := by decide +kernel
theorem dX4_addItself_294 : decode cX4_addItself 294 = .ok (.getfield 9, 3) := by decide +kernel
theorem dX4_addItself_297 : decode cX4_addItself 297 = .ok (.aload_n 0, 1) := by decide +kernel
theorem dX4_addItself_298 : decode cX4_addItself 298 = .ok (.getfield 47, 3) := by decide +kernel
theorem dX4_addItself_301 : decode cX4_addItself 301 = .ok (.aload_n 0, 1) := by decide +kernel
theorem dX4_addItself_302 : decode cX4_addItself 302 = .ok (.getfield 47, 3) := by decide +kernel
theorem dX4_addItself_305 : decode cX4_addItself 305 = .ok (.aload_n 0, 1) := by decide +kernel
theorem dX4_addItself_306 : decode cX4_addItself 306 = .ok (.getfield 19, 3) := by decide +kernel
theorem dX4_addItself_309 : decode cX4_addItself 309 = .ok (.invokevirtual 76, 3) := by decide +kernel
theorem dX4_addItself_312 : decode cX4_addItself 312 = .ok (.aload_n 0, 1) := by decide +kernel
theorem dX4_addItself_313 : decode cX4_addItself 313 = .ok (.getfield 9, 3) := by decide +kernel
theorem dX4_addItself_316 : decode cX4_addItself 316 = .ok (.aload_n 0, 1) := by decide +kernel
theorem dX4_addItself_317 : decode cX4_addItself 317 = .ok (.getfield 47, 3) := by decide +kernel
theorem dX4_addItself_320 : decode cX4_addItself 320 = .ok (.aload_n 0, 1) := by decide +kernel
theorem dX4_addItself_321 : decode cX4_addItself 321 = .ok (.getfield 47, 3) := by decide +kernel
theorem dX4_addItself_324 : decode cX4_addItself 324 = .ok (.aload_n 0, 1) := by decide +kernel
theorem dX4_addItself_325 : decode cX4_addItself 325 = .ok (.getfield 41, 3) := by decide +kernel
theorem dX4_addItself_328 : decode cX4_addItself 328 = .ok (.invokevirtual 99, 3) := by decide +kernel
theorem dX4_addItself_331 : decode cX4_addItself 331 = .ok (.aload_n 0, 1) := by decide +kernel
theorem dX4_addItself_332 : decode cX4_addItself 332 = .ok (.getfield 9, 3) := by decide +kernel
theorem dX4_addItself_335 : decode cX4_addItself 335 = .ok (.aload_n 0, 1) := by decide +kernel
theorem dX4_addItself_336 : decode cX4_addItself 336 = .ok (.getfield 44, 3) := by decide +kernel
theorem dX4_addItself_339 : decode cX4_addItself 339 = .ok (.aload_n 0, 1) := by decide +kernel
theorem dX4_addItself_340 : decode cX4_addItself 340 = .ok (.getfield 44, 3) := by decide +kernel
theorem dX4_addItself_343 : decode cX4_addItself 343 = .ok (.aload_n 0, 1) := by decide +kernel
theorem dX4_addItself_344 : decode cX4_addItself 344 = .ok (.getfield 44, 3) := by decide +kernel
theorem dX4_addItself_347 : decode cX4_addItself 347 = .ok (.invokevirtual 99, 3) := by decide +kernel
theorem dX4_addItself_350 : decode cX4_addItself 350 = .ok (.aload_n 0, 1) := by decide +kernel
theorem dX4_addItself_351 : decode cX4_addItself 351 = .ok (.getfield 9, 3) := by decide +kernel
theorem dX4_addItself_354 : decode cX4_addItself 354 = .ok (.aload_n 0, 1) := by decide +kernel
theorem dX4_addItself_355 : decode cX4_addItself 355 = .ok (.getfield 44, 3) := by decide +kernel
theorem dX4_addItself_358 : decode cX4_addItself 358 = .ok (.aload_n 0, 1) := by decide +kernel
theorem dX4_addItself_359 : decode cX4_addItself 359 = .ok (.getfield 44, 3) := by decide +kernel
theorem dX4_addItself_362 : decode cX4_addItself 362 = .ok (.invokevirtual 110, 3) := by decide +kernel
theorem dX4_addItself_365 : decode cX4_addItself 365 = .ok (.aload_n 0, 1) := by decide +kernel
theorem dX4_addItself_366 : decode cX4_addItself 366 = .ok (.getfield 9, 3) := by decide +kernel
theorem dX4_addItself_369 : decode cX4_addItself 369 = .ok (.aload_n 0, 1) := by decide +kernel
theorem dX4_addItself_370 : decode cX4_addItself 370 = .ok (.getfield 44, 3) := by decide +kernel
theorem dX4_addItself_373 : decode cX4_addItself 373 = .ok (.aload_n 0, 1) := by decide +kernel
theorem dX4_addItself_374 : decode cX4_addItself 374 = .ok (.getfield 44, 3) := by decide +kernel
theorem dX4_addItself_377 : decode cX4_addItself 377 = .ok (.invokevirtual 110, 3) := by decide +kernel
theorem dX4_addItself_380 : decode cX4_addItself 380 = .ok (.aload_n 0, 1) := by decide +kernel
theorem dX4_addItself_381 : decode cX4_addItself 381 = .ok (.getfield 9, 3) := by decide +kernel
theorem dX4_addItself_384 : decode cX4_addItself 384 = .ok (.aload_n 0, 1) := by decide +kernel
theorem dX4_addItself_385 : decode cX4_addItself 385 = .ok (.getfield 44, 3) := by decide +kernel
theorem dX4_addItself_388 : decode cX4_addItself 388 = .ok (.aload_n 0, 1) := by decide +kernel
theorem dX4_addItself_389 : decode cX4_addItself 389 = .ok (.getfield 44, 3) := by decide +kernel
theorem dX4_addItself_392 : decode cX4_addItself 392 = .ok (.invokevirtual 110, 3) := by decide +kernel
theorem dX4_addItself_395 : decode cX4_addItself 395 = .ok (.aload_n 0, 1) := by decide +kernel
theorem dX4_addItself_396 : decode cX4_addItself 396 = .ok (.getfield 9, 3) := by decide +kernel
theorem dX4_addItself_399 : decode cX4_addItself 399 = .ok (.aload_n 0, 1) := by decide +kernel
theorem dX4_addItself_400 : decode cX4_addItself 400 = .ok (.getfield 22, 3) := by decide +kernel
theorem dX4_addItself_403 : decode cX4_addItself 403 = .ok (.aload_n 0, 1) := by decide +kernel
theorem dX4_addItself_404 : decode cX4_addItself 404 = .ok (.getfield 47, 3) := by decide +kernel
theorem dX4_addItself_407 : decode cX4_addItself 407 = .ok (.aload_n 0, 1) := by decide +kernel
theorem dX4_addItself_408 : decode cX4_addItself 408 = .ok (.getfield 44, 3) := by decide +kernel
theorem dX4_addItself_411 : decode cX4_addItself 411 = .ok (.invokevirtual 76, 3) := by decide +kernel
theorem dX4_addItself_414 : decode cX4_addItself 414 = .ok (.return_, 1) := by decide +kernel
set_option maxRecDepth 20000 in
theorem ggX4_addAlongChord_X3_multiply : GoodIn wsX4_addAlongChord wsX3_multiply := goodIn_r _ [13, 14, 15, 16, 17, 18, 19, 20, 21, 22, 23, 12, 24, 25, 26, 27, 28, 29, 30, 31, 32, 33, 34, 35, 36, 37, 38, 39, 40, 41, 42, 65, 66, 67, 68, 69, 70, 71, 72, 73, 74] (by decide +kernel) (by decide +kernel)
set_option maxRecDepth 20000 in
theorem gX4_addAlongChord_X3_multiply : GoodIn wsX4_addAlongChord (wsV RX4 99 RX3 yX3_multiply wsX3_multiply) := goodIn_app (goodIn_of _ (by decide +kernel)) ggX4_addAlongChord_X3_multiply
set_option maxRecDepth 20000 in
theorem ggX4_addAlongChord_X3_subtract : GoodIn wsX4_addAlongChord wsX3_subtract := goodIn_r _ [46, 47, 48, 49, 50, 51, 52, 65, 66, 67, 68, 69, 70, 71, 72, 73, 74] (by decide +kernel) (by decide +kernel)
set_option maxRecDepth 20000 in
theorem gX4_addAlongChord_X3_subtract : GoodIn wsX4_addAlongChord (wsV RX4 76 RX3 yX3_subtract wsX3_subtract) := goodIn_app (goodIn_of _ (by decide +kernel)) ggX4_addAlongChord_X3_subtract
theorem dX4_addAlongChord_0 : decode cX4_addAlongChord 0 = .ok (.aload_n 0, 1) := by decide +kernel
theorem dX4_addAlongChord_1 : decode cX4_addAlongChord 1 = .ok (.getfield 9, 3) := by decide +kernel
theorem dX4_addAlongChord_4 : decode cX4_addAlongChord 4 = .ok (.aload_n 0, 1) := by decide +kernel
theorem dX4_addAlongChord_5 : decode cX4_addAlongChord 5 = .ok (.getfield 25, 3) := by decide +kernel
theorem dX4_addAlongChord_8 : decode cX4_addAlongChord 8 = .ok (.aload_n 0, 1) := by decide +kernel
theorem dX4_addAlongChord_9 : decode cX4_addAlongChord 9 = .ok (.getfield 25, 3) := by decide +kernel
theorem dX4_addAlongChord_12 : decode cX4_addAlongChord 12 = .ok (.aload_n 0, 1) := by decide +kernel
theorem dX4_addAlongChord_13 : decode cX4_addAlongChord 13 = .ok (.getfield 38, 3) := by decide +kernel
theorem dX4_addAlongChord_16 : decode cX4_addAlongChord 16 = .ok (.invokevirtual 99, 3) := by decide +kernel
theorem dX4_addAlongChord_19 : decode cX4_addAlongChord 19 = .ok (.aload_n 0, 1) := by decide +kernel
theorem dX4_addAlongChord_20 : decode cX4_addAlongChord 20 = .ok (.getfield 9, 3) := by decide +kernel
theorem dX4_addAlongChord_23 : decode cX4_addAlongChord 23 = .ok (.aload_n 0, 1) := by decide +kernel
theorem dX4_addAlongChord_24 : decode cX4_addAlongChord 24 = .ok (.getfield 44, 3) := by decide +kernel
theorem dX4_addAlongChord_27 : decode cX4_addAlongChord 27 = .ok (.aload_n 0, 1) := by decide +kernel
theorem dX4_addAlongChord_28 : decode cX4_addAlongChord 28 = .ok (.getfield 38, 3) := by decide +kernel
theorem dX4_addAlongChord_31 : decode cX4_addAlongChord 31 = .ok (.aload_n 0, 1) := by decide +kernel
theorem dX4_addAlongChord_32 : decode cX4_addAlongChord 32 = .ok (.getfield 38, 3) := by decide +kernel
theorem dX4_addAlongChord_35 : decode cX4_addAlongChord 35 = .ok (.invokevirtual 99, 3) := by decide +kernel
theorem dX4_addAlongChord_38 : decode cX4_addAlongChord 38 = .ok (.aload_n 0, 1) := by decide +kernel
theorem dX4_addAlongChord_39 : decode cX4_addAlongChord 39 = .ok (.getfield 9, 3) := by decide +kernel
theorem dX4_addAlongChord_42 : decode cX4_addAlongChord 42 = .ok (.aload_n 0, 1) := by decide +kernel
theorem dX4_addAlongChord_43 : decode cX4_addAlongChord 43 = .ok (.getfield 47, 3) := by decide +kernel
theorem dX4_addAlongChord_46 : decode cX4_addAlongChord 46 = .ok (.aload_n 0, 1) := by decide +kernel
theorem dX4_addAlongChord_47 : decode cX4_addAlongChord 47 = .ok (.getfield 19, 3) := by decide +kernel
theorem dX4_addAlongChord_50 : decode cX4_addAlongChord 50 = .ok (.aload_n 0, 1) := by decide +kernel
theorem dX4_addAlongChord_51 : decode cX4_addAlongChord 51 = .ok (.getfield 44, 3) := by decide +kernel
theorem dX4_addAlongChord_54 : decode cX4_addAlongChord 54 = .ok (.invokevirtual 99, 3) := by decide +kernel
theorem dX4_addAlongChord_57 : decode cX4_addAlongChord 57 = .ok (.aload_n 0, 1) := by decide +kernel
theorem dX4_addAlongChord_58 : decode cX4_addAlongChord 58 = .ok (.getfield 9, 3) := by decide +kernel
theorem dX4_addAlongChord_61 : decode cX4_addAlongChord 61 = .ok (.aload_n 0, 1) := by decide +kernel
theorem dX4_addAlongChord_62 : decode cX4_addAlongChord 62 = .ok (.getfield 44, 3) := by decide +kernel
theorem dX4_addAlongChord_65 : decode cX4_addAlongChord 65 = .ok (.aload_n 0, 1) := by decide +kernel
theorem dX4_addAlongChord_66 : decode cX4_addAlongChord 66 = .ok (.getfield 44, 3) := by decide +kernel
theorem dX4_addAlongChord_69 : decode cX4_addAlongChord 69 = .ok (.aload_n 0, 1) := by decide +kernel
theorem dX4_addAlongChord_70 : decode cX4_addAlongChord 70 = .ok (.getfield 38, 3) := by decide +kernel
theorem dX4_addAlongChord_73 : decode cX4_addAlongChord 73 = .ok (.invokevirtual 99, 3) := by decide +kernel
theorem dX4_addAlongChord_76 : decode cX4_addAlongChord 76 = .ok (.aload_n 0, 1) := by decide +kernel
theorem dX4_addAlongChord_77 : decode cX4_addAlongChord 77 = .ok (.getfield 9, 3) := by decide +kernel
theorem dX4_addAlongChord_80 : decode cX4_addAlongChord 80 = .ok (.aload_n 0, 1) := by decide +kernel
theorem dX4_addAlongChord_81 : decode cX4_addAlongChord 81 = .ok (.getfield 19, 3) := by decide +kernel
theorem dX4_addAlongChord_84 : decode cX4_addAlongChord 84 = .ok (.aload_n 0, 1) := by decide +kernel
theorem dX4_addAlongChord_85 : decode cX4_addAlongChord 85 = .ok (.getfield 41, 3) := by decide +kernel
theorem dX4_addAlongChord_88 : decode cX4_addAlongChord 88 = .ok (.aload_n 0, 1) := by decide +kernel
theorem dX4_addAlongChord_89 : decode cX4_addAlongChord 89 = .ok (.getfield 41, 3) := by decide +kernel
theorem dX4_addAlongChord_92 : decode cX4_addAlongChord 92 = .ok (.invokevirtual 99, 3) := by decide +kernel
theorem dX4_addAlongChord_95 : decode cX4_addAlongChord 95 = .ok (.aload_n 0, 1) := by decide +kernel
theorem dX4_addAlongChord_96 : decode cX4_addAlongChord 96 = .ok (.getfield 9, 3) := by decide +kernel
theorem dX4_addAlongChord_99 : decode cX4_addAlongChord 99 = .ok (.aload_n 0, 1) := by decide +kernel
theorem dX4_addAlongChord_100 : decode cX4_addAlongChord 100 = .ok (.getfield 19, 3) := by decide +kernel
theorem dX4_addAlongChord_103 : decode cX4_addAlongChord 103 = .ok (.aload_n 0, 1) := by decide +kernel
theorem dX4_addAlongChord_104 : decode cX4_addAlongChord 104 = .ok (.getfield 19, 3) := by decide +kernel
theorem dX4_addAlongChord_107 : decode cX4_addAlongChord 107 = .ok (.aload_n 0, 1) := by decide +kernel
theorem dX4_addAlongChord_108 : decode cX4_addAlongChord 108 = .ok (.getfield 44, 3) := by decide +kernel
theorem dX4_addAlongChord_111 : decode cX4_addAlongChord 111 = .ok (.invokevirtual 76, 3) := by decide +kernel
theorem dX4_addAlongChord_114 : decode cX4_addAlongChord 114 = .ok (.aload_n 0, 1) := by decide +kernel
theorem dX4_addAlongChord_115 : decode cX4_addAlongChord 115 = .ok (.getfield 9, 3) := by decide +kernel
theorem dX4_addAlongChord_118 : decode cX4_addAlongChord 118 = .ok (.aload_n 0, 1) := by decide +kernel
theorem dX4_addAlongChord_119 : decode cX4_addAlongChord 119 = .ok (.getfield 19, 3) := by decide +kernel
theorem dX4_addAlongChord_122 : decode cX4_addAlongChord 122 = .ok (.aload_n 0, 1) := by decide +kernel
theorem dX4_addAlongChord_123 : decode cX4_addAlongChord 123 = .ok (.getfield 19, 3) := by decide +kernel
theorem dX4_addAlongChord_126 : decode cX4_addAlongChord 126 = .ok (.aload_n 0, 1) := by decide +kernel
theorem dX4_addAlongChord_127 : decode cX4_addAlongChord 127 = .ok (.getfield 47, 3) := by decide +kernel
theorem dX4_addAlongChord_130 : decode cX4_addAlongChord 130 = .ok (.invokevirtual 76, 3) := by decide +kernel
theorem dX4_addAlongChord_133 : decode cX4_addAlongChord 133 = .ok (.aload_n 0, 1) := by decide +kernel
theorem dX4_addAlongChord_134 : decode cX4_addAlongChord 134 = .ok (.getfield 9, 3) := by decide +kernel
theorem dX4_addAlongChord_137 : decode cX4_addAlongChord 137 = .ok (.aload_n 0, 1) := by decide +kernel
theorem dX4_addAlongChord_138 : decode cX4_addAlongChord 138 = .ok (.getfield 19, 3) := by decide +kernel
theorem dX4_addAlongChord_141 : decode cX4_addAlongChord 141 = .ok (.aload_n 0, 1) := by decide +kernel
theorem dX4_addAlongChord_142 : decode cX4_addAlongChord 142 = .ok (.getfield 19, 3) := by decide +kernel
theorem dX4_addAlongChord_145 : decode cX4_addAlongChord 145 = .ok (.aload_n 0, 1) := by decide +kernel
theorem dX4_addAlongChord_146 : decode cX4_addAlongChord 146 = .ok (.getfield 47, 3) := by decide +kernel
theorem dX4_addAlongChord_149 : decode cX4_addAlongChord 149 = .ok (.invokevirtual 76, 3) := by decide +kernel
theorem dX4_addAlongChord_152 : decode cX4_addAlongChord 152 = .ok (.aload_n 0, 1) := by decide +kernel
theorem dX4_addAlongChord_153 : decode cX4_addAlongChord 153 = .ok (.getfield 9, 3) := by decide +kernel
theorem dX4_addAlongChord_156 : decode cX4_addAlongChord 156 = .ok (.aload_n 0, 1) := by decide +kernel
theorem dX4_addAlongChord_157 : decode cX4_addAlongChord 157 = .ok (.getfield 47, 3) := by decide +kernel
theorem dX4_addAlongChord_160 : decode cX4_addAlongChord 160 = .ok (.aload_n 0, 1) := by decide +kernel
theorem dX4_addAlongChord_161 : decode cX4_addAlongChord 161 = .ok (.getfield 47, 3) := by decide +kernel
theorem dX4_addAlongChord_164 : decode cX4_addAlongChord 164 = .ok (.aload_n 0, 1) := by decide +kernel
theorem dX4_addAlongChord_165 : decode cX4_addAlongChord 165 = .ok (.getfield 19, 3) := by decide +kernel
theorem dX4_addAlongChord_168 : decode cX4_addAlongChord 168 = .ok (.invokevirtual 76, 3) := by decide +kernel
theorem dX4_addAlongChord_171 : decode cX4_addAlongChord 171 = .ok (.aload_n 0, 1) := by decide +kernel
theorem dX4_addAlongChord_172 : decode cX4_addAlongChord 172 = .ok (.getfield 9, 3) := by decide +kernel
theorem dX4_addAlongChord_175 : decode cX4_addAlongChord 175 = .ok (.aload_n 0, 1) := by decide +kernel
theorem dX4_addAlongChord_176 : decode cX4_addAlongChord 176 = .ok (.getfield 47, 3) := by decide +kernel
theorem dX4_addAlongChord_179 : decode cX4_addAlongChord 179 = .ok (.aload_n 0, 1) := by decide +kernel
theorem dX4_addAlongChord_180 : decode cX4_addAlongChord 180 = .ok (.getfield 47, 3) := by decide +kernel
theorem dX4_addAlongChord_183 : decode cX4_addAlongChord 183 = .ok (.aload_n 0, 1) := by decide +kernel
theorem dX4_addAlongChord_184 : decode cX4_addAlongChord 184 = .ok (.getfield 41, 3) := by decide +kernel
theorem dX4_addAlongChord_187 : decode cX4_addAlongChord 187 = .ok (.invokevirtual 99, 3) := by decide +kernel
theorem dX4_addAlongChord_190 : decode cX4_addAlongChord 190 = .ok (.aload_n 0, 1) := by decide +kernel
theorem dX4_addAlongChord_191 : decode cX4_addAlongChord 191 = .ok (.getfield 9, 3) := by decide +kernel
theorem dX4_addAlongChord_194 : decode cX4_addAlongChord 194 = .ok (.aload_n 0, 1) := by decide +kernel
theorem dX4_addAlongChord_195 : decode cX4_addAlongChord 195 = .ok (.getfield 44, 3) := by decide +kernel
theorem dX4_addAlongChord_198 : decode cX4_addAlongChord 198 = .ok (.aload_n 0, 1) := by decide +kernel
theorem dX4_addAlongChord_199 : decode cX4_addAlongChord 199 = .ok (.getfield 44, 3) := by decide +kernel
theorem dX4_addAlongChord_202 : decode cX4_addAlongChord 202 = .ok (.aload_n 0, 1) := by decide +kernel
theorem dX4_addAlongChord_203 : decode cX4_addAlongChord 203 = .ok (.getfield 22, 3) := by decide +kernel
theorem dX4_addAlongChord_206 : decode cX4_addAlongChord 206 = .ok (.invokevirtual 99, 3) := by decide +kernel
theorem dX4_addAlongChord_209 : decode cX4_addAlongChord 209 = .ok (.aload_n 0, 1) := by decide +kernel
theorem dX4_addAlongChord_210 : decode cX4_addAlongChord 210 = .ok (.getfield 9, 3) := by decide +kernel
theorem dX4_addAlongChord_213 : decode cX4_addAlongChord 213 = .ok (.aload_n 0, 1) := by decide +kernel
theorem dX4_addAlongChord_214 : decode cX4_addAlongChord 214 = .ok (.getfield 22, 3) := by decide +kernel
theorem dX4_addAlongChord_217 : decode cX4_addAlongChord 217 = .ok (.aload_n 0, 1) := by decide +kernel
theorem dX4_addAlongChord_218 : decode cX4_addAlongChord 218 = .ok (.getfield 47, 3) := by decide +kernel
theorem dX4_addAlongChord_221 : decode cX4_addAlongChord 221 = .ok (.aload_n 0, 1) := by decide +kernel
theorem dX4_addAlongChord_222 : decode cX4_addAlongChord 222 = .ok (.getfield 44, 3) := by decide +kernel
theorem dX4_addAlongChord_225 : decode cX4_addAlongChord 225 = .ok (.invokevirtual 76, 3) := by decide +kernel
theorem dX4_addAlongChord_228 : decode cX4_addAlongChord 228 = .ok (.return_, 1) := by decide +kernel
set_option maxRecDepth 20000 in
theorem ggX4_addAtSameX_X3_add : GoodIn wsX4_addAtSameX wsX3_add := goodIn_r _ [11, 12, 13, 14, 15, 16, 17, 18, 19, 20, 46, 47, 48, 49, 50, 51, 52, 53, 54, 55] (by decide +kernel) (by decide +kernel)
set_option maxRecDepth 20000 in
theorem gX4_addAtSameX_X3_add : GoodIn wsX4_addAtSameX (wsV RX4 107 RX3 yX3_add wsX3_add) := goodIn_app (goodIn_of _ (by decide +kernel)) ggX4_addAtSameX_X3_add
set_option maxRecDepth 20000 in
theorem ggX4_addAtSameX_X1_isZero : GoodIn wsX4_addAtSameX wsX1_isZero := goodIn_r _ [23, 24, 25, 15, 26] (by decide +kernel) (by decide +kernel)
set_option maxRecDepth 20000 in
theorem gX4_addAtSameX_X1_isZero : GoodIn wsX4_addAtSameX (va_wsS RX4 82 yX1_isZero wsX1_isZero) := goodIn_app (goodIn_of _ (by decide +kernel)) ggX4_addAtSameX_X1_isZero
set_option maxRecDepth 20000 in
theorem ggX4_addAtSameX_X1_set : GoodIn wsX4_addAtSameX wsX1_set := goodIn_r _ [29, 30, 31, 32, 33] (by decide +kernel) (by decide +kernel)
set_option maxRecDepth 20000 in
theorem gX4_addAtSameX_X1_set : GoodIn wsX4_addAtSameX (va_wsS RX4 50 yX1_set wsX1_set) := goodIn_app (goodIn_of _ (by decide +kernel)) ggX4_addAtSameX_X1_set
theorem dX4_addAtSameX_0 : decode cX4_addAtSameX 0 = .ok (.aload_n 0, 1) := by decide +kernel
theorem dX4_addAtSameX_1 : decode cX4_addAtSameX 1 = .ok (.getfield 9, 3) := by decide +kernel
theorem dX4_addAtSameX_4 : decode cX4_addAtSameX 4 = .ok (.aload_n 0, 1) := by decide +kernel
theorem dX4_addAtSameX_5 : decode cX4_addAtSameX 5 = .ok (.getfield 44, 3) := by decide +kernel
theorem dX4_addAtSameX_8 : decode cX4_addAtSameX 8 = .ok (.aload_n 0, 1) := by decide +kernel
theorem dX4_addAtSameX_9 : decode cX4_addAtSameX 9 = .ok (.getfield 35, 3) := by decide +kernel
theorem dX4_addAtSameX_12 : decode cX4_addAtSameX 12 = .ok (.aload_n 0, 1) := by decide +kernel
theorem dX4_addAtSameX_13 : decode cX4_addAtSameX 13 = .ok (.getfield 22, 3) := by decide +kernel
theorem dX4_addAtSameX_16 : decode cX4_addAtSameX 16 = .ok (.invokevirtual 107, 3) := by decide +kernel
theorem dX4_addAtSameX_19 : decode cX4_addAtSameX 19 = .ok (.aload_n 0, 1) := by decide +kernel
theorem dX4_addAtSameX_20 : decode cX4_addAtSameX 20 = .ok (.getfield 44, 3) := by decide +kernel
theorem dX4_addAtSameX_23 : decode cX4_addAtSameX 23 = .ok (.invokestatic 82, 3) := by decide +kernel
theorem dX4_addAtSameX_26 : decode cX4_addAtSameX 26 = .ok (.ifCond .eq 11, 3) := by decide +kernel
theorem dX4_addAtSameX_29 : decode cX4_addAtSameX 29 = .ok (.aload_n 0, 1) := by decide +kernel
theorem dX4_addAtSameX_30 : decode cX4_addAtSameX 30 = .ok (.iconst 1, 1) := by decide +kernel
theorem dX4_addAtSameX_31 : decode cX4_addAtSameX 31 = .ok (.putfield 28, 3) := by decide +kernel
theorem dX4_addAtSameX_34 : decode cX4_addAtSameX 34 = .ok (.goto 11, 3) := by decide +kernel
theorem dX4_addAtSameX_37 : decode cX4_addAtSameX 37 = .ok (.aload_n 0, 1) := by decide +kernel
theorem dX4_addAtSameX_38 : decode cX4_addAtSameX 38 = .ok (.getfield 25, 3) := by decide +kernel
theorem dX4_addAtSameX_41 : decode cX4_addAtSameX 41 = .ok (.iconst 0, 1) := by decide +kernel
theorem dX4_addAtSameX_42 : decode cX4_addAtSameX 42 = .ok (.invokestatic 50, 3) := by decide +kernel
theorem dX4_addAtSameX_45 : decode cX4_addAtSameX 45 = .ok (.return_, 1) := by decide +kernel
set_option maxRecDepth 20000 in
theorem ggX5_init_X2_init : GoodIn wsX5_init wsX2_init := goodIn_r _ [40, 41, 2, 3, 13, 42, 43, 44, 98, 99, 100] (by decide +kernel) (by decide +kernel)
set_option maxRecDepth 20000 in
theorem gX5_init_X2_init : GoodIn wsX5_init (wsX2_init) := ggX5_init_X2_init
set_option maxRecDepth 20000 in
theorem ggX5_init_X3_init : GoodIn wsX5_init wsX3_init := goodIn_r _ [47, 48, 2, 3, 13, 49, 50, 51, 52, 53, 54, 55, 56, 57, 58, 101, 102, 103, 104, 105, 106, 107, 108, 109, 110] (by decide +kernel) (by decide +kernel)
set_option maxRecDepth 20000 in
theorem gX5_init_X3_init : GoodIn wsX5_init (wsX3_init) := ggX5_init_X3_init
set_option maxRecDepth 20000 in
theorem ggX5_init_X0_init : GoodIn wsX5_init wsX0_init := goodIn_r _ [61, 62, 2, 3, 63, 64, 65, 66, 13, 67, 68, 111, 112, 113, 114, 115, 116] (by decide +kernel) (by decide +kernel)
set_option maxRecDepth 20000 in
theorem gX5_init_X0_init : GoodIn wsX5_init (wsX0_init) := ggX5_init_X0_init
set_option maxRecDepth 20000 in
theorem ggX5_init_X4_init : GoodIn wsX5_init wsX4_init := goodIn_r _ [71, 72, 2, 3, 73, 74, 13, 75, 76, 77, 78, 79, 80, 81, 82, 83, 84, 117, 118, 119, 120, 121, 122, 123, 124, 125, 126, 127, 128] (by decide +kernel) (by decide +kernel)
set_option maxRecDepth 20000 in
theorem gX5_init_X4_init : GoodIn wsX5_init (wsX4_init) := ggX5_init_X4_init
