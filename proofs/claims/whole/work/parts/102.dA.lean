theorem dX0_init_0 : decode cX0_init 0 = .ok (.aload_n 0, 1) := by decide +kernel
theorem dX0_init_1 : decode cX0_init 1 = .ok (.invokespecial 3, 3) := by decide +kernel
theorem dX0_init_4 : decode cX0_init 4 = .ok (.aload_n 0, 1) := by decide +kernel
theorem dX0_init_5 : decode cX0_init 5 = .ok (.aload_n 1, 1) := by decide +kernel
theorem dX0_init_6 : decode cX0_init 6 = .ok (.iconst 0, 1) := by decide +kernel
theorem dX0_init_7 : decode cX0_init 7 = .ok (.aaload, 1) := by decide +kernel
theorem dX0_init_8 : decode cX0_init 8 = .ok (.putfield 9, 3) := by decide +kernel
theorem dX0_init_11 : decode cX0_init 11 = .ok (.aload_n 0, 1) := by decide +kernel
theorem dX0_init_12 : decode cX0_init 12 = .ok (.aload_n 1, 1) := by decide +kernel
theorem dX0_init_13 : decode cX0_init 13 = .ok (.iconst 1, 1) := by decide +kernel
theorem dX0_init_14 : decode cX0_init 14 = .ok (.aaload, 1) := by decide +kernel
theorem dX0_init_15 : decode cX0_init 15 = .ok (.putfield 15, 3) := by decide +kernel
theorem dX0_init_18 : decode cX0_init 18 = .ok (.aload_n 0, 1) := by decide +kernel
theorem dX0_init_19 : decode cX0_init 19 = .ok (.aload_n 1, 1) := by decide +kernel
theorem dX0_init_20 : decode cX0_init 20 = .ok (.iconst 2, 1) := by decide +kernel
theorem dX0_init_21 : decode cX0_init 21 = .ok (.aaload, 1) := by decide +kernel
theorem dX0_init_22 : decode cX0_init 22 = .ok (.putfield 18, 3) := by decide +kernel
theorem dX0_init_25 : decode cX0_init 25 = .ok (.aload_n 0, 1) := by decide +kernel
theorem dX0_init_26 : decode cX0_init 26 = .ok (.aload_n 2, 1) := by decide +kernel
theorem dX0_init_27 : decode cX0_init 27 = .ok (.putfield 21, 3) := by decide +kernel
theorem dX0_init_30 : decode cX0_init 30 = .ok (.aload_n 0, 1) := by decide +kernel
theorem dX0_init_31 : decode cX0_init 31 = .ok (.aload_n 0, 1) := by decide +kernel
theorem dX0_init_32 : decode cX0_init 32 = .ok (.getfield 9, 3) := by decide +kernel
theorem dX0_init_35 : decode cX0_init 35 = .ok (.arraylength, 1) := by decide +kernel
theorem dX0_init_36 : decode cX0_init 36 = .ok (.newarray .int, 2) := by decide +kernel
theorem dX0_init_38 : decode cX0_init 38 = .ok (.putfield 25, 3) := by decide +kernel
theorem dX0_init_41 : decode cX0_init 41 = .ok (.aload_n 0, 1) := by decide +kernel
theorem dX0_init_42 : decode cX0_init 42 = .ok (.aload_n 0, 1) := by decide +kernel
theorem dX0_init_43 : decode cX0_init 43 = .ok (.getfield 9, 3) := by decide +kernel
theorem dX0_init_46 : decode cX0_init 46 = .ok (.arraylength, 1) := by decide +kernel
theorem dX0_init_47 : decode cX0_init 47 = .ok (.newarray .int, 2) := by decide +kernel
theorem dX0_init_49 : decode cX0_init 49 = .ok (.putfield 28, 3) := by decide +kernel
theorem dX0_init_52 : decode cX0_init 52 = .ok (.return_, 1) := by decide +kernel
set_option maxRecDepth 20000 in
theorem ggX0_takeParameters_X1_bitsOf : GoodIn wsX0_takeParameters wsX1_bitsOf := goodIn_r _ [8, 9, 10, 7, 11, 12, 13, 14, 15, 16] (by decide +kernel) (by decide +kernel)
set_option maxRecDepth 20000 in
theorem gX0_takeParameters_X1_bitsOf : GoodIn wsX0_takeParameters (va_wsS RX0 31 yX1_bitsOf wsX1_bitsOf) := goodIn_app (goodIn_of _ (by decide +kernel)) ggX0_takeParameters_X1_bitsOf
set_option maxRecDepth 20000 in
theorem ggX0_takeParameters_X1_compare : GoodIn wsX0_takeParameters wsX1_compare := goodIn_r _ [19] (by decide +kernel) (by decide +kernel)
set_option maxRecDepth 20000 in
theorem gX0_takeParameters_X1_compare : GoodIn wsX0_takeParameters (va_wsS RX0 37 yX1_compare wsX1_compare) := goodIn_app (goodIn_of _ (by decide +kernel)) ggX0_takeParameters_X1_compare
set_option maxRecDepth 20000 in
theorem ggX0_takeParameters_X3_takeModulus : GoodIn wsX0_takeParameters wsX3_takeModulus := goodIn_r _ [24, 25, 26, 27, 28, 29, 30, 7, 31, 32, 33, 34, 35, 36, 10, 11, 37, 13, 14, 15, 16, 38, 39, 40, 41, 106, 107, 108, 109, 110, 111, 112, 113, 114, 115] (by decide +kernel) (by decide +kernel)
set_option maxRecDepth 20000 in
theorem gX0_takeParameters_X3_takeModulus : GoodIn wsX0_takeParameters (wsV RX0 41 RX3 yX3_takeModulus wsX3_takeModulus) := goodIn_app (goodIn_of _ (by decide +kernel)) ggX0_takeParameters_X3_takeModulus
set_option maxRecDepth 20000 in
theorem ggX0_takeParameters_X0_isSingular : GoodIn wsX0_takeParameters wsX0_isSingular := goodIn_r _ [46, 4, 47, 2, 48, 3, 49, 50, 51, 23, 52, 53, 26, 54, 55, 56, 57, 58, 59, 60, 61, 62, 28, 63, 64, 65, 66, 67, 68, 69, 70, 27, 71, 72, 73, 74, 75, 76, 77, 78, 79, 80, 81, 82, 83, 84, 85, 86, 25, 87, 88, 7, 89, 41, 90, 18, 19, 91, 92, 93, 94, 95, 96, 97, 98, 99, 9, 10, 11, 100, 101, 102, 103, 104, 105, 106, 107, 108, 109, 110, 111, 112, 113, 114, 115] (by decide +kernel) (by decide +kernel)
set_option maxRecDepth 20000 in
theorem gX0_takeParameters_X0_isSingular : GoodIn wsX0_takeParameters (wsV RX0 47 RX0 yX0_isSingular wsX0_isSingular) := goodIn_app (goodIn_of _ (by decide +kernel)) ggX0_takeParameters_X0_isSingular
theorem dX0_takeParameters_0 : decode cX0_takeParameters 0 = .ok (.aload_n 0, 1) := by decide +kernel
theorem dX0_takeParameters_1 : decode cX0_takeParameters 1 = .ok (.getfield 9, 3) := by decide +kernel
theorem dX0_takeParameters_4 : decode cX0_takeParameters 4 = .ok (.iconst 0, 1) := by decide +kernel
theorem dX0_takeParameters_5 : decode cX0_takeParameters 5 = .ok (.iaload, 1) := by decide +kernel
theorem dX0_takeParameters_6 : decode cX0_takeParameters 6 = .ok (.iconst 1, 1) := by decide +kernel
theorem dX0_takeParameters_7 : decode cX0_takeParameters 7 = .ok (.iand, 1) := by decide +kernel
theorem dX0_takeParameters_8 : decode cX0_takeParameters 8 = .ok (.ifCond .eq 14, 3) := by decide +kernel
theorem dX0_takeParameters_11 : decode cX0_takeParameters 11 = .ok (.aload_n 0, 1) := by decide +kernel
theorem dX0_takeParameters_12 : decode cX0_takeParameters 12 = .ok (.getfield 9, 3) := by decide +kernel
theorem dX0_takeParameters_15 : decode cX0_takeParameters 15 = .ok (.invokestatic 31, 3) := by decide +kernel
theorem dX0_takeParameters_18 : decode cX0_takeParameters 18 = .ok (.iconst 3, 1) := by decide +kernel
theorem dX0_takeParameters_19 : decode cX0_takeParameters 19 = .ok (.if_icmp .ge 5, 3) := by decide +kernel
theorem dX0_takeParameters_22 : decode cX0_takeParameters 22 = .ok (.iconst 1, 1) := by decide +kernel
theorem dX0_takeParameters_23 : decode cX0_takeParameters 23 = .ok (.ireturn, 1) := by decide +kernel
theorem dX0_takeParameters_24 : decode cX0_takeParameters 24 = .ok (.aload_n 0, 1) := by decide +kernel
theorem dX0_takeParameters_25 : decode cX0_takeParameters 25 = .ok (.getfield 15, 3) := by decide +kernel
theorem dX0_takeParameters_28 : decode cX0_takeParameters 28 = .ok (.aload_n 0, 1) := by decide +kernel
theorem dX0_takeParameters_29 : decode cX0_takeParameters 29 = .ok (.getfield 9, 3) := by decide +kernel
theorem dX0_takeParameters_32 : decode cX0_takeParameters 32 = .ok (.invokestatic 37, 3) := by decide +kernel
theorem dX0_takeParameters_35 : decode cX0_takeParameters 35 = .ok (.ifCond .ge 17, 3) := by decide +kernel
theorem dX0_takeParameters_38 : decode cX0_takeParameters 38 = .ok (.aload_n 0, 1) := by decide +kernel
theorem dX0_takeParameters_39 : decode cX0_takeParameters 39 = .ok (.getfield 18, 3) := by decide +kernel
theorem dX0_takeParameters_42 : decode cX0_takeParameters 42 = .ok (.aload_n 0, 1) := by decide +kernel
theorem dX0_takeParameters_43 : decode cX0_takeParameters 43 = .ok (.getfield 9, 3) := by decide +kernel
theorem dX0_takeParameters_46 : decode cX0_takeParameters 46 = .ok (.invokestatic 37, 3) := by decide +kernel
theorem dX0_takeParameters_49 : decode cX0_takeParameters 49 = .ok (.ifCond .lt 5, 3) := by decide +kernel
theorem dX0_takeParameters_52 : decode cX0_takeParameters 52 = .ok (.iconst 2, 1) := by decide +kernel
theorem dX0_takeParameters_53 : decode cX0_takeParameters 53 = .ok (.ireturn, 1) := by decide +kernel
theorem dX0_takeParameters_54 : decode cX0_takeParameters 54 = .ok (.aload_n 0, 1) := by decide +kernel
theorem dX0_takeParameters_55 : decode cX0_takeParameters 55 = .ok (.getfield 21, 3) := by decide +kernel
theorem dX0_takeParameters_58 : decode cX0_takeParameters 58 = .ok (.aload_n 0, 1) := by decide +kernel
theorem dX0_takeParameters_59 : decode cX0_takeParameters 59 = .ok (.getfield 9, 3) := by decide +kernel
theorem dX0_takeParameters_62 : decode cX0_takeParameters 62 = .ok (.invokevirtual 41, 3) := by decide +kernel
theorem dX0_takeParameters_65 : decode cX0_takeParameters 65 = .ok (.pop, 1) := by decide +kernel
theorem dX0_takeParameters_66 : decode cX0_takeParameters 66 = .ok (.aload_n 0, 1) := by decide +kernel
theorem dX0_takeParameters_67 : decode cX0_takeParameters 67 = .ok (.invokevirtual 47, 3) := by decide +kernel
theorem dX0_takeParameters_70 : decode cX0_takeParameters 70 = .ok (.ifCond .eq 7, 3) := by decide +kernel
theorem dX0_takeParameters_73 : decode cX0_takeParameters 73 = .ok (.iconst 3, 1) := by decide +kernel
theorem dX0_takeParameters_74 : decode cX0_takeParameters 74 = .ok (.goto 4, 3) := by decide +kernel
theorem dX0_takeParameters_77 : decode cX0_takeParameters 77 = .ok (.iconst 0, 1) := by decide +kernel
theorem dX0_takeParameters_78 : decode cX0_takeParameters 78 = .ok (.ireturn, 1) := by decide +kernel
set_option maxRecDepth 20000 in
theorem ggX0_isSingular_X3_multiply : GoodIn wsX0_isSingular wsX3_multiply := goodIn_r _ [10, 11, 12, 13, 14, 15, 16, 17, 18, 19, 20, 9, 21, 22, 23, 24, 25, 26, 27, 28, 29, 30, 31, 32, 33, 34, 35, 36, 37, 38, 39, 75, 76, 77, 78, 79, 80, 81, 82, 83, 84] (by decide +kernel) (by decide +kernel)
set_option maxRecDepth 20000 in
theorem gX0_isSingular_X3_multiply : GoodIn wsX0_isSingular (wsV RX0 51 RX3 yX3_multiply wsX3_multiply) := goodIn_app (goodIn_of _ (by decide +kernel)) ggX0_isSingular_X3_multiply
set_option maxRecDepth 20000 in
theorem ggX0_isSingular_X3_twice : GoodIn wsX0_isSingular wsX3_twice := goodIn_r _ [43, 44, 45, 46, 9, 47, 48, 49, 50, 51, 52, 53, 54, 55, 56, 75, 76, 77, 78, 79, 80, 81, 82, 83, 84] (by decide +kernel) (by decide +kernel)
set_option maxRecDepth 20000 in
theorem gX0_isSingular_X3_twice : GoodIn wsX0_isSingular (wsV RX0 55 RX3 yX3_twice wsX3_twice) := goodIn_app (goodIn_of _ (by decide +kernel)) ggX0_isSingular_X3_twice
set_option maxRecDepth 20000 in
theorem ggX0_isSingular_X3_thrice : GoodIn wsX0_isSingular wsX3_thrice := goodIn_r _ [60, 61, 44, 45, 46, 9, 47, 48, 49, 50, 51, 52, 53, 54, 55, 56, 75, 76, 77, 78, 79, 80, 81, 82, 83, 84] (by decide +kernel) (by decide +kernel)
set_option maxRecDepth 20000 in
theorem gX0_isSingular_X3_thrice : GoodIn wsX0_isSingular (wsV RX0 59 RX3 yX3_thrice wsX3_thrice) := goodIn_app (goodIn_of _ (by decide +kernel)) ggX0_isSingular_X3_thrice
set_option maxRecDepth 20000 in
theorem ggX0_isSingular_X3_add : GoodIn wsX0_isSingular wsX3_add := goodIn_r _ [47, 48, 49, 50, 51, 52, 53, 54, 55, 56, 75, 76, 77, 78, 79, 80, 81, 82, 83, 84] (by decide +kernel) (by decide +kernel)
set_option maxRecDepth 20000 in
theorem gX0_isSingular_X3_add : GoodIn wsX0_isSingular (wsV RX0 62 RX3 yX3_add wsX3_add) := goodIn_app (goodIn_of _ (by decide +kernel)) ggX0_isSingular_X3_add
set_option maxRecDepth 20000 in
theorem ggX0_isSingular_X1_isZero : GoodIn wsX0_isSingular wsX1_isZero := goodIn_r _ [65, 66, 67, 51, 68] (by decide +kernel) (by decide +kernel)
set_option maxRecDepth 20000 in
theorem gX0_isSingular_X1_isZero : GoodIn wsX0_isSingular (va_wsS RX0 65 yX1_isZero wsX1_isZero) := goodIn_app (goodIn_of _ (by decide +kernel)) ggX0_isSingular_X1_isZero
theorem dX0_isSingular_0 : decode cX0_isSingular 0 = .ok (.aload_n 0, 1) := by decide +kernel
theorem dX0_isSingular_1 : decode cX0_isSingular 1 = .ok (.getfield 21, 3) := by decide +kernel
theorem dX0_isSingular_4 : decode cX0_isSingular 4 = .ok (.aload_n 0, 1) := by decide +kernel
theorem dX0_isSingular_5 : decode cX0_isSingular 5 = .ok (.getfield 25, 3) := by decide +kernel
theorem dX0_isSingular_8 : decode cX0_isSingular 8 = .ok (.aload_n 0, 1) := by decide +kernel
theorem dX0_isSingular_9 : decode cX0_isSingular 9 = .ok (.getfield 15, 3) := by decide +kernel
theorem dX0_isSingular_12 : decode cX0_isSingular 12 = .ok (.aload_n 0, 1) := by decide +kernel
theorem dX0_isSingular_13 : decode cX0_isSingular 13 = .ok (.getfield 15, 3) := by decide +kernel
theorem dX0_isSingular_16 : decode cX0_isSingular 16 = .ok (.invokevirtual 51, 3) := by decide +kernel
theorem dX0_isSingular_19 : decode cX0_isSingular 19 = .ok (.aload_n 0, 1) := by decide +kernel
theorem dX0_isSingular_20 : decode cX0_isSingular 20 = .ok (.getfield 21, 3) := by decide +kernel
theorem dX0_isSingular_23 : decode cX0_isSingular 23 = .ok (.aload_n 0, 1) := by decide +kernel
theorem dX0_isSingular_24 : decode cX0_isSingular 24 = .ok (.getfield 25, 3) := by decide +kernel
theorem dX0_isSingular_27 : decode cX0_isSingular 27 = .ok (.aload_n 0, 1) := by decide +kernel
theorem dX0_isSingular_28 : decode cX0_isSingular 28 = .ok (.getfield 25, 3) := by decide +kernel
theorem dX0_isSingular_31 : decode cX0_isSingular 31 = .ok (.aload_n 0, 1) := by decide +kernel
theorem dX0_isSingular_32 : decode cX0_isSingular 32 = .ok (.getfield 15, 3) := by decide +kernel
theorem dX0_isSingular_35 : decode cX0_isSingular 35 = .ok (.invokevirtual 51, 3) := by decide +kernel
theorem dX0_isSingular_38 : decode cX0_isSingular 38 = .ok (.aload_n 0, 1) := by decide +kernel
theorem dX0_isSingular_39 : decode cX0_isSingular 39 = .ok (.getfield 21, 3) := by decide +kernel
theorem dX0_isSingular_42 : decode cX0_isSingular 42 = .ok (.aload_n 0, 1) := by decide +kernel
theorem dX0_isSingular_43 : decode cX0_isSingular 43 = .ok (.getfield 25, 3) := by decide +kernel
theorem dX0_isSingular_46 : decode cX0_isSingular 46 = .ok (.aload_n 0, 1) := by decide +kernel
theorem dX0_isSingular_47 : decode cX0_isSingular 47 = .ok (.getfield 25, 3) := by decide +kernel
theorem dX0_isSingular_50 : decode cX0_isSingular 50 = .ok (.invokevirtual 55, 3) := by decide +kernel
theorem dX0_isSingular_53 : decode cX0_isSingular 53 = .ok (.aload_n 0, 1) := by decide +kernel
theorem dX0_isSingular_54 : decode cX0_isSingular 54 = .ok (.getfield 21, 3) := by decide +kernel
theorem dX0_isSingular_57 : decode cX0_isSingular 57 = .ok (.aload_n 0, 1) := by decide +kernel
theorem dX0_isSingular_58 : decode cX0_isSingular 58 = .ok (.getfield 25, 3) := by decide +kernel
theorem dX0_isSingular_61 : decode cX0_isSingular 61 = .ok (.aload_n 0, 1) := by decide +kernel
theorem dX0_isSingular_62 : decode cX0_isSingular 62 = .ok (.getfield 25, 3) := by decide +kernel
theorem dX0_isSingular_65 : decode cX0_isSingular 65 = .ok (.invokevirtual 55, 3) := by decide +kernel
theorem dX0_isSingular_68 : decode cX0_isSingular 68 = .ok (.aload_n 0, 1) := by decide +kernel
theorem dX0_isSingular_69 : decode cX0_isSingular 69 = .ok (.getfield 21, 3) := by decide +kernel
theorem dX0_isSingular_72 : decode cX0_isSingular 72 = .ok (.aload_n 0, 1) := by decide +kernel
theorem dX0_isSingular_73 : decode cX0_isSingular 73 = .ok (.getfield 28, 3) := by decide +kernel
theorem dX0_isSingular_76 : decode cX0_isSingular 76 = .ok (.aload_n 0, 1) := by decide +kernel
theorem dX0_isSingular_77 : decode cX0_isSingular 77 = .ok (.getfield 18, 3) := by decide +kernel
theorem dX0_isSingular_80 : decode cX0_isSingular 80 = .ok (.aload_n 0, 1) := by decide +kernel
theorem dX0_isSingular_81 : decode cX0_isSingular 81 = .ok (.getfield 18, 3) := by decide +kernel
theorem dX0_isSingular_84 : decode cX0_isSingular 84 = .ok (.invokevirtual 51, 3) := by decide +kernel
theorem dX0_isSingular_87 : decode cX0_isSingular 87 = .ok (.aload_n 0, 1) := by decide +kernel
theorem dX0_isSingular_88 : decode cX0_isSingular 88 = .ok (.getfield 21, 3) := by decide +kernel
theorem dX0_isSingular_91 : decode cX0_isSingular 91 = .ok (.aload_n 0, 1) := by decide +kernel
theorem dX0_isSingular_92 : decode cX0_isSingular 92 = .ok (.getfield 28, 3) := by decide +kernel
theorem dX0_isSingular_95 : decode cX0_isSingular 95 = .ok (.aload_n 0, 1) := by decide +kernel
theorem dX0_isSingular_96 : decode cX0_isSingular 96 = .ok (.getfield 28, 3) := by decide +kernel
theorem dX0_isSingular_99 : decode cX0_isSingular 99 = .ok (.invokevirtual 59, 3) := by decide +kernel
theorem dX0_isSingular_102 : decode cX0_isSingular 102 = .ok (.aload_n 0, 1) := by decide +kernel
theorem dX0_isSingular_103 : decode cX0_isSingular 103 = .ok (.getfield 21, 3) := by decide +kernel
theorem dX0_isSingular_106 : decode cX0_isSingular 106 = .ok (.aload_n 0, 1) := by decide +kernel
theorem dX0_isSingular_107 : decode cX0_isSingular 107 = .ok (.getfield 28, 3) := by decide +kernel
theorem dX0_isSingular_110 : decode cX0_isSingular 110 = .ok (.aload_n 0, 1) := by decide +kernel
theorem dX0_isSingular_111 : decode cX0_isSingular 111 = .ok (.getfield 28, 3) := by decide +kernel
theorem dX0_isSingular_114 : decode cX0_isSingular 114 = .ok (.invokevirtual 59, 3) := by decide +kernel
theorem dX0_isSingular_117 : decode cX0_isSingular 117 = .ok (.aload_n 0, 1) := by decide +kernel
theorem dX0_isSingular_118 : decode cX0_isSingular 118 = .ok (.getfield 21, 3) := by decide +kernel
theorem dX0_isSingular_121 : decode cX0_isSingular 121 = .ok (.aload_n 0, 1) := by decide +kernel
theorem dX0_isSingular_122 : decode cX0_isSingular 122 = .ok (.getfield 28, 3) := by decide +kernel
theorem dX0_isSingular_125 : decode cX0_isSingular 125 = .ok (.aload_n 0, 1) := by decide +kernel
theorem dX0_isSingular_126 : decode cX0_isSingular 126 = .ok (.getfield 28, 3) := by decide +kernel
theorem dX0_isSingular_129 : decode cX0_isSingular 129 = .ok (.invokevirtual 59, 3) := by decide +kernel
theorem dX0_isSingular_132 : decode cX0_isSingular 132 = .ok (.aload_n 0, 1) := by decide +kernel
theorem dX0_isSingular_133 : decode cX0_isSingular 133 = .ok (.getfield 21, 3) := by decide +kernel
theorem dX0_isSingular_136 : decode cX0_isSingular 136 = .ok (.aload_n 0, 1) := by decide +kernel
theorem dX0_isSingular_137 : decode cX0_isSingular 137 = .ok (.getfield 25, 3) := by decide +kernel
theorem dX0_isSingular_140 : decode cX0_isSingular 140 = .ok (.aload_n 0, 1) := by decide +kernel
theorem dX0_isSingular_141 : decode cX0_isSingular 141 = .ok (.getfield 25, 3) := by decide +kernel
theorem dX0_isSingular_144 : decode cX0_isSingular 144 = .ok (.aload_n 0, 1) := by decide +kernel
theorem dX0_isSingular_145 : decode cX0_isSingular 145 = .ok (.getfield 28, 3) := by decide +kernel
theorem dX0_isSingular_148 : decode cX0_isSingular 148 = .ok (.invokevirtual 62, 3) := by decide +kernel
theorem dX0_isSingular_151 : decode cX0_isSingular 151 = .ok (.aload_n 0, 1) := by decide +kernel
theorem dX0_isSingular_152 : decode cX0_isSingular 152 = .ok (.getfield 25, 3) := by decide +kernel
theorem dX0_isSingular_155 : decode cX0_isSingular 155 = .ok (.invokestatic 65, 3) := by decide +kernel
theorem dX0_isSingular_158 : decode cX0_isSingular 158 = .ok (.ireturn, 1) := by decide +kernel
set_option maxRecDepth 20000 in
theorem ggX0_holds_X1_compare : GoodIn wsX0_holds wsX1_compare := goodIn_r _ [13] (by decide +kernel) (by decide +kernel)
set_option maxRecDepth 20000 in
theorem gX0_holds_X1_compare : GoodIn wsX0_holds (va_wsS RX0 37 yX1_compare wsX1_compare) := goodIn_app (goodIn_of _ (by decide +kernel)) ggX0_holds_X1_compare
set_option maxRecDepth 20000 in
theorem ggX0_holds_X3_multiply : GoodIn wsX0_holds wsX3_multiply := goodIn_r _ [18, 19, 20, 21, 22, 23, 24, 25, 26, 27, 28, 17, 29, 30, 31, 32, 33, 34, 35, 36, 37, 38, 39, 40, 41, 42, 43, 44, 45, 46, 47, 67, 68, 69, 70, 71, 72, 73, 74, 75, 76] (by decide +kernel) (by decide +kernel)
set_option maxRecDepth 20000 in
theorem gX0_holds_X3_multiply : GoodIn wsX0_holds (wsV RX0 51 RX3 yX3_multiply wsX3_multiply) := goodIn_app (goodIn_of _ (by decide +kernel)) ggX0_holds_X3_multiply
set_option maxRecDepth 20000 in
theorem ggX0_holds_X3_add : GoodIn wsX0_holds wsX3_add := goodIn_r _ [51, 52, 53, 54, 12, 55, 56, 57, 11, 13, 67, 68, 69, 70, 71, 72, 73, 74, 75, 76] (by decide +kernel) (by decide +kernel)
set_option maxRecDepth 20000 in
theorem gX0_holds_X3_add : GoodIn wsX0_holds (wsV RX0 62 RX3 yX3_add wsX3_add) := goodIn_app (goodIn_of _ (by decide +kernel)) ggX0_holds_X3_add
theorem dX0_holds_0 : decode cX0_holds 0 = .ok (.aload_n 1, 1) := by decide +kernel
theorem dX0_holds_1 : decode cX0_holds 1 = .ok (.getfield 68, 3) := by decide +kernel
theorem dX0_holds_4 : decode cX0_holds 4 = .ok (.ifCond .eq 5, 3) := by decide +kernel
theorem dX0_holds_7 : decode cX0_holds 7 = .ok (.iconst 1, 1) := by decide +kernel
theorem dX0_holds_8 : decode cX0_holds 8 = .ok (.ireturn, 1) := by decide +kernel
theorem dX0_holds_9 : decode cX0_holds 9 = .ok (.aload_n 1, 1) := by decide +kernel
theorem dX0_holds_10 : decode cX0_holds 10 = .ok (.getfield 74, 3) := by decide +kernel
theorem dX0_holds_13 : decode cX0_holds 13 = .ok (.aload_n 0, 1) := by decide +kernel
theorem dX0_holds_14 : decode cX0_holds 14 = .ok (.getfield 9, 3) := by decide +kernel
theorem dX0_holds_17 : decode cX0_holds 17 = .ok (.invokestatic 37, 3) := by decide +kernel
theorem dX0_holds_20 : decode cX0_holds 20 = .ok (.ifCond .ge 17, 3) := by decide +kernel
theorem dX0_holds_23 : decode cX0_holds 23 = .ok (.aload_n 1, 1) := by decide +kernel
theorem dX0_holds_24 : decode cX0_holds 24 = .ok (.getfield 77, 3) := by decide +kernel
theorem dX0_holds_27 : decode cX0_holds 27 = .ok (.aload_n 0, 1) := by decide +kernel
theorem dX0_holds_28 : decode cX0_holds 28 = .ok (.getfield 9, 3) := by decide +kernel
theorem dX0_holds_31 : decode cX0_holds 31 = .ok (.invokestatic 37, 3) := by decide +kernel
theorem dX0_holds_34 : decode cX0_holds 34 = .ok (.ifCond .lt 5, 3) := by decide +kernel
theorem dX0_holds_37 : decode cX0_holds 37 = .ok (.iconst 0, 1) := by decide +kernel
theorem dX0_holds_38 : decode cX0_holds 38 = .ok (.ireturn, 1) := by decide +kernel
theorem dX0_holds_39 : decode cX0_holds 39 = .ok (.aload_n 0, 1) := by decide +kernel
theorem dX0_holds_40 : decode cX0_holds 40 = .ok (.getfield 21, 3) := by decide +kernel
theorem dX0_holds_43 : decode cX0_holds 43 = .ok (.aload_n 0, 1) := by decide +kernel
theorem dX0_holds_44 : decode cX0_holds 44 = .ok (.getfield 25, 3) := by decide +kernel
theorem dX0_holds_47 : decode cX0_holds 47 = .ok (.aload_n 1, 1) := by decide +kernel
theorem dX0_holds_48 : decode cX0_holds 48 = .ok (.getfield 77, 3) := by decide +kernel
theorem dX0_holds_51 : decode cX0_holds 51 = .ok (.aload_n 1, 1) := by decide +kernel
theorem dX0_holds_52 : decode cX0_holds 52 = .ok (.getfield 77, 3) := by decide +kernel
theorem dX0_holds_55 : decode cX0_holds 55 = .ok (.invokevirtual 51, 3) := by decide +kernel
theorem dX0_holds_58 : decode cX0_holds 58 = .ok (.aload_n 0, 1) := by decide +kernel
theorem dX0_holds_59 : decode cX0_holds 59 = .ok (.getfield 21, 3) := by decide +kernel
theorem dX0_holds_62 : decode cX0_holds 62 = .ok (.aload_n 0, 1) := by decide +kernel
theorem dX0_holds_63 : decode cX0_holds 63 = .ok (.getfield 28, 3) := by decide +kernel
theorem dX0_holds_66 : decode cX0_holds 66 = .ok (.aload_n 1, 1) := by decide +kernel
theorem dX0_holds_67 : decode cX0_holds 67 = .ok (.getfield 74, 3) := by decide +kernel
theorem dX0_holds_70 : decode cX0_holds 70 = .ok (.aload_n 1, 1) := by decide +kernel
theorem dX0_holds_71 : decode cX0_holds 71 = .ok (.getfield 74, 3) := by decide +kernel
theorem dX0_holds_74 : decode cX0_holds 74 = .ok (.invokevirtual 51, 3) := by decide +kernel
theorem dX0_holds_77 : decode cX0_holds 77 = .ok (.aload_n 0, 1) := by decide +kernel
theorem dX0_holds_78 : decode cX0_holds 78 = .ok (.getfield 21, 3) := by decide +kernel
theorem dX0_holds_81 : decode cX0_holds 81 = .ok (.aload_n 0, 1) := by decide +kernel
theorem dX0_holds_82 : decode cX0_holds 82 = .ok (.getfield 28, 3) := by decide +kernel
theorem dX0_holds_85 : decode cX0_holds 85 = .ok (.aload_n 0, 1) := by decide +kernel
theorem dX0_holds_86 : decode cX0_holds 86 = .ok (.getfield 28, 3) := by decide +kernel
theorem dX0_holds_89 : decode cX0_holds 89 = .ok (.aload_n 0, 1) := by decide +kernel
theorem dX0_holds_90 : decode cX0_holds 90 = .ok (.getfield 15, 3) := by decide +kernel
theorem dX0_holds_93 : decode cX0_holds 93 = .ok (.invokevirtual 62, 3) := by decide +kernel
theorem dX0_holds_96 : decode cX0_holds 96 = .ok (.aload_n 0, 1) := by decide +kernel
theorem dX0_holds_97 : decode cX0_holds 97 = .ok (.getfield 21, 3) := by decide +kernel
theorem dX0_holds_100 : decode cX0_holds 100 = .ok (.aload_n 0, 1) := by decide +kernel
theorem dX0_holds_101 : decode cX0_holds 101 = .ok (.getfield 28, 3) := by decide +kernel
theorem dX0_holds_104 : decode cX0_holds 104 = .ok (.aload_n 0, 1) := by decide +kernel
theorem dX0_holds_105 : decode cX0_holds 105 = .ok (.getfield 28, 3) := by decide +kernel
theorem dX0_holds_108 : decode cX0_holds 108 = .ok (.aload_n 1, 1) := by decide +kernel
theorem dX0_holds_109 : decode cX0_holds 109 = .ok (.getfield 74, 3) := by decide +kernel
theorem dX0_holds_112 : decode cX0_holds 112 = .ok (.invokevirtual 51, 3) := by decide +kernel
theorem dX0_holds_115 : decode cX0_holds 115 = .ok (.aload_n 0, 1) := by decide +kernel
theorem dX0_holds_116 : decode cX0_holds 116 = .ok (.getfield 21, 3) := by decide +kernel
theorem dX0_holds_119 : decode cX0_holds 119 = .ok (.aload_n 0, 1) := by decide +kernel
theorem dX0_holds_120 : decode cX0_holds 120 = .ok (.getfield 28, 3) := by decide +kernel
theorem dX0_holds_123 : decode cX0_holds 123 = .ok (.aload_n 0, 1) := by decide +kernel
theorem dX0_holds_124 : decode cX0_holds 124 = .ok (.getfield 28, 3) := by decide +kernel
theorem dX0_holds_127 : decode cX0_holds 127 = .ok (.aload_n 0, 1) := by decide +kernel
theorem dX0_holds_128 : decode cX0_holds 128 = .ok (.getfield 18, 3) := by decide +kernel
theorem dX0_holds_131 : decode cX0_holds 131 = .ok (.invokevirtual 62, 3) := by decide +kernel
theorem dX0_holds_134 : decode cX0_holds 134 = .ok (.aload_n 0, 1) := by decide +kernel
theorem dX0_holds_135 : decode cX0_holds 135 = .ok (.getfield 25, 3) := by decide +kernel
theorem dX0_holds_138 : decode cX0_holds 138 = .ok (.aload_n 0, 1) := by decide +kernel
theorem dX0_holds_139 : decode cX0_holds 139 = .ok (.getfield 28, 3) := by decide +kernel
theorem dX0_holds_142 : decode cX0_holds 142 = .ok (.invokestatic 37, 3) := by decide +kernel
theorem dX0_holds_145 : decode cX0_holds 145 = .ok (.ifCond .ne 7, 3) := by decide +kernel
theorem dX0_holds_148 : decode cX0_holds 148 = .ok (.iconst 1, 1) := by decide +kernel
theorem dX0_holds_149 : decode cX0_holds 149 = .ok (.goto 4, 3) := by decide +kernel
theorem dX0_holds_152 : decode cX0_holds 152 = .ok (.iconst 0, 1) := by decide +kernel
theorem dX0_holds_153 : decode cX0_holds 153 = .ok (.ireturn, 1) := by decide +kernel
set_option maxRecDepth 20000 in
theorem ggX0_mirror_X1_isZero : GoodIn wsX0_mirror wsX1_isZero := goodIn_r _ [7, 8, 9, 6, 10] (by decide +kernel) (by decide +kernel)
set_option maxRecDepth 20000 in
theorem gX0_mirror_X1_isZero : GoodIn wsX0_mirror (va_wsS RX0 65 yX1_isZero wsX1_isZero) := goodIn_app (goodIn_of _ (by decide +kernel)) ggX0_mirror_X1_isZero
set_option maxRecDepth 20000 in
theorem ggX0_mirror_X1_set : GoodIn wsX0_mirror wsX1_set := goodIn_r _ [13, 14, 15, 16, 17] (by decide +kernel) (by decide +kernel)
set_option maxRecDepth 20000 in
theorem gX0_mirror_X1_set : GoodIn wsX0_mirror (va_wsS RX0 80 yX1_set wsX1_set) := goodIn_app (goodIn_of _ (by decide +kernel)) ggX0_mirror_X1_set
set_option maxRecDepth 20000 in
theorem ggX0_mirror_X3_subtract : GoodIn wsX0_mirror wsX3_subtract := goodIn_r _ [22, 23, 24, 25, 6, 26, 27, 37, 38, 39, 40, 41, 42, 43, 44, 45, 46] (by decide +kernel) (by decide +kernel)
set_option maxRecDepth 20000 in
theorem gX0_mirror_X3_subtract : GoodIn wsX0_mirror (wsV RX0 84 RX3 yX3_subtract wsX3_subtract) := goodIn_app (goodIn_of _ (by decide +kernel)) ggX0_mirror_X3_subtract
theorem dX0_mirror_0 : decode cX0_mirror 0 = .ok (.aload_n 1, 1) := by decide +kernel
theorem dX0_mirror_1 : decode cX0_mirror 1 = .ok (.getfield 77, 3) := by decide +kernel
theorem dX0_mirror_4 : decode cX0_mirror 4 = .ok (.invokestatic 65, 3) := by decide +kernel
theorem dX0_mirror_7 : decode cX0_mirror 7 = .ok (.ifCond .ne 30, 3) := by decide +kernel
theorem dX0_mirror_10 : decode cX0_mirror 10 = .ok (.aload_n 0, 1) := by decide +kernel
theorem dX0_mirror_11 : decode cX0_mirror 11 = .ok (.getfield 25, 3) := by decide +kernel
theorem dX0_mirror_14 : decode cX0_mirror 14 = .ok (.iconst 0, 1) := by decide +kernel
theorem dX0_mirror_15 : decode cX0_mirror 15 = .ok (.invokestatic 80, 3) := by decide +kernel
theorem dX0_mirror_18 : decode cX0_mirror 18 = .ok (.aload_n 0, 1) := by decide +kernel
theorem dX0_mirror_19 : decode cX0_mirror 19 = .ok (.getfield 21, 3) := by decide +kernel
theorem dX0_mirror_22 : decode cX0_mirror 22 = .ok (.aload_n 1, 1) := by decide +kernel
theorem dX0_mirror_23 : decode cX0_mirror 23 = .ok (.getfield 77, 3) := by decide +kernel
theorem dX0_mirror_26 : decode cX0_mirror 26 = .ok (.aload_n 0, 1) := by decide +kernel
theorem dX0_mirror_27 : decode cX0_mirror 27 = .ok (.getfield 25, 3) := by decide +kernel
theorem dX0_mirror_30 : decode cX0_mirror 30 = .ok (.aload_n 1, 1) := by decide +kernel
theorem dX0_mirror_31 : decode cX0_mirror 31 = .ok (.getfield 77, 3) := by decide +kernel
theorem dX0_mirror_34 : decode cX0_mirror 34 = .ok (.invokevirtual 84, 3) := by decide +kernel
theorem dX0_mirror_37 : decode cX0_mirror 37 = .ok (.return_, 1) := by decide +kernel
set_option maxRecDepth 20000 in
theorem ggX1_set_J7_fill_53178 : GoodIn wsX1_set wsJ7_fill_53178 := goodIn_r _ [4] (by decide +kernel) (by decide +kernel)
set_option maxRecDepth 20000 in
theorem gX1_set_J7_fill_53178 : GoodIn wsX1_set (va_wsS RX1 9 yJ7_fill_53178 wsJ7_fill_53178) := goodIn_app (goodIn_of _ (by decide +kernel)) ggX1_set_J7_fill_53178
theorem dX1_set_0 : decode cX1_set 0 = .ok (.aload_n 0, 1) := by decide +kernel
theorem dX1_set_1 : decode cX1_set 1 = .ok (.iconst 0, 1) := by decide +kernel
theorem dX1_set_2 : decode cX1_set 2 = .ok (.invokestatic 9, 3) := by decide +kernel
theorem dX1_set_5 : decode cX1_set 5 = .ok (.aload_n 0, 1) := by decide +kernel
theorem dX1_set_6 : decode cX1_set 6 = .ok (.iconst 0, 1) := by decide +kernel
theorem dX1_set_7 : decode cX1_set 7 = .ok (.iload_n 1, 1) := by decide +kernel
theorem dX1_set_8 : decode cX1_set 8 = .ok (.iastore, 1) := by decide +kernel
theorem dX1_set_9 : decode cX1_set 9 = .ok (.return_, 1) := by decide +kernel
theorem dX1_copy_0 : decode cX1_copy 0 = .ok (.aload_n 1, 1) := by decide +kernel
theorem dX1_copy_1 : decode cX1_copy 1 = .ok (.iconst 0, 1) := by decide +kernel
theorem dX1_copy_2 : decode cX1_copy 2 = .ok (.aload_n 0, 1) := by decide +kernel
theorem dX1_copy_3 : decode cX1_copy 3 = .ok (.iconst 0, 1) := by decide +kernel
theorem dX1_copy_4 : decode cX1_copy 4 = .ok (.aload_n 0, 1) := by decide +kernel
theorem dX1_copy_5 : decode cX1_copy 5 = .ok (.arraylength, 1) := by decide +kernel
theorem dX1_copy_6 : decode cX1_copy 6 = .ok (.invokestatic 15, 3) := by decide +kernel
theorem dX1_copy_9 : decode cX1_copy 9 = .ok (.return_, 1) := by decide +kernel
set_option maxRecDepth 20000 in
theorem ggX1_isZero_X1_sizeOf : GoodIn wsX1_isZero wsX1_sizeOf := goodIn_r _ [4] (by decide +kernel) (by decide +kernel)
set_option maxRecDepth 20000 in
theorem gX1_isZero_X1_sizeOf : GoodIn wsX1_isZero (va_wsS RX1 21 yX1_sizeOf wsX1_sizeOf) := goodIn_app (goodIn_of _ (by decide +kernel)) ggX1_isZero_X1_sizeOf
theorem dX1_isZero_0 : decode cX1_isZero 0 = .ok (.aload_n 0, 1) := by decide +kernel
theorem dX1_isZero_1 : decode cX1_isZero 1 = .ok (.invokestatic 21, 3) := by decide +kernel
theorem dX1_isZero_4 : decode cX1_isZero 4 = .ok (.ifCond .ne 7, 3) := by decide +kernel
theorem dX1_isZero_7 : decode cX1_isZero 7 = .ok (.iconst 1, 1) := by decide +kernel
theorem dX1_isZero_8 : decode cX1_isZero 8 = .ok (.goto 4, 3) := by decide +kernel
theorem dX1_isZero_11 : decode cX1_isZero 11 = .ok (.iconst 0, 1) := by decide +kernel
theorem dX1_isZero_12 : decode cX1_isZero 12 = .ok (.ireturn, 1) := by decide +kernel
theorem dX1_sizeOf_0 : decode cX1_sizeOf 0 = .ok (.aload_n 0, 1) := by decide +kernel
theorem dX1_sizeOf_1 : decode cX1_sizeOf 1 = .ok (.arraylength, 1) := by decide +kernel
theorem dX1_sizeOf_2 : decode cX1_sizeOf 2 = .ok (.istore_n 1, 1) := by decide +kernel
theorem dX1_sizeOf_3 : decode cX1_sizeOf 3 = .ok (.iload_n 1, 1) := by decide +kernel
theorem dX1_sizeOf_4 : decode cX1_sizeOf 4 = .ok (.ifCond .le 17, 3) := by decide +kernel
theorem dX1_sizeOf_7 : decode cX1_sizeOf 7 = .ok (.aload_n 0, 1) := by decide +kernel
theorem dX1_sizeOf_8 : decode cX1_sizeOf 8 = .ok (.iload_n 1, 1) := by decide +kernel
theorem dX1_sizeOf_9 : decode cX1_sizeOf 9 = .ok (.iconst 1, 1) := by decide +kernel
theorem dX1_sizeOf_10 : decode cX1_sizeOf 10 = .ok (.isub, 1) := by decide +kernel
theorem dX1_sizeOf_11 : decode cX1_sizeOf 11 = .ok (.iaload, 1) := by decide +kernel
theorem dX1_sizeOf_12 : decode cX1_sizeOf 12 = .ok (.ifCond .ne 9, 3) := by decide +kernel
theorem dX1_sizeOf_15 : decode cX1_sizeOf 15 = .ok (.iinc 1 (-1), 3) := by decide +kernel
theorem dX1_sizeOf_18 : decode cX1_sizeOf 18 = .ok (.goto (-15), 3) := by decide +kernel
theorem dX1_sizeOf_21 : decode cX1_sizeOf 21 = .ok (.iload_n 1, 1) := by decide +kernel
theorem dX1_sizeOf_22 : decode cX1_sizeOf 22 = .ok (.ireturn, 1) := by decide +kernel
set_option maxRecDepth 20000 in
theorem ggX1_bitsOf_X1_sizeOf : GoodIn wsX1_bitsOf wsX1_sizeOf := goodIn_r _ [4] (by decide +kernel) (by decide +kernel)
set_option maxRecDepth 20000 in
theorem gX1_bitsOf_X1_sizeOf : GoodIn wsX1_bitsOf (va_wsS RX1 21 yX1_sizeOf wsX1_sizeOf) := goodIn_app (goodIn_of _ (by decide +kernel)) ggX1_bitsOf_X1_sizeOf
set_option maxRecDepth 20000 in
theorem ggX1_bitsOf_J6_numberOfLeadingZeros_0f7a4 : GoodIn wsX1_bitsOf wsJ6_numberOfLeadingZeros_0f7a4 := goodIn_r _ [8, 9] (by decide +kernel) (by decide +kernel)
set_option maxRecDepth 20000 in
theorem gX1_bitsOf_J6_numberOfLeadingZeros_0f7a4 : GoodIn wsX1_bitsOf (va_wsS RX1 27 yJ6_numberOfLeadingZeros_0f7a4 wsJ6_numberOfLeadingZeros_0f7a4) := goodIn_app (goodIn_of _ (by decide +kernel)) ggX1_bitsOf_J6_numberOfLeadingZeros_0f7a4
theorem dX1_bitsOf_0 : decode cX1_bitsOf 0 = .ok (.aload_n 0, 1) := by decide +kernel
theorem dX1_bitsOf_1 : decode cX1_bitsOf 1 = .ok (.invokestatic 21, 3) := by decide +kernel
theorem dX1_bitsOf_4 : decode cX1_bitsOf 4 = .ok (.istore_n 1, 1) := by decide +kernel
theorem dX1_bitsOf_5 : decode cX1_bitsOf 5 = .ok (.iload_n 1, 1) := by decide +kernel
theorem dX1_bitsOf_6 : decode cX1_bitsOf 6 = .ok (.ifCond .ne 7, 3) := by decide +kernel
theorem dX1_bitsOf_9 : decode cX1_bitsOf 9 = .ok (.iconst 0, 1) := by decide +kernel
theorem dX1_bitsOf_10 : decode cX1_bitsOf 10 = .ok (.goto 18, 3) := by decide +kernel
theorem dX1_bitsOf_13 : decode cX1_bitsOf 13 = .ok (.iload_n 1, 1) := by decide +kernel
theorem dX1_bitsOf_14 : decode cX1_bitsOf 14 = .ok (.bipush 31, 2) := by decide +kernel
theorem dX1_bitsOf_16 : decode cX1_bitsOf 16 = .ok (.imul, 1) := by decide +kernel
theorem dX1_bitsOf_17 : decode cX1_bitsOf 17 = .ok (.iconst 1, 1) := by decide +kernel
theorem dX1_bitsOf_18 : decode cX1_bitsOf 18 = .ok (.iadd, 1) := by decide +kernel
theorem dX1_bitsOf_19 : decode cX1_bitsOf 19 = .ok (.aload_n 0, 1) := by decide +kernel
theorem dX1_bitsOf_20 : decode cX1_bitsOf 20 = .ok (.iload_n 1, 1) := by decide +kernel
theorem dX1_bitsOf_21 : decode cX1_bitsOf 21 = .ok (.iconst 1, 1) := by decide +kernel
theorem dX1_bitsOf_22 : decode cX1_bitsOf 22 = .ok (.isub, 1) := by decide +kernel
theorem dX1_bitsOf_23 : decode cX1_bitsOf 23 = .ok (.iaload, 1) := by decide +kernel
theorem dX1_bitsOf_24 : decode cX1_bitsOf 24 = .ok (.invokestatic 27, 3) := by decide +kernel
theorem dX1_bitsOf_27 : decode cX1_bitsOf 27 = .ok (.isub, 1) := by decide +kernel
theorem dX1_bitsOf_28 : decode cX1_bitsOf 28 = .ok (.ireturn, 1) := by decide +kernel
theorem dX1_compare_0 : decode cX1_compare 0 = .ok (.aload_n 0, 1) := by decide +kernel
theorem dX1_compare_1 : decode cX1_compare 1 = .ok (.arraylength, 1) := by decide +kernel
theorem dX1_compare_2 : decode cX1_compare 2 = .ok (.iconst 1, 1) := by decide +kernel
theorem dX1_compare_3 : decode cX1_compare 3 = .ok (.isub, 1) := by decide +kernel
theorem dX1_compare_4 : decode cX1_compare 4 = .ok (.istore_n 2, 1) := by decide +kernel
theorem dX1_compare_5 : decode cX1_compare 5 = .ok (.iload_n 2, 1) := by decide +kernel
theorem dX1_compare_6 : decode cX1_compare 6 = .ok (.ifCond .lt 33, 3) := by decide +kernel
theorem dX1_compare_9 : decode cX1_compare 9 = .ok (.aload_n 0, 1) := by decide +kernel
theorem dX1_compare_10 : decode cX1_compare 10 = .ok (.iload_n 2, 1) := by decide +kernel
theorem dX1_compare_11 : decode cX1_compare 11 = .ok (.iaload, 1) := by decide +kernel
theorem dX1_compare_12 : decode cX1_compare 12 = .ok (.aload_n 1, 1) := by decide +kernel
theorem dX1_compare_13 : decode cX1_compare 13 = .ok (.iload_n 2, 1) := by decide +kernel
theorem dX1_compare_14 : decode cX1_compare 14 = .ok (.iaload, 1) := by decide +kernel
theorem dX1_compare_15 : decode cX1_compare 15 = .ok (.if_icmp .eq 18, 3) := by decide +kernel
theorem dX1_compare_18 : decode cX1_compare 18 = .ok (.aload_n 0, 1) := by decide +kernel
theorem dX1_compare_19 : decode cX1_compare 19 = .ok (.iload_n 2, 1) := by decide +kernel
theorem dX1_compare_20 : decode cX1_compare 20 = .ok (.iaload, 1) := by decide +kernel
theorem dX1_compare_21 : decode cX1_compare 21 = .ok (.aload_n 1, 1) := by decide +kernel
theorem dX1_compare_22 : decode cX1_compare 22 = .ok (.iload_n 2, 1) := by decide +kernel
theorem dX1_compare_23 : decode cX1_compare 23 = .ok (.iaload, 1) := by decide +kernel
theorem dX1_compare_24 : decode cX1_compare 24 = .ok (.if_icmp .ge 7, 3) := by decide +kernel
theorem dX1_compare_27 : decode cX1_compare 27 = .ok (.iconst (-1), 1) := by decide +kernel
theorem dX1_compare_28 : decode cX1_compare 28 = .ok (.goto 4, 3) := by decide +kernel
theorem dX1_compare_31 : decode cX1_compare 31 = .ok (.iconst 1, 1) := by decide +kernel
theorem dX1_compare_32 : decode cX1_compare 32 = .ok (.ireturn, 1) := by decide +kernel
theorem dX1_compare_33 : decode cX1_compare 33 = .ok (.iinc 2 (-1), 3) := by decide +kernel
theorem dX1_compare_36 : decode cX1_compare 36 = .ok (.goto (-31), 3) := by decide +kernel
theorem dX1_compare_39 : decode cX1_compare 39 = .ok (.iconst 0, 1) := by decide +kernel
theorem dX1_compare_40 : decode cX1_compare 40 = .ok (.ireturn, 1) := by decide +kernel
theorem dX1_combine_0 : decode cX1_combine 0 = .ok (.lconst 0, 1) := by decide +kernel
theorem dX1_combine_1 : decode cX1_combine 1 = .ok (.lstore 4, 2) := by decide +kernel
theorem dX1_combine_3 : decode cX1_combine 3 = .ok (.iconst 0, 1) := by decide +kernel
theorem dX1_combine_4 : decode cX1_combine 4 = .ok (.istore 6, 2) := by decide +kernel
theorem dX1_combine_6 : decode cX1_combine 6 = .ok (.iload 6, 2) := by decide +kernel
theorem dX1_combine_8 : decode cX1_combine 8 = .ok (.aload_n 0, 1) := by decide +kernel
theorem dX1_combine_9 : decode cX1_combine 9 = .ok (.arraylength, 1) := by decide +kernel
theorem dX1_combine_10 : decode cX1_combine 10 = .ok (.if_icmp .ge 46, 3) := by decide +kernel
theorem dX1_combine_13 : decode cX1_combine 13 = .ok (.lload 4, 2) := by decide +kernel
theorem dX1_combine_15 : decode cX1_combine 15 = .ok (.aload_n 1, 1) := by decide +kernel
theorem dX1_combine_16 : decode cX1_combine 16 = .ok (.iload 6, 2) := by decide +kernel
theorem dX1_combine_18 : decode cX1_combine 18 = .ok (.iaload, 1) := by decide +kernel
theorem dX1_combine_19 : decode cX1_combine 19 = .ok (.i2l, 1) := by decide +kernel
theorem dX1_combine_20 : decode cX1_combine 20 = .ok (.iload_n 3, 1) := by decide +kernel
theorem dX1_combine_21 : decode cX1_combine 21 = .ok (.i2l, 1) := by decide +kernel
theorem dX1_combine_22 : decode cX1_combine 22 = .ok (.aload_n 2, 1) := by decide +kernel
theorem dX1_combine_23 : decode cX1_combine 23 = .ok (.iload 6, 2) := by decide +kernel
theorem dX1_combine_25 : decode cX1_combine 25 = .ok (.iaload, 1) := by decide +kernel
theorem dX1_combine_26 : decode cX1_combine 26 = .ok (.i2l, 1) := by decide +kernel
theorem dX1_combine_27 : decode cX1_combine 27 = .ok (.lmul, 1) := by decide +kernel
theorem dX1_combine_28 : decode cX1_combine 28 = .ok (.ladd, 1) := by decide +kernel
theorem dX1_combine_29 : decode cX1_combine 29 = .ok (.ladd, 1) := by decide +kernel
theorem dX1_combine_30 : decode cX1_combine 30 = .ok (.lstore 4, 2) := by decide +kernel
theorem dX1_combine_32 : decode cX1_combine 32 = .ok (.aload_n 0, 1) := by decide +kernel
theorem dX1_combine_33 : decode cX1_combine 33 = .ok (.iload 6, 2) := by decide +kernel
theorem dX1_combine_35 : decode cX1_combine 35 = .ok (.lload 4, 2) := by decide +kernel
theorem dX1_combine_37 : decode cX1_combine 37 = .ok (.ldc2_w 33, 3) := by decide +kernel
theorem dX1_combine_40 : decode cX1_combine 40 = .ok (.land, 1) := by decide +kernel
theorem dX1_combine_41 : decode cX1_combine 41 = .ok (.l2i, 1) := by decide +kernel
theorem dX1_combine_42 : decode cX1_combine 42 = .ok (.iastore, 1) := by decide +kernel
theorem dX1_combine_43 : decode cX1_combine 43 = .ok (.lload 4, 2) := by decide +kernel
theorem dX1_combine_45 : decode cX1_combine 45 = .ok (.bipush 31, 2) := by decide +kernel
theorem dX1_combine_47 : decode cX1_combine 47 = .ok (.lshr, 1) := by decide +kernel
theorem dX1_combine_48 : decode cX1_combine 48 = .ok (.lstore 4, 2) := by decide +kernel
theorem dX1_combine_50 : decode cX1_combine 50 = .ok (.iinc 6 1, 3) := by decide +kernel
theorem dX1_combine_53 : decode cX1_combine 53 = .ok (.goto (-47), 3) := by decide +kernel
theorem dX1_combine_56 : decode cX1_combine 56 = .ok (.lload 4, 2) := by decide +kernel
theorem dX1_combine_58 : decode cX1_combine 58 = .ok (.lreturn, 1) := by decide +kernel
theorem dX1_shiftedLimb_0 : decode cX1_shiftedLimb 0 = .ok (.iload_n 1, 1) := by decide +kernel
theorem dX1_shiftedLimb_1 : decode cX1_shiftedLimb 1 = .ok (.iload_n 2, 1) := by decide +kernel
theorem dX1_shiftedLimb_2 : decode cX1_shiftedLimb 2 = .ok (.bipush 31, 2) := by decide +kernel
theorem dX1_shiftedLimb_4 : decode cX1_shiftedLimb 4 = .ok (.idiv, 1) := by decide +kernel
theorem dX1_shiftedLimb_5 : decode cX1_shiftedLimb 5 = .ok (.isub, 1) := by decide +kernel
theorem dX1_shiftedLimb_6 : decode cX1_shiftedLimb 6 = .ok (.istore_n 3, 1) := by decide +kernel
theorem dX1_shiftedLimb_7 : decode cX1_shiftedLimb 7 = .ok (.iload_n 3, 1) := by decide +kernel
theorem dX1_shiftedLimb_8 : decode cX1_shiftedLimb 8 = .ok (.ifCond .lt 10, 3) := by decide +kernel
theorem dX1_shiftedLimb_11 : decode cX1_shiftedLimb 11 = .ok (.aload_n 0, 1) := by decide +kernel
theorem dX1_shiftedLimb_12 : decode cX1_shiftedLimb 12 = .ok (.iload_n 3, 1) := by decide +kernel
theorem dX1_shiftedLimb_13 : decode cX1_shiftedLimb 13 = .ok (.iaload, 1) := by decide +kernel
theorem dX1_shiftedLimb_14 : decode cX1_shiftedLimb 14 = .ok (.i2l, 1) := by decide +kernel
theorem dX1_shiftedLimb_15 : decode cX1_shiftedLimb 15 = .ok (.goto 4, 3) := by decide +kernel
theorem dX1_shiftedLimb_18 : decode cX1_shiftedLimb 18 = .ok (.lconst 0, 1) := by decide +kernel
theorem dX1_shiftedLimb_19 : decode cX1_shiftedLimb 19 = .ok (.lstore 4, 2) := by decide +kernel
theorem dX1_shiftedLimb_21 : decode cX1_shiftedLimb 21 = .ok (.iload_n 3, 1) := by decide +kernel
theorem dX1_shiftedLimb_22 : decode cX1_shiftedLimb 22 = .ok (.iconst 1, 1) := by decide +kernel
theorem dX1_shiftedLimb_23 : decode cX1_shiftedLimb 23 = .ok (.if_icmp .lt 12, 3) := by decide +kernel
theorem dX1_shiftedLimb_26 : decode cX1_shiftedLimb 26 = .ok (.aload_n 0, 1) := by decide +kernel
theorem dX1_shiftedLimb_27 : decode cX1_shiftedLimb 27 = .ok (.iload_n 3, 1) := by decide +kernel
theorem dX1_shiftedLimb_28 : decode cX1_shiftedLimb 28 = .ok (.iconst 1, 1) := by decide +kernel
theorem dX1_shiftedLimb_29 : decode cX1_shiftedLimb 29 = .ok (.isub, 1) := by decide +kernel
theorem dX1_shiftedLimb_30 : decode cX1_shiftedLimb 30 = .ok (.iaload, 1) := by decide +kernel
theorem dX1_shiftedLimb_31 : decode cX1_shiftedLimb 31 = .ok (.i2l, 1) := by decide +kernel
theorem dX1_shiftedLimb_32 : decode cX1_shiftedLimb 32 = .ok (.goto 4, 3) := by decide +kernel
theorem dX1_shiftedLimb_35 : decode cX1_shiftedLimb 35 = .ok (.lconst 0, 1) := by decide +kernel
theorem dX1_shiftedLimb_36 : decode cX1_shiftedLimb 36 = .ok (.lstore 6, 2) := by decide +kernel
theorem dX1_shiftedLimb_38 : decode cX1_shiftedLimb 38 = .ok (.lload 4, 2) := by decide +kernel
theorem dX1_shiftedLimb_40 : decode cX1_shiftedLimb 40 = .ok (.bipush 31, 2) := by decide +kernel
theorem dX1_shiftedLimb_42 : decode cX1_shiftedLimb 42 = .ok (.lshl, 1) := by decide +kernel
theorem dX1_shiftedLimb_43 : decode cX1_shiftedLimb 43 = .ok (.lload 6, 2) := by decide +kernel
theorem dX1_shiftedLimb_45 : decode cX1_shiftedLimb 45 = .ok (.lor, 1) := by decide +kernel
theorem dX1_shiftedLimb_46 : decode cX1_shiftedLimb 46 = .ok (.bipush 31, 2) := by decide +kernel
theorem dX1_shiftedLimb_48 : decode cX1_shiftedLimb 48 = .ok (.iload_n 2, 1) := by decide +kernel
theorem dX1_shiftedLimb_49 : decode cX1_shiftedLimb 49 = .ok (.bipush 31, 2) := by decide +kernel
theorem dX1_shiftedLimb_51 : decode cX1_shiftedLimb 51 = .ok (.irem, 1) := by decide +kernel
theorem dX1_shiftedLimb_52 : decode cX1_shiftedLimb 52 = .ok (.isub, 1) := by decide +kernel
theorem dX1_shiftedLimb_53 : decode cX1_shiftedLimb 53 = .ok (.lushr, 1) := by decide +kernel
theorem dX1_shiftedLimb_54 : decode cX1_shiftedLimb 54 = .ok (.ldc2_w 33, 3) := by decide +kernel
theorem dX1_shiftedLimb_57 : decode cX1_shiftedLimb 57 = .ok (.land, 1) := by decide +kernel
theorem dX1_shiftedLimb_58 : decode cX1_shiftedLimb 58 = .ok (.l2i, 1) := by decide +kernel
theorem dX1_shiftedLimb_59 : decode cX1_shiftedLimb 59 = .ok (.ireturn, 1) := by decide +kernel
set_option maxRecDepth 20000 in
theorem ggX1_isBelowShifted_X1_shiftedLimb : GoodIn wsX1_isBelowShifted wsX1_shiftedLimb := goodIn_r _ [4, 5] (by decide +kernel) (by decide +kernel)
set_option maxRecDepth 20000 in
theorem gX1_isBelowShifted_X1_shiftedLimb : GoodIn wsX1_isBelowShifted (va_wsS RX1 35 yX1_shiftedLimb wsX1_shiftedLimb) := goodIn_app (goodIn_of _ (by decide +kernel)) ggX1_isBelowShifted_X1_shiftedLimb
theorem dX1_isBelowShifted_0 : decode cX1_isBelowShifted 0 = .ok (.aload_n 0, 1) := by decide +kernel
theorem dX1_isBelowShifted_1 : decode cX1_isBelowShifted 1 = .ok (.arraylength, 1) := by decide +kernel
theorem dX1_isBelowShifted_2 : decode cX1_isBelowShifted 2 = .ok (.iconst 1, 1) := by decide +kernel
theorem dX1_isBelowShifted_3 : decode cX1_isBelowShifted 3 = .ok (.isub, 1) := by decide +kernel
theorem dX1_isBelowShifted_4 : decode cX1_isBelowShifted 4 = .ok (.istore_n 3, 1) := by decide +kernel
theorem dX1_isBelowShifted_5 : decode cX1_isBelowShifted 5 = .ok (.iload_n 3, 1) := by decide +kernel
theorem dX1_isBelowShifted_6 : decode cX1_isBelowShifted 6 = .ok (.ifCond .lt 39, 3) := by decide +kernel
theorem dX1_isBelowShifted_9 : decode cX1_isBelowShifted 9 = .ok (.aload_n 1, 1) := by decide +kernel
theorem dX1_isBelowShifted_10 : decode cX1_isBelowShifted 10 = .ok (.iload_n 3, 1) := by decide +kernel
theorem dX1_isBelowShifted_11 : decode cX1_isBelowShifted 11 = .ok (.iload_n 2, 1) := by decide +kernel
theorem dX1_isBelowShifted_12 : decode cX1_isBelowShifted 12 = .ok (.invokestatic 35, 3) := by decide +kernel
theorem dX1_isBelowShifted_15 : decode cX1_isBelowShifted 15 = .ok (.istore 4, 2) := by decide +kernel
theorem dX1_isBelowShifted_17 : decode cX1_isBelowShifted 17 = .ok (.aload_n 0, 1) := by decide +kernel
theorem dX1_isBelowShifted_18 : decode cX1_isBelowShifted 18 = .ok (.iload_n 3, 1) := by decide +kernel
theorem dX1_isBelowShifted_19 : decode cX1_isBelowShifted 19 = .ok (.iaload, 1) := by decide +kernel
theorem dX1_isBelowShifted_20 : decode cX1_isBelowShifted 20 = .ok (.iload 4, 2) := by decide +kernel
theorem dX1_isBelowShifted_22 : decode cX1_isBelowShifted 22 = .ok (.if_icmp .eq 17, 3) := by decide +kernel
theorem dX1_isBelowShifted_25 : decode cX1_isBelowShifted 25 = .ok (.aload_n 0, 1) := by decide +kernel
theorem dX1_isBelowShifted_26 : decode cX1_isBelowShifted 26 = .ok (.iload_n 3, 1) := by decide +kernel
theorem dX1_isBelowShifted_27 : decode cX1_isBelowShifted 27 = .ok (.iaload, 1) := by decide +kernel
theorem dX1_isBelowShifted_28 : decode cX1_isBelowShifted 28 = .ok (.iload 4, 2) := by decide +kernel
theorem dX1_isBelowShifted_30 : decode cX1_isBelowShifted 30 = .ok (.if_icmp .ge 7, 3) := by decide +kernel
theorem dX1_isBelowShifted_33 : decode cX1_isBelowShifted 33 = .ok (.iconst 1, 1) := by decide +kernel
theorem dX1_isBelowShifted_34 : decode cX1_isBelowShifted 34 = .ok (.goto 4, 3) := by decide +kernel
theorem dX1_isBelowShifted_37 : decode cX1_isBelowShifted 37 = .ok (.iconst 0, 1) := by decide +kernel
theorem dX1_isBelowShifted_38 : decode cX1_isBelowShifted 38 = .ok (.ireturn, 1) := by decide +kernel
theorem dX1_isBelowShifted_39 : decode cX1_isBelowShifted 39 = .ok (.iinc 3 (-1), 3) := by decide +kernel
theorem dX1_isBelowShifted_42 : decode cX1_isBelowShifted 42 = .ok (.goto (-37), 3) := by decide +kernel
theorem dX1_isBelowShifted_45 : decode cX1_isBelowShifted 45 = .ok (.iconst 0, 1) := by decide +kernel
theorem dX1_isBelowShifted_46 : decode cX1_isBelowShifted 46 = .ok (.ireturn, 1) := by decide +kernel
set_option maxRecDepth 20000 in
theorem ggX1_gapBetween_X1_bitsOf : GoodIn wsX1_gapBetween wsX1_bitsOf := goodIn_r _ [4, 5, 6, 3, 7, 8, 9, 10, 11, 12] (by decide +kernel) (by decide +kernel)
set_option maxRecDepth 20000 in
theorem gX1_gapBetween_X1_bitsOf : GoodIn wsX1_gapBetween (va_wsS RX1 39 yX1_bitsOf wsX1_bitsOf) := goodIn_app (goodIn_of _ (by decide +kernel)) ggX1_gapBetween_X1_bitsOf
set_option maxRecDepth 20000 in
theorem ggX1_gapBetween_X1_isBelowShifted : GoodIn wsX1_gapBetween wsX1_isBelowShifted := goodIn_r _ [15, 16, 17, 3, 18, 19] (by decide +kernel) (by decide +kernel)
set_option maxRecDepth 20000 in
theorem gX1_gapBetween_X1_isBelowShifted : GoodIn wsX1_gapBetween (va_wsS RX1 42 yX1_isBelowShifted wsX1_isBelowShifted) := goodIn_app (goodIn_of _ (by decide +kernel)) ggX1_gapBetween_X1_isBelowShifted
theorem dX1_gapBetween_0 : decode cX1_gapBetween 0 = .ok (.aload_n 0, 1) := by decide +kernel
theorem dX1_gapBetween_1 : decode cX1_gapBetween 1 = .ok (.invokestatic 39, 3) := by decide +kernel
theorem dX1_gapBetween_4 : decode cX1_gapBetween 4 = .ok (.aload_n 1, 1) := by decide +kernel
theorem dX1_gapBetween_5 : decode cX1_gapBetween 5 = .ok (.invokestatic 39, 3) := by decide +kernel
theorem dX1_gapBetween_8 : decode cX1_gapBetween 8 = .ok (.isub, 1) := by decide +kernel
theorem dX1_gapBetween_9 : decode cX1_gapBetween 9 = .ok (.istore_n 2, 1) := by decide +kernel
theorem dX1_gapBetween_10 : decode cX1_gapBetween 10 = .ok (.iload_n 2, 1) := by decide +kernel
theorem dX1_gapBetween_11 : decode cX1_gapBetween 11 = .ok (.ifCond .lt 18, 3) := by decide +kernel
theorem dX1_gapBetween_14 : decode cX1_gapBetween 14 = .ok (.aload_n 0, 1) := by decide +kernel
theorem dX1_gapBetween_15 : decode cX1_gapBetween 15 = .ok (.aload_n 1, 1) := by decide +kernel
theorem dX1_gapBetween_16 : decode cX1_gapBetween 16 = .ok (.iload_n 2, 1) := by decide +kernel
theorem dX1_gapBetween_17 : decode cX1_gapBetween 17 = .ok (.invokestatic 42, 3) := by decide +kernel
theorem dX1_gapBetween_20 : decode cX1_gapBetween 20 = .ok (.ifCond .eq 9, 3) := by decide +kernel
theorem dX1_gapBetween_23 : decode cX1_gapBetween 23 = .ok (.iload_n 2, 1) := by decide +kernel
theorem dX1_gapBetween_24 : decode cX1_gapBetween 24 = .ok (.iconst 1, 1) := by decide +kernel
theorem dX1_gapBetween_25 : decode cX1_gapBetween 25 = .ok (.isub, 1) := by decide +kernel
theorem dX1_gapBetween_26 : decode cX1_gapBetween 26 = .ok (.goto 4, 3) := by decide +kernel
theorem dX1_gapBetween_29 : decode cX1_gapBetween 29 = .ok (.iload_n 2, 1) := by decide +kernel
theorem dX1_gapBetween_30 : decode cX1_gapBetween 30 = .ok (.ireturn, 1) := by decide +kernel
set_option maxRecDepth 20000 in
theorem ggX1_addShifted_X1_shiftedLimb : GoodIn wsX1_addShifted wsX1_shiftedLimb := goodIn_r _ [5, 1] (by decide +kernel) (by decide +kernel)
set_option maxRecDepth 20000 in
theorem gX1_addShifted_X1_shiftedLimb : GoodIn wsX1_addShifted (va_wsS RX1 35 yX1_shiftedLimb wsX1_shiftedLimb) := goodIn_app (goodIn_of _ (by decide +kernel)) ggX1_addShifted_X1_shiftedLimb
theorem dX1_addShifted_0 : decode cX1_addShifted 0 = .ok (.lconst 0, 1) := by decide +kernel
theorem dX1_addShifted_1 : decode cX1_addShifted 1 = .ok (.lstore 4, 2) := by decide +kernel
theorem dX1_addShifted_3 : decode cX1_addShifted 3 = .ok (.iconst 0, 1) := by decide +kernel
theorem dX1_addShifted_4 : decode cX1_addShifted 4 = .ok (.istore 6, 2) := by decide +kernel
theorem dX1_addShifted_6 : decode cX1_addShifted 6 = .ok (.iload 6, 2) := by decide +kernel
theorem dX1_addShifted_8 : decode cX1_addShifted 8 = .ok (.aload_n 0, 1) := by decide +kernel
theorem dX1_addShifted_9 : decode cX1_addShifted 9 = .ok (.arraylength, 1) := by decide +kernel
theorem dX1_addShifted_10 : decode cX1_addShifted 10 = .ok (.if_icmp .ge 49, 3) := by decide +kernel
theorem dX1_addShifted_13 : decode cX1_addShifted 13 = .ok (.lload 4, 2) := by decide +kernel
theorem dX1_addShifted_15 : decode cX1_addShifted 15 = .ok (.aload_n 0, 1) := by decide +kernel
theorem dX1_addShifted_16 : decode cX1_addShifted 16 = .ok (.iload 6, 2) := by decide +kernel
theorem dX1_addShifted_18 : decode cX1_addShifted 18 = .ok (.iaload, 1) := by decide +kernel
theorem dX1_addShifted_19 : decode cX1_addShifted 19 = .ok (.i2l, 1) := by decide +kernel
theorem dX1_addShifted_20 : decode cX1_addShifted 20 = .ok (.iload_n 3, 1) := by decide +kernel
theorem dX1_addShifted_21 : decode cX1_addShifted 21 = .ok (.i2l, 1) := by decide +kernel
theorem dX1_addShifted_22 : decode cX1_addShifted 22 = .ok (.aload_n 1, 1) := by decide +kernel
theorem dX1_addShifted_23 : decode cX1_addShifted 23 = .ok (.iload 6, 2) := by decide +kernel
theorem dX1_addShifted_25 : decode cX1_addShifted 25 = .ok (.iload_n 2, 1) := by decide +kernel
theorem dX1_addShifted_26 : decode cX1_addShifted 26 = .ok (.invokestatic 35, 3) := by decide +kernel
theorem dX1_addShifted_29 : decode cX1_addShifted 29 = .ok (.i2l, 1) := by decide +kernel
theorem dX1_addShifted_30 : decode cX1_addShifted 30 = .ok (.lmul, 1) := by decide +kernel
theorem dX1_addShifted_31 : decode cX1_addShifted 31 = .ok (.ladd, 1) := by decide +kernel
theorem dX1_addShifted_32 : decode cX1_addShifted 32 = .ok (.ladd, 1) := by decide +kernel
theorem dX1_addShifted_33 : decode cX1_addShifted 33 = .ok (.lstore 4, 2) := by decide +kernel
theorem dX1_addShifted_35 : decode cX1_addShifted 35 = .ok (.aload_n 0, 1) := by decide +kernel
theorem dX1_addShifted_36 : decode cX1_addShifted 36 = .ok (.iload 6, 2) := by decide +kernel
theorem dX1_addShifted_38 : decode cX1_addShifted 38 = .ok (.lload 4, 2) := by decide +kernel
theorem dX1_addShifted_40 : decode cX1_addShifted 40 = .ok (.ldc2_w 33, 3) := by decide +kernel
theorem dX1_addShifted_43 : decode cX1_addShifted 43 = .ok (.land, 1) := by decide +kernel
theorem dX1_addShifted_44 : decode cX1_addShifted 44 = .ok (.l2i, 1) := by decide +kernel
theorem dX1_addShifted_45 : decode cX1_addShifted 45 = .ok (.iastore, 1) := by decide +kernel
theorem dX1_addShifted_46 : decode cX1_addShifted 46 = .ok (.lload 4, 2) := by decide +kernel
theorem dX1_addShifted_48 : decode cX1_addShifted 48 = .ok (.bipush 31, 2) := by decide +kernel
theorem dX1_addShifted_50 : decode cX1_addShifted 50 = .ok (.lshr, 1) := by decide +kernel
theorem dX1_addShifted_51 : decode cX1_addShifted 51 = .ok (.lstore 4, 2) := by decide +kernel
theorem dX1_addShifted_53 : decode cX1_addShifted 53 = .ok (.iinc 6 1, 3) := by decide +kernel
theorem dX1_addShifted_56 : decode cX1_addShifted 56 = .ok (.goto (-50), 3) := by decide +kernel
theorem dX1_addShifted_59 : decode cX1_addShifted 59 = .ok (.return_, 1) := by decide +kernel
theorem dX2_init_0 : decode cX2_init 0 = .ok (.aload_n 0, 1) := by decide +kernel
theorem dX2_init_1 : decode cX2_init 1 = .ok (.invokespecial 1, 3) := by decide +kernel
theorem dX2_init_4 : decode cX2_init 4 = .ok (.aload_n 0, 1) := by decide +kernel
theorem dX2_init_5 : decode cX2_init 5 = .ok (.iload_n 1, 1) := by decide +kernel
theorem dX2_init_6 : decode cX2_init 6 = .ok (.newarray .int, 2) := by decide +kernel
theorem dX2_init_8 : decode cX2_init 8 = .ok (.putfield 7, 3) := by decide +kernel
theorem dX2_init_11 : decode cX2_init 11 = .ok (.aload_n 0, 1) := by decide +kernel
theorem dX2_init_12 : decode cX2_init 12 = .ok (.iload_n 1, 1) := by decide +kernel
theorem dX2_init_13 : decode cX2_init 13 = .ok (.newarray .int, 2) := by decide +kernel
theorem dX2_init_15 : decode cX2_init 15 = .ok (.putfield 13, 3) := by decide +kernel
theorem dX2_init_18 : decode cX2_init 18 = .ok (.aload_n 0, 1) := by decide +kernel
theorem dX2_init_19 : decode cX2_init 19 = .ok (.iconst 1, 1) := by decide +kernel
theorem dX2_init_20 : decode cX2_init 20 = .ok (.putfield 16, 3) := by decide +kernel
theorem dX2_init_23 : decode cX2_init 23 = .ok (.return_, 1) := by decide +kernel
set_option maxRecDepth 20000 in
theorem ggX2_becomeIdentity_X1_set : GoodIn wsX2_becomeIdentity wsX1_set := goodIn_r _ [7, 8, 9, 10, 11] (by decide +kernel) (by decide +kernel)
set_option maxRecDepth 20000 in
theorem gX2_becomeIdentity_X1_set : GoodIn wsX2_becomeIdentity (va_wsS RX2 20 yX1_set wsX1_set) := goodIn_app (goodIn_of _ (by decide +kernel)) ggX2_becomeIdentity_X1_set
theorem dX2_becomeIdentity_0 : decode cX2_becomeIdentity 0 = .ok (.aload_n 0, 1) := by decide +kernel
theorem dX2_becomeIdentity_1 : decode cX2_becomeIdentity 1 = .ok (.getfield 7, 3) := by decide +kernel
theorem dX2_becomeIdentity_4 : decode cX2_becomeIdentity 4 = .ok (.iconst 0, 1) := by decide +kernel
theorem dX2_becomeIdentity_5 : decode cX2_becomeIdentity 5 = .ok (.invokestatic 20, 3) := by decide +kernel
theorem dX2_becomeIdentity_8 : decode cX2_becomeIdentity 8 = .ok (.aload_n 0, 1) := by decide +kernel
theorem dX2_becomeIdentity_9 : decode cX2_becomeIdentity 9 = .ok (.getfield 13, 3) := by decide +kernel
theorem dX2_becomeIdentity_12 : decode cX2_becomeIdentity 12 = .ok (.iconst 0, 1) := by decide +kernel
theorem dX2_becomeIdentity_13 : decode cX2_becomeIdentity 13 = .ok (.invokestatic 20, 3) := by decide +kernel
theorem dX2_becomeIdentity_16 : decode cX2_becomeIdentity 16 = .ok (.aload_n 0, 1) := by decide +kernel
theorem dX2_becomeIdentity_17 : decode cX2_becomeIdentity 17 = .ok (.iconst 1, 1) := by decide +kernel
theorem dX2_becomeIdentity_18 : decode cX2_becomeIdentity 18 = .ok (.putfield 16, 3) := by decide +kernel
theorem dX2_becomeIdentity_21 : decode cX2_becomeIdentity 21 = .ok (.return_, 1) := by decide +kernel
set_option maxRecDepth 20000 in
theorem ggX2_copyFrom_X1_copy : GoodIn wsX2_copyFrom wsX1_copy := goodIn_r _ [7, 8, 9, 10, 11] (by decide +kernel) (by decide +kernel)
set_option maxRecDepth 20000 in
theorem gX2_copyFrom_X1_copy : GoodIn wsX2_copyFrom (va_wsS RX2 26 yX1_copy wsX1_copy) := goodIn_app (goodIn_of _ (by decide +kernel)) ggX2_copyFrom_X1_copy
theorem dX2_copyFrom_0 : decode cX2_copyFrom 0 = .ok (.aload_n 0, 1) := by decide +kernel
theorem dX2_copyFrom_1 : decode cX2_copyFrom 1 = .ok (.getfield 7, 3) := by decide +kernel
theorem dX2_copyFrom_4 : decode cX2_copyFrom 4 = .ok (.aload_n 1, 1) := by decide +kernel
theorem dX2_copyFrom_5 : decode cX2_copyFrom 5 = .ok (.getfield 7, 3) := by decide +kernel
theorem dX2_copyFrom_8 : decode cX2_copyFrom 8 = .ok (.invokestatic 26, 3) := by decide +kernel
theorem dX2_copyFrom_11 : decode cX2_copyFrom 11 = .ok (.aload_n 0, 1) := by decide +kernel
theorem dX2_copyFrom_12 : decode cX2_copyFrom 12 = .ok (.getfield 13, 3) := by decide +kernel
theorem dX2_copyFrom_15 : decode cX2_copyFrom 15 = .ok (.aload_n 1, 1) := by decide +kernel
theorem dX2_copyFrom_16 : decode cX2_copyFrom 16 = .ok (.getfield 13, 3) := by decide +kernel
theorem dX2_copyFrom_19 : decode cX2_copyFrom 19 = .ok (.invokestatic 26, 3) := by decide +kernel
theorem dX2_copyFrom_22 : decode cX2_copyFrom 22 = .ok (.aload_n 0, 1) := by decide +kernel
theorem dX2_copyFrom_23 : decode cX2_copyFrom 23 = .ok (.aload_n 1, 1) := by decide +kernel
theorem dX2_copyFrom_24 : decode cX2_copyFrom 24 = .ok (.getfield 16, 3) := by decide +kernel
theorem dX2_copyFrom_27 : decode cX2_copyFrom 27 = .ok (.putfield 16, 3) := by decide +kernel
theorem dX2_copyFrom_30 : decode cX2_copyFrom 30 = .ok (.return_, 1) := by decide +kernel
set_option maxRecDepth 20000 in
theorem ggX2_sameAs_X1_compare : GoodIn wsX2_sameAs wsX1_compare := goodIn_r _ [7] (by decide +kernel) (by decide +kernel)
set_option maxRecDepth 20000 in
theorem gX2_sameAs_X1_compare : GoodIn wsX2_sameAs (va_wsS RX2 30 yX1_compare wsX1_compare) := goodIn_app (goodIn_of _ (by decide +kernel)) ggX2_sameAs_X1_compare
theorem dX2_sameAs_0 : decode cX2_sameAs 0 = .ok (.aload_n 0, 1) := by decide +kernel
theorem dX2_sameAs_1 : decode cX2_sameAs 1 = .ok (.getfield 16, 3) := by decide +kernel
theorem dX2_sameAs_4 : decode cX2_sameAs 4 = .ok (.aload_n 1, 1) := by decide +kernel
theorem dX2_sameAs_5 : decode cX2_sameAs 5 = .ok (.getfield 16, 3) := by decide +kernel
theorem dX2_sameAs_8 : decode cX2_sameAs 8 = .ok (.if_icmp .ne 35, 3) := by decide +kernel
theorem dX2_sameAs_11 : decode cX2_sameAs 11 = .ok (.aload_n 0, 1) := by decide +kernel
theorem dX2_sameAs_12 : decode cX2_sameAs 12 = .ok (.getfield 7, 3) := by decide +kernel
theorem dX2_sameAs_15 : decode cX2_sameAs 15 = .ok (.aload_n 1, 1) := by decide +kernel
theorem dX2_sameAs_16 : decode cX2_sameAs 16 = .ok (.getfield 7, 3) := by decide +kernel
theorem dX2_sameAs_19 : decode cX2_sameAs 19 = .ok (.invokestatic 30, 3) := by decide +kernel
theorem dX2_sameAs_22 : decode cX2_sameAs 22 = .ok (.ifCond .ne 21, 3) := by decide +kernel
theorem dX2_sameAs_25 : decode cX2_sameAs 25 = .ok (.aload_n 0, 1) := by decide +kernel
theorem dX2_sameAs_26 : decode cX2_sameAs 26 = .ok (.getfield 13, 3) := by decide +kernel
theorem dX2_sameAs_29 : decode cX2_sameAs 29 = .ok (.aload_n 1, 1) := by decide +kernel
theorem dX2_sameAs_30 : decode cX2_sameAs 30 = .ok (.getfield 13, 3) := by decide +kernel
theorem dX2_sameAs_33 : decode cX2_sameAs 33 = .ok (.invokestatic 30, 3) := by decide +kernel
theorem dX2_sameAs_36 : decode cX2_sameAs 36 = .ok (.ifCond .ne 7, 3) := by decide +kernel
theorem dX2_sameAs_39 : decode cX2_sameAs 39 = .ok (.iconst 1, 1) := by decide +kernel
theorem dX2_sameAs_40 : decode cX2_sameAs 40 = .ok (.goto 4, 3) := by decide +kernel
theorem dX2_sameAs_43 : decode cX2_sameAs 43 = .ok (.iconst 0, 1) := by decide +kernel
theorem dX2_sameAs_44 : decode cX2_sameAs 44 = .ok (.ireturn, 1) := by decide +kernel
theorem dX3_init_0 : decode cX3_init 0 = .ok (.aload_n 0, 1) := by decide +kernel
theorem dX3_init_1 : decode cX3_init 1 = .ok (.invokespecial 3, 3) := by decide +kernel
theorem dX3_init_4 : decode cX3_init 4 = .ok (.aload_n 0, 1) := by decide +kernel
theorem dX3_init_5 : decode cX3_init 5 = .ok (.iload_n 1, 1) := by decide +kernel
theorem dX3_init_6 : decode cX3_init 6 = .ok (.newarray .int, 2) := by decide +kernel
theorem dX3_init_8 : decode cX3_init 8 = .ok (.putfield 9, 3) := by decide +kernel
theorem dX3_init_11 : decode cX3_init 11 = .ok (.aload_n 0, 1) := by decide +kernel
theorem dX3_init_12 : decode cX3_init 12 = .ok (.iload_n 1, 1) := by decide +kernel
theorem dX3_init_13 : decode cX3_init 13 = .ok (.newarray .int, 2) := by decide +kernel
theorem dX3_init_15 : decode cX3_init 15 = .ok (.putfield 15, 3) := by decide +kernel
theorem dX3_init_18 : decode cX3_init 18 = .ok (.aload_n 0, 1) := by decide +kernel
theorem dX3_init_19 : decode cX3_init 19 = .ok (.iconst 2, 1) := by decide +kernel
theorem dX3_init_20 : decode cX3_init 20 = .ok (.iload_n 1, 1) := by decide +kernel
theorem dX3_init_21 : decode cX3_init 21 = .ok (.imul, 1) := by decide +kernel
theorem dX3_init_22 : decode cX3_init 22 = .ok (.iconst 1, 1) := by decide +kernel
theorem dX3_init_23 : decode cX3_init 23 = .ok (.iadd, 1) := by decide +kernel
theorem dX3_init_24 : decode cX3_init 24 = .ok (.newarray .int, 2) := by decide +kernel
theorem dX3_init_26 : decode cX3_init 26 = .ok (.putfield 18, 3) := by decide +kernel
theorem dX3_init_29 : decode cX3_init 29 = .ok (.aload_n 0, 1) := by decide +kernel
theorem dX3_init_30 : decode cX3_init 30 = .ok (.iload_n 1, 1) := by decide +kernel
theorem dX3_init_31 : decode cX3_init 31 = .ok (.newarray .int, 2) := by decide +kernel
theorem dX3_init_33 : decode cX3_init 33 = .ok (.putfield 21, 3) := by decide +kernel
theorem dX3_init_36 : decode cX3_init 36 = .ok (.aload_n 0, 1) := by decide +kernel
theorem dX3_init_37 : decode cX3_init 37 = .ok (.iload_n 1, 1) := by decide +kernel
theorem dX3_init_38 : decode cX3_init 38 = .ok (.newarray .int, 2) := by decide +kernel
theorem dX3_init_40 : decode cX3_init 40 = .ok (.putfield 24, 3) := by decide +kernel
theorem dX3_init_43 : decode cX3_init 43 = .ok (.aload_n 0, 1) := by decide +kernel
theorem dX3_init_44 : decode cX3_init 44 = .ok (.iload_n 1, 1) := by decide +kernel
theorem dX3_init_45 : decode cX3_init 45 = .ok (.newarray .int, 2) := by decide +kernel
theorem dX3_init_47 : decode cX3_init 47 = .ok (.putfield 27, 3) := by decide +kernel
theorem dX3_init_50 : decode cX3_init 50 = .ok (.aload_n 0, 1) := by decide +kernel
theorem dX3_init_51 : decode cX3_init 51 = .ok (.iload_n 1, 1) := by decide +kernel
theorem dX3_init_52 : decode cX3_init 52 = .ok (.newarray .int, 2) := by decide +kernel
theorem dX3_init_54 : decode cX3_init 54 = .ok (.putfield 30, 3) := by decide +kernel
theorem dX3_init_57 : decode cX3_init 57 = .ok (.aload_n 0, 1) := by decide +kernel
theorem dX3_init_58 : decode cX3_init 58 = .ok (.iload_n 1, 1) := by decide +kernel
theorem dX3_init_59 : decode cX3_init 59 = .ok (.newarray .int, 2) := by decide +kernel
theorem dX3_init_61 : decode cX3_init 61 = .ok (.putfield 33, 3) := by decide +kernel
theorem dX3_init_64 : decode cX3_init 64 = .ok (.aload_n 0, 1) := by decide +kernel
theorem dX3_init_65 : decode cX3_init 65 = .ok (.iconst 0, 1) := by decide +kernel
theorem dX3_init_66 : decode cX3_init 66 = .ok (.putfield 36, 3) := by decide +kernel
theorem dX3_init_69 : decode cX3_init 69 = .ok (.aload_n 0, 1) := by decide +kernel
theorem dX3_init_70 : decode cX3_init 70 = .ok (.iconst 0, 1) := by decide +kernel
theorem dX3_init_71 : decode cX3_init 71 = .ok (.putfield 40, 3) := by decide +kernel
theorem dX3_init_74 : decode cX3_init 74 = .ok (.return_, 1) := by decide +kernel
set_option maxRecDepth 20000 in
theorem ggX3_takeModulus_X1_copy : GoodIn wsX3_takeModulus wsX1_copy := goodIn_r _ [8, 9, 10, 11, 12] (by decide +kernel) (by decide +kernel)
set_option maxRecDepth 20000 in
theorem gX3_takeModulus_X1_copy : GoodIn wsX3_takeModulus (va_wsS RX3 43 yX1_copy wsX1_copy) := goodIn_app (goodIn_of _ (by decide +kernel)) ggX3_takeModulus_X1_copy
set_option maxRecDepth 20000 in
theorem ggX3_takeModulus_X1_sizeOf : GoodIn wsX3_takeModulus wsX1_sizeOf := goodIn_r _ [15] (by decide +kernel) (by decide +kernel)
set_option maxRecDepth 20000 in
theorem gX3_takeModulus_X1_sizeOf : GoodIn wsX3_takeModulus (va_wsS RX3 49 yX1_sizeOf wsX1_sizeOf) := goodIn_app (goodIn_of _ (by decide +kernel)) ggX3_takeModulus_X1_sizeOf
set_option maxRecDepth 20000 in
theorem ggX3_takeModulus_J6_numberOfLeadingZeros_0f7a4 : GoodIn wsX3_takeModulus wsJ6_numberOfLeadingZeros_0f7a4 := goodIn_r _ [19, 20] (by decide +kernel) (by decide +kernel)
set_option maxRecDepth 20000 in
theorem gX3_takeModulus_J6_numberOfLeadingZeros_0f7a4 : GoodIn wsX3_takeModulus (va_wsS RX3 53 yJ6_numberOfLeadingZeros_0f7a4 wsJ6_numberOfLeadingZeros_0f7a4) := goodIn_app (goodIn_of _ (by decide +kernel)) ggX3_takeModulus_J6_numberOfLeadingZeros_0f7a4
set_option maxRecDepth 20000 in
theorem ggX3_takeModulus_X1_shiftedLimb : GoodIn wsX3_takeModulus wsX1_shiftedLimb := goodIn_r _ [23, 24] (by decide +kernel) (by decide +kernel)
set_option maxRecDepth 20000 in
theorem gX3_takeModulus_X1_shiftedLimb : GoodIn wsX3_takeModulus (va_wsS RX3 59 yX1_shiftedLimb wsX1_shiftedLimb) := goodIn_app (goodIn_of _ (by decide +kernel)) ggX3_takeModulus_X1_shiftedLimb
theorem dX3_takeModulus_0 : decode cX3_takeModulus 0 = .ok (.aload_n 0, 1) := by decide +kernel
theorem dX3_takeModulus_1 : decode cX3_takeModulus 1 = .ok (.getfield 9, 3) := by decide +kernel
theorem dX3_takeModulus_4 : decode cX3_takeModulus 4 = .ok (.aload_n 1, 1) := by decide +kernel
theorem dX3_takeModulus_5 : decode cX3_takeModulus 5 = .ok (.invokestatic 43, 3) := by decide +kernel
theorem dX3_takeModulus_8 : decode cX3_takeModulus 8 = .ok (.aload_n 0, 1) := by decide +kernel
theorem dX3_takeModulus_9 : decode cX3_takeModulus 9 = .ok (.aload_n 0, 1) := by decide +kernel
theorem dX3_takeModulus_10 : decode cX3_takeModulus 10 = .ok (.getfield 9, 3) := by decide +kernel
theorem dX3_takeModulus_13 : decode cX3_takeModulus 13 = .ok (.invokestatic 49, 3) := by decide +kernel
theorem dX3_takeModulus_16 : decode cX3_takeModulus 16 = .ok (.putfield 36, 3) := by decide +kernel
theorem dX3_takeModulus_19 : decode cX3_takeModulus 19 = .ok (.aload_n 0, 1) := by decide +kernel
theorem dX3_takeModulus_20 : decode cX3_takeModulus 20 = .ok (.getfield 36, 3) := by decide +kernel
theorem dX3_takeModulus_23 : decode cX3_takeModulus 23 = .ok (.ifCond .ne 5, 3) := by decide +kernel
theorem dX3_takeModulus_26 : decode cX3_takeModulus 26 = .ok (.iconst 0, 1) := by decide +kernel
theorem dX3_takeModulus_27 : decode cX3_takeModulus 27 = .ok (.ireturn, 1) := by decide +kernel
theorem dX3_takeModulus_28 : decode cX3_takeModulus 28 = .ok (.aload_n 0, 1) := by decide +kernel
theorem dX3_takeModulus_29 : decode cX3_takeModulus 29 = .ok (.aload_n 0, 1) := by decide +kernel
theorem dX3_takeModulus_30 : decode cX3_takeModulus 30 = .ok (.getfield 9, 3) := by decide +kernel
theorem dX3_takeModulus_33 : decode cX3_takeModulus 33 = .ok (.aload_n 0, 1) := by decide +kernel
theorem dX3_takeModulus_34 : decode cX3_takeModulus 34 = .ok (.getfield 36, 3) := by decide +kernel
theorem dX3_takeModulus_37 : decode cX3_takeModulus 37 = .ok (.iconst 1, 1) := by decide +kernel
theorem dX3_takeModulus_38 : decode cX3_takeModulus 38 = .ok (.isub, 1) := by decide +kernel
theorem dX3_takeModulus_39 : decode cX3_takeModulus 39 = .ok (.iaload, 1) := by decide +kernel
theorem dX3_takeModulus_40 : decode cX3_takeModulus 40 = .ok (.invokestatic 53, 3) := by decide +kernel
theorem dX3_takeModulus_43 : decode cX3_takeModulus 43 = .ok (.iconst 1, 1) := by decide +kernel
theorem dX3_takeModulus_44 : decode cX3_takeModulus 44 = .ok (.isub, 1) := by decide +kernel
theorem dX3_takeModulus_45 : decode cX3_takeModulus 45 = .ok (.putfield 40, 3) := by decide +kernel
theorem dX3_takeModulus_48 : decode cX3_takeModulus 48 = .ok (.iconst 0, 1) := by decide +kernel
theorem dX3_takeModulus_49 : decode cX3_takeModulus 49 = .ok (.istore_n 2, 1) := by decide +kernel
theorem dX3_takeModulus_50 : decode cX3_takeModulus 50 = .ok (.iload_n 2, 1) := by decide +kernel
theorem dX3_takeModulus_51 : decode cX3_takeModulus 51 = .ok (.aload_n 0, 1) := by decide +kernel
theorem dX3_takeModulus_52 : decode cX3_takeModulus 52 = .ok (.getfield 15, 3) := by decide +kernel
theorem dX3_takeModulus_55 : decode cX3_takeModulus 55 = .ok (.arraylength, 1) := by decide +kernel
theorem dX3_takeModulus_56 : decode cX3_takeModulus 56 = .ok (.if_icmp .ge 27, 3) := by decide +kernel
theorem dX3_takeModulus_59 : decode cX3_takeModulus 59 = .ok (.aload_n 0, 1) := by decide +kernel
theorem dX3_takeModulus_60 : decode cX3_takeModulus 60 = .ok (.getfield 15, 3) := by decide +kernel
theorem dX3_takeModulus_63 : decode cX3_takeModulus 63 = .ok (.iload_n 2, 1) := by decide +kernel
theorem dX3_takeModulus_64 : decode cX3_takeModulus 64 = .ok (.aload_n 0, 1) := by decide +kernel
theorem dX3_takeModulus_65 : decode cX3_takeModulus 65 = .ok (.getfield 9, 3) := by decide +kernel
theorem dX3_takeModulus_68 : decode cX3_takeModulus 68 = .ok (.iload_n 2, 1) := by decide +kernel
theorem dX3_takeModulus_69 : decode cX3_takeModulus 69 = .ok (.aload_n 0, 1) := by decide +kernel
theorem dX3_takeModulus_70 : decode cX3_takeModulus 70 = .ok (.getfield 40, 3) := by decide +kernel
theorem dX3_takeModulus_73 : decode cX3_takeModulus 73 = .ok (.invokestatic 59, 3) := by decide +kernel
theorem dX3_takeModulus_76 : decode cX3_takeModulus 76 = .ok (.iastore, 1) := by decide +kernel
theorem dX3_takeModulus_77 : decode cX3_takeModulus 77 = .ok (.iinc 2 1, 3) := by decide +kernel
theorem dX3_takeModulus_80 : decode cX3_takeModulus 80 = .ok (.goto (-30), 3) := by decide +kernel
theorem dX3_takeModulus_83 : decode cX3_takeModulus 83 = .ok (.iconst 1, 1) := by decide +kernel
theorem dX3_takeModulus_84 : decode cX3_takeModulus 84 = .ok (.ireturn, 1) := by decide +kernel
set_option maxRecDepth 20000 in
theorem ggX3_reduce_X3_takeRemainder : GoodIn wsX3_reduce wsX3_takeRemainder := goodIn_r _ [10, 11, 12, 1, 13, 14, 15, 16, 17, 18, 19, 20, 9, 21, 22, 23, 24, 25, 26, 27, 28, 29, 30, 31, 32, 33, 34, 35, 36, 37, 38, 39, 40] (by decide +kernel) (by decide +kernel)
set_option maxRecDepth 20000 in
theorem gX3_reduce_X3_takeRemainder : GoodIn wsX3_reduce (wsV RX3 69 RX3 yX3_takeRemainder wsX3_takeRemainder) := goodIn_app (goodIn_of _ (by decide +kernel)) ggX3_reduce_X3_takeRemainder
theorem dX3_reduce_0 : decode cX3_reduce 0 = .ok (.aload_n 2, 1) := by decide +kernel
theorem dX3_reduce_1 : decode cX3_reduce 1 = .ok (.iconst 0, 1) := by decide +kernel
theorem dX3_reduce_2 : decode cX3_reduce 2 = .ok (.aload_n 0, 1) := by decide +kernel
theorem dX3_reduce_3 : decode cX3_reduce 3 = .ok (.getfield 18, 3) := by decide +kernel
theorem dX3_reduce_6 : decode cX3_reduce 6 = .ok (.iconst 0, 1) := by decide +kernel
theorem dX3_reduce_7 : decode cX3_reduce 7 = .ok (.aload_n 2, 1) := by decide +kernel
theorem dX3_reduce_8 : decode cX3_reduce 8 = .ok (.arraylength, 1) := by decide +kernel
theorem dX3_reduce_9 : decode cX3_reduce 9 = .ok (.invokestatic 63, 3) := by decide +kernel
theorem dX3_reduce_12 : decode cX3_reduce 12 = .ok (.aload_n 0, 1) := by decide +kernel
theorem dX3_reduce_13 : decode cX3_reduce 13 = .ok (.aload_n 1, 1) := by decide +kernel
theorem dX3_reduce_14 : decode cX3_reduce 14 = .ok (.aload_n 2, 1) := by decide +kernel
theorem dX3_reduce_15 : decode cX3_reduce 15 = .ok (.arraylength, 1) := by decide +kernel
theorem dX3_reduce_16 : decode cX3_reduce 16 = .ok (.invokevirtual 69, 3) := by decide +kernel
theorem dX3_reduce_19 : decode cX3_reduce 19 = .ok (.return_, 1) := by decide +kernel
set_option maxRecDepth 20000 in
theorem ggX3_add_X1_combine : GoodIn wsX3_add wsX1_combine := goodIn_r _ [5, 6] (by decide +kernel) (by decide +kernel)
set_option maxRecDepth 20000 in
theorem gX3_add_X1_combine : GoodIn wsX3_add (va_wsS RX3 73 yX1_combine wsX1_combine) := goodIn_app (goodIn_of _ (by decide +kernel)) ggX3_add_X1_combine
set_option maxRecDepth 20000 in
theorem ggX3_add_X1_compare : GoodIn wsX3_add wsX1_compare := goodIn_r _ [9] (by decide +kernel) (by decide +kernel)
set_option maxRecDepth 20000 in
theorem gX3_add_X1_compare : GoodIn wsX3_add (va_wsS RX3 77 yX1_compare wsX1_compare) := goodIn_app (goodIn_of _ (by decide +kernel)) ggX3_add_X1_compare
theorem dX3_add_0 : decode cX3_add 0 = .ok (.aload_n 1, 1) := by decide +kernel
theorem dX3_add_1 : decode cX3_add 1 = .ok (.aload_n 2, 1) := by decide +kernel
theorem dX3_add_2 : decode cX3_add 2 = .ok (.aload_n 3, 1) := by decide +kernel
theorem dX3_add_3 : decode cX3_add 3 = .ok (.iconst 1, 1) := by decide +kernel
theorem dX3_add_4 : decode cX3_add 4 = .ok (.invokestatic 73, 3) := by decide +kernel
theorem dX3_add_7 : decode cX3_add 7 = .ok (.lstore 4, 2) := by decide +kernel
theorem dX3_add_9 : decode cX3_add 9 = .ok (.lload 4, 2) := by decide +kernel
theorem dX3_add_11 : decode cX3_add 11 = .ok (.lconst 0, 1) := by decide +kernel
theorem dX3_add_12 : decode cX3_add 12 = .ok (.lcmp, 1) := by decide +kernel
theorem dX3_add_13 : decode cX3_add 13 = .ok (.ifCond .ne 14, 3) := by decide +kernel
theorem dX3_add_16 : decode cX3_add 16 = .ok (.aload_n 1, 1) := by decide +kernel
theorem dX3_add_17 : decode cX3_add 17 = .ok (.aload_n 0, 1) := by decide +kernel
theorem dX3_add_18 : decode cX3_add 18 = .ok (.getfield 9, 3) := by decide +kernel
theorem dX3_add_21 : decode cX3_add 21 = .ok (.invokestatic 77, 3) := by decide +kernel
theorem dX3_add_24 : decode cX3_add 24 = .ok (.ifCond .lt 14, 3) := by decide +kernel
theorem dX3_add_27 : decode cX3_add 27 = .ok (.aload_n 1, 1) := by decide +kernel
theorem dX3_add_28 : decode cX3_add 28 = .ok (.aload_n 1, 1) := by decide +kernel
theorem dX3_add_29 : decode cX3_add 29 = .ok (.aload_n 0, 1) := by decide +kernel
theorem dX3_add_30 : decode cX3_add 30 = .ok (.getfield 9, 3) := by decide +kernel
theorem dX3_add_33 : decode cX3_add 33 = .ok (.iconst (-1), 1) := by decide +kernel
theorem dX3_add_34 : decode cX3_add 34 = .ok (.invokestatic 73, 3) := by decide +kernel
theorem dX3_add_37 : decode cX3_add 37 = .ok (.pop2, 1) := by decide +kernel
theorem dX3_add_38 : decode cX3_add 38 = .ok (.return_, 1) := by decide +kernel
set_option maxRecDepth 20000 in
theorem ggX3_twice_X3_add : GoodIn wsX3_twice wsX3_add := goodIn_r _ [5, 6, 7, 8, 9, 10, 11, 12, 13, 14, 15, 16, 17, 18, 19, 20, 21, 22, 23, 24] (by decide +kernel) (by decide +kernel)
set_option maxRecDepth 20000 in
theorem gX3_twice_X3_add : GoodIn wsX3_twice (wsV RX3 81 RX3 yX3_add wsX3_add) := goodIn_app (goodIn_of _ (by decide +kernel)) ggX3_twice_X3_add
theorem dX3_twice_0 : decode cX3_twice 0 = .ok (.aload_n 0, 1) := by decide +kernel
theorem dX3_twice_1 : decode cX3_twice 1 = .ok (.aload_n 1, 1) := by decide +kernel
theorem dX3_twice_2 : decode cX3_twice 2 = .ok (.aload_n 2, 1) := by decide +kernel
theorem dX3_twice_3 : decode cX3_twice 3 = .ok (.aload_n 2, 1) := by decide +kernel
theorem dX3_twice_4 : decode cX3_twice 4 = .ok (.invokevirtual 81, 3) := by decide +kernel
theorem dX3_twice_7 : decode cX3_twice 7 = .ok (.return_, 1) := by decide +kernel
set_option maxRecDepth 20000 in
theorem ggX3_thrice_X3_add : GoodIn wsX3_thrice wsX3_add := goodIn_r _ [6, 7, 8, 9, 10, 11, 12, 13, 14, 15, 16, 17, 18, 19, 20, 21, 22, 23, 24, 25] (by decide +kernel) (by decide +kernel)
set_option maxRecDepth 20000 in
theorem gX3_thrice_X3_add : GoodIn wsX3_thrice (wsV RX3 81 RX3 yX3_add wsX3_add) := goodIn_app (goodIn_of _ (by decide +kernel)) ggX3_thrice_X3_add
theorem dX3_thrice_0 : decode cX3_thrice 0 = .ok (.aload_n 0, 1) := by decide +kernel
theorem dX3_thrice_1 : decode cX3_thrice 1 = .ok (.aload_n 0, 1) := by decide +kernel
theorem dX3_thrice_2 : decode cX3_thrice 2 = .ok (.getfield 21, 3) := by decide +kernel
theorem dX3_thrice_5 : decode cX3_thrice 5 = .ok (.aload_n 2, 1) := by decide +kernel
theorem dX3_thrice_6 : decode cX3_thrice 6 = .ok (.aload_n 2, 1) := by decide +kernel
theorem dX3_thrice_7 : decode cX3_thrice 7 = .ok (.invokevirtual 81, 3) := by decide +kernel
theorem dX3_thrice_10 : decode cX3_thrice 10 = .ok (.aload_n 0, 1) := by decide +kernel
theorem dX3_thrice_11 : decode cX3_thrice 11 = .ok (.aload_n 1, 1) := by decide +kernel
theorem dX3_thrice_12 : decode cX3_thrice 12 = .ok (.aload_n 0, 1) := by decide +kernel
theorem dX3_thrice_13 : decode cX3_thrice 13 = .ok (.getfield 21, 3) := by decide +kernel
theorem dX3_thrice_16 : decode cX3_thrice 16 = .ok (.aload_n 2, 1) := by decide +kernel
theorem dX3_thrice_17 : decode cX3_thrice 17 = .ok (.invokevirtual 81, 3) := by decide +kernel
theorem dX3_thrice_20 : decode cX3_thrice 20 = .ok (.return_, 1) := by decide +kernel
set_option maxRecDepth 20000 in
theorem ggX3_subtract_X1_combine : GoodIn wsX3_subtract wsX1_combine := goodIn_r _ [5, 6] (by decide +kernel) (by decide +kernel)
set_option maxRecDepth 20000 in
theorem gX3_subtract_X1_combine : GoodIn wsX3_subtract (va_wsS RX3 73 yX1_combine wsX1_combine) := goodIn_app (goodIn_of _ (by decide +kernel)) ggX3_subtract_X1_combine
theorem dX3_subtract_0 : decode cX3_subtract 0 = .ok (.aload_n 1, 1) := by decide +kernel
theorem dX3_subtract_1 : decode cX3_subtract 1 = .ok (.aload_n 2, 1) := by decide +kernel
theorem dX3_subtract_2 : decode cX3_subtract 2 = .ok (.aload_n 3, 1) := by decide +kernel
theorem dX3_subtract_3 : decode cX3_subtract 3 = .ok (.iconst (-1), 1) := by decide +kernel
theorem dX3_subtract_4 : decode cX3_subtract 4 = .ok (.invokestatic 73, 3) := by decide +kernel
theorem dX3_subtract_7 : decode cX3_subtract 7 = .ok (.lstore 4, 2) := by decide +kernel
theorem dX3_subtract_9 : decode cX3_subtract 9 = .ok (.lload 4, 2) := by decide +kernel
theorem dX3_subtract_11 : decode cX3_subtract 11 = .ok (.lconst 0, 1) := by decide +kernel
theorem dX3_subtract_12 : decode cX3_subtract 12 = .ok (.lcmp, 1) := by decide +kernel
theorem dX3_subtract_13 : decode cX3_subtract 13 = .ok (.ifCond .eq 14, 3) := by decide +kernel
theorem dX3_subtract_16 : decode cX3_subtract 16 = .ok (.aload_n 1, 1) := by decide +kernel
theorem dX3_subtract_17 : decode cX3_subtract 17 = .ok (.aload_n 1, 1) := by decide +kernel
theorem dX3_subtract_18 : decode cX3_subtract 18 = .ok (.aload_n 0, 1) := by decide +kernel
theorem dX3_subtract_19 : decode cX3_subtract 19 = .ok (.getfield 9, 3) := by decide +kernel
theorem dX3_subtract_22 : decode cX3_subtract 22 = .ok (.iconst 1, 1) := by decide +kernel
theorem dX3_subtract_23 : decode cX3_subtract 23 = .ok (.invokestatic 73, 3) := by decide +kernel
theorem dX3_subtract_26 : decode cX3_subtract 26 = .ok (.pop2, 1) := by decide +kernel
theorem dX3_subtract_27 : decode cX3_subtract 27 = .ok (.return_, 1) := by decide +kernel
set_option maxRecDepth 20000 in
theorem ggX3_multiply_J7_fill_53178 : GoodIn wsX3_multiply wsJ7_fill_53178 := goodIn_r _ [7] (by decide +kernel) (by decide +kernel)
set_option maxRecDepth 20000 in
theorem gX3_multiply_J7_fill_53178 : GoodIn wsX3_multiply (va_wsS RX3 85 yJ7_fill_53178 wsJ7_fill_53178) := goodIn_app (goodIn_of _ (by decide +kernel)) ggX3_multiply_J7_fill_53178
set_option maxRecDepth 20000 in
theorem ggX3_multiply_X3_takeRemainder : GoodIn wsX3_multiply wsX3_takeRemainder := goodIn_r _ [12, 2, 13, 1, 3, 14, 15, 16, 17, 18, 19, 20, 11, 21, 22, 23, 24, 25, 26, 27, 28, 29, 30, 31, 32, 33, 34, 35, 36, 37, 38, 39, 40] (by decide +kernel) (by decide +kernel)
set_option maxRecDepth 20000 in
theorem gX3_multiply_X3_takeRemainder : GoodIn wsX3_multiply (wsV RX3 69 RX3 yX3_takeRemainder wsX3_takeRemainder) := goodIn_app (goodIn_of _ (by decide +kernel)) ggX3_multiply_X3_takeRemainder
theorem dX3_multiply_0 : decode cX3_multiply 0 = .ok (.aload_n 0, 1) := by decide +kernel
theorem dX3_multiply_1 : decode cX3_multiply 1 = .ok (.getfield 18, 3) := by decide +kernel
theorem dX3_multiply_4 : decode cX3_multiply 4 = .ok (.iconst 0, 1) := by decide +kernel
theorem dX3_multiply_5 : decode cX3_multiply 5 = .ok (.invokestatic 85, 3) := by decide +kernel
theorem dX3_multiply_8 : decode cX3_multiply 8 = .ok (.iconst 0, 1) := by decide +kernel
theorem dX3_multiply_9 : decode cX3_multiply 9 = .ok (.istore 4, 2) := by decide +kernel
theorem dX3_multiply_11 : decode cX3_multiply 11 = .ok (.iload 4, 2) := by decide +kernel
theorem dX3_multiply_13 : decode cX3_multiply 13 = .ok (.aload_n 0, 1) := by decide +kernel
theorem dX3_multiply_14 : decode cX3_multiply 14 = .ok (.getfield 36, 3) := by decide +kernel
theorem dX3_multiply_17 : decode cX3_multiply 17 = .ok (.if_icmp .ge 101, 3) := by decide +kernel
theorem dX3_multiply_20 : decode cX3_multiply 20 = .ok (.aload_n 2, 1) := by decide +kernel
theorem dX3_multiply_21 : decode cX3_multiply 21 = .ok (.iload 4, 2) := by decide +kernel
theorem dX3_multiply_23 : decode cX3_multiply 23 = .ok (.iaload, 1) := by decide +kernel
theorem dX3_multiply_24 : decode cX3_multiply 24 = .ok (.i2l, 1) := by decide +kernel
theorem dX3_multiply_25 : decode cX3_multiply 25 = .ok (.lstore 5, 2) := by decide +kernel
theorem dX3_multiply_27 : decode cX3_multiply 27 = .ok (.lconst 0, 1) := by decide +kernel
theorem dX3_multiply_28 : decode cX3_multiply 28 = .ok (.lstore 7, 2) := by decide +kernel
theorem dX3_multiply_30 : decode cX3_multiply 30 = .ok (.iconst 0, 1) := by decide +kernel
theorem dX3_multiply_31 : decode cX3_multiply 31 = .ok (.istore 9, 2) := by decide +kernel
theorem dX3_multiply_33 : decode cX3_multiply 33 = .ok (.iload 9, 2) := by decide +kernel
theorem dX3_multiply_35 : decode cX3_multiply 35 = .ok (.aload_n 0, 1) := by decide +kernel
theorem dX3_multiply_36 : decode cX3_multiply 36 = .ok (.getfield 36, 3) := by decide +kernel
theorem dX3_multiply_39 : decode cX3_multiply 39 = .ok (.if_icmp .ge 58, 3) := by decide +kernel
theorem dX3_multiply_42 : decode cX3_multiply 42 = .ok (.lload 7, 2) := by decide +kernel
theorem dX3_multiply_44 : decode cX3_multiply 44 = .ok (.lload 5, 2) := by decide +kernel
theorem dX3_multiply_46 : decode cX3_multiply 46 = .ok (.aload_n 3, 1) := by decide +kernel
theorem dX3_multiply_47 : decode cX3_multiply 47 = .ok (.iload 9, 2) := by decide +kernel
theorem dX3_multiply_49 : decode cX3_multiply 49 = .ok (.iaload, 1) := by decide +kernel
theorem dX3_multiply_50 : decode cX3_multiply 50 = .ok (.i2l, 1) := by decide +kernel
theorem dX3_multiply_51 : decode cX3_multiply 51 = .ok (.lmul, 1) := by decide +kernel
theorem dX3_multiply_52 : decode cX3_multiply 52 = .ok (.aload_n 0, 1) := by decide +kernel
theorem dX3_multiply_53 : decode cX3_multiply 53 = .ok (.getfield 18, 3) := by decide +kernel
theorem dX3_multiply_56 : decode cX3_multiply 56 = .ok (.iload 4, 2) := by decide +kernel
theorem dX3_multiply_58 : decode cX3_multiply 58 = .ok (.iload 9, 2) := by decide +kernel
theorem dX3_multiply_60 : decode cX3_multiply 60 = .ok (.iadd, 1) := by decide +kernel
theorem dX3_multiply_61 : decode cX3_multiply 61 = .ok (.iaload, 1) := by decide +kernel
theorem dX3_multiply_62 : decode cX3_multiply 62 = .ok (.i2l, 1) := by decide +kernel
theorem dX3_multiply_63 : decode cX3_multiply 63 = .ok (.ladd, 1) := by decide +kernel
theorem dX3_multiply_64 : decode cX3_multiply 64 = .ok (.ladd, 1) := by decide +kernel
theorem dX3_multiply_65 : decode cX3_multiply 65 = .ok (.lstore 7, 2) := by decide +kernel
theorem dX3_multiply_67 : decode cX3_multiply 67 = .ok (.aload_n 0, 1) := by decide +kernel
theorem dX3_multiply_68 : decode cX3_multiply 68 = .ok (.getfield 18, 3) := by decide +kernel
theorem dX3_multiply_71 : decode cX3_multiply 71 = .ok (.iload 4, 2) := by decide +kernel
theorem dX3_multiply_73 : decode cX3_multiply 73 = .ok (.iload 9, 2) := by decide +kernel
theorem dX3_multiply_75 : decode cX3_multiply 75 = .ok (.iadd, 1) := by decide +kernel
theorem dX3_multiply_76 : decode cX3_multiply 76 = .ok (.lload 7, 2) := by decide +kernel
theorem dX3_multiply_78 : decode cX3_multiply 78 = .ok (.ldc2_w 90, 3) := by decide +kernel
theorem dX3_multiply_81 : decode cX3_multiply 81 = .ok (.land, 1) := by decide +kernel
theorem dX3_multiply_82 : decode cX3_multiply 82 = .ok (.l2i, 1) := by decide +kernel
theorem dX3_multiply_83 : decode cX3_multiply 83 = .ok (.iastore, 1) := by decide +kernel
theorem dX3_multiply_84 : decode cX3_multiply 84 = .ok (.lload 7, 2) := by decide +kernel
theorem dX3_multiply_86 : decode cX3_multiply 86 = .ok (.bipush 31, 2) := by decide +kernel
theorem dX3_multiply_88 : decode cX3_multiply 88 = .ok (.lshr, 1) := by decide +kernel
theorem dX3_multiply_89 : decode cX3_multiply 89 = .ok (.lstore 7, 2) := by decide +kernel
theorem dX3_multiply_91 : decode cX3_multiply 91 = .ok (.iinc 9 1, 3) := by decide +kernel
theorem dX3_multiply_94 : decode cX3_multiply 94 = .ok (.goto (-61), 3) := by decide +kernel
theorem dX3_multiply_97 : decode cX3_multiply 97 = .ok (.aload_n 0, 1) := by decide +kernel
theorem dX3_multiply_98 : decode cX3_multiply 98 = .ok (.getfield 18, 3) := by decide +kernel
theorem dX3_multiply_101 : decode cX3_multiply 101 = .ok (.iload 4, 2) := by decide +kernel
theorem dX3_multiply_103 : decode cX3_multiply 103 = .ok (.aload_n 0, 1) := by decide +kernel
theorem dX3_multiply_104 : decode cX3_multiply 104 = .ok (.getfield 36, 3) := by decide +kernel
theorem dX3_multiply_107 : decode cX3_multiply 107 = .ok (.iadd, 1) := by decide +kernel
theorem dX3_multiply_108 : decode cX3_multiply 108 = .ok (.lload 7, 2) := by decide +kernel
theorem dX3_multiply_110 : decode cX3_multiply 110 = .ok (.l2i, 1) := by decide +kernel
theorem dX3_multiply_111 : decode cX3_multiply 111 = .ok (.iastore, 1) := by decide +kernel
theorem dX3_multiply_112 : decode cX3_multiply 112 = .ok (.iinc 4 1, 3) := by decide +kernel
theorem dX3_multiply_115 : decode cX3_multiply 115 = .ok (.goto (-104), 3) := by decide +kernel
theorem dX3_multiply_118 : decode cX3_multiply 118 = .ok (.aload_n 0, 1) := by decide +kernel
theorem dX3_multiply_119 : decode cX3_multiply 119 = .ok (.aload_n 1, 1) := by decide +kernel
theorem dX3_multiply_120 : decode cX3_multiply 120 = .ok (.iconst 2, 1) := by decide +kernel
theorem dX3_multiply_121 : decode cX3_multiply 121 = .ok (.aload_n 0, 1) := by decide +kernel
theorem dX3_multiply_122 : decode cX3_multiply 122 = .ok (.getfield 36, 3) := by decide +kernel
theorem dX3_multiply_125 : decode cX3_multiply 125 = .ok (.imul, 1) := by decide +kernel
theorem dX3_multiply_126 : decode cX3_multiply 126 = .ok (.invokevirtual 69, 3) := by decide +kernel
theorem dX3_multiply_129 : decode cX3_multiply 129 = .ok (.return_, 1) := by decide +kernel
set_option maxRecDepth 20000 in
theorem ggX3_invert_X1_copy : GoodIn wsX3_invert wsX1_copy := goodIn_r _ [9, 10, 11, 12, 13] (by decide +kernel) (by decide +kernel)
set_option maxRecDepth 20000 in
theorem gX3_invert_X1_copy : GoodIn wsX3_invert (va_wsS RX3 43 yX1_copy wsX1_copy) := goodIn_app (goodIn_of _ (by decide +kernel)) ggX3_invert_X1_copy
set_option maxRecDepth 20000 in
theorem ggX3_invert_X1_set : GoodIn wsX3_invert wsX1_set := goodIn_r _ [16, 17, 18, 19, 20] (by decide +kernel) (by decide +kernel)
set_option maxRecDepth 20000 in
theorem gX3_invert_X1_set : GoodIn wsX3_invert (va_wsS RX3 92 yX1_set wsX1_set) := goodIn_app (goodIn_of _ (by decide +kernel)) ggX3_invert_X1_set
set_option maxRecDepth 20000 in
theorem ggX3_invert_X1_isZero : GoodIn wsX3_invert wsX1_isZero := goodIn_r _ [23, 24, 25, 8, 26] (by decide +kernel) (by decide +kernel)
set_option maxRecDepth 20000 in
theorem gX3_invert_X1_isZero : GoodIn wsX3_invert (va_wsS RX3 95 yX1_isZero wsX1_isZero) := goodIn_app (goodIn_of _ (by decide +kernel)) ggX3_invert_X1_isZero
set_option maxRecDepth 20000 in
theorem ggX3_invert_X1_gapBetween : GoodIn wsX3_invert wsX1_gapBetween := goodIn_r _ [29, 30, 31, 8, 32, 24, 25, 26, 33, 34, 35, 36, 37, 38, 39, 40, 41, 42, 43, 44] (by decide +kernel) (by decide +kernel)
set_option maxRecDepth 20000 in
theorem gX3_invert_X1_gapBetween : GoodIn wsX3_invert (va_wsS RX3 99 yX1_gapBetween wsX1_gapBetween) := goodIn_app (goodIn_of _ (by decide +kernel)) ggX3_invert_X1_gapBetween
set_option maxRecDepth 20000 in
theorem ggX3_invert_X1_addShifted : GoodIn wsX3_invert wsX1_addShifted := goodIn_r _ [47, 44, 41, 42, 8, 43] (by decide +kernel) (by decide +kernel)
set_option maxRecDepth 20000 in
theorem gX3_invert_X1_addShifted : GoodIn wsX3_invert (va_wsS RX3 102 yX1_addShifted wsX1_addShifted) := goodIn_app (goodIn_of _ (by decide +kernel)) ggX3_invert_X1_addShifted
set_option maxRecDepth 20000 in
theorem ggX3_invert_X1_bitsOf : GoodIn wsX3_invert wsX1_bitsOf := goodIn_r _ [32, 24, 25, 8, 26, 33, 34, 35, 36, 37] (by decide +kernel) (by decide +kernel)
set_option maxRecDepth 20000 in
theorem gX3_invert_X1_bitsOf : GoodIn wsX3_invert (va_wsS RX3 106 yX1_bitsOf wsX1_bitsOf) := goodIn_app (goodIn_of _ (by decide +kernel)) ggX3_invert_X1_bitsOf
set_option maxRecDepth 20000 in
theorem ggX3_invert_X3_subtract : GoodIn wsX3_invert wsX3_subtract := goodIn_r _ [53, 5, 54, 55, 8, 56, 44, 57, 58, 59, 60, 61, 62, 63, 64, 65, 66] (by decide +kernel) (by decide +kernel)
set_option maxRecDepth 20000 in
theorem gX3_invert_X3_subtract : GoodIn wsX3_invert (wsV RX3 109 RX3 yX3_subtract wsX3_subtract) := goodIn_app (goodIn_of _ (by decide +kernel)) ggX3_invert_X3_subtract
theorem dX3_invert_0 : decode cX3_invert 0 = .ok (.aload_n 0, 1) := by decide +kernel
theorem dX3_invert_1 : decode cX3_invert 1 = .ok (.getfield 24, 3) := by decide +kernel
theorem dX3_invert_4 : decode cX3_invert 4 = .ok (.astore_n 3, 1) := by decide +kernel
theorem dX3_invert_5 : decode cX3_invert 5 = .ok (.aload_n 0, 1) := by decide +kernel
theorem dX3_invert_6 : decode cX3_invert 6 = .ok (.getfield 27, 3) := by decide +kernel
theorem dX3_invert_9 : decode cX3_invert 9 = .ok (.astore 4, 2) := by decide +kernel
theorem dX3_invert_11 : decode cX3_invert 11 = .ok (.aload_n 0, 1) := by decide +kernel
theorem dX3_invert_12 : decode cX3_invert 12 = .ok (.getfield 30, 3) := by decide +kernel
theorem dX3_invert_15 : decode cX3_invert 15 = .ok (.astore 5, 2) := by decide +kernel
theorem dX3_invert_17 : decode cX3_invert 17 = .ok (.aload_n 0, 1) := by decide +kernel
theorem dX3_invert_18 : decode cX3_invert 18 = .ok (.getfield 33, 3) := by decide +kernel
theorem dX3_invert_21 : decode cX3_invert 21 = .ok (.astore 6, 2) := by decide +kernel
theorem dX3_invert_23 : decode cX3_invert 23 = .ok (.aload_n 3, 1) := by decide +kernel
theorem dX3_invert_24 : decode cX3_invert 24 = .ok (.aload_n 0, 1) := by decide +kernel
theorem dX3_invert_25 : decode cX3_invert 25 = .ok (.getfield 9, 3) := by decide +kernel
theorem dX3_invert_28 : decode cX3_invert 28 = .ok (.invokestatic 43, 3) := by decide +kernel
theorem dX3_invert_31 : decode cX3_invert 31 = .ok (.aload 4, 2) := by decide +kernel
theorem dX3_invert_33 : decode cX3_invert 33 = .ok (.aload_n 2, 1) := by decide +kernel
theorem dX3_invert_34 : decode cX3_invert 34 = .ok (.invokestatic 43, 3) := by decide +kernel
theorem dX3_invert_37 : decode cX3_invert 37 = .ok (.aload 5, 2) := by decide +kernel
theorem dX3_invert_39 : decode cX3_invert 39 = .ok (.iconst 0, 1) := by decide +kernel
theorem dX3_invert_40 : decode cX3_invert 40 = .ok (.invokestatic 92, 3) := by decide +kernel
theorem dX3_invert_43 : decode cX3_invert 43 = .ok (.aload 6, 2) := by decide +kernel
theorem dX3_invert_45 : decode cX3_invert 45 = .ok (.iconst 1, 1) := by decide +kernel
theorem dX3_invert_46 : decode cX3_invert 46 = .ok (.invokestatic 92, 3) := by decide +kernel
theorem dX3_invert_49 : decode cX3_invert 49 = .ok (.iconst 1, 1) := by decide +kernel
theorem dX3_invert_50 : decode cX3_invert 50 = .ok (.istore 7, 2) := by decide +kernel
theorem dX3_invert_52 : decode cX3_invert 52 = .ok (.iconst 0, 1) := by decide +kernel
theorem dX3_invert_53 : decode cX3_invert 53 = .ok (.istore 8, 2) := by decide +kernel
theorem dX3_invert_55 : decode cX3_invert 55 = .ok (.iload 8, 2) := by decide +kernel
theorem dX3_invert_57 : decode cX3_invert 57 = .ok (.sipush 5000, 3) := by decide +kernel
theorem dX3_invert_60 : decode cX3_invert 60 = .ok (.if_icmp .ge 86, 3) := by decide +kernel
theorem dX3_invert_63 : decode cX3_invert 63 = .ok (.aload 4, 2) := by decide +kernel
theorem dX3_invert_65 : decode cX3_invert 65 = .ok (.invokestatic 95, 3) := by decide +kernel
theorem dX3_invert_68 : decode cX3_invert 68 = .ok (.ifCond .ne 78, 3) := by decide +kernel
theorem dX3_invert_71 : decode cX3_invert 71 = .ok (.aload_n 3, 1) := by decide +kernel
theorem dX3_invert_72 : decode cX3_invert 72 = .ok (.aload 4, 2) := by decide +kernel
theorem dX3_invert_74 : decode cX3_invert 74 = .ok (.invokestatic 99, 3) := by decide +kernel
theorem dX3_invert_77 : decode cX3_invert 77 = .ok (.istore 9, 2) := by decide +kernel
theorem dX3_invert_79 : decode cX3_invert 79 = .ok (.iload 9, 2) := by decide +kernel
theorem dX3_invert_81 : decode cX3_invert 81 = .ok (.ifCond .lt 25, 3) := by decide +kernel
theorem dX3_invert_84 : decode cX3_invert 84 = .ok (.aload_n 3, 1) := by decide +kernel
theorem dX3_invert_85 : decode cX3_invert 85 = .ok (.aload 4, 2) := by decide +kernel
theorem dX3_invert_87 : decode cX3_invert 87 = .ok (.iload 9, 2) := by decide +kernel
theorem dX3_invert_89 : decode cX3_invert 89 = .ok (.iconst (-1), 1) := by decide +kernel
theorem dX3_invert_90 : decode cX3_invert 90 = .ok (.invokestatic 102, 3) := by decide +kernel
theorem dX3_invert_93 : decode cX3_invert 93 = .ok (.aload 5, 2) := by decide +kernel
theorem dX3_invert_95 : decode cX3_invert 95 = .ok (.aload 6, 2) := by decide +kernel
theorem dX3_invert_97 : decode cX3_invert 97 = .ok (.iload 9, 2) := by decide +kernel
theorem dX3_invert_99 : decode cX3_invert 99 = .ok (.iconst 1, 1) := by decide +kernel
theorem dX3_invert_100 : decode cX3_invert 100 = .ok (.invokestatic 102, 3) := by decide +kernel
theorem dX3_invert_103 : decode cX3_invert 103 = .ok (.goto 37, 3) := by decide +kernel
theorem dX3_invert_106 : decode cX3_invert 106 = .ok (.aload_n 3, 1) := by decide +kernel
theorem dX3_invert_107 : decode cX3_invert 107 = .ok (.astore 10, 2) := by decide +kernel
theorem dX3_invert_109 : decode cX3_invert 109 = .ok (.aload 4, 2) := by decide +kernel
theorem dX3_invert_111 : decode cX3_invert 111 = .ok (.astore_n 3, 1) := by decide +kernel
theorem dX3_invert_112 : decode cX3_invert 112 = .ok (.aload 10, 2) := by decide +kernel
theorem dX3_invert_114 : decode cX3_invert 114 = .ok (.astore 4, 2) := by decide +kernel
theorem dX3_invert_116 : decode cX3_invert 116 = .ok (.aload 5, 2) := by decide +kernel
theorem dX3_invert_118 : decode cX3_invert 118 = .ok (.astore 10, 2) := by decide +kernel
theorem dX3_invert_120 : decode cX3_invert 120 = .ok (.aload 6, 2) := by decide +kernel
theorem dX3_invert_122 : decode cX3_invert 122 = .ok (.astore 5, 2) := by decide +kernel
theorem dX3_invert_124 : decode cX3_invert 124 = .ok (.aload 10, 2) := by decide +kernel
theorem dX3_invert_126 : decode cX3_invert 126 = .ok (.astore 6, 2) := by decide +kernel
theorem dX3_invert_128 : decode cX3_invert 128 = .ok (.iload 7, 2) := by decide +kernel
theorem dX3_invert_130 : decode cX3_invert 130 = .ok (.ifCond .ne 7, 3) := by decide +kernel
theorem dX3_invert_133 : decode cX3_invert 133 = .ok (.iconst 1, 1) := by decide +kernel
theorem dX3_invert_134 : decode cX3_invert 134 = .ok (.goto 4, 3) := by decide +kernel
theorem dX3_invert_137 : decode cX3_invert 137 = .ok (.iconst 0, 1) := by decide +kernel
theorem dX3_invert_138 : decode cX3_invert 138 = .ok (.istore 7, 2) := by decide +kernel
theorem dX3_invert_140 : decode cX3_invert 140 = .ok (.iinc 8 1, 3) := by decide +kernel
theorem dX3_invert_143 : decode cX3_invert 143 = .ok (.goto (-88), 3) := by decide +kernel
theorem dX3_invert_146 : decode cX3_invert 146 = .ok (.aload_n 3, 1) := by decide +kernel
theorem dX3_invert_147 : decode cX3_invert 147 = .ok (.invokestatic 106, 3) := by decide +kernel
theorem dX3_invert_150 : decode cX3_invert 150 = .ok (.iconst 1, 1) := by decide +kernel
theorem dX3_invert_151 : decode cX3_invert 151 = .ok (.if_icmp .eq 5, 3) := by decide +kernel
theorem dX3_invert_154 : decode cX3_invert 154 = .ok (.iconst 0, 1) := by decide +kernel
theorem dX3_invert_155 : decode cX3_invert 155 = .ok (.ireturn, 1) := by decide +kernel
theorem dX3_invert_156 : decode cX3_invert 156 = .ok (.iload 7, 2) := by decide +kernel
theorem dX3_invert_158 : decode cX3_invert 158 = .ok (.ifCond .eq 15, 3) := by decide +kernel
theorem dX3_invert_161 : decode cX3_invert 161 = .ok (.aload_n 0, 1) := by decide +kernel
theorem dX3_invert_162 : decode cX3_invert 162 = .ok (.aload_n 1, 1) := by decide +kernel
theorem dX3_invert_163 : decode cX3_invert 163 = .ok (.aload 4, 2) := by decide +kernel
theorem dX3_invert_165 : decode cX3_invert 165 = .ok (.aload 5, 2) := by decide +kernel
theorem dX3_invert_167 : decode cX3_invert 167 = .ok (.invokevirtual 109, 3) := by decide +kernel
theorem dX3_invert_170 : decode cX3_invert 170 = .ok (.goto 9, 3) := by decide +kernel
theorem dX3_invert_173 : decode cX3_invert 173 = .ok (.aload_n 1, 1) := by decide +kernel
theorem dX3_invert_174 : decode cX3_invert 174 = .ok (.aload 5, 2) := by decide +kernel
theorem dX3_invert_176 : decode cX3_invert 176 = .ok (.invokestatic 43, 3) := by decide +kernel
theorem dX3_invert_179 : decode cX3_invert 179 = .ok (.iconst 1, 1) := by decide +kernel
theorem dX3_invert_180 : decode cX3_invert 180 = .ok (.ireturn, 1) := by decide +kernel
set_option maxRecDepth 20000 in
theorem ggX3_takeRemainder_X3_shiftWork : GoodIn wsX3_takeRemainder wsX3_shiftWork := goodIn_r _ [13, 3, 14, 4, 23, 24, 25, 26, 27, 28, 29, 30, 31, 32] (by decide +kernel) (by decide +kernel)
set_option maxRecDepth 20000 in
theorem gX3_takeRemainder_X3_shiftWork : GoodIn wsX3_takeRemainder (wsV RX3 112 RX3 yX3_shiftWork wsX3_shiftWork) := goodIn_app (goodIn_of _ (by decide +kernel)) ggX3_takeRemainder_X3_shiftWork
set_option maxRecDepth 20000 in
theorem ggX3_takeRemainder_X3_takeDivisorAway : GoodIn wsX3_takeRemainder wsX3_takeDivisorAway := goodIn_r _ [18, 1, 3, 2, 4, 23, 24, 25, 26, 27, 28, 29, 30, 31, 32] (by decide +kernel) (by decide +kernel)
set_option maxRecDepth 20000 in
theorem gX3_takeRemainder_X3_takeDivisorAway : GoodIn wsX3_takeRemainder (wsV RX3 122 RX3 yX3_takeDivisorAway wsX3_takeDivisorAway) := goodIn_app (goodIn_of _ (by decide +kernel)) ggX3_takeRemainder_X3_takeDivisorAway
set_option maxRecDepth 20000 in
theorem ggX3_takeRemainder_X3_unshiftedLimb : GoodIn wsX3_takeRemainder wsX3_unshiftedLimb := goodIn_r _ [22, 3, 14, 4, 23, 24, 25, 26, 27, 28, 29, 30, 31, 32] (by decide +kernel) (by decide +kernel)
set_option maxRecDepth 20000 in
theorem gX3_takeRemainder_X3_unshiftedLimb : GoodIn wsX3_takeRemainder (wsV RX3 126 RX3 yX3_unshiftedLimb wsX3_unshiftedLimb) := goodIn_app (goodIn_of _ (by decide +kernel)) ggX3_takeRemainder_X3_unshiftedLimb
theorem dX3_takeRemainder_0 : decode cX3_takeRemainder 0 = .ok (.aload_n 0, 1) := by decide +kernel
theorem dX3_takeRemainder_1 : decode cX3_takeRemainder 1 = .ok (.iload_n 2, 1) := by decide +kernel
theorem dX3_takeRemainder_2 : decode cX3_takeRemainder 2 = .ok (.invokevirtual 112, 3) := by decide +kernel
theorem dX3_takeRemainder_5 : decode cX3_takeRemainder 5 = .ok (.aload_n 0, 1) := by decide +kernel
theorem dX3_takeRemainder_6 : decode cX3_takeRemainder 6 = .ok (.getfield 36, 3) := by decide +kernel
theorem dX3_takeRemainder_9 : decode cX3_takeRemainder 9 = .ok (.ifCond .le 18, 3) := by decide +kernel
theorem dX3_takeRemainder_12 : decode cX3_takeRemainder 12 = .ok (.aload_n 0, 1) := by decide +kernel
theorem dX3_takeRemainder_13 : decode cX3_takeRemainder 13 = .ok (.getfield 15, 3) := by decide +kernel
theorem dX3_takeRemainder_16 : decode cX3_takeRemainder 16 = .ok (.aload_n 0, 1) := by decide +kernel
theorem dX3_takeRemainder_17 : decode cX3_takeRemainder 17 = .ok (.getfield 36, 3) := by decide +kernel
theorem dX3_takeRemainder_20 : decode cX3_takeRemainder 20 = .ok (.iconst 1, 1) := by decide +kernel
theorem dX3_takeRemainder_21 : decode cX3_takeRemainder 21 = .ok (.isub, 1) := by decide +kernel
theorem dX3_takeRemainder_22 : decode cX3_takeRemainder 22 = .ok (.iaload, 1) := by decide +kernel
theorem dX3_takeRemainder_23 : decode cX3_takeRemainder 23 = .ok (.i2l, 1) := by decide +kernel
theorem dX3_takeRemainder_24 : decode cX3_takeRemainder 24 = .ok (.goto 4, 3) := by decide +kernel
theorem dX3_takeRemainder_27 : decode cX3_takeRemainder 27 = .ok (.lconst 0, 1) := by decide +kernel
theorem dX3_takeRemainder_28 : decode cX3_takeRemainder 28 = .ok (.lstore_n 3, 1) := by decide +kernel
theorem dX3_takeRemainder_29 : decode cX3_takeRemainder 29 = .ok (.lload_n 3, 1) := by decide +kernel
theorem dX3_takeRemainder_30 : decode cX3_takeRemainder 30 = .ok (.lconst 0, 1) := by decide +kernel
theorem dX3_takeRemainder_31 : decode cX3_takeRemainder 31 = .ok (.lcmp, 1) := by decide +kernel
theorem dX3_takeRemainder_32 : decode cX3_takeRemainder 32 = .ok (.ifCond .ne 4, 3) := by decide +kernel
theorem dX3_takeRemainder_35 : decode cX3_takeRemainder 35 = .ok (.return_, 1) := by decide +kernel
theorem dX3_takeRemainder_36 : decode cX3_takeRemainder 36 = .ok (.iload_n 2, 1) := by decide +kernel
theorem dX3_takeRemainder_37 : decode cX3_takeRemainder 37 = .ok (.aload_n 0, 1) := by decide +kernel
theorem dX3_takeRemainder_38 : decode cX3_takeRemainder 38 = .ok (.getfield 36, 3) := by decide +kernel
theorem dX3_takeRemainder_41 : decode cX3_takeRemainder 41 = .ok (.isub, 1) := by decide +kernel
theorem dX3_takeRemainder_42 : decode cX3_takeRemainder 42 = .ok (.istore 5, 2) := by decide +kernel
theorem dX3_takeRemainder_44 : decode cX3_takeRemainder 44 = .ok (.iload 5, 2) := by decide +kernel
theorem dX3_takeRemainder_46 : decode cX3_takeRemainder 46 = .ok (.ifCond .lt 59, 3) := by decide +kernel
theorem dX3_takeRemainder_49 : decode cX3_takeRemainder 49 = .ok (.aload_n 0, 1) := by decide +kernel
theorem dX3_takeRemainder_50 : decode cX3_takeRemainder 50 = .ok (.getfield 18, 3) := by decide +kernel
theorem dX3_takeRemainder_53 : decode cX3_takeRemainder 53 = .ok (.iload 5, 2) := by decide +kernel
theorem dX3_takeRemainder_55 : decode cX3_takeRemainder 55 = .ok (.aload_n 0, 1) := by decide +kernel
theorem dX3_takeRemainder_56 : decode cX3_takeRemainder 56 = .ok (.getfield 36, 3) := by decide +kernel
theorem dX3_takeRemainder_59 : decode cX3_takeRemainder 59 = .ok (.iadd, 1) := by decide +kernel
theorem dX3_takeRemainder_60 : decode cX3_takeRemainder 60 = .ok (.iaload, 1) := by decide +kernel
theorem dX3_takeRemainder_61 : decode cX3_takeRemainder 61 = .ok (.i2l, 1) := by decide +kernel
theorem dX3_takeRemainder_62 : decode cX3_takeRemainder 62 = .ok (.bipush 31, 2) := by decide +kernel
theorem dX3_takeRemainder_64 : decode cX3_takeRemainder 64 = .ok (.lshl, 1) := by decide +kernel
theorem dX3_takeRemainder_65 : decode cX3_takeRemainder 65 = .ok (.aload_n 0, 1) := by decide +kernel
theorem dX3_takeRemainder_66 : decode cX3_takeRemainder 66 = .ok (.getfield 18, 3) := by decide +kernel
theorem dX3_takeRemainder_69 : decode cX3_takeRemainder 69 = .ok (.iload 5, 2) := by decide +kernel
theorem dX3_takeRemainder_71 : decode cX3_takeRemainder 71 = .ok (.aload_n 0, 1) := by decide +kernel
theorem dX3_takeRemainder_72 : decode cX3_takeRemainder 72 = .ok (.getfield 36, 3) := by decide +kernel
theorem dX3_takeRemainder_75 : decode cX3_takeRemainder 75 = .ok (.iadd, 1) := by decide +kernel
theorem dX3_takeRemainder_76 : decode cX3_takeRemainder 76 = .ok (.iconst 1, 1) := by decide +kernel
theorem dX3_takeRemainder_77 : decode cX3_takeRemainder 77 = .ok (.isub, 1) := by decide +kernel
theorem dX3_takeRemainder_78 : decode cX3_takeRemainder 78 = .ok (.iaload, 1) := by decide +kernel
theorem dX3_takeRemainder_79 : decode cX3_takeRemainder 79 = .ok (.i2l, 1) := by decide +kernel
theorem dX3_takeRemainder_80 : decode cX3_takeRemainder 80 = .ok (.lor, 1) := by decide +kernel
theorem dX3_takeRemainder_81 : decode cX3_takeRemainder 81 = .ok (.lstore 6, 2) := by decide +kernel
theorem dX3_takeRemainder_83 : decode cX3_takeRemainder 83 = .ok (.aload_n 0, 1) := by decide +kernel
theorem dX3_takeRemainder_84 : decode cX3_takeRemainder 84 = .ok (.lload 6, 2) := by decide +kernel
theorem dX3_takeRemainder_86 : decode cX3_takeRemainder 86 = .ok (.lload_n 3, 1) := by decide +kernel
theorem dX3_takeRemainder_87 : decode cX3_takeRemainder 87 = .ok (.ldiv, 1) := by decide +kernel
theorem dX3_takeRemainder_88 : decode cX3_takeRemainder 88 = .ok (.ldc2_w 90, 3) := by decide +kernel
theorem dX3_takeRemainder_91 : decode cX3_takeRemainder 91 = .ok (.invokestatic 116, 3) := by decide +kernel
theorem dX3_takeRemainder_94 : decode cX3_takeRemainder 94 = .ok (.iload 5, 2) := by decide +kernel
theorem dX3_takeRemainder_96 : decode cX3_takeRemainder 96 = .ok (.invokevirtual 122, 3) := by decide +kernel
theorem dX3_takeRemainder_99 : decode cX3_takeRemainder 99 = .ok (.iinc 5 (-1), 3) := by decide +kernel
theorem dX3_takeRemainder_102 : decode cX3_takeRemainder 102 = .ok (.goto (-58), 3) := by decide +kernel
theorem dX3_takeRemainder_105 : decode cX3_takeRemainder 105 = .ok (.iconst 0, 1) := by decide +kernel
theorem dX3_takeRemainder_106 : decode cX3_takeRemainder 106 = .ok (.istore 5, 2) := by decide +kernel
theorem dX3_takeRemainder_108 : decode cX3_takeRemainder 108 = .ok (.iload 5, 2) := by decide +kernel
theorem dX3_takeRemainder_110 : decode cX3_takeRemainder 110 = .ok (.aload_n 1, 1) := by decide +kernel
theorem dX3_takeRemainder_111 : decode cX3_takeRemainder 111 = .ok (.arraylength, 1) := by decide +kernel
theorem dX3_takeRemainder_112 : decode cX3_takeRemainder 112 = .ok (.if_icmp .ge 32, 3) := by decide +kernel
theorem dX3_takeRemainder_115 : decode cX3_takeRemainder 115 = .ok (.aload_n 1, 1) := by decide +kernel
theorem dX3_takeRemainder_116 : decode cX3_takeRemainder 116 = .ok (.iload 5, 2) := by decide +kernel
theorem dX3_takeRemainder_118 : decode cX3_takeRemainder 118 = .ok (.iload 5, 2) := by decide +kernel
theorem dX3_takeRemainder_120 : decode cX3_takeRemainder 120 = .ok (.aload_n 0, 1) := by decide +kernel
theorem dX3_takeRemainder_121 : decode cX3_takeRemainder 121 = .ok (.getfield 36, 3) := by decide +kernel
theorem dX3_takeRemainder_124 : decode cX3_takeRemainder 124 = .ok (.if_icmp .ge 12, 3) := by decide +kernel
theorem dX3_takeRemainder_127 : decode cX3_takeRemainder 127 = .ok (.aload_n 0, 1) := by decide +kernel
theorem dX3_takeRemainder_128 : decode cX3_takeRemainder 128 = .ok (.iload 5, 2) := by decide +kernel
theorem dX3_takeRemainder_130 : decode cX3_takeRemainder 130 = .ok (.invokevirtual 126, 3) := by decide +kernel
theorem dX3_takeRemainder_133 : decode cX3_takeRemainder 133 = .ok (.goto 4, 3) := by decide +kernel
theorem dX3_takeRemainder_136 : decode cX3_takeRemainder 136 = .ok (.iconst 0, 1) := by decide +kernel
theorem dX3_takeRemainder_137 : decode cX3_takeRemainder 137 = .ok (.iastore, 1) := by decide +kernel
theorem dX3_takeRemainder_138 : decode cX3_takeRemainder 138 = .ok (.iinc 5 1, 3) := by decide +kernel
theorem dX3_takeRemainder_141 : decode cX3_takeRemainder 141 = .ok (.goto (-33), 3) := by decide +kernel
theorem dX3_takeRemainder_144 : decode cX3_takeRemainder 144 = .ok (.return_, 1) := by decide +kernel
theorem dX3_shiftWork_0 : decode cX3_shiftWork 0 = .ok (.aload_n 0, 1) := by decide +kernel
theorem dX3_shiftWork_1 : decode cX3_shiftWork 1 = .ok (.getfield 18, 3) := by decide +kernel
theorem dX3_shiftWork_4 : decode cX3_shiftWork 4 = .ok (.iload_n 1, 1) := by decide +kernel
theorem dX3_shiftWork_5 : decode cX3_shiftWork 5 = .ok (.iconst 0, 1) := by decide +kernel
theorem dX3_shiftWork_6 : decode cX3_shiftWork 6 = .ok (.iastore, 1) := by decide +kernel
theorem dX3_shiftWork_7 : decode cX3_shiftWork 7 = .ok (.iload_n 1, 1) := by decide +kernel
theorem dX3_shiftWork_8 : decode cX3_shiftWork 8 = .ok (.istore_n 2, 1) := by decide +kernel
theorem dX3_shiftWork_9 : decode cX3_shiftWork 9 = .ok (.iload_n 2, 1) := by decide +kernel
theorem dX3_shiftWork_10 : decode cX3_shiftWork 10 = .ok (.ifCond .le 50, 3) := by decide +kernel
theorem dX3_shiftWork_13 : decode cX3_shiftWork 13 = .ok (.aload_n 0, 1) := by decide +kernel
theorem dX3_shiftWork_14 : decode cX3_shiftWork 14 = .ok (.getfield 18, 3) := by decide +kernel
theorem dX3_shiftWork_17 : decode cX3_shiftWork 17 = .ok (.iload_n 2, 1) := by decide +kernel
theorem dX3_shiftWork_18 : decode cX3_shiftWork 18 = .ok (.iaload, 1) := by decide +kernel
theorem dX3_shiftWork_19 : decode cX3_shiftWork 19 = .ok (.i2l, 1) := by decide +kernel
theorem dX3_shiftWork_20 : decode cX3_shiftWork 20 = .ok (.bipush 31, 2) := by decide +kernel
theorem dX3_shiftWork_22 : decode cX3_shiftWork 22 = .ok (.lshl, 1) := by decide +kernel
theorem dX3_shiftWork_23 : decode cX3_shiftWork 23 = .ok (.aload_n 0, 1) := by decide +kernel
theorem dX3_shiftWork_24 : decode cX3_shiftWork 24 = .ok (.getfield 18, 3) := by decide +kernel
theorem dX3_shiftWork_27 : decode cX3_shiftWork 27 = .ok (.iload_n 2, 1) := by decide +kernel
theorem dX3_shiftWork_28 : decode cX3_shiftWork 28 = .ok (.iconst 1, 1) := by decide +kernel
theorem dX3_shiftWork_29 : decode cX3_shiftWork 29 = .ok (.isub, 1) := by decide +kernel
theorem dX3_shiftWork_30 : decode cX3_shiftWork 30 = .ok (.iaload, 1) := by decide +kernel
theorem dX3_shiftWork_31 : decode cX3_shiftWork 31 = .ok (.i2l, 1) := by decide +kernel
theorem dX3_shiftWork_32 : decode cX3_shiftWork 32 = .ok (.lor, 1) := by decide +kernel
theorem dX3_shiftWork_33 : decode cX3_shiftWork 33 = .ok (.lstore_n 3, 1) := by decide +kernel
theorem dX3_shiftWork_34 : decode cX3_shiftWork 34 = .ok (.aload_n 0, 1) := by decide +kernel
theorem dX3_shiftWork_35 : decode cX3_shiftWork 35 = .ok (.getfield 18, 3) := by decide +kernel
theorem dX3_shiftWork_38 : decode cX3_shiftWork 38 = .ok (.iload_n 2, 1) := by decide +kernel
theorem dX3_shiftWork_39 : decode cX3_shiftWork 39 = .ok (.lload_n 3, 1) := by decide +kernel
theorem dX3_shiftWork_40 : decode cX3_shiftWork 40 = .ok (.bipush 31, 2) := by decide +kernel
theorem dX3_shiftWork_42 : decode cX3_shiftWork 42 = .ok (.aload_n 0, 1) := by decide +kernel
theorem dX3_shiftWork_43 : decode cX3_shiftWork 43 = .ok (.getfield 40, 3) := by decide +kernel
theorem dX3_shiftWork_46 : decode cX3_shiftWork 46 = .ok (.isub, 1) := by decide +kernel
theorem dX3_shiftWork_47 : decode cX3_shiftWork 47 = .ok (.lushr, 1) := by decide +kernel
theorem dX3_shiftWork_48 : decode cX3_shiftWork 48 = .ok (.ldc2_w 90, 3) := by decide +kernel
theorem dX3_shiftWork_51 : decode cX3_shiftWork 51 = .ok (.land, 1) := by decide +kernel
theorem dX3_shiftWork_52 : decode cX3_shiftWork 52 = .ok (.l2i, 1) := by decide +kernel
theorem dX3_shiftWork_53 : decode cX3_shiftWork 53 = .ok (.iastore, 1) := by decide +kernel
theorem dX3_shiftWork_54 : decode cX3_shiftWork 54 = .ok (.iinc 2 (-1), 3) := by decide +kernel
theorem dX3_shiftWork_57 : decode cX3_shiftWork 57 = .ok (.goto (-48), 3) := by decide +kernel
theorem dX3_shiftWork_60 : decode cX3_shiftWork 60 = .ok (.aload_n 0, 1) := by decide +kernel
theorem dX3_shiftWork_61 : decode cX3_shiftWork 61 = .ok (.getfield 18, 3) := by decide +kernel
theorem dX3_shiftWork_64 : decode cX3_shiftWork 64 = .ok (.iconst 0, 1) := by decide +kernel
theorem dX3_shiftWork_65 : decode cX3_shiftWork 65 = .ok (.aload_n 0, 1) := by decide +kernel
theorem dX3_shiftWork_66 : decode cX3_shiftWork 66 = .ok (.getfield 18, 3) := by decide +kernel
theorem dX3_shiftWork_69 : decode cX3_shiftWork 69 = .ok (.iconst 0, 1) := by decide +kernel
theorem dX3_shiftWork_70 : decode cX3_shiftWork 70 = .ok (.iaload, 1) := by decide +kernel
theorem dX3_shiftWork_71 : decode cX3_shiftWork 71 = .ok (.i2l, 1) := by decide +kernel
theorem dX3_shiftWork_72 : decode cX3_shiftWork 72 = .ok (.aload_n 0, 1) := by decide +kernel
theorem dX3_shiftWork_73 : decode cX3_shiftWork 73 = .ok (.getfield 40, 3) := by decide +kernel
theorem dX3_shiftWork_76 : decode cX3_shiftWork 76 = .ok (.lshl, 1) := by decide +kernel
theorem dX3_shiftWork_77 : decode cX3_shiftWork 77 = .ok (.ldc2_w 90, 3) := by decide +kernel
theorem dX3_shiftWork_80 : decode cX3_shiftWork 80 = .ok (.land, 1) := by decide +kernel
theorem dX3_shiftWork_81 : decode cX3_shiftWork 81 = .ok (.l2i, 1) := by decide +kernel
theorem dX3_shiftWork_82 : decode cX3_shiftWork 82 = .ok (.iastore, 1) := by decide +kernel
theorem dX3_shiftWork_83 : decode cX3_shiftWork 83 = .ok (.return_, 1) := by decide +kernel
theorem dX3_unshiftedLimb_0 : decode cX3_unshiftedLimb 0 = .ok (.aload_n 0, 1) := by decide +kernel
theorem dX3_unshiftedLimb_1 : decode cX3_unshiftedLimb 1 = .ok (.getfield 18, 3) := by decide +kernel
theorem dX3_unshiftedLimb_4 : decode cX3_unshiftedLimb 4 = .ok (.iload_n 1, 1) := by decide +kernel
theorem dX3_unshiftedLimb_5 : decode cX3_unshiftedLimb 5 = .ok (.iconst 1, 1) := by decide +kernel
theorem dX3_unshiftedLimb_6 : decode cX3_unshiftedLimb 6 = .ok (.iadd, 1) := by decide +kernel
theorem dX3_unshiftedLimb_7 : decode cX3_unshiftedLimb 7 = .ok (.iaload, 1) := by decide +kernel
theorem dX3_unshiftedLimb_8 : decode cX3_unshiftedLimb 8 = .ok (.i2l, 1) := by decide +kernel
theorem dX3_unshiftedLimb_9 : decode cX3_unshiftedLimb 9 = .ok (.bipush 31, 2) := by decide +kernel
theorem dX3_unshiftedLimb_11 : decode cX3_unshiftedLimb 11 = .ok (.lshl, 1) := by decide +kernel
theorem dX3_unshiftedLimb_12 : decode cX3_unshiftedLimb 12 = .ok (.aload_n 0, 1) := by decide +kernel
theorem dX3_unshiftedLimb_13 : decode cX3_unshiftedLimb 13 = .ok (.getfield 18, 3) := by decide +kernel
theorem dX3_unshiftedLimb_16 : decode cX3_unshiftedLimb 16 = .ok (.iload_n 1, 1) := by decide +kernel
theorem dX3_unshiftedLimb_17 : decode cX3_unshiftedLimb 17 = .ok (.iaload, 1) := by decide +kernel
theorem dX3_unshiftedLimb_18 : decode cX3_unshiftedLimb 18 = .ok (.i2l, 1) := by decide +kernel
theorem dX3_unshiftedLimb_19 : decode cX3_unshiftedLimb 19 = .ok (.lor, 1) := by decide +kernel
theorem dX3_unshiftedLimb_20 : decode cX3_unshiftedLimb 20 = .ok (.aload_n 0, 1) := by decide +kernel
theorem dX3_unshiftedLimb_21 : decode cX3_unshiftedLimb 21 = .ok (.getfield 40, 3) := by decide +kernel
theorem dX3_unshiftedLimb_24 : decode cX3_unshiftedLimb 24 = .ok (.lushr, 1) := by decide +kernel
theorem dX3_unshiftedLimb_25 : decode cX3_unshiftedLimb 25 = .ok (.ldc2_w 90, 3) := by decide +kernel
theorem dX3_unshiftedLimb_28 : decode cX3_unshiftedLimb 28 = .ok (.land, 1) := by decide +kernel
theorem dX3_unshiftedLimb_29 : decode cX3_unshiftedLimb 29 = .ok (.l2i, 1) := by decide +kernel
theorem dX3_unshiftedLimb_30 : decode cX3_unshiftedLimb 30 = .ok (.ireturn, 1) := by decide +kernel
theorem dX3_takeDivisorAway_0 : decode cX3_takeDivisorAway 0 = .ok (.lconst 0, 1) := by decide +kernel
theorem dX3_takeDivisorAway_1 : decode cX3_takeDivisorAway 1 = .ok (.lstore 4, 2) := by decide +kernel
theorem dX3_takeDivisorAway_3 : decode cX3_takeDivisorAway 3 = .ok (.iconst 0, 1) := by decide +kernel
theorem dX3_takeDivisorAway_4 : decode cX3_takeDivisorAway 4 = .ok (.istore 6, 2) := by decide +kernel
theorem dX3_takeDivisorAway_6 : decode cX3_takeDivisorAway 6 = .ok (.iload 6, 2) := by decide +kernel
theorem dX3_takeDivisorAway_8 : decode cX3_takeDivisorAway 8 = .ok (.aload_n 0, 1) := by decide +kernel
theorem dX3_takeDivisorAway_9 : decode cX3_takeDivisorAway 9 = .ok (.getfield 36, 3) := by decide +kernel
theorem dX3_takeDivisorAway_12 : decode cX3_takeDivisorAway 12 = .ok (.if_icmp .ge 58, 3) := by decide +kernel
theorem dX3_takeDivisorAway_15 : decode cX3_takeDivisorAway 15 = .ok (.lload 4, 2) := by decide +kernel
theorem dX3_takeDivisorAway_17 : decode cX3_takeDivisorAway 17 = .ok (.aload_n 0, 1) := by decide +kernel
theorem dX3_takeDivisorAway_18 : decode cX3_takeDivisorAway 18 = .ok (.getfield 18, 3) := by decide +kernel
theorem dX3_takeDivisorAway_21 : decode cX3_takeDivisorAway 21 = .ok (.iload_n 3, 1) := by decide +kernel
theorem dX3_takeDivisorAway_22 : decode cX3_takeDivisorAway 22 = .ok (.iload 6, 2) := by decide +kernel
theorem dX3_takeDivisorAway_24 : decode cX3_takeDivisorAway 24 = .ok (.iadd, 1) := by decide +kernel
theorem dX3_takeDivisorAway_25 : decode cX3_takeDivisorAway 25 = .ok (.iaload, 1) := by decide +kernel
theorem dX3_takeDivisorAway_26 : decode cX3_takeDivisorAway 26 = .ok (.i2l, 1) := by decide +kernel
theorem dX3_takeDivisorAway_27 : decode cX3_takeDivisorAway 27 = .ok (.lload_n 1, 1) := by decide +kernel
theorem dX3_takeDivisorAway_28 : decode cX3_takeDivisorAway 28 = .ok (.aload_n 0, 1) := by decide +kernel
theorem dX3_takeDivisorAway_29 : decode cX3_takeDivisorAway 29 = .ok (.getfield 15, 3) := by decide +kernel
theorem dX3_takeDivisorAway_32 : decode cX3_takeDivisorAway 32 = .ok (.iload 6, 2) := by decide +kernel
theorem dX3_takeDivisorAway_34 : decode cX3_takeDivisorAway 34 = .ok (.iaload, 1) := by decide +kernel
theorem dX3_takeDivisorAway_35 : decode cX3_takeDivisorAway 35 = .ok (.i2l, 1) := by decide +kernel
theorem dX3_takeDivisorAway_36 : decode cX3_takeDivisorAway 36 = .ok (.lmul, 1) := by decide +kernel
theorem dX3_takeDivisorAway_37 : decode cX3_takeDivisorAway 37 = .ok (.lsub, 1) := by decide +kernel
theorem dX3_takeDivisorAway_38 : decode cX3_takeDivisorAway 38 = .ok (.ladd, 1) := by decide +kernel
theorem dX3_takeDivisorAway_39 : decode cX3_takeDivisorAway 39 = .ok (.lstore 4, 2) := by decide +kernel
theorem dX3_takeDivisorAway_41 : decode cX3_takeDivisorAway 41 = .ok (.aload_n 0, 1) := by decide +kernel
theorem dX3_takeDivisorAway_42 : decode cX3_takeDivisorAway 42 = .ok (.getfield 18, 3) := by decide +kernel
theorem dX3_takeDivisorAway_45 : decode cX3_takeDivisorAway 45 = .ok (.iload_n 3, 1) := by decide +kernel
theorem dX3_takeDivisorAway_46 : decode cX3_takeDivisorAway 46 = .ok (.iload 6, 2) := by decide +kernel
theorem dX3_takeDivisorAway_48 : decode cX3_takeDivisorAway 48 = .ok (.iadd, 1) := by decide +kernel
theorem dX3_takeDivisorAway_49 : decode cX3_takeDivisorAway 49 = .ok (.lload 4, 2) := by decide +kernel
theorem dX3_takeDivisorAway_51 : decode cX3_takeDivisorAway 51 = .ok (.ldc2_w 90, 3) := by decide +kernel
theorem dX3_takeDivisorAway_54 : decode cX3_takeDivisorAway 54 = .ok (.land, 1) := by decide +kernel
theorem dX3_takeDivisorAway_55 : decode cX3_takeDivisorAway 55 = .ok (.l2i, 1) := by decide +kernel
theorem dX3_takeDivisorAway_56 : decode cX3_takeDivisorAway 56 = .ok (.iastore, 1) := by decide +kernel
theorem dX3_takeDivisorAway_57 : decode cX3_takeDivisorAway 57 = .ok (.lload 4, 2) := by decide +kernel
theorem dX3_takeDivisorAway_59 : decode cX3_takeDivisorAway 59 = .ok (.bipush 31, 2) := by decide +kernel
theorem dX3_takeDivisorAway_61 : decode cX3_takeDivisorAway 61 = .ok (.lshr, 1) := by decide +kernel
theorem dX3_takeDivisorAway_62 : decode cX3_takeDivisorAway 62 = .ok (.lstore 4, 2) := by decide +kernel
theorem dX3_takeDivisorAway_64 : decode cX3_takeDivisorAway 64 = .ok (.iinc 6 1, 3) := by decide +kernel
theorem dX3_takeDivisorAway_67 : decode cX3_takeDivisorAway 67 = .ok (.goto (-61), 3) := by decide +kernel
theorem dX3_takeDivisorAway_70 : decode cX3_takeDivisorAway 70 = .ok (.lload 4, 2) := by decide +kernel
theorem dX3_takeDivisorAway_72 : decode cX3_takeDivisorAway 72 = .ok (.aload_n 0, 1) := by decide +kernel
theorem dX3_takeDivisorAway_73 : decode cX3_takeDivisorAway 73 = .ok (.getfield 18, 3) := by decide +kernel
theorem dX3_takeDivisorAway_76 : decode cX3_takeDivisorAway 76 = .ok (.iload_n 3, 1) := by decide +kernel
theorem dX3_takeDivisorAway_77 : decode cX3_takeDivisorAway 77 = .ok (.aload_n 0, 1) := by decide +kernel
theorem dX3_takeDivisorAway_78 : decode cX3_takeDivisorAway 78 = .ok (.getfield 36, 3) := by decide +kernel
theorem dX3_takeDivisorAway_81 : decode cX3_takeDivisorAway 81 = .ok (.iadd, 1) := by decide +kernel
theorem dX3_takeDivisorAway_82 : decode cX3_takeDivisorAway 82 = .ok (.iaload, 1) := by decide +kernel
theorem dX3_takeDivisorAway_83 : decode cX3_takeDivisorAway 83 = .ok (.i2l, 1) := by decide +kernel
theorem dX3_takeDivisorAway_84 : decode cX3_takeDivisorAway 84 = .ok (.ladd, 1) := by decide +kernel
theorem dX3_takeDivisorAway_85 : decode cX3_takeDivisorAway 85 = .ok (.lstore 4, 2) := by decide +kernel
theorem dX3_takeDivisorAway_87 : decode cX3_takeDivisorAway 87 = .ok (.iconst 0, 1) := by decide +kernel
theorem dX3_takeDivisorAway_88 : decode cX3_takeDivisorAway 88 = .ok (.istore 6, 2) := by decide +kernel
theorem dX3_takeDivisorAway_90 : decode cX3_takeDivisorAway 90 = .ok (.iload 6, 2) := by decide +kernel
theorem dX3_takeDivisorAway_92 : decode cX3_takeDivisorAway 92 = .ok (.iconst 2, 1) := by decide +kernel
theorem dX3_takeDivisorAway_93 : decode cX3_takeDivisorAway 93 = .ok (.if_icmp .ge 91, 3) := by decide +kernel
theorem dX3_takeDivisorAway_96 : decode cX3_takeDivisorAway 96 = .ok (.lload 4, 2) := by decide +kernel
theorem dX3_takeDivisorAway_98 : decode cX3_takeDivisorAway 98 = .ok (.lconst 0, 1) := by decide +kernel
theorem dX3_takeDivisorAway_99 : decode cX3_takeDivisorAway 99 = .ok (.lcmp, 1) := by decide +kernel
theorem dX3_takeDivisorAway_100 : decode cX3_takeDivisorAway 100 = .ok (.ifCond .ge 84, 3) := by decide +kernel
theorem dX3_takeDivisorAway_103 : decode cX3_takeDivisorAway 103 = .ok (.lconst 0, 1) := by decide +kernel
theorem dX3_takeDivisorAway_104 : decode cX3_takeDivisorAway 104 = .ok (.lstore 7, 2) := by decide +kernel
theorem dX3_takeDivisorAway_106 : decode cX3_takeDivisorAway 106 = .ok (.iconst 0, 1) := by decide +kernel
theorem dX3_takeDivisorAway_107 : decode cX3_takeDivisorAway 107 = .ok (.istore 9, 2) := by decide +kernel
theorem dX3_takeDivisorAway_109 : decode cX3_takeDivisorAway 109 = .ok (.iload 9, 2) := by decide +kernel
theorem dX3_takeDivisorAway_111 : decode cX3_takeDivisorAway 111 = .ok (.aload_n 0, 1) := by decide +kernel
theorem dX3_takeDivisorAway_112 : decode cX3_takeDivisorAway 112 = .ok (.getfield 36, 3) := by decide +kernel
theorem dX3_takeDivisorAway_115 : decode cX3_takeDivisorAway 115 = .ok (.if_icmp .ge 56, 3) := by decide +kernel
theorem dX3_takeDivisorAway_118 : decode cX3_takeDivisorAway 118 = .ok (.lload 7, 2) := by decide +kernel
theorem dX3_takeDivisorAway_120 : decode cX3_takeDivisorAway 120 = .ok (.aload_n 0, 1) := by decide +kernel
theorem dX3_takeDivisorAway_121 : decode cX3_takeDivisorAway 121 = .ok (.getfield 18, 3) := by decide +kernel
theorem dX3_takeDivisorAway_124 : decode cX3_takeDivisorAway 124 = .ok (.iload_n 3, 1) := by decide +kernel
theorem dX3_takeDivisorAway_125 : decode cX3_takeDivisorAway 125 = .ok (.iload 9, 2) := by decide +kernel
theorem dX3_takeDivisorAway_127 : decode cX3_takeDivisorAway 127 = .ok (.iadd, 1) := by decide +kernel
theorem dX3_takeDivisorAway_128 : decode cX3_takeDivisorAway 128 = .ok (.iaload, 1) := by decide +kernel
theorem dX3_takeDivisorAway_129 : decode cX3_takeDivisorAway 129 = .ok (.i2l, 1) := by decide +kernel
theorem dX3_takeDivisorAway_130 : decode cX3_takeDivisorAway 130 = .ok (.aload_n 0, 1) := by decide +kernel
theorem dX3_takeDivisorAway_131 : decode cX3_takeDivisorAway 131 = .ok (.getfield 15, 3) := by decide +kernel
theorem dX3_takeDivisorAway_134 : decode cX3_takeDivisorAway 134 = .ok (.iload 9, 2) := by decide +kernel
theorem dX3_takeDivisorAway_136 : decode cX3_takeDivisorAway 136 = .ok (.iaload, 1) := by decide +kernel
theorem dX3_takeDivisorAway_137 : decode cX3_takeDivisorAway 137 = .ok (.i2l, 1) := by decide +kernel
theorem dX3_takeDivisorAway_138 : decode cX3_takeDivisorAway 138 = .ok (.ladd, 1) := by decide +kernel
theorem dX3_takeDivisorAway_139 : decode cX3_takeDivisorAway 139 = .ok (.ladd, 1) := by decide +kernel
theorem dX3_takeDivisorAway_140 : decode cX3_takeDivisorAway 140 = .ok (.lstore 7, 2) := by decide +kernel
theorem dX3_takeDivisorAway_142 : decode cX3_takeDivisorAway 142 = .ok (.aload_n 0, 1) := by decide +kernel
theorem dX3_takeDivisorAway_143 : decode cX3_takeDivisorAway 143 = .ok (.getfield 18, 3) := by decide +kernel
theorem dX3_takeDivisorAway_146 : decode cX3_takeDivisorAway 146 = .ok (.iload_n 3, 1) := by decide +kernel
theorem dX3_takeDivisorAway_147 : decode cX3_takeDivisorAway 147 = .ok (.iload 9, 2) := by decide +kernel
theorem dX3_takeDivisorAway_149 : decode cX3_takeDivisorAway 149 = .ok (.iadd, 1) := by decide +kernel
theorem dX3_takeDivisorAway_150 : decode cX3_takeDivisorAway 150 = .ok (.lload 7, 2) := by decide +kernel
theorem dX3_takeDivisorAway_152 : decode cX3_takeDivisorAway 152 = .ok (.ldc2_w 90, 3) := by decide +kernel
theorem dX3_takeDivisorAway_155 : decode cX3_takeDivisorAway 155 = .ok (.land, 1) := by decide +kernel
theorem dX3_takeDivisorAway_156 : decode cX3_takeDivisorAway 156 = .ok (.l2i, 1) := by decide +kernel
theorem dX3_takeDivisorAway_157 : decode cX3_takeDivisorAway 157 = .ok (.iastore, 1) := by decide +kernel
theorem dX3_takeDivisorAway_158 : decode cX3_takeDivisorAway 158 = .ok (.lload 7, 2) := by decide +kernel
theorem dX3_takeDivisorAway_160 : decode cX3_takeDivisorAway 160 = .ok (.bipush 31, 2) := by decide +kernel
theorem dX3_takeDivisorAway_162 : decode cX3_takeDivisorAway 162 = .ok (.lshr, 1) := by decide +kernel
theorem dX3_takeDivisorAway_163 : decode cX3_takeDivisorAway 163 = .ok (.lstore 7, 2) := by decide +kernel
theorem dX3_takeDivisorAway_165 : decode cX3_takeDivisorAway 165 = .ok (.iinc 9 1, 3) := by decide +kernel
theorem dX3_takeDivisorAway_168 : decode cX3_takeDivisorAway 168 = .ok (.goto (-59), 3) := by decide +kernel
theorem dX3_takeDivisorAway_171 : decode cX3_takeDivisorAway 171 = .ok (.lload 4, 2) := by decide +kernel
theorem dX3_takeDivisorAway_173 : decode cX3_takeDivisorAway 173 = .ok (.lload 7, 2) := by decide +kernel
theorem dX3_takeDivisorAway_175 : decode cX3_takeDivisorAway 175 = .ok (.ladd, 1) := by decide +kernel
theorem dX3_takeDivisorAway_176 : decode cX3_takeDivisorAway 176 = .ok (.lstore 4, 2) := by decide +kernel
theorem dX3_takeDivisorAway_178 : decode cX3_takeDivisorAway 178 = .ok (.iinc 6 1, 3) := by decide +kernel
theorem dX3_takeDivisorAway_181 : decode cX3_takeDivisorAway 181 = .ok (.goto (-91), 3) := by decide +kernel
theorem dX3_takeDivisorAway_184 : decode cX3_takeDivisorAway 184 = .ok (.aload_n 0, 1) := by decide +kernel
theorem dX3_takeDivisorAway_185 : decode cX3_takeDivisorAway 185 = .ok (.getfield 18, 3) := by decide +kernel
theorem dX3_takeDivisorAway_188 : decode cX3_takeDivisorAway 188 = .ok (.iload_n 3, 1) := by decide +kernel
theorem dX3_takeDivisorAway_189 : decode cX3_takeDivisorAway 189 = .ok (.aload_n 0, 1) := by decide +kernel
theorem dX3_takeDivisorAway_190 : decode cX3_takeDivisorAway 190 = .ok (.getfield 36, 3) := by decide +kernel
theorem dX3_takeDivisorAway_193 : decode cX3_takeDivisorAway 193 = .ok (.iadd, 1) := by decide +kernel
theorem dX3_takeDivisorAway_194 : decode cX3_takeDivisorAway 194 = .ok (.iconst 0, 1) := by decide +kernel
theorem dX3_takeDivisorAway_195 : decode cX3_takeDivisorAway 195 = .ok (.iastore, 1) := by decide +kernel
theorem dX3_takeDivisorAway_196 : decode cX3_takeDivisorAway 196 = .ok (.return_, 1) := by decide +kernel
