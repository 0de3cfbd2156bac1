theorem dX6_multiply_0 : decode cX6_multiply 0 = .ok (.aload_n 0, 1) := by decide +kernel
theorem dX6_multiply_1 : decode cX6_multiply 1 = .ok (.getfield 24, 3) := by decide +kernel
theorem dX6_multiply_4 : decode cX6_multiply 4 = .ok (.iload_n 1, 1) := by decide +kernel
theorem dX6_multiply_5 : decode cX6_multiply 5 = .ok (.iconst 1, 1) := by decide +kernel
theorem dX6_multiply_6 : decode cX6_multiply 6 = .ok (.bastore, 1) := by decide +kernel
theorem dX6_multiply_7 : decode cX6_multiply 7 = .ok (.iconst 0, 1) := by decide +kernel
theorem dX6_multiply_8 : decode cX6_multiply 8 = .ok (.istore 4, 2) := by decide +kernel
theorem dX6_multiply_10 : decode cX6_multiply 10 = .ok (.sipush 309, 3) := by decide +kernel
theorem dX6_multiply_13 : decode cX6_multiply 13 = .ok (.istore 5, 2) := by decide +kernel
theorem dX6_multiply_15 : decode cX6_multiply 15 = .ok (.iload 5, 2) := by decide +kernel
theorem dX6_multiply_17 : decode cX6_multiply 17 = .ok (.ifCond .lt 89, 3) := by decide +kernel
theorem dX6_multiply_20 : decode cX6_multiply 20 = .ok (.aload_n 0, 1) := by decide +kernel
theorem dX6_multiply_21 : decode cX6_multiply 21 = .ok (.iload_n 2, 1) := by decide +kernel
theorem dX6_multiply_22 : decode cX6_multiply 22 = .ok (.iload 5, 2) := by decide +kernel
theorem dX6_multiply_24 : decode cX6_multiply 24 = .ok (.bipush 31, 2) := by decide +kernel
theorem dX6_multiply_26 : decode cX6_multiply 26 = .ok (.idiv, 1) := by decide +kernel
theorem dX6_multiply_27 : decode cX6_multiply 27 = .ok (.invokevirtual 68, 3) := by decide +kernel
theorem dX6_multiply_30 : decode cX6_multiply 30 = .ok (.iload 5, 2) := by decide +kernel
theorem dX6_multiply_32 : decode cX6_multiply 32 = .ok (.bipush 31, 2) := by decide +kernel
theorem dX6_multiply_34 : decode cX6_multiply 34 = .ok (.irem, 1) := by decide +kernel
theorem dX6_multiply_35 : decode cX6_multiply 35 = .ok (.ishr, 1) := by decide +kernel
theorem dX6_multiply_36 : decode cX6_multiply 36 = .ok (.iconst 1, 1) := by decide +kernel
theorem dX6_multiply_37 : decode cX6_multiply 37 = .ok (.iand, 1) := by decide +kernel
theorem dX6_multiply_38 : decode cX6_multiply 38 = .ok (.iconst 1, 1) := by decide +kernel
theorem dX6_multiply_39 : decode cX6_multiply 39 = .ok (.if_icmp .ne 7, 3) := by decide +kernel
theorem dX6_multiply_42 : decode cX6_multiply 42 = .ok (.iconst 1, 1) := by decide +kernel
theorem dX6_multiply_43 : decode cX6_multiply 43 = .ok (.goto 4, 3) := by decide +kernel
theorem dX6_multiply_46 : decode cX6_multiply 46 = .ok (.iconst 0, 1) := by decide +kernel
theorem dX6_multiply_47 : decode cX6_multiply 47 = .ok (.istore 6, 2) := by decide +kernel
theorem dX6_multiply_49 : decode cX6_multiply 49 = .ok (.iload 4, 2) := by decide +kernel
theorem dX6_multiply_51 : decode cX6_multiply 51 = .ok (.ifCond .ne 8, 3) := by decide +kernel
theorem dX6_multiply_54 : decode cX6_multiply 54 = .ok (.iload 6, 2) := by decide +kernel
theorem dX6_multiply_56 : decode cX6_multiply 56 = .ok (.ifCond .eq 7, 3) := by decide +kernel
theorem dX6_multiply_59 : decode cX6_multiply 59 = .ok (.iconst 1, 1) := by decide +kernel
theorem dX6_multiply_60 : decode cX6_multiply 60 = .ok (.goto 4, 3) := by decide +kernel
theorem dX6_multiply_63 : decode cX6_multiply 63 = .ok (.iconst 0, 1) := by decide +kernel
theorem dX6_multiply_64 : decode cX6_multiply 64 = .ok (.istore 4, 2) := by decide +kernel
theorem dX6_multiply_66 : decode cX6_multiply 66 = .ok (.iload 4, 2) := by decide +kernel
theorem dX6_multiply_68 : decode cX6_multiply 68 = .ok (.ifCond .eq 15, 3) := by decide +kernel
theorem dX6_multiply_71 : decode cX6_multiply 71 = .ok (.aload_n 0, 1) := by decide +kernel
theorem dX6_multiply_72 : decode cX6_multiply 72 = .ok (.iload_n 1, 1) := by decide +kernel
theorem dX6_multiply_73 : decode cX6_multiply 73 = .ok (.iload_n 1, 1) := by decide +kernel
theorem dX6_multiply_74 : decode cX6_multiply 74 = .ok (.iload_n 1, 1) := by decide +kernel
theorem dX6_multiply_75 : decode cX6_multiply 75 = .ok (.invokevirtual 153, 3) := by decide +kernel
theorem dX6_multiply_78 : decode cX6_multiply 78 = .ok (.ifCond .ne 5, 3) := by decide +kernel
theorem dX6_multiply_81 : decode cX6_multiply 81 = .ok (.iconst 0, 1) := by decide +kernel
theorem dX6_multiply_82 : decode cX6_multiply 82 = .ok (.ireturn, 1) := by decide +kernel
theorem dX6_multiply_83 : decode cX6_multiply 83 = .ok (.iload 6, 2) := by decide +kernel
theorem dX6_multiply_85 : decode cX6_multiply 85 = .ok (.ifCond .eq 15, 3) := by decide +kernel
theorem dX6_multiply_88 : decode cX6_multiply 88 = .ok (.aload_n 0, 1) := by decide +kernel
theorem dX6_multiply_89 : decode cX6_multiply 89 = .ok (.iload_n 1, 1) := by decide +kernel
theorem dX6_multiply_90 : decode cX6_multiply 90 = .ok (.iload_n 1, 1) := by decide +kernel
theorem dX6_multiply_91 : decode cX6_multiply 91 = .ok (.iload_n 3, 1) := by decide +kernel
theorem dX6_multiply_92 : decode cX6_multiply 92 = .ok (.invokevirtual 153, 3) := by decide +kernel
theorem dX6_multiply_95 : decode cX6_multiply 95 = .ok (.ifCond .ne 5, 3) := by decide +kernel
theorem dX6_multiply_98 : decode cX6_multiply 98 = .ok (.iconst 0, 1) := by decide +kernel
theorem dX6_multiply_99 : decode cX6_multiply 99 = .ok (.ireturn, 1) := by decide +kernel
theorem dX6_multiply_100 : decode cX6_multiply 100 = .ok (.iinc 5 (-1), 3) := by decide +kernel
theorem dX6_multiply_103 : decode cX6_multiply 103 = .ok (.goto (-88), 3) := by decide +kernel
theorem dX6_multiply_106 : decode cX6_multiply 106 = .ok (.iconst 1, 1) := by decide +kernel
theorem dX6_multiply_107 : decode cX6_multiply 107 = .ok (.ireturn, 1) := by decide +kernel
theorem dX6_seal_0 : decode cX6_seal 0 = .ok (.aload_n 0, 1) := by decide +kernel
theorem dX6_seal_1 : decode cX6_seal 1 = .ok (.invokevirtual 156, 3) := by decide +kernel
theorem dX6_seal_4 : decode cX6_seal 4 = .ok (.aload_n 0, 1) := by decide +kernel
theorem dX6_seal_5 : decode cX6_seal 5 = .ok (.iconst 5, 1) := by decide +kernel
theorem dX6_seal_6 : decode cX6_seal 6 = .ok (.iconst 3, 1) := by decide +kernel
theorem dX6_seal_7 : decode cX6_seal 7 = .ok (.invokevirtual 64, 3) := by decide +kernel
theorem dX6_seal_10 : decode cX6_seal 10 = .ok (.aload_n 0, 1) := by decide +kernel
theorem dX6_seal_11 : decode cX6_seal 11 = .ok (.iconst 0, 1) := by decide +kernel
theorem dX6_seal_12 : decode cX6_seal 12 = .ok (.invokevirtual 106, 3) := by decide +kernel
theorem dX6_seal_15 : decode cX6_seal 15 = .ok (.ifCond .eq 12, 3) := by decide +kernel
theorem dX6_seal_18 : decode cX6_seal 18 = .ok (.aload_n 0, 1) := by decide +kernel
theorem dX6_seal_19 : decode cX6_seal 19 = .ok (.iconst 0, 1) := by decide +kernel
theorem dX6_seal_20 : decode cX6_seal 20 = .ok (.iconst 5, 1) := by decide +kernel
theorem dX6_seal_21 : decode cX6_seal 21 = .ok (.invokevirtual 72, 3) := by decide +kernel
theorem dX6_seal_24 : decode cX6_seal 24 = .ok (.ifCond .gt 5, 3) := by decide +kernel
theorem dX6_seal_27 : decode cX6_seal 27 = .ok (.iconst 1, 1) := by decide +kernel
theorem dX6_seal_28 : decode cX6_seal 28 = .ok (.ireturn, 1) := by decide +kernel
theorem dX6_seal_29 : decode cX6_seal 29 = .ok (.aload_n 0, 1) := by decide +kernel
theorem dX6_seal_30 : decode cX6_seal 30 = .ok (.iconst 1, 1) := by decide +kernel
theorem dX6_seal_31 : decode cX6_seal 31 = .ok (.iconst 0, 1) := by decide +kernel
theorem dX6_seal_32 : decode cX6_seal 32 = .ok (.invokevirtual 72, 3) := by decide +kernel
theorem dX6_seal_35 : decode cX6_seal 35 = .ok (.ifCond .ge 12, 3) := by decide +kernel
theorem dX6_seal_38 : decode cX6_seal 38 = .ok (.aload_n 0, 1) := by decide +kernel
theorem dX6_seal_39 : decode cX6_seal 39 = .ok (.iconst 2, 1) := by decide +kernel
theorem dX6_seal_40 : decode cX6_seal 40 = .ok (.iconst 0, 1) := by decide +kernel
theorem dX6_seal_41 : decode cX6_seal 41 = .ok (.invokevirtual 72, 3) := by decide +kernel
theorem dX6_seal_44 : decode cX6_seal 44 = .ok (.ifCond .lt 5, 3) := by decide +kernel
theorem dX6_seal_47 : decode cX6_seal 47 = .ok (.iconst 2, 1) := by decide +kernel
theorem dX6_seal_48 : decode cX6_seal 48 = .ok (.ireturn, 1) := by decide +kernel
theorem dX6_seal_49 : decode cX6_seal 49 = .ok (.aload_n 0, 1) := by decide +kernel
theorem dX6_seal_50 : decode cX6_seal 50 = .ok (.iconst 5, 1) := by decide +kernel
theorem dX6_seal_51 : decode cX6_seal 51 = .ok (.iconst 1, 1) := by decide +kernel
theorem dX6_seal_52 : decode cX6_seal 52 = .ok (.iconst 1, 1) := by decide +kernel
theorem dX6_seal_53 : decode cX6_seal 53 = .ok (.iconst 0, 1) := by decide +kernel
theorem dX6_seal_54 : decode cX6_seal 54 = .ok (.invokevirtual 144, 3) := by decide +kernel
theorem dX6_seal_57 : decode cX6_seal 57 = .ok (.aload_n 0, 1) := by decide +kernel
theorem dX6_seal_58 : decode cX6_seal 58 = .ok (.iconst 5, 1) := by decide +kernel
theorem dX6_seal_59 : decode cX6_seal 59 = .ok (.iconst 5, 1) := by decide +kernel
theorem dX6_seal_60 : decode cX6_seal 60 = .ok (.iconst 1, 1) := by decide +kernel
theorem dX6_seal_61 : decode cX6_seal 61 = .ok (.iconst 0, 1) := by decide +kernel
theorem dX6_seal_62 : decode cX6_seal 62 = .ok (.invokevirtual 144, 3) := by decide +kernel
theorem dX6_seal_65 : decode cX6_seal 65 = .ok (.aload_n 0, 1) := by decide +kernel
theorem dX6_seal_66 : decode cX6_seal 66 = .ok (.bipush 6, 2) := by decide +kernel
theorem dX6_seal_68 : decode cX6_seal 68 = .ok (.iconst 4, 1) := by decide +kernel
theorem dX6_seal_69 : decode cX6_seal 69 = .ok (.invokevirtual 64, 3) := by decide +kernel
theorem dX6_seal_72 : decode cX6_seal 72 = .ok (.aload_n 0, 1) := by decide +kernel
theorem dX6_seal_73 : decode cX6_seal 73 = .ok (.iconst 5, 1) := by decide +kernel
theorem dX6_seal_74 : decode cX6_seal 74 = .ok (.iconst 5, 1) := by decide +kernel
theorem dX6_seal_75 : decode cX6_seal 75 = .ok (.bipush 6, 2) := by decide +kernel
theorem dX6_seal_77 : decode cX6_seal 77 = .ok (.iconst 0, 1) := by decide +kernel
theorem dX6_seal_78 : decode cX6_seal 78 = .ok (.invokevirtual 144, 3) := by decide +kernel
theorem dX6_seal_81 : decode cX6_seal 81 = .ok (.aload_n 0, 1) := by decide +kernel
theorem dX6_seal_82 : decode cX6_seal 82 = .ok (.bipush 7, 2) := by decide +kernel
theorem dX6_seal_84 : decode cX6_seal 84 = .ok (.iconst 2, 1) := by decide +kernel
theorem dX6_seal_85 : decode cX6_seal 85 = .ok (.iconst 2, 1) := by decide +kernel
theorem dX6_seal_86 : decode cX6_seal 86 = .ok (.iconst 0, 1) := by decide +kernel
theorem dX6_seal_87 : decode cX6_seal 87 = .ok (.invokevirtual 144, 3) := by decide +kernel
theorem dX6_seal_90 : decode cX6_seal 90 = .ok (.aload_n 0, 1) := by decide +kernel
theorem dX6_seal_91 : decode cX6_seal 91 = .ok (.bipush 6, 2) := by decide +kernel
theorem dX6_seal_93 : decode cX6_seal 93 = .ok (.bipush 27, 2) := by decide +kernel
theorem dX6_seal_95 : decode cX6_seal 95 = .ok (.invokevirtual 64, 3) := by decide +kernel
theorem dX6_seal_98 : decode cX6_seal 98 = .ok (.aload_n 0, 1) := by decide +kernel
theorem dX6_seal_99 : decode cX6_seal 99 = .ok (.bipush 7, 2) := by decide +kernel
theorem dX6_seal_101 : decode cX6_seal 101 = .ok (.bipush 7, 2) := by decide +kernel
theorem dX6_seal_103 : decode cX6_seal 103 = .ok (.bipush 6, 2) := by decide +kernel
theorem dX6_seal_105 : decode cX6_seal 105 = .ok (.iconst 0, 1) := by decide +kernel
theorem dX6_seal_106 : decode cX6_seal 106 = .ok (.invokevirtual 144, 3) := by decide +kernel
theorem dX6_seal_109 : decode cX6_seal 109 = .ok (.aload_n 0, 1) := by decide +kernel
theorem dX6_seal_110 : decode cX6_seal 110 = .ok (.iconst 5, 1) := by decide +kernel
theorem dX6_seal_111 : decode cX6_seal 111 = .ok (.iconst 5, 1) := by decide +kernel
theorem dX6_seal_112 : decode cX6_seal 112 = .ok (.bipush 7, 2) := by decide +kernel
theorem dX6_seal_114 : decode cX6_seal 114 = .ok (.iconst 0, 1) := by decide +kernel
theorem dX6_seal_115 : decode cX6_seal 115 = .ok (.invokevirtual 147, 3) := by decide +kernel
theorem dX6_seal_118 : decode cX6_seal 118 = .ok (.aload_n 0, 1) := by decide +kernel
theorem dX6_seal_119 : decode cX6_seal 119 = .ok (.iconst 5, 1) := by decide +kernel
theorem dX6_seal_120 : decode cX6_seal 120 = .ok (.invokevirtual 115, 3) := by decide +kernel
theorem dX6_seal_123 : decode cX6_seal 123 = .ok (.ifCond .eq 5, 3) := by decide +kernel
theorem dX6_seal_126 : decode cX6_seal 126 = .ok (.iconst 3, 1) := by decide +kernel
theorem dX6_seal_127 : decode cX6_seal 127 = .ok (.ireturn, 1) := by decide +kernel
theorem dX6_seal_128 : decode cX6_seal 128 = .ok (.aload_n 0, 1) := by decide +kernel
theorem dX6_seal_129 : decode cX6_seal 129 = .ok (.getfield 43, 3) := by decide +kernel
theorem dX6_seal_132 : decode cX6_seal 132 = .ok (.ifCond .eq 5, 3) := by decide +kernel
theorem dX6_seal_135 : decode cX6_seal 135 = .ok (.iconst 4, 1) := by decide +kernel
theorem dX6_seal_136 : decode cX6_seal 136 = .ok (.ireturn, 1) := by decide +kernel
theorem dX6_seal_137 : decode cX6_seal 137 = .ok (.aload_n 0, 1) := by decide +kernel
theorem dX6_seal_138 : decode cX6_seal 138 = .ok (.iconst 1, 1) := by decide +kernel
theorem dX6_seal_139 : decode cX6_seal 139 = .ok (.putfield 43, 3) := by decide +kernel
theorem dX6_seal_142 : decode cX6_seal 142 = .ok (.aload_n 0, 1) := by decide +kernel
theorem dX6_seal_143 : decode cX6_seal 143 = .ok (.getfield 17, 3) := by decide +kernel
theorem dX6_seal_146 : decode cX6_seal 146 = .ok (.ifCond .lt 15, 3) := by decide +kernel
theorem dX6_seal_149 : decode cX6_seal 149 = .ok (.aload_n 0, 1) := by decide +kernel
theorem dX6_seal_150 : decode cX6_seal 150 = .ok (.getfield 17, 3) := by decide +kernel
theorem dX6_seal_153 : decode cX6_seal 153 = .ok (.iconst 4, 1) := by decide +kernel
theorem dX6_seal_154 : decode cX6_seal 154 = .ok (.if_icmp .ge 7, 3) := by decide +kernel
theorem dX6_seal_157 : decode cX6_seal 157 = .ok (.aload_n 0, 1) := by decide +kernel
theorem dX6_seal_158 : decode cX6_seal 158 = .ok (.invokevirtual 54, 3) := by decide +kernel
theorem dX6_seal_161 : decode cX6_seal 161 = .ok (.iconst 0, 1) := by decide +kernel
theorem dX6_seal_162 : decode cX6_seal 162 = .ok (.ireturn, 1) := by decide +kernel
theorem dX6_open_0 : decode cX6_open 0 = .ok (.aload_n 0, 1) := by decide +kernel
theorem dX6_open_1 : decode cX6_open 1 = .ok (.getfield 43, 3) := by decide +kernel
theorem dX6_open_4 : decode cX6_open 4 = .ok (.istore_n 1, 1) := by decide +kernel
theorem dX6_open_5 : decode cX6_open 5 = .ok (.aload_n 0, 1) := by decide +kernel
theorem dX6_open_6 : decode cX6_open 6 = .ok (.iconst 0, 1) := by decide +kernel
theorem dX6_open_7 : decode cX6_open 7 = .ok (.putfield 43, 3) := by decide +kernel
theorem dX6_open_10 : decode cX6_open 10 = .ok (.iload_n 1, 1) := by decide +kernel
theorem dX6_open_11 : decode cX6_open 11 = .ok (.ireturn, 1) := by decide +kernel
theorem dX6_limb_0 : decode cX6_limb 0 = .ok (.iload_n 1, 1) := by decide +kernel
theorem dX6_limb_1 : decode cX6_limb 1 = .ok (.ifCond .lt 22, 3) := by decide +kernel
theorem dX6_limb_4 : decode cX6_limb 4 = .ok (.iload_n 1, 1) := by decide +kernel
theorem dX6_limb_5 : decode cX6_limb 5 = .ok (.bipush 19, 2) := by decide +kernel
theorem dX6_limb_7 : decode cX6_limb 7 = .ok (.if_icmp .gt 16, 3) := by decide +kernel
theorem dX6_limb_10 : decode cX6_limb 10 = .ok (.iload_n 2, 1) := by decide +kernel
theorem dX6_limb_11 : decode cX6_limb 11 = .ok (.ifCond .lt 12, 3) := by decide +kernel
theorem dX6_limb_14 : decode cX6_limb 14 = .ok (.iload_n 2, 1) := by decide +kernel
theorem dX6_limb_15 : decode cX6_limb 15 = .ok (.aload_n 0, 1) := by decide +kernel
theorem dX6_limb_16 : decode cX6_limb 16 = .ok (.iload_n 1, 1) := by decide +kernel
theorem dX6_limb_17 : decode cX6_limb 17 = .ok (.invokevirtual 50, 3) := by decide +kernel
theorem dX6_limb_20 : decode cX6_limb 20 = .ok (.if_icmp .lt 5, 3) := by decide +kernel
theorem dX6_limb_23 : decode cX6_limb 23 = .ok (.iconst (-1), 1) := by decide +kernel
theorem dX6_limb_24 : decode cX6_limb 24 = .ok (.ireturn, 1) := by decide +kernel
theorem dX6_limb_25 : decode cX6_limb 25 = .ok (.aload_n 0, 1) := by decide +kernel
theorem dX6_limb_26 : decode cX6_limb 26 = .ok (.getfield 7, 3) := by decide +kernel
theorem dX6_limb_29 : decode cX6_limb 29 = .ok (.bipush 18, 2) := by decide +kernel
theorem dX6_limb_31 : decode cX6_limb 31 = .ok (.iload_n 1, 1) := by decide +kernel
theorem dX6_limb_32 : decode cX6_limb 32 = .ok (.imul, 1) := by decide +kernel
theorem dX6_limb_33 : decode cX6_limb 33 = .ok (.iload_n 2, 1) := by decide +kernel
theorem dX6_limb_34 : decode cX6_limb 34 = .ok (.iadd, 1) := by decide +kernel
theorem dX6_limb_35 : decode cX6_limb 35 = .ok (.iaload, 1) := by decide +kernel
theorem dX6_limb_36 : decode cX6_limb 36 = .ok (.ireturn, 1) := by decide +kernel
theorem dX6_isGood_0 : decode cX6_isGood 0 = .ok (.aload_n 0, 1) := by decide +kernel
theorem dX6_isGood_1 : decode cX6_isGood 1 = .ok (.getfield 43, 3) := by decide +kernel
theorem dX6_isGood_4 : decode cX6_isGood 4 = .ok (.ifCond .eq 10, 3) := by decide +kernel
theorem dX6_isGood_7 : decode cX6_isGood 7 = .ok (.iload_n 2, 1) := by decide +kernel
theorem dX6_isGood_8 : decode cX6_isGood 8 = .ok (.invokestatic 39, 3) := by decide +kernel
theorem dX6_isGood_11 : decode cX6_isGood 11 = .ok (.ifCond .ne 5, 3) := by decide +kernel
theorem dX6_isGood_14 : decode cX6_isGood 14 = .ok (.iconst 0, 1) := by decide +kernel
theorem dX6_isGood_15 : decode cX6_isGood 15 = .ok (.ireturn, 1) := by decide +kernel
theorem dX6_isGood_16 : decode cX6_isGood 16 = .ok (.aload_n 0, 1) := by decide +kernel
theorem dX6_isGood_17 : decode cX6_isGood 17 = .ok (.invokevirtual 156, 3) := by decide +kernel
theorem dX6_isGood_20 : decode cX6_isGood 20 = .ok (.aload_n 0, 1) := by decide +kernel
theorem dX6_isGood_21 : decode cX6_isGood 21 = .ok (.iload_n 1, 1) := by decide +kernel
theorem dX6_isGood_22 : decode cX6_isGood 22 = .ok (.iload_n 2, 1) := by decide +kernel
theorem dX6_isGood_23 : decode cX6_isGood 23 = .ok (.invokevirtual 159, 3) := by decide +kernel
theorem dX6_isGood_26 : decode cX6_isGood 26 = .ok (.aload_n 0, 1) := by decide +kernel
theorem dX6_isGood_27 : decode cX6_isGood 27 = .ok (.iload_n 1, 1) := by decide +kernel
theorem dX6_isGood_28 : decode cX6_isGood 28 = .ok (.invokevirtual 162, 3) := by decide +kernel
theorem dX6_isGood_31 : decode cX6_isGood 31 = .ok (.ireturn, 1) := by decide +kernel
theorem dX6_onCurve_0 : decode cX6_onCurve 0 = .ok (.aload_n 0, 1) := by decide +kernel
theorem dX6_onCurve_1 : decode cX6_onCurve 1 = .ok (.iconst 0, 1) := by decide +kernel
theorem dX6_onCurve_2 : decode cX6_onCurve 2 = .ok (.iload_n 1, 1) := by decide +kernel
theorem dX6_onCurve_3 : decode cX6_onCurve 3 = .ok (.invokevirtual 165, 3) := by decide +kernel
theorem dX6_onCurve_6 : decode cX6_onCurve 6 = .ok (.ireturn, 1) := by decide +kernel
theorem dX6_isInfinity_0 : decode cX6_isInfinity 0 = .ok (.iload_n 1, 1) := by decide +kernel
theorem dX6_isInfinity_1 : decode cX6_isInfinity 1 = .ok (.invokestatic 39, 3) := by decide +kernel
theorem dX6_isInfinity_4 : decode cX6_isInfinity 4 = .ok (.ifCond .eq 16, 3) := by decide +kernel
theorem dX6_isInfinity_7 : decode cX6_isInfinity 7 = .ok (.aload_n 0, 1) := by decide +kernel
theorem dX6_isInfinity_8 : decode cX6_isInfinity 8 = .ok (.getfield 13, 3) := by decide +kernel
theorem dX6_isInfinity_11 : decode cX6_isInfinity 11 = .ok (.iload_n 1, 1) := by decide +kernel
theorem dX6_isInfinity_12 : decode cX6_isInfinity 12 = .ok (.baload, 1) := by decide +kernel
theorem dX6_isInfinity_13 : decode cX6_isInfinity 13 = .ok (.ifCond .ne 7, 3) := by decide +kernel
theorem dX6_isInfinity_16 : decode cX6_isInfinity 16 = .ok (.iconst 1, 1) := by decide +kernel
theorem dX6_isInfinity_17 : decode cX6_isInfinity 17 = .ok (.goto 4, 3) := by decide +kernel
theorem dX6_isInfinity_20 : decode cX6_isInfinity 20 = .ok (.iconst 0, 1) := by decide +kernel
theorem dX6_isInfinity_21 : decode cX6_isInfinity 21 = .ok (.ireturn, 1) := by decide +kernel
theorem dX6_addPts_0 : decode cX6_addPts 0 = .ok (.iload_n 1, 1) := by decide +kernel
theorem dX6_addPts_1 : decode cX6_addPts 1 = .ok (.invokestatic 39, 3) := by decide +kernel
theorem dX6_addPts_4 : decode cX6_addPts 4 = .ok (.ifCond .eq 16, 3) := by decide +kernel
theorem dX6_addPts_7 : decode cX6_addPts 7 = .ok (.aload_n 0, 1) := by decide +kernel
theorem dX6_addPts_8 : decode cX6_addPts 8 = .ok (.iconst 0, 1) := by decide +kernel
theorem dX6_addPts_9 : decode cX6_addPts 9 = .ok (.iload_n 2, 1) := by decide +kernel
theorem dX6_addPts_10 : decode cX6_addPts 10 = .ok (.invokevirtual 165, 3) := by decide +kernel
theorem dX6_addPts_13 : decode cX6_addPts 13 = .ok (.ifCond .eq 7, 3) := by decide +kernel
theorem dX6_addPts_16 : decode cX6_addPts 16 = .ok (.iconst 1, 1) := by decide +kernel
theorem dX6_addPts_17 : decode cX6_addPts 17 = .ok (.goto 4, 3) := by decide +kernel
theorem dX6_addPts_20 : decode cX6_addPts 20 = .ok (.iconst 0, 1) := by decide +kernel
theorem dX6_addPts_21 : decode cX6_addPts 21 = .ok (.istore 4, 2) := by decide +kernel
theorem dX6_addPts_23 : decode cX6_addPts 23 = .ok (.iload 4, 2) := by decide +kernel
theorem dX6_addPts_25 : decode cX6_addPts 25 = .ok (.ifCond .eq 16, 3) := by decide +kernel
theorem dX6_addPts_28 : decode cX6_addPts 28 = .ok (.aload_n 0, 1) := by decide +kernel
theorem dX6_addPts_29 : decode cX6_addPts 29 = .ok (.iconst 1, 1) := by decide +kernel
theorem dX6_addPts_30 : decode cX6_addPts 30 = .ok (.iload_n 3, 1) := by decide +kernel
theorem dX6_addPts_31 : decode cX6_addPts 31 = .ok (.invokevirtual 165, 3) := by decide +kernel
theorem dX6_addPts_34 : decode cX6_addPts 34 = .ok (.ifCond .eq 7, 3) := by decide +kernel
theorem dX6_addPts_37 : decode cX6_addPts 37 = .ok (.iconst 1, 1) := by decide +kernel
theorem dX6_addPts_38 : decode cX6_addPts 38 = .ok (.goto 4, 3) := by decide +kernel
theorem dX6_addPts_41 : decode cX6_addPts 41 = .ok (.iconst 0, 1) := by decide +kernel
theorem dX6_addPts_42 : decode cX6_addPts 42 = .ok (.istore 4, 2) := by decide +kernel
theorem dX6_addPts_44 : decode cX6_addPts 44 = .ok (.iload 4, 2) := by decide +kernel
theorem dX6_addPts_46 : decode cX6_addPts 46 = .ok (.ifCond .eq 17, 3) := by decide +kernel
theorem dX6_addPts_49 : decode cX6_addPts 49 = .ok (.aload_n 0, 1) := by decide +kernel
theorem dX6_addPts_50 : decode cX6_addPts 50 = .ok (.iconst 2, 1) := by decide +kernel
theorem dX6_addPts_51 : decode cX6_addPts 51 = .ok (.iconst 0, 1) := by decide +kernel
theorem dX6_addPts_52 : decode cX6_addPts 52 = .ok (.iconst 1, 1) := by decide +kernel
theorem dX6_addPts_53 : decode cX6_addPts 53 = .ok (.invokevirtual 153, 3) := by decide +kernel
theorem dX6_addPts_56 : decode cX6_addPts 56 = .ok (.ifCond .eq 7, 3) := by decide +kernel
theorem dX6_addPts_59 : decode cX6_addPts 59 = .ok (.iconst 1, 1) := by decide +kernel
theorem dX6_addPts_60 : decode cX6_addPts 60 = .ok (.goto 4, 3) := by decide +kernel
theorem dX6_addPts_63 : decode cX6_addPts 63 = .ok (.iconst 0, 1) := by decide +kernel
theorem dX6_addPts_64 : decode cX6_addPts 64 = .ok (.istore 4, 2) := by decide +kernel
theorem dX6_addPts_66 : decode cX6_addPts 66 = .ok (.iload 4, 2) := by decide +kernel
theorem dX6_addPts_68 : decode cX6_addPts 68 = .ok (.ifCond .eq 9, 3) := by decide +kernel
theorem dX6_addPts_71 : decode cX6_addPts 71 = .ok (.aload_n 0, 1) := by decide +kernel
theorem dX6_addPts_72 : decode cX6_addPts 72 = .ok (.iload_n 1, 1) := by decide +kernel
theorem dX6_addPts_73 : decode cX6_addPts 73 = .ok (.iconst 2, 1) := by decide +kernel
theorem dX6_addPts_74 : decode cX6_addPts 74 = .ok (.invokevirtual 169, 3) := by decide +kernel
theorem dX6_addPts_77 : decode cX6_addPts 77 = .ok (.iload 4, 2) := by decide +kernel
theorem dX6_addPts_79 : decode cX6_addPts 79 = .ok (.ireturn, 1) := by decide +kernel
theorem dX6_dbl_0 : decode cX6_dbl 0 = .ok (.aload_n 0, 1) := by decide +kernel
theorem dX6_dbl_1 : decode cX6_dbl 1 = .ok (.iload_n 1, 1) := by decide +kernel
theorem dX6_dbl_2 : decode cX6_dbl 2 = .ok (.iload_n 2, 1) := by decide +kernel
theorem dX6_dbl_3 : decode cX6_dbl 3 = .ok (.iload_n 2, 1) := by decide +kernel
theorem dX6_dbl_4 : decode cX6_dbl 4 = .ok (.invokevirtual 172, 3) := by decide +kernel
theorem dX6_dbl_7 : decode cX6_dbl 7 = .ok (.ireturn, 1) := by decide +kernel
theorem dX6_scalarMul_0 : decode cX6_scalarMul 0 = .ok (.iload_n 1, 1) := by decide +kernel
theorem dX6_scalarMul_1 : decode cX6_scalarMul 1 = .ok (.invokestatic 39, 3) := by decide +kernel
theorem dX6_scalarMul_4 : decode cX6_scalarMul 4 = .ok (.ifCond .eq 14, 3) := by decide +kernel
theorem dX6_scalarMul_7 : decode cX6_scalarMul 7 = .ok (.iload_n 2, 1) := by decide +kernel
theorem dX6_scalarMul_8 : decode cX6_scalarMul 8 = .ok (.invokestatic 175, 3) := by decide +kernel
theorem dX6_scalarMul_11 : decode cX6_scalarMul 11 = .ok (.ifCond .eq 7, 3) := by decide +kernel
theorem dX6_scalarMul_14 : decode cX6_scalarMul 14 = .ok (.iconst 1, 1) := by decide +kernel
theorem dX6_scalarMul_15 : decode cX6_scalarMul 15 = .ok (.goto 4, 3) := by decide +kernel
theorem dX6_scalarMul_18 : decode cX6_scalarMul 18 = .ok (.iconst 0, 1) := by decide +kernel
theorem dX6_scalarMul_19 : decode cX6_scalarMul 19 = .ok (.istore 4, 2) := by decide +kernel
theorem dX6_scalarMul_21 : decode cX6_scalarMul 21 = .ok (.iload 4, 2) := by decide +kernel
theorem dX6_scalarMul_23 : decode cX6_scalarMul 23 = .ok (.ifCond .eq 16, 3) := by decide +kernel
theorem dX6_scalarMul_26 : decode cX6_scalarMul 26 = .ok (.aload_n 0, 1) := by decide +kernel
theorem dX6_scalarMul_27 : decode cX6_scalarMul 27 = .ok (.iconst 0, 1) := by decide +kernel
theorem dX6_scalarMul_28 : decode cX6_scalarMul 28 = .ok (.iload_n 3, 1) := by decide +kernel
theorem dX6_scalarMul_29 : decode cX6_scalarMul 29 = .ok (.invokevirtual 165, 3) := by decide +kernel
theorem dX6_scalarMul_32 : decode cX6_scalarMul 32 = .ok (.ifCond .eq 7, 3) := by decide +kernel
theorem dX6_scalarMul_35 : decode cX6_scalarMul 35 = .ok (.iconst 1, 1) := by decide +kernel
theorem dX6_scalarMul_36 : decode cX6_scalarMul 36 = .ok (.goto 4, 3) := by decide +kernel
theorem dX6_scalarMul_39 : decode cX6_scalarMul 39 = .ok (.iconst 0, 1) := by decide +kernel
theorem dX6_scalarMul_40 : decode cX6_scalarMul 40 = .ok (.istore 4, 2) := by decide +kernel
theorem dX6_scalarMul_42 : decode cX6_scalarMul 42 = .ok (.iload 4, 2) := by decide +kernel
theorem dX6_scalarMul_44 : decode cX6_scalarMul 44 = .ok (.ifCond .ne 5, 3) := by decide +kernel
theorem dX6_scalarMul_47 : decode cX6_scalarMul 47 = .ok (.iconst 0, 1) := by decide +kernel
theorem dX6_scalarMul_48 : decode cX6_scalarMul 48 = .ok (.ireturn, 1) := by decide +kernel
theorem dX6_scalarMul_49 : decode cX6_scalarMul 49 = .ok (.aload_n 0, 1) := by decide +kernel
theorem dX6_scalarMul_50 : decode cX6_scalarMul 50 = .ok (.bipush 14, 2) := by decide +kernel
theorem dX6_scalarMul_52 : decode cX6_scalarMul 52 = .ok (.iload_n 2, 1) := by decide +kernel
theorem dX6_scalarMul_53 : decode cX6_scalarMul 53 = .ok (.iconst 0, 1) := by decide +kernel
theorem dX6_scalarMul_54 : decode cX6_scalarMul 54 = .ok (.invokevirtual 61, 3) := by decide +kernel
theorem dX6_scalarMul_57 : decode cX6_scalarMul 57 = .ok (.aload_n 0, 1) := by decide +kernel
theorem dX6_scalarMul_58 : decode cX6_scalarMul 58 = .ok (.iconst 2, 1) := by decide +kernel
theorem dX6_scalarMul_59 : decode cX6_scalarMul 59 = .ok (.bipush 14, 2) := by decide +kernel
theorem dX6_scalarMul_61 : decode cX6_scalarMul 61 = .ok (.iconst 0, 1) := by decide +kernel
theorem dX6_scalarMul_62 : decode cX6_scalarMul 62 = .ok (.invokevirtual 178, 3) := by decide +kernel
theorem dX6_scalarMul_65 : decode cX6_scalarMul 65 = .ok (.istore 4, 2) := by decide +kernel
theorem dX6_scalarMul_67 : decode cX6_scalarMul 67 = .ok (.iload 4, 2) := by decide +kernel
theorem dX6_scalarMul_69 : decode cX6_scalarMul 69 = .ok (.ifCond .eq 9, 3) := by decide +kernel
theorem dX6_scalarMul_72 : decode cX6_scalarMul 72 = .ok (.aload_n 0, 1) := by decide +kernel
theorem dX6_scalarMul_73 : decode cX6_scalarMul 73 = .ok (.iload_n 1, 1) := by decide +kernel
theorem dX6_scalarMul_74 : decode cX6_scalarMul 74 = .ok (.iconst 2, 1) := by decide +kernel
theorem dX6_scalarMul_75 : decode cX6_scalarMul 75 = .ok (.invokevirtual 169, 3) := by decide +kernel
theorem dX6_scalarMul_78 : decode cX6_scalarMul 78 = .ok (.iload 4, 2) := by decide +kernel
theorem dX6_scalarMul_80 : decode cX6_scalarMul 80 = .ok (.ireturn, 1) := by decide +kernel
theorem dX6_negate_0 : decode cX6_negate 0 = .ok (.iload_n 1, 1) := by decide +kernel
theorem dX6_negate_1 : decode cX6_negate 1 = .ok (.invokestatic 39, 3) := by decide +kernel
theorem dX6_negate_4 : decode cX6_negate 4 = .ok (.ifCond .eq 16, 3) := by decide +kernel
theorem dX6_negate_7 : decode cX6_negate 7 = .ok (.aload_n 0, 1) := by decide +kernel
theorem dX6_negate_8 : decode cX6_negate 8 = .ok (.iconst 0, 1) := by decide +kernel
theorem dX6_negate_9 : decode cX6_negate 9 = .ok (.iload_n 2, 1) := by decide +kernel
theorem dX6_negate_10 : decode cX6_negate 10 = .ok (.invokevirtual 165, 3) := by decide +kernel
theorem dX6_negate_13 : decode cX6_negate 13 = .ok (.ifCond .eq 7, 3) := by decide +kernel
theorem dX6_negate_16 : decode cX6_negate 16 = .ok (.iconst 1, 1) := by decide +kernel
theorem dX6_negate_17 : decode cX6_negate 17 = .ok (.goto 4, 3) := by decide +kernel
theorem dX6_negate_20 : decode cX6_negate 20 = .ok (.iconst 0, 1) := by decide +kernel
theorem dX6_negate_21 : decode cX6_negate 21 = .ok (.istore_n 3, 1) := by decide +kernel
theorem dX6_negate_22 : decode cX6_negate 22 = .ok (.iload_n 3, 1) := by decide +kernel
theorem dX6_negate_23 : decode cX6_negate 23 = .ok (.ifCond .eq 42, 3) := by decide +kernel
theorem dX6_negate_26 : decode cX6_negate 26 = .ok (.aload_n 0, 1) := by decide +kernel
theorem dX6_negate_27 : decode cX6_negate 27 = .ok (.getfield 24, 3) := by decide +kernel
theorem dX6_negate_30 : decode cX6_negate 30 = .ok (.iconst 0, 1) := by decide +kernel
theorem dX6_negate_31 : decode cX6_negate 31 = .ok (.baload, 1) := by decide +kernel
theorem dX6_negate_32 : decode cX6_negate 32 = .ok (.ifCond .ne 27, 3) := by decide +kernel
theorem dX6_negate_35 : decode cX6_negate 35 = .ok (.aload_n 0, 1) := by decide +kernel
theorem dX6_negate_36 : decode cX6_negate 36 = .ok (.iconst 0, 1) := by decide +kernel
theorem dX6_negate_37 : decode cX6_negate 37 = .ok (.invokestatic 138, 3) := by decide +kernel
theorem dX6_negate_40 : decode cX6_negate 40 = .ok (.invokevirtual 115, 3) := by decide +kernel
theorem dX6_negate_43 : decode cX6_negate 43 = .ok (.ifCond .ne 16, 3) := by decide +kernel
theorem dX6_negate_46 : decode cX6_negate 46 = .ok (.aload_n 0, 1) := by decide +kernel
theorem dX6_negate_47 : decode cX6_negate 47 = .ok (.iconst 0, 1) := by decide +kernel
theorem dX6_negate_48 : decode cX6_negate 48 = .ok (.invokestatic 138, 3) := by decide +kernel
theorem dX6_negate_51 : decode cX6_negate 51 = .ok (.iconst 0, 1) := by decide +kernel
theorem dX6_negate_52 : decode cX6_negate 52 = .ok (.iconst 0, 1) := by decide +kernel
theorem dX6_negate_53 : decode cX6_negate 53 = .ok (.invokestatic 138, 3) := by decide +kernel
theorem dX6_negate_56 : decode cX6_negate 56 = .ok (.invokevirtual 103, 3) := by decide +kernel
theorem dX6_negate_59 : decode cX6_negate 59 = .ok (.aload_n 0, 1) := by decide +kernel
theorem dX6_negate_60 : decode cX6_negate 60 = .ok (.iload_n 1, 1) := by decide +kernel
theorem dX6_negate_61 : decode cX6_negate 61 = .ok (.iconst 0, 1) := by decide +kernel
theorem dX6_negate_62 : decode cX6_negate 62 = .ok (.invokevirtual 169, 3) := by decide +kernel
theorem dX6_negate_65 : decode cX6_negate 65 = .ok (.iload_n 3, 1) := by decide +kernel
theorem dX6_negate_66 : decode cX6_negate 66 = .ok (.ireturn, 1) := by decide +kernel
theorem dX6_isSame_0 : decode cX6_isSame 0 = .ok (.iload_n 1, 1) := by decide +kernel
theorem dX6_isSame_1 : decode cX6_isSame 1 = .ok (.invokestatic 39, 3) := by decide +kernel
theorem dX6_isSame_4 : decode cX6_isSame 4 = .ok (.ifCond .eq 25, 3) := by decide +kernel
theorem dX6_isSame_7 : decode cX6_isSame 7 = .ok (.iload_n 2, 1) := by decide +kernel
theorem dX6_isSame_8 : decode cX6_isSame 8 = .ok (.invokestatic 39, 3) := by decide +kernel
theorem dX6_isSame_11 : decode cX6_isSame 11 = .ok (.ifCond .eq 18, 3) := by decide +kernel
theorem dX6_isSame_14 : decode cX6_isSame 14 = .ok (.aload_n 0, 1) := by decide +kernel
theorem dX6_isSame_15 : decode cX6_isSame 15 = .ok (.getfield 13, 3) := by decide +kernel
theorem dX6_isSame_18 : decode cX6_isSame 18 = .ok (.iload_n 1, 1) := by decide +kernel
theorem dX6_isSame_19 : decode cX6_isSame 19 = .ok (.baload, 1) := by decide +kernel
theorem dX6_isSame_20 : decode cX6_isSame 20 = .ok (.aload_n 0, 1) := by decide +kernel
theorem dX6_isSame_21 : decode cX6_isSame 21 = .ok (.getfield 13, 3) := by decide +kernel
theorem dX6_isSame_24 : decode cX6_isSame 24 = .ok (.iload_n 2, 1) := by decide +kernel
theorem dX6_isSame_25 : decode cX6_isSame 25 = .ok (.baload, 1) := by decide +kernel
theorem dX6_isSame_26 : decode cX6_isSame 26 = .ok (.if_icmp .eq 5, 3) := by decide +kernel
theorem dX6_isSame_29 : decode cX6_isSame 29 = .ok (.iconst 0, 1) := by decide +kernel
theorem dX6_isSame_30 : decode cX6_isSame 30 = .ok (.ireturn, 1) := by decide +kernel
theorem dX6_isSame_31 : decode cX6_isSame 31 = .ok (.iconst 1, 1) := by decide +kernel
theorem dX6_isSame_32 : decode cX6_isSame 32 = .ok (.istore_n 3, 1) := by decide +kernel
theorem dX6_isSame_33 : decode cX6_isSame 33 = .ok (.iconst 0, 1) := by decide +kernel
theorem dX6_isSame_34 : decode cX6_isSame 34 = .ok (.istore 4, 2) := by decide +kernel
theorem dX6_isSame_36 : decode cX6_isSame 36 = .ok (.iload 4, 2) := by decide +kernel
theorem dX6_isSame_38 : decode cX6_isSame 38 = .ok (.iconst 2, 1) := by decide +kernel
theorem dX6_isSame_39 : decode cX6_isSame 39 = .ok (.aload_n 0, 1) := by decide +kernel
theorem dX6_isSame_40 : decode cX6_isSame 40 = .ok (.getfield 36, 3) := by decide +kernel
theorem dX6_isSame_43 : decode cX6_isSame 43 = .ok (.imul, 1) := by decide +kernel
theorem dX6_isSame_44 : decode cX6_isSame 44 = .ok (.if_icmp .ge 46, 3) := by decide +kernel
theorem dX6_isSame_47 : decode cX6_isSame 47 = .ok (.iload_n 3, 1) := by decide +kernel
theorem dX6_isSame_48 : decode cX6_isSame 48 = .ok (.ifCond .eq 34, 3) := by decide +kernel
theorem dX6_isSame_51 : decode cX6_isSame 51 = .ok (.aload_n 0, 1) := by decide +kernel
theorem dX6_isSame_52 : decode cX6_isSame 52 = .ok (.getfield 7, 3) := by decide +kernel
theorem dX6_isSame_55 : decode cX6_isSame 55 = .ok (.bipush 18, 2) := by decide +kernel
theorem dX6_isSame_57 : decode cX6_isSame 57 = .ok (.iload_n 1, 1) := by decide +kernel
theorem dX6_isSame_58 : decode cX6_isSame 58 = .ok (.imul, 1) := by decide +kernel
theorem dX6_isSame_59 : decode cX6_isSame 59 = .ok (.iload 4, 2) := by decide +kernel
theorem dX6_isSame_61 : decode cX6_isSame 61 = .ok (.iadd, 1) := by decide +kernel
theorem dX6_isSame_62 : decode cX6_isSame 62 = .ok (.iaload, 1) := by decide +kernel
theorem dX6_isSame_63 : decode cX6_isSame 63 = .ok (.aload_n 0, 1) := by decide +kernel
theorem dX6_isSame_64 : decode cX6_isSame 64 = .ok (.getfield 7, 3) := by decide +kernel
theorem dX6_isSame_67 : decode cX6_isSame 67 = .ok (.bipush 18, 2) := by decide +kernel
theorem dX6_isSame_69 : decode cX6_isSame 69 = .ok (.iload_n 2, 1) := by decide +kernel
theorem dX6_isSame_70 : decode cX6_isSame 70 = .ok (.imul, 1) := by decide +kernel
theorem dX6_isSame_71 : decode cX6_isSame 71 = .ok (.iload 4, 2) := by decide +kernel
theorem dX6_isSame_73 : decode cX6_isSame 73 = .ok (.iadd, 1) := by decide +kernel
theorem dX6_isSame_74 : decode cX6_isSame 74 = .ok (.iaload, 1) := by decide +kernel
theorem dX6_isSame_75 : decode cX6_isSame 75 = .ok (.if_icmp .ne 7, 3) := by decide +kernel
theorem dX6_isSame_78 : decode cX6_isSame 78 = .ok (.iconst 1, 1) := by decide +kernel
theorem dX6_isSame_79 : decode cX6_isSame 79 = .ok (.goto 4, 3) := by decide +kernel
theorem dX6_isSame_82 : decode cX6_isSame 82 = .ok (.iconst 0, 1) := by decide +kernel
theorem dX6_isSame_83 : decode cX6_isSame 83 = .ok (.istore_n 3, 1) := by decide +kernel
theorem dX6_isSame_84 : decode cX6_isSame 84 = .ok (.iinc 4 1, 3) := by decide +kernel
theorem dX6_isSame_87 : decode cX6_isSame 87 = .ok (.goto (-51), 3) := by decide +kernel
theorem dX6_isSame_90 : decode cX6_isSame 90 = .ok (.iload_n 3, 1) := by decide +kernel
theorem dX6_isSame_91 : decode cX6_isSame 91 = .ok (.ireturn, 1) := by decide +kernel
theorem dX6_verify_0 : decode cX6_verify 0 = .ok (.iload_n 3, 1) := by decide +kernel
theorem dX6_verify_1 : decode cX6_verify 1 = .ok (.invokestatic 175, 3) := by decide +kernel
theorem dX6_verify_4 : decode cX6_verify 4 = .ok (.ifCond .eq 19, 3) := by decide +kernel
theorem dX6_verify_7 : decode cX6_verify 7 = .ok (.iload 4, 2) := by decide +kernel
theorem dX6_verify_9 : decode cX6_verify 9 = .ok (.invokestatic 175, 3) := by decide +kernel
theorem dX6_verify_12 : decode cX6_verify 12 = .ok (.ifCond .eq 11, 3) := by decide +kernel
theorem dX6_verify_15 : decode cX6_verify 15 = .ok (.iload 5, 2) := by decide +kernel
theorem dX6_verify_17 : decode cX6_verify 17 = .ok (.invokestatic 175, 3) := by decide +kernel
theorem dX6_verify_20 : decode cX6_verify 20 = .ok (.ifCond .ne 5, 3) := by decide +kernel
theorem dX6_verify_23 : decode cX6_verify 23 = .ok (.iconst (-1), 1) := by decide +kernel
theorem dX6_verify_24 : decode cX6_verify 24 = .ok (.ireturn, 1) := by decide +kernel
theorem dX6_verify_25 : decode cX6_verify 25 = .ok (.aload_n 0, 1) := by decide +kernel
theorem dX6_verify_26 : decode cX6_verify 26 = .ok (.iconst 0, 1) := by decide +kernel
theorem dX6_verify_27 : decode cX6_verify 27 = .ok (.iload_n 2, 1) := by decide +kernel
theorem dX6_verify_28 : decode cX6_verify 28 = .ok (.invokevirtual 165, 3) := by decide +kernel
theorem dX6_verify_31 : decode cX6_verify 31 = .ok (.ifCond .eq 12, 3) := by decide +kernel
theorem dX6_verify_34 : decode cX6_verify 34 = .ok (.aload_n 0, 1) := by decide +kernel
theorem dX6_verify_35 : decode cX6_verify 35 = .ok (.iconst 1, 1) := by decide +kernel
theorem dX6_verify_36 : decode cX6_verify 36 = .ok (.iload_n 1, 1) := by decide +kernel
theorem dX6_verify_37 : decode cX6_verify 37 = .ok (.invokevirtual 165, 3) := by decide +kernel
theorem dX6_verify_40 : decode cX6_verify 40 = .ok (.ifCond .ne 5, 3) := by decide +kernel
theorem dX6_verify_43 : decode cX6_verify 43 = .ok (.iconst (-1), 1) := by decide +kernel
theorem dX6_verify_44 : decode cX6_verify 44 = .ok (.ireturn, 1) := by decide +kernel
theorem dX6_verify_45 : decode cX6_verify 45 = .ok (.aload_n 0, 1) := by decide +kernel
theorem dX6_verify_46 : decode cX6_verify 46 = .ok (.iconst 3, 1) := by decide +kernel
theorem dX6_verify_47 : decode cX6_verify 47 = .ok (.invokevirtual 115, 3) := by decide +kernel
theorem dX6_verify_50 : decode cX6_verify 50 = .ok (.ifCond .eq 5, 3) := by decide +kernel
theorem dX6_verify_53 : decode cX6_verify 53 = .ok (.iconst (-1), 1) := by decide +kernel
theorem dX6_verify_54 : decode cX6_verify 54 = .ok (.ireturn, 1) := by decide +kernel
theorem dX6_verify_55 : decode cX6_verify 55 = .ok (.aload_n 0, 1) := by decide +kernel
theorem dX6_verify_56 : decode cX6_verify 56 = .ok (.bipush 14, 2) := by decide +kernel
theorem dX6_verify_58 : decode cX6_verify 58 = .ok (.iload 4, 2) := by decide +kernel
theorem dX6_verify_60 : decode cX6_verify 60 = .ok (.iconst 0, 1) := by decide +kernel
theorem dX6_verify_61 : decode cX6_verify 61 = .ok (.invokevirtual 61, 3) := by decide +kernel
theorem dX6_verify_64 : decode cX6_verify 64 = .ok (.aload_n 0, 1) := by decide +kernel
theorem dX6_verify_65 : decode cX6_verify 65 = .ok (.bipush 15, 2) := by decide +kernel
theorem dX6_verify_67 : decode cX6_verify 67 = .ok (.iload 5, 2) := by decide +kernel
theorem dX6_verify_69 : decode cX6_verify 69 = .ok (.iconst 0, 1) := by decide +kernel
theorem dX6_verify_70 : decode cX6_verify 70 = .ok (.invokevirtual 61, 3) := by decide +kernel
theorem dX6_verify_73 : decode cX6_verify 73 = .ok (.aload_n 0, 1) := by decide +kernel
theorem dX6_verify_74 : decode cX6_verify 74 = .ok (.bipush 16, 2) := by decide +kernel
theorem dX6_verify_76 : decode cX6_verify 76 = .ok (.iload_n 3, 1) := by decide +kernel
theorem dX6_verify_77 : decode cX6_verify 77 = .ok (.iconst 0, 1) := by decide +kernel
theorem dX6_verify_78 : decode cX6_verify 78 = .ok (.invokevirtual 61, 3) := by decide +kernel
theorem dX6_verify_81 : decode cX6_verify 81 = .ok (.aload_n 0, 1) := by decide +kernel
theorem dX6_verify_82 : decode cX6_verify 82 = .ok (.bipush 14, 2) := by decide +kernel
theorem dX6_verify_84 : decode cX6_verify 84 = .ok (.invokevirtual 115, 3) := by decide +kernel
theorem dX6_verify_87 : decode cX6_verify 87 = .ok (.ifCond .ne 44, 3) := by decide +kernel
theorem dX6_verify_90 : decode cX6_verify 90 = .ok (.aload_n 0, 1) := by decide +kernel
theorem dX6_verify_91 : decode cX6_verify 91 = .ok (.bipush 15, 2) := by decide +kernel
theorem dX6_verify_93 : decode cX6_verify 93 = .ok (.invokevirtual 115, 3) := by decide +kernel
theorem dX6_verify_96 : decode cX6_verify 96 = .ok (.ifCond .ne 35, 3) := by decide +kernel
theorem dX6_verify_99 : decode cX6_verify 99 = .ok (.aload_n 0, 1) := by decide +kernel
theorem dX6_verify_100 : decode cX6_verify 100 = .ok (.bipush 14, 2) := by decide +kernel
theorem dX6_verify_102 : decode cX6_verify 102 = .ok (.iconst 3, 1) := by decide +kernel
theorem dX6_verify_103 : decode cX6_verify 103 = .ok (.invokevirtual 72, 3) := by decide +kernel
theorem dX6_verify_106 : decode cX6_verify 106 = .ok (.ifCond .ge 25, 3) := by decide +kernel
theorem dX6_verify_109 : decode cX6_verify 109 = .ok (.aload_n 0, 1) := by decide +kernel
theorem dX6_verify_110 : decode cX6_verify 110 = .ok (.bipush 15, 2) := by decide +kernel
theorem dX6_verify_112 : decode cX6_verify 112 = .ok (.iconst 3, 1) := by decide +kernel
theorem dX6_verify_113 : decode cX6_verify 113 = .ok (.invokevirtual 72, 3) := by decide +kernel
theorem dX6_verify_116 : decode cX6_verify 116 = .ok (.ifCond .ge 15, 3) := by decide +kernel
theorem dX6_verify_119 : decode cX6_verify 119 = .ok (.aload_n 0, 1) := by decide +kernel
theorem dX6_verify_120 : decode cX6_verify 120 = .ok (.bipush 17, 2) := by decide +kernel
theorem dX6_verify_122 : decode cX6_verify 122 = .ok (.bipush 15, 2) := by decide +kernel
theorem dX6_verify_124 : decode cX6_verify 124 = .ok (.iconst 3, 1) := by decide +kernel
theorem dX6_verify_125 : decode cX6_verify 125 = .ok (.invokevirtual 181, 3) := by decide +kernel
theorem dX6_verify_128 : decode cX6_verify 128 = .ok (.ifCond .ne 5, 3) := by decide +kernel
theorem dX6_verify_131 : decode cX6_verify 131 = .ok (.iconst 0, 1) := by decide +kernel
theorem dX6_verify_132 : decode cX6_verify 132 = .ok (.ireturn, 1) := by decide +kernel
theorem dX6_verify_133 : decode cX6_verify 133 = .ok (.aload_n 0, 1) := by decide +kernel
theorem dX6_verify_134 : decode cX6_verify 134 = .ok (.bipush 16, 2) := by decide +kernel
theorem dX6_verify_136 : decode cX6_verify 136 = .ok (.bipush 16, 2) := by decide +kernel
theorem dX6_verify_138 : decode cX6_verify 138 = .ok (.bipush 17, 2) := by decide +kernel
theorem dX6_verify_140 : decode cX6_verify 140 = .ok (.iconst 3, 1) := by decide +kernel
theorem dX6_verify_141 : decode cX6_verify 141 = .ok (.invokevirtual 144, 3) := by decide +kernel
theorem dX6_verify_144 : decode cX6_verify 144 = .ok (.aload_n 0, 1) := by decide +kernel
theorem dX6_verify_145 : decode cX6_verify 145 = .ok (.bipush 18, 2) := by decide +kernel
theorem dX6_verify_147 : decode cX6_verify 147 = .ok (.bipush 14, 2) := by decide +kernel
theorem dX6_verify_149 : decode cX6_verify 149 = .ok (.bipush 17, 2) := by decide +kernel
theorem dX6_verify_151 : decode cX6_verify 151 = .ok (.iconst 3, 1) := by decide +kernel
theorem dX6_verify_152 : decode cX6_verify 152 = .ok (.invokevirtual 144, 3) := by decide +kernel
theorem dX6_verify_155 : decode cX6_verify 155 = .ok (.aload_n 0, 1) := by decide +kernel
theorem dX6_verify_156 : decode cX6_verify 156 = .ok (.iconst 2, 1) := by decide +kernel
theorem dX6_verify_157 : decode cX6_verify 157 = .ok (.bipush 16, 2) := by decide +kernel
theorem dX6_verify_159 : decode cX6_verify 159 = .ok (.iconst 0, 1) := by decide +kernel
theorem dX6_verify_160 : decode cX6_verify 160 = .ok (.invokevirtual 178, 3) := by decide +kernel
theorem dX6_verify_163 : decode cX6_verify 163 = .ok (.ifCond .eq 24, 3) := by decide +kernel
theorem dX6_verify_166 : decode cX6_verify 166 = .ok (.aload_n 0, 1) := by decide +kernel
theorem dX6_verify_167 : decode cX6_verify 167 = .ok (.iconst 3, 1) := by decide +kernel
theorem dX6_verify_168 : decode cX6_verify 168 = .ok (.bipush 18, 2) := by decide +kernel
theorem dX6_verify_170 : decode cX6_verify 170 = .ok (.iconst 1, 1) := by decide +kernel
theorem dX6_verify_171 : decode cX6_verify 171 = .ok (.invokevirtual 178, 3) := by decide +kernel
theorem dX6_verify_174 : decode cX6_verify 174 = .ok (.ifCond .eq 13, 3) := by decide +kernel
theorem dX6_verify_177 : decode cX6_verify 177 = .ok (.aload_n 0, 1) := by decide +kernel
theorem dX6_verify_178 : decode cX6_verify 178 = .ok (.iconst 2, 1) := by decide +kernel
theorem dX6_verify_179 : decode cX6_verify 179 = .ok (.iconst 2, 1) := by decide +kernel
theorem dX6_verify_180 : decode cX6_verify 180 = .ok (.iconst 3, 1) := by decide +kernel
theorem dX6_verify_181 : decode cX6_verify 181 = .ok (.invokevirtual 153, 3) := by decide +kernel
theorem dX6_verify_184 : decode cX6_verify 184 = .ok (.ifCond .ne 6, 3) := by decide +kernel
theorem dX6_verify_187 : decode cX6_verify 187 = .ok (.bipush (-2), 2) := by decide +kernel
theorem dX6_verify_189 : decode cX6_verify 189 = .ok (.ireturn, 1) := by decide +kernel
theorem dX6_verify_190 : decode cX6_verify 190 = .ok (.aload_n 0, 1) := by decide +kernel
theorem dX6_verify_191 : decode cX6_verify 191 = .ok (.getfield 24, 3) := by decide +kernel
theorem dX6_verify_194 : decode cX6_verify 194 = .ok (.iconst 2, 1) := by decide +kernel
theorem dX6_verify_195 : decode cX6_verify 195 = .ok (.baload, 1) := by decide +kernel
theorem dX6_verify_196 : decode cX6_verify 196 = .ok (.ifCond .eq 5, 3) := by decide +kernel
theorem dX6_verify_199 : decode cX6_verify 199 = .ok (.iconst 0, 1) := by decide +kernel
theorem dX6_verify_200 : decode cX6_verify 200 = .ok (.ireturn, 1) := by decide +kernel
theorem dX6_verify_201 : decode cX6_verify 201 = .ok (.aload_n 0, 1) := by decide +kernel
theorem dX6_verify_202 : decode cX6_verify 202 = .ok (.iconst 5, 1) := by decide +kernel
theorem dX6_verify_203 : decode cX6_verify 203 = .ok (.iconst 2, 1) := by decide +kernel
theorem dX6_verify_204 : decode cX6_verify 204 = .ok (.invokestatic 135, 3) := by decide +kernel
theorem dX6_verify_207 : decode cX6_verify 207 = .ok (.iconst 3, 1) := by decide +kernel
theorem dX6_verify_208 : decode cX6_verify 208 = .ok (.invokevirtual 132, 3) := by decide +kernel
theorem dX6_verify_211 : decode cX6_verify 211 = .ok (.aload_n 0, 1) := by decide +kernel
theorem dX6_verify_212 : decode cX6_verify 212 = .ok (.iconst 5, 1) := by decide +kernel
theorem dX6_verify_213 : decode cX6_verify 213 = .ok (.bipush 14, 2) := by decide +kernel
theorem dX6_verify_215 : decode cX6_verify 215 = .ok (.invokevirtual 72, 3) := by decide +kernel
theorem dX6_verify_218 : decode cX6_verify 218 = .ok (.ifCond .ne 7, 3) := by decide +kernel
theorem dX6_verify_221 : decode cX6_verify 221 = .ok (.iconst 1, 1) := by decide +kernel
theorem dX6_verify_222 : decode cX6_verify 222 = .ok (.goto 4, 3) := by decide +kernel
theorem dX6_verify_225 : decode cX6_verify 225 = .ok (.iconst 0, 1) := by decide +kernel
theorem dX6_verify_226 : decode cX6_verify 226 = .ok (.ireturn, 1) := by decide +kernel
theorem dX6_reckon_0 : decode cX6_reckon 0 = .ok (.aload_n 0, 1) := by decide +kernel
theorem dX6_reckon_1 : decode cX6_reckon 1 = .ok (.invokevirtual 156, 3) := by decide +kernel
theorem dX6_reckon_4 : decode cX6_reckon 4 = .ok (.iload_n 1, 1) := by decide +kernel
theorem dX6_reckon_5 : decode cX6_reckon 5 = .ok (.ifCond .lt 43, 3) := by decide +kernel
theorem dX6_reckon_8 : decode cX6_reckon 8 = .ok (.iload_n 1, 1) := by decide +kernel
theorem dX6_reckon_9 : decode cX6_reckon 9 = .ok (.iconst 3, 1) := by decide +kernel
theorem dX6_reckon_10 : decode cX6_reckon 10 = .ok (.if_icmp .gt 38, 3) := by decide +kernel
theorem dX6_reckon_13 : decode cX6_reckon 13 = .ok (.iload_n 2, 1) := by decide +kernel
theorem dX6_reckon_14 : decode cX6_reckon 14 = .ok (.invokestatic 175, 3) := by decide +kernel
theorem dX6_reckon_17 : decode cX6_reckon 17 = .ok (.ifCond .eq 31, 3) := by decide +kernel
theorem dX6_reckon_20 : decode cX6_reckon 20 = .ok (.iload_n 3, 1) := by decide +kernel
theorem dX6_reckon_21 : decode cX6_reckon 21 = .ok (.invokestatic 175, 3) := by decide +kernel
theorem dX6_reckon_24 : decode cX6_reckon 24 = .ok (.ifCond .eq 24, 3) := by decide +kernel
theorem dX6_reckon_27 : decode cX6_reckon 27 = .ok (.iload_n 1, 1) := by decide +kernel
theorem dX6_reckon_28 : decode cX6_reckon 28 = .ok (.iconst 3, 1) := by decide +kernel
theorem dX6_reckon_29 : decode cX6_reckon 29 = .ok (.if_icmp .ge 11, 3) := by decide +kernel
theorem dX6_reckon_32 : decode cX6_reckon 32 = .ok (.iload 4, 2) := by decide +kernel
theorem dX6_reckon_34 : decode cX6_reckon 34 = .ok (.invokestatic 175, 3) := by decide +kernel
theorem dX6_reckon_37 : decode cX6_reckon 37 = .ok (.ifCond .eq 11, 3) := by decide +kernel
theorem dX6_reckon_40 : decode cX6_reckon 40 = .ok (.aload_n 0, 1) := by decide +kernel
theorem dX6_reckon_41 : decode cX6_reckon 41 = .ok (.iconst 3, 1) := by decide +kernel
theorem dX6_reckon_42 : decode cX6_reckon 42 = .ok (.invokevirtual 115, 3) := by decide +kernel
theorem dX6_reckon_45 : decode cX6_reckon 45 = .ok (.ifCond .eq 5, 3) := by decide +kernel
theorem dX6_reckon_48 : decode cX6_reckon 48 = .ok (.iconst 0, 1) := by decide +kernel
theorem dX6_reckon_49 : decode cX6_reckon 49 = .ok (.ireturn, 1) := by decide +kernel
theorem dX6_reckon_50 : decode cX6_reckon 50 = .ok (.aload_n 0, 1) := by decide +kernel
theorem dX6_reckon_51 : decode cX6_reckon 51 = .ok (.bipush 14, 2) := by decide +kernel
theorem dX6_reckon_53 : decode cX6_reckon 53 = .ok (.iload_n 3, 1) := by decide +kernel
theorem dX6_reckon_54 : decode cX6_reckon 54 = .ok (.iconst 0, 1) := by decide +kernel
theorem dX6_reckon_55 : decode cX6_reckon 55 = .ok (.invokevirtual 61, 3) := by decide +kernel
theorem dX6_reckon_58 : decode cX6_reckon 58 = .ok (.aload_n 0, 1) := by decide +kernel
theorem dX6_reckon_59 : decode cX6_reckon 59 = .ok (.bipush 14, 2) := by decide +kernel
theorem dX6_reckon_61 : decode cX6_reckon 61 = .ok (.bipush 14, 2) := by decide +kernel
theorem dX6_reckon_63 : decode cX6_reckon 63 = .ok (.iconst 3, 1) := by decide +kernel
theorem dX6_reckon_64 : decode cX6_reckon 64 = .ok (.invokevirtual 132, 3) := by decide +kernel
theorem dX6_reckon_67 : decode cX6_reckon 67 = .ok (.iload_n 1, 1) := by decide +kernel
theorem dX6_reckon_68 : decode cX6_reckon 68 = .ok (.iconst 3, 1) := by decide +kernel
theorem dX6_reckon_69 : decode cX6_reckon 69 = .ok (.if_icmp .ge 21, 3) := by decide +kernel
theorem dX6_reckon_72 : decode cX6_reckon 72 = .ok (.aload_n 0, 1) := by decide +kernel
theorem dX6_reckon_73 : decode cX6_reckon 73 = .ok (.bipush 15, 2) := by decide +kernel
theorem dX6_reckon_75 : decode cX6_reckon 75 = .ok (.iload 4, 2) := by decide +kernel
theorem dX6_reckon_77 : decode cX6_reckon 77 = .ok (.iconst 0, 1) := by decide +kernel
theorem dX6_reckon_78 : decode cX6_reckon 78 = .ok (.invokevirtual 61, 3) := by decide +kernel
theorem dX6_reckon_81 : decode cX6_reckon 81 = .ok (.aload_n 0, 1) := by decide +kernel
theorem dX6_reckon_82 : decode cX6_reckon 82 = .ok (.bipush 15, 2) := by decide +kernel
theorem dX6_reckon_84 : decode cX6_reckon 84 = .ok (.bipush 15, 2) := by decide +kernel
theorem dX6_reckon_86 : decode cX6_reckon 86 = .ok (.iconst 3, 1) := by decide +kernel
theorem dX6_reckon_87 : decode cX6_reckon 87 = .ok (.invokevirtual 132, 3) := by decide +kernel
theorem dX6_reckon_90 : decode cX6_reckon 90 = .ok (.iconst 1, 1) := by decide +kernel
theorem dX6_reckon_91 : decode cX6_reckon 91 = .ok (.istore 5, 2) := by decide +kernel
theorem dX6_reckon_93 : decode cX6_reckon 93 = .ok (.iload_n 1, 1) := by decide +kernel
theorem dX6_reckon_94 : decode cX6_reckon 94 = .ok (.ifCond .ne 17, 3) := by decide +kernel
theorem dX6_reckon_97 : decode cX6_reckon 97 = .ok (.aload_n 0, 1) := by decide +kernel
theorem dX6_reckon_98 : decode cX6_reckon 98 = .ok (.bipush 16, 2) := by decide +kernel
theorem dX6_reckon_100 : decode cX6_reckon 100 = .ok (.bipush 14, 2) := by decide +kernel
theorem dX6_reckon_102 : decode cX6_reckon 102 = .ok (.bipush 15, 2) := by decide +kernel
theorem dX6_reckon_104 : decode cX6_reckon 104 = .ok (.iconst 3, 1) := by decide +kernel
theorem dX6_reckon_105 : decode cX6_reckon 105 = .ok (.invokevirtual 147, 3) := by decide +kernel
theorem dX6_reckon_108 : decode cX6_reckon 108 = .ok (.goto 52, 3) := by decide +kernel
theorem dX6_reckon_111 : decode cX6_reckon 111 = .ok (.iload_n 1, 1) := by decide +kernel
theorem dX6_reckon_112 : decode cX6_reckon 112 = .ok (.iconst 1, 1) := by decide +kernel
theorem dX6_reckon_113 : decode cX6_reckon 113 = .ok (.if_icmp .ne 17, 3) := by decide +kernel
theorem dX6_reckon_116 : decode cX6_reckon 116 = .ok (.aload_n 0, 1) := by decide +kernel
theorem dX6_reckon_117 : decode cX6_reckon 117 = .ok (.bipush 16, 2) := by decide +kernel
theorem dX6_reckon_119 : decode cX6_reckon 119 = .ok (.bipush 14, 2) := by decide +kernel
theorem dX6_reckon_121 : decode cX6_reckon 121 = .ok (.bipush 15, 2) := by decide +kernel
theorem dX6_reckon_123 : decode cX6_reckon 123 = .ok (.iconst 3, 1) := by decide +kernel
theorem dX6_reckon_124 : decode cX6_reckon 124 = .ok (.invokevirtual 124, 3) := by decide +kernel
theorem dX6_reckon_127 : decode cX6_reckon 127 = .ok (.goto 33, 3) := by decide +kernel
theorem dX6_reckon_130 : decode cX6_reckon 130 = .ok (.iload_n 1, 1) := by decide +kernel
theorem dX6_reckon_131 : decode cX6_reckon 131 = .ok (.iconst 2, 1) := by decide +kernel
theorem dX6_reckon_132 : decode cX6_reckon 132 = .ok (.if_icmp .ne 17, 3) := by decide +kernel
theorem dX6_reckon_135 : decode cX6_reckon 135 = .ok (.aload_n 0, 1) := by decide +kernel
theorem dX6_reckon_136 : decode cX6_reckon 136 = .ok (.bipush 16, 2) := by decide +kernel
theorem dX6_reckon_138 : decode cX6_reckon 138 = .ok (.bipush 14, 2) := by decide +kernel
theorem dX6_reckon_140 : decode cX6_reckon 140 = .ok (.bipush 15, 2) := by decide +kernel
theorem dX6_reckon_142 : decode cX6_reckon 142 = .ok (.iconst 3, 1) := by decide +kernel
theorem dX6_reckon_143 : decode cX6_reckon 143 = .ok (.invokevirtual 144, 3) := by decide +kernel
theorem dX6_reckon_146 : decode cX6_reckon 146 = .ok (.goto 14, 3) := by decide +kernel
theorem dX6_reckon_149 : decode cX6_reckon 149 = .ok (.aload_n 0, 1) := by decide +kernel
theorem dX6_reckon_150 : decode cX6_reckon 150 = .ok (.bipush 16, 2) := by decide +kernel
theorem dX6_reckon_152 : decode cX6_reckon 152 = .ok (.bipush 14, 2) := by decide +kernel
theorem dX6_reckon_154 : decode cX6_reckon 154 = .ok (.iconst 3, 1) := by decide +kernel
theorem dX6_reckon_155 : decode cX6_reckon 155 = .ok (.invokevirtual 181, 3) := by decide +kernel
theorem dX6_reckon_158 : decode cX6_reckon 158 = .ok (.istore 5, 2) := by decide +kernel
theorem dX6_reckon_160 : decode cX6_reckon 160 = .ok (.iload 5, 2) := by decide +kernel
theorem dX6_reckon_162 : decode cX6_reckon 162 = .ok (.ifCond .eq 46, 3) := by decide +kernel
theorem dX6_reckon_165 : decode cX6_reckon 165 = .ok (.iconst 0, 1) := by decide +kernel
theorem dX6_reckon_166 : decode cX6_reckon 166 = .ok (.istore 6, 2) := by decide +kernel
theorem dX6_reckon_168 : decode cX6_reckon 168 = .ok (.iload 6, 2) := by decide +kernel
theorem dX6_reckon_170 : decode cX6_reckon 170 = .ok (.aload_n 0, 1) := by decide +kernel
theorem dX6_reckon_171 : decode cX6_reckon 171 = .ok (.getfield 36, 3) := by decide +kernel
theorem dX6_reckon_174 : decode cX6_reckon 174 = .ok (.if_icmp .ge 29, 3) := by decide +kernel
theorem dX6_reckon_177 : decode cX6_reckon 177 = .ok (.aload_n 0, 1) := by decide +kernel
theorem dX6_reckon_178 : decode cX6_reckon 178 = .ok (.getfield 7, 3) := by decide +kernel
theorem dX6_reckon_181 : decode cX6_reckon 181 = .ok (.bipush 18, 2) := by decide +kernel
theorem dX6_reckon_183 : decode cX6_reckon 183 = .ok (.iload_n 2, 1) := by decide +kernel
theorem dX6_reckon_184 : decode cX6_reckon 184 = .ok (.imul, 1) := by decide +kernel
theorem dX6_reckon_185 : decode cX6_reckon 185 = .ok (.iload 6, 2) := by decide +kernel
theorem dX6_reckon_187 : decode cX6_reckon 187 = .ok (.iadd, 1) := by decide +kernel
theorem dX6_reckon_188 : decode cX6_reckon 188 = .ok (.aload_n 0, 1) := by decide +kernel
theorem dX6_reckon_189 : decode cX6_reckon 189 = .ok (.bipush 16, 2) := by decide +kernel
theorem dX6_reckon_191 : decode cX6_reckon 191 = .ok (.iload 6, 2) := by decide +kernel
theorem dX6_reckon_193 : decode cX6_reckon 193 = .ok (.invokevirtual 68, 3) := by decide +kernel
theorem dX6_reckon_196 : decode cX6_reckon 196 = .ok (.iastore, 1) := by decide +kernel
theorem dX6_reckon_197 : decode cX6_reckon 197 = .ok (.iinc 6 1, 3) := by decide +kernel
theorem dX6_reckon_200 : decode cX6_reckon 200 = .ok (.goto (-32), 3) := by decide +kernel
theorem dX6_reckon_203 : decode cX6_reckon 203 = .ok (.aload_n 0, 1) := by decide +kernel
theorem dX6_reckon_204 : decode cX6_reckon 204 = .ok (.iload_n 2, 1) := by decide +kernel
theorem dX6_reckon_205 : decode cX6_reckon 205 = .ok (.invokevirtual 141, 3) := by decide +kernel
theorem dX6_reckon_208 : decode cX6_reckon 208 = .ok (.iload 5, 2) := by decide +kernel
theorem dX6_reckon_210 : decode cX6_reckon 210 = .ok (.ireturn, 1) := by decide +kernel
theorem dX6_state_0 : decode cX6_state 0 = .ok (.iload_n 1, 1) := by decide +kernel
theorem dX6_state_1 : decode cX6_state 1 = .ok (.ifCond .ne 10, 3) := by decide +kernel
theorem dX6_state_4 : decode cX6_state 4 = .ok (.aload_n 0, 1) := by decide +kernel
theorem dX6_state_5 : decode cX6_state 5 = .ok (.getfield 36, 3) := by decide +kernel
theorem dX6_state_8 : decode cX6_state 8 = .ok (.goto 48, 3) := by decide +kernel
theorem dX6_state_11 : decode cX6_state 11 = .ok (.iload_n 1, 1) := by decide +kernel
theorem dX6_state_12 : decode cX6_state 12 = .ok (.iconst 1, 1) := by decide +kernel
theorem dX6_state_13 : decode cX6_state 13 = .ok (.if_icmp .ne 18, 3) := by decide +kernel
theorem dX6_state_16 : decode cX6_state 16 = .ok (.aload_n 0, 1) := by decide +kernel
theorem dX6_state_17 : decode cX6_state 17 = .ok (.getfield 43, 3) := by decide +kernel
theorem dX6_state_20 : decode cX6_state 20 = .ok (.ifCond .eq 7, 3) := by decide +kernel
theorem dX6_state_23 : decode cX6_state 23 = .ok (.iconst 1, 1) := by decide +kernel
theorem dX6_state_24 : decode cX6_state 24 = .ok (.goto 32, 3) := by decide +kernel
theorem dX6_state_27 : decode cX6_state 27 = .ok (.iconst 0, 1) := by decide +kernel
theorem dX6_state_28 : decode cX6_state 28 = .ok (.goto 28, 3) := by decide +kernel
theorem dX6_state_31 : decode cX6_state 31 = .ok (.iload_n 1, 1) := by decide +kernel
theorem dX6_state_32 : decode cX6_state 32 = .ok (.iconst 2, 1) := by decide +kernel
theorem dX6_state_33 : decode cX6_state 33 = .ok (.if_icmp .ne 10, 3) := by decide +kernel
theorem dX6_state_36 : decode cX6_state 36 = .ok (.aload_n 0, 1) := by decide +kernel
theorem dX6_state_37 : decode cX6_state 37 = .ok (.getfield 17, 3) := by decide +kernel
theorem dX6_state_40 : decode cX6_state 40 = .ok (.goto 16, 3) := by decide +kernel
theorem dX6_state_43 : decode cX6_state 43 = .ok (.iload_n 1, 1) := by decide +kernel
theorem dX6_state_44 : decode cX6_state 44 = .ok (.iconst 3, 1) := by decide +kernel
theorem dX6_state_45 : decode cX6_state 45 = .ok (.if_icmp .ne 10, 3) := by decide +kernel
theorem dX6_state_48 : decode cX6_state 48 = .ok (.aload_n 0, 1) := by decide +kernel
theorem dX6_state_49 : decode cX6_state 49 = .ok (.getfield 47, 3) := by decide +kernel
theorem dX6_state_52 : decode cX6_state 52 = .ok (.goto 4, 3) := by decide +kernel
theorem dX6_state_55 : decode cX6_state 55 = .ok (.iconst (-1), 1) := by decide +kernel
theorem dX6_state_56 : decode cX6_state 56 = .ok (.ireturn, 1) := by decide +kernel
