theorem dX5_init_0 : decode cX5_init 0 = .ok (.aload_n 0, 1) := by decide +kernel
theorem dX5_init_1 : decode cX5_init 1 = .ok (.invokespecial 1, 3) := by decide +kernel
theorem dX5_init_4 : decode cX5_init 4 = .ok (.aload_n 0, 1) := by decide +kernel
theorem dX5_init_5 : decode cX5_init 5 = .ok (.iconst 1, 1) := by decide +kernel
theorem dX5_init_6 : decode cX5_init 6 = .ok (.bipush 9, 2) := by decide +kernel
theorem dX5_init_8 : decode cX5_init 8 = .ok (.iload_n 1, 1) := by decide +kernel
theorem dX5_init_9 : decode cX5_init 9 = .ok (.invokestatic 9, 3) := by decide +kernel
theorem dX5_init_12 : decode cX5_init 12 = .ok (.invokestatic 15, 3) := by decide +kernel
theorem dX5_init_15 : decode cX5_init 15 = .ok (.putfield 18, 3) := by decide +kernel
theorem dX5_init_18 : decode cX5_init 18 = .ok (.aload_n 0, 1) := by decide +kernel
theorem dX5_init_19 : decode cX5_init 19 = .ok (.iconst 4, 1) := by decide +kernel
theorem dX5_init_20 : decode cX5_init 20 = .ok (.aload_n 0, 1) := by decide +kernel
theorem dX5_init_21 : decode cX5_init 21 = .ok (.getfield 18, 3) := by decide +kernel
theorem dX5_init_24 : decode cX5_init 24 = .ok (.multianewarray 22 2, 4) := by decide +kernel
theorem dX5_init_28 : decode cX5_init 28 = .ok (.putfield 24, 3) := by decide +kernel
theorem dX5_init_31 : decode cX5_init 31 = .ok (.aload_n 0, 1) := by decide +kernel
theorem dX5_init_32 : decode cX5_init 32 = .ok (.bipush 8, 2) := by decide +kernel
theorem dX5_init_34 : decode cX5_init 34 = .ok (.anewarray 27, 3) := by decide +kernel
theorem dX5_init_37 : decode cX5_init 37 = .ok (.putfield 29, 3) := by decide +kernel
theorem dX5_init_40 : decode cX5_init 40 = .ok (.iconst 0, 1) := by decide +kernel
theorem dX5_init_41 : decode cX5_init 41 = .ok (.istore_n 2, 1) := by decide +kernel
theorem dX5_init_42 : decode cX5_init 42 = .ok (.iload_n 2, 1) := by decide +kernel
theorem dX5_init_43 : decode cX5_init 43 = .ok (.aload_n 0, 1) := by decide +kernel
theorem dX5_init_44 : decode cX5_init 44 = .ok (.getfield 29, 3) := by decide +kernel
theorem dX5_init_47 : decode cX5_init 47 = .ok (.arraylength, 1) := by decide +kernel
theorem dX5_init_48 : decode cX5_init 48 = .ok (.if_icmp .ge 26, 3) := by decide +kernel
theorem dX5_init_51 : decode cX5_init 51 = .ok (.aload_n 0, 1) := by decide +kernel
theorem dX5_init_52 : decode cX5_init 52 = .ok (.getfield 29, 3) := by decide +kernel
theorem dX5_init_55 : decode cX5_init 55 = .ok (.iload_n 2, 1) := by decide +kernel
theorem dX5_init_56 : decode cX5_init 56 = .ok (.new 27, 3) := by decide +kernel
theorem dX5_init_59 : decode cX5_init 59 = .ok (.dup, 1) := by decide +kernel
theorem dX5_init_60 : decode cX5_init 60 = .ok (.aload_n 0, 1) := by decide +kernel
theorem dX5_init_61 : decode cX5_init 61 = .ok (.getfield 18, 3) := by decide +kernel
theorem dX5_init_64 : decode cX5_init 64 = .ok (.invokespecial 33, 3) := by decide +kernel
theorem dX5_init_67 : decode cX5_init 67 = .ok (.aastore, 1) := by decide +kernel
theorem dX5_init_68 : decode cX5_init 68 = .ok (.iinc 2 1, 3) := by decide +kernel
theorem dX5_init_71 : decode cX5_init 71 = .ok (.goto (-29), 3) := by decide +kernel
theorem dX5_init_74 : decode cX5_init 74 = .ok (.aload_n 0, 1) := by decide +kernel
theorem dX5_init_75 : decode cX5_init 75 = .ok (.bipush 8, 2) := by decide +kernel
theorem dX5_init_77 : decode cX5_init 77 = .ok (.aload_n 0, 1) := by decide +kernel
theorem dX5_init_78 : decode cX5_init 78 = .ok (.getfield 18, 3) := by decide +kernel
theorem dX5_init_81 : decode cX5_init 81 = .ok (.multianewarray 22 2, 4) := by decide +kernel
theorem dX5_init_85 : decode cX5_init 85 = .ok (.putfield 36, 3) := by decide +kernel
theorem dX5_init_88 : decode cX5_init 88 = .ok (.aload_n 0, 1) := by decide +kernel
theorem dX5_init_89 : decode cX5_init 89 = .ok (.new 39, 3) := by decide +kernel
theorem dX5_init_92 : decode cX5_init 92 = .ok (.dup, 1) := by decide +kernel
theorem dX5_init_93 : decode cX5_init 93 = .ok (.aload_n 0, 1) := by decide +kernel
theorem dX5_init_94 : decode cX5_init 94 = .ok (.getfield 18, 3) := by decide +kernel
theorem dX5_init_97 : decode cX5_init 97 = .ok (.invokespecial 41, 3) := by decide +kernel
theorem dX5_init_100 : decode cX5_init 100 = .ok (.putfield 42, 3) := by decide +kernel
theorem dX5_init_103 : decode cX5_init 103 = .ok (.new 39, 3) := by decide +kernel
theorem dX5_init_106 : decode cX5_init 106 = .ok (.dup, 1) := by decide +kernel
theorem dX5_init_107 : decode cX5_init 107 = .ok (.aload_n 0, 1) := by decide +kernel
theorem dX5_init_108 : decode cX5_init 108 = .ok (.getfield 18, 3) := by decide +kernel
theorem dX5_init_111 : decode cX5_init 111 = .ok (.invokespecial 41, 3) := by decide +kernel
theorem dX5_init_114 : decode cX5_init 114 = .ok (.astore_n 2, 1) := by decide +kernel
theorem dX5_init_115 : decode cX5_init 115 = .ok (.aload_n 0, 1) := by decide +kernel
theorem dX5_init_116 : decode cX5_init 116 = .ok (.new 46, 3) := by decide +kernel
theorem dX5_init_119 : decode cX5_init 119 = .ok (.dup, 1) := by decide +kernel
theorem dX5_init_120 : decode cX5_init 120 = .ok (.aload_n 0, 1) := by decide +kernel
theorem dX5_init_121 : decode cX5_init 121 = .ok (.getfield 24, 3) := by decide +kernel
theorem dX5_init_124 : decode cX5_init 124 = .ok (.aload_n 2, 1) := by decide +kernel
theorem dX5_init_125 : decode cX5_init 125 = .ok (.invokespecial 48, 3) := by decide +kernel
theorem dX5_init_128 : decode cX5_init 128 = .ok (.putfield 51, 3) := by decide +kernel
theorem dX5_init_131 : decode cX5_init 131 = .ok (.aload_n 0, 1) := by decide +kernel
theorem dX5_init_132 : decode cX5_init 132 = .ok (.new 55, 3) := by decide +kernel
theorem dX5_init_135 : decode cX5_init 135 = .ok (.dup, 1) := by decide +kernel
theorem dX5_init_136 : decode cX5_init 136 = .ok (.aload_n 0, 1) := by decide +kernel
theorem dX5_init_137 : decode cX5_init 137 = .ok (.getfield 18, 3) := by decide +kernel
theorem dX5_init_140 : decode cX5_init 140 = .ok (.aload_n 2, 1) := by decide +kernel
theorem dX5_init_141 : decode cX5_init 141 = .ok (.aload_n 0, 1) := by decide +kernel
theorem dX5_init_142 : decode cX5_init 142 = .ok (.getfield 24, 3) := by decide +kernel
theorem dX5_init_145 : decode cX5_init 145 = .ok (.iconst 1, 1) := by decide +kernel
theorem dX5_init_146 : decode cX5_init 146 = .ok (.aaload, 1) := by decide +kernel
theorem dX5_init_147 : decode cX5_init 147 = .ok (.invokespecial 57, 3) := by decide +kernel
theorem dX5_init_150 : decode cX5_init 150 = .ok (.putfield 60, 3) := by decide +kernel
theorem dX5_init_153 : decode cX5_init 153 = .ok (.aload_n 0, 1) := by decide +kernel
theorem dX5_init_154 : decode cX5_init 154 = .ok (.aload_n 0, 1) := by decide +kernel
theorem dX5_init_155 : decode cX5_init 155 = .ok (.getfield 18, 3) := by decide +kernel
theorem dX5_init_158 : decode cX5_init 158 = .ok (.newarray .int, 2) := by decide +kernel
theorem dX5_init_160 : decode cX5_init 160 = .ok (.putfield 64, 3) := by decide +kernel
theorem dX5_init_163 : decode cX5_init 163 = .ok (.aload_n 0, 1) := by decide +kernel
theorem dX5_init_164 : decode cX5_init 164 = .ok (.aload_n 0, 1) := by decide +kernel
theorem dX5_init_165 : decode cX5_init 165 = .ok (.getfield 18, 3) := by decide +kernel
theorem dX5_init_168 : decode cX5_init 168 = .ok (.newarray .int, 2) := by decide +kernel
theorem dX5_init_170 : decode cX5_init 170 = .ok (.putfield 68, 3) := by decide +kernel
theorem dX5_init_173 : decode cX5_init 173 = .ok (.aload_n 0, 1) := by decide +kernel
theorem dX5_init_174 : decode cX5_init 174 = .ok (.new 27, 3) := by decide +kernel
theorem dX5_init_177 : decode cX5_init 177 = .ok (.dup, 1) := by decide +kernel
theorem dX5_init_178 : decode cX5_init 178 = .ok (.aload_n 0, 1) := by decide +kernel
theorem dX5_init_179 : decode cX5_init 179 = .ok (.getfield 18, 3) := by decide +kernel
theorem dX5_init_182 : decode cX5_init 182 = .ok (.invokespecial 33, 3) := by decide +kernel
theorem dX5_init_185 : decode cX5_init 185 = .ok (.putfield 71, 3) := by decide +kernel
theorem dX5_init_188 : decode cX5_init 188 = .ok (.aload_n 0, 1) := by decide +kernel
theorem dX5_init_189 : decode cX5_init 189 = .ok (.iconst 0, 1) := by decide +kernel
theorem dX5_init_190 : decode cX5_init 190 = .ok (.putfield 75, 3) := by decide +kernel
theorem dX5_init_193 : decode cX5_init 193 = .ok (.aload_n 0, 1) := by decide +kernel
theorem dX5_init_194 : decode cX5_init 194 = .ok (.iconst (-1), 1) := by decide +kernel
theorem dX5_init_195 : decode cX5_init 195 = .ok (.putfield 79, 3) := by decide +kernel
theorem dX5_init_198 : decode cX5_init 198 = .ok (.aload_n 0, 1) := by decide +kernel
theorem dX5_init_199 : decode cX5_init 199 = .ok (.iconst 0, 1) := by decide +kernel
theorem dX5_init_200 : decode cX5_init 200 = .ok (.putfield 82, 3) := by decide +kernel
theorem dX5_init_203 : decode cX5_init 203 = .ok (.return_, 1) := by decide +kernel
theorem dX5_select_0 : decode cX5_select 0 = .ok (.iload_n 1, 1) := by decide +kernel
theorem dX5_select_1 : decode cX5_select 1 = .ok (.invokestatic 85, 3) := by decide +kernel
theorem dX5_select_4 : decode cX5_select 4 = .ok (.ifCond .eq 17, 3) := by decide +kernel
theorem dX5_select_7 : decode cX5_select 7 = .ok (.aload_n 0, 1) := by decide +kernel
theorem dX5_select_8 : decode cX5_select 8 = .ok (.getfield 75, 3) := by decide +kernel
theorem dX5_select_11 : decode cX5_select 11 = .ok (.ifCond .eq 12, 3) := by decide +kernel
theorem dX5_select_14 : decode cX5_select 14 = .ok (.iload_n 1, 1) := by decide +kernel
theorem dX5_select_15 : decode cX5_select 15 = .ok (.invokestatic 89, 3) := by decide +kernel
theorem dX5_select_18 : decode cX5_select 18 = .ok (.ifCond .eq 5, 3) := by decide +kernel
theorem dX5_select_21 : decode cX5_select 21 = .ok (.iconst 0, 1) := by decide +kernel
theorem dX5_select_22 : decode cX5_select 22 = .ok (.ireturn, 1) := by decide +kernel
theorem dX5_select_23 : decode cX5_select 23 = .ok (.aload_n 0, 1) := by decide +kernel
theorem dX5_select_24 : decode cX5_select 24 = .ok (.iload_n 1, 1) := by decide +kernel
theorem dX5_select_25 : decode cX5_select 25 = .ok (.invokevirtual 92, 3) := by decide +kernel
theorem dX5_select_28 : decode cX5_select 28 = .ok (.aload_n 0, 1) := by decide +kernel
theorem dX5_select_29 : decode cX5_select 29 = .ok (.iload_n 1, 1) := by decide +kernel
theorem dX5_select_30 : decode cX5_select 30 = .ok (.putfield 79, 3) := by decide +kernel
theorem dX5_select_33 : decode cX5_select 33 = .ok (.aload_n 0, 1) := by decide +kernel
theorem dX5_select_34 : decode cX5_select 34 = .ok (.iconst 0, 1) := by decide +kernel
theorem dX5_select_35 : decode cX5_select 35 = .ok (.putfield 82, 3) := by decide +kernel
theorem dX5_select_38 : decode cX5_select 38 = .ok (.iconst 1, 1) := by decide +kernel
theorem dX5_select_39 : decode cX5_select 39 = .ok (.ireturn, 1) := by decide +kernel
theorem dX5_feedLimb_0 : decode cX5_feedLimb 0 = .ok (.aload_n 0, 1) := by decide +kernel
theorem dX5_feedLimb_1 : decode cX5_feedLimb 1 = .ok (.getfield 79, 3) := by decide +kernel
theorem dX5_feedLimb_4 : decode cX5_feedLimb 4 = .ok (.iconst (-1), 1) := by decide +kernel
theorem dX5_feedLimb_5 : decode cX5_feedLimb 5 = .ok (.if_icmp .eq 7, 3) := by decide +kernel
theorem dX5_feedLimb_8 : decode cX5_feedLimb 8 = .ok (.iload_n 1, 1) := by decide +kernel
theorem dX5_feedLimb_9 : decode cX5_feedLimb 9 = .ok (.ifCond .ge 5, 3) := by decide +kernel
theorem dX5_feedLimb_12 : decode cX5_feedLimb 12 = .ok (.iconst 0, 1) := by decide +kernel
theorem dX5_feedLimb_13 : decode cX5_feedLimb 13 = .ok (.ireturn, 1) := by decide +kernel
theorem dX5_feedLimb_14 : decode cX5_feedLimb 14 = .ok (.aload_n 0, 1) := by decide +kernel
theorem dX5_feedLimb_15 : decode cX5_feedLimb 15 = .ok (.aload_n 0, 1) := by decide +kernel
theorem dX5_feedLimb_16 : decode cX5_feedLimb 16 = .ok (.getfield 79, 3) := by decide +kernel
theorem dX5_feedLimb_19 : decode cX5_feedLimb 19 = .ok (.aload_n 0, 1) := by decide +kernel
theorem dX5_feedLimb_20 : decode cX5_feedLimb 20 = .ok (.getfield 82, 3) := by decide +kernel
theorem dX5_feedLimb_23 : decode cX5_feedLimb 23 = .ok (.invokevirtual 95, 3) := by decide +kernel
theorem dX5_feedLimb_26 : decode cX5_feedLimb 26 = .ok (.aload_n 0, 1) := by decide +kernel
theorem dX5_feedLimb_27 : decode cX5_feedLimb 27 = .ok (.aload_n 0, 1) := by decide +kernel
theorem dX5_feedLimb_28 : decode cX5_feedLimb 28 = .ok (.getfield 82, 3) := by decide +kernel
theorem dX5_feedLimb_31 : decode cX5_feedLimb 31 = .ok (.invokevirtual 99, 3) := by decide +kernel
theorem dX5_feedLimb_34 : decode cX5_feedLimb 34 = .ok (.iload_n 1, 1) := by decide +kernel
theorem dX5_feedLimb_35 : decode cX5_feedLimb 35 = .ok (.iastore, 1) := by decide +kernel
theorem dX5_feedLimb_36 : decode cX5_feedLimb 36 = .ok (.aload_n 0, 1) := by decide +kernel
theorem dX5_feedLimb_37 : decode cX5_feedLimb 37 = .ok (.getfield 79, 3) := by decide +kernel
theorem dX5_feedLimb_40 : decode cX5_feedLimb 40 = .ok (.invokestatic 103, 3) := by decide +kernel
theorem dX5_feedLimb_43 : decode cX5_feedLimb 43 = .ok (.ifCond .eq 15, 3) := by decide +kernel
theorem dX5_feedLimb_46 : decode cX5_feedLimb 46 = .ok (.aload_n 0, 1) := by decide +kernel
theorem dX5_feedLimb_47 : decode cX5_feedLimb 47 = .ok (.aload_n 0, 1) := by decide +kernel
theorem dX5_feedLimb_48 : decode cX5_feedLimb 48 = .ok (.getfield 79, 3) := by decide +kernel
theorem dX5_feedLimb_51 : decode cX5_feedLimb 51 = .ok (.invokevirtual 106, 3) := by decide +kernel
theorem dX5_feedLimb_54 : decode cX5_feedLimb 54 = .ok (.iconst 0, 1) := by decide +kernel
theorem dX5_feedLimb_55 : decode cX5_feedLimb 55 = .ok (.putfield 110, 3) := by decide +kernel
theorem dX5_feedLimb_58 : decode cX5_feedLimb 58 = .ok (.aload_n 0, 1) := by decide +kernel
theorem dX5_feedLimb_59 : decode cX5_feedLimb 59 = .ok (.dup, 1) := by decide +kernel
theorem dX5_feedLimb_60 : decode cX5_feedLimb 60 = .ok (.getfield 82, 3) := by decide +kernel
theorem dX5_feedLimb_63 : decode cX5_feedLimb 63 = .ok (.iconst 1, 1) := by decide +kernel
theorem dX5_feedLimb_64 : decode cX5_feedLimb 64 = .ok (.iadd, 1) := by decide +kernel
theorem dX5_feedLimb_65 : decode cX5_feedLimb 65 = .ok (.putfield 82, 3) := by decide +kernel
theorem dX5_feedLimb_68 : decode cX5_feedLimb 68 = .ok (.aload_n 0, 1) := by decide +kernel
theorem dX5_feedLimb_69 : decode cX5_feedLimb 69 = .ok (.getfield 82, 3) := by decide +kernel
theorem dX5_feedLimb_72 : decode cX5_feedLimb 72 = .ok (.aload_n 0, 1) := by decide +kernel
theorem dX5_feedLimb_73 : decode cX5_feedLimb 73 = .ok (.aload_n 0, 1) := by decide +kernel
theorem dX5_feedLimb_74 : decode cX5_feedLimb 74 = .ok (.getfield 79, 3) := by decide +kernel
theorem dX5_feedLimb_77 : decode cX5_feedLimb 77 = .ok (.invokevirtual 113, 3) := by decide +kernel
theorem dX5_feedLimb_80 : decode cX5_feedLimb 80 = .ok (.if_icmp .lt 11, 3) := by decide +kernel
theorem dX5_feedLimb_83 : decode cX5_feedLimb 83 = .ok (.aload_n 0, 1) := by decide +kernel
theorem dX5_feedLimb_84 : decode cX5_feedLimb 84 = .ok (.aload_n 0, 1) := by decide +kernel
theorem dX5_feedLimb_85 : decode cX5_feedLimb 85 = .ok (.getfield 79, 3) := by decide +kernel
theorem dX5_feedLimb_88 : decode cX5_feedLimb 88 = .ok (.invokevirtual 116, 3) := by decide +kernel
theorem dX5_feedLimb_91 : decode cX5_feedLimb 91 = .ok (.iconst 1, 1) := by decide +kernel
theorem dX5_feedLimb_92 : decode cX5_feedLimb 92 = .ok (.ireturn, 1) := by decide +kernel
theorem dX5_seal_0 : decode cX5_seal 0 = .ok (.aload_n 0, 1) := by decide +kernel
theorem dX5_seal_1 : decode cX5_seal 1 = .ok (.getfield 75, 3) := by decide +kernel
theorem dX5_seal_4 : decode cX5_seal 4 = .ok (.ifCond .eq 5, 3) := by decide +kernel
theorem dX5_seal_7 : decode cX5_seal 7 = .ok (.iconst 4, 1) := by decide +kernel
theorem dX5_seal_8 : decode cX5_seal 8 = .ok (.ireturn, 1) := by decide +kernel
theorem dX5_seal_9 : decode cX5_seal 9 = .ok (.aload_n 0, 1) := by decide +kernel
theorem dX5_seal_10 : decode cX5_seal 10 = .ok (.getfield 51, 3) := by decide +kernel
theorem dX5_seal_13 : decode cX5_seal 13 = .ok (.invokevirtual 119, 3) := by decide +kernel
theorem dX5_seal_16 : decode cX5_seal 16 = .ok (.istore_n 1, 1) := by decide +kernel
theorem dX5_seal_17 : decode cX5_seal 17 = .ok (.iload_n 1, 1) := by decide +kernel
theorem dX5_seal_18 : decode cX5_seal 18 = .ok (.ifCond .eq 5, 3) := by decide +kernel
theorem dX5_seal_21 : decode cX5_seal 21 = .ok (.iload_n 1, 1) := by decide +kernel
theorem dX5_seal_22 : decode cX5_seal 22 = .ok (.ireturn, 1) := by decide +kernel
theorem dX5_seal_23 : decode cX5_seal 23 = .ok (.aload_n 0, 1) := by decide +kernel
theorem dX5_seal_24 : decode cX5_seal 24 = .ok (.iconst 1, 1) := by decide +kernel
theorem dX5_seal_25 : decode cX5_seal 25 = .ok (.putfield 75, 3) := by decide +kernel
theorem dX5_seal_28 : decode cX5_seal 28 = .ok (.aload_n 0, 1) := by decide +kernel
theorem dX5_seal_29 : decode cX5_seal 29 = .ok (.getfield 79, 3) := by decide +kernel
theorem dX5_seal_32 : decode cX5_seal 32 = .ok (.invokestatic 89, 3) := by decide +kernel
theorem dX5_seal_35 : decode cX5_seal 35 = .ok (.ifCond .eq 11, 3) := by decide +kernel
theorem dX5_seal_38 : decode cX5_seal 38 = .ok (.aload_n 0, 1) := by decide +kernel
theorem dX5_seal_39 : decode cX5_seal 39 = .ok (.aload_n 0, 1) := by decide +kernel
theorem dX5_seal_40 : decode cX5_seal 40 = .ok (.getfield 79, 3) := by decide +kernel
theorem dX5_seal_43 : decode cX5_seal 43 = .ok (.invokevirtual 116, 3) := by decide +kernel
theorem dX5_seal_46 : decode cX5_seal 46 = .ok (.iconst 0, 1) := by decide +kernel
theorem dX5_seal_47 : decode cX5_seal 47 = .ok (.ireturn, 1) := by decide +kernel
theorem dX5_open_0 : decode cX5_open 0 = .ok (.aload_n 0, 1) := by decide +kernel
theorem dX5_open_1 : decode cX5_open 1 = .ok (.getfield 75, 3) := by decide +kernel
theorem dX5_open_4 : decode cX5_open 4 = .ok (.istore_n 1, 1) := by decide +kernel
theorem dX5_open_5 : decode cX5_open 5 = .ok (.aload_n 0, 1) := by decide +kernel
theorem dX5_open_6 : decode cX5_open 6 = .ok (.iconst 0, 1) := by decide +kernel
theorem dX5_open_7 : decode cX5_open 7 = .ok (.putfield 75, 3) := by decide +kernel
theorem dX5_open_10 : decode cX5_open 10 = .ok (.iload_n 1, 1) := by decide +kernel
theorem dX5_open_11 : decode cX5_open 11 = .ok (.ireturn, 1) := by decide +kernel
theorem dX5_limb_0 : decode cX5_limb 0 = .ok (.iload_n 1, 1) := by decide +kernel
theorem dX5_limb_1 : decode cX5_limb 1 = .ok (.invokestatic 85, 3) := by decide +kernel
theorem dX5_limb_4 : decode cX5_limb 4 = .ok (.ifCond .eq 16, 3) := by decide +kernel
theorem dX5_limb_7 : decode cX5_limb 7 = .ok (.iload_n 2, 1) := by decide +kernel
theorem dX5_limb_8 : decode cX5_limb 8 = .ok (.ifCond .lt 12, 3) := by decide +kernel
theorem dX5_limb_11 : decode cX5_limb 11 = .ok (.iload_n 2, 1) := by decide +kernel
theorem dX5_limb_12 : decode cX5_limb 12 = .ok (.aload_n 0, 1) := by decide +kernel
theorem dX5_limb_13 : decode cX5_limb 13 = .ok (.iload_n 1, 1) := by decide +kernel
theorem dX5_limb_14 : decode cX5_limb 14 = .ok (.invokevirtual 113, 3) := by decide +kernel
theorem dX5_limb_17 : decode cX5_limb 17 = .ok (.if_icmp .lt 5, 3) := by decide +kernel
theorem dX5_limb_20 : decode cX5_limb 20 = .ok (.iconst (-1), 1) := by decide +kernel
theorem dX5_limb_21 : decode cX5_limb 21 = .ok (.ireturn, 1) := by decide +kernel
theorem dX5_limb_22 : decode cX5_limb 22 = .ok (.aload_n 0, 1) := by decide +kernel
theorem dX5_limb_23 : decode cX5_limb 23 = .ok (.iload_n 1, 1) := by decide +kernel
theorem dX5_limb_24 : decode cX5_limb 24 = .ok (.iload_n 2, 1) := by decide +kernel
theorem dX5_limb_25 : decode cX5_limb 25 = .ok (.invokevirtual 95, 3) := by decide +kernel
theorem dX5_limb_28 : decode cX5_limb 28 = .ok (.aload_n 0, 1) := by decide +kernel
theorem dX5_limb_29 : decode cX5_limb 29 = .ok (.iload_n 2, 1) := by decide +kernel
theorem dX5_limb_30 : decode cX5_limb 30 = .ok (.invokevirtual 99, 3) := by decide +kernel
theorem dX5_limb_33 : decode cX5_limb 33 = .ok (.iaload, 1) := by decide +kernel
theorem dX5_limb_34 : decode cX5_limb 34 = .ok (.ireturn, 1) := by decide +kernel
theorem dX5_onCurve_0 : decode cX5_onCurve 0 = .ok (.aload_n 0, 1) := by decide +kernel
theorem dX5_onCurve_1 : decode cX5_onCurve 1 = .ok (.getfield 75, 3) := by decide +kernel
theorem dX5_onCurve_4 : decode cX5_onCurve 4 = .ok (.ifCond .eq 29, 3) := by decide +kernel
theorem dX5_onCurve_7 : decode cX5_onCurve 7 = .ok (.iload_n 1, 1) := by decide +kernel
theorem dX5_onCurve_8 : decode cX5_onCurve 8 = .ok (.invokestatic 103, 3) := by decide +kernel
theorem dX5_onCurve_11 : decode cX5_onCurve 11 = .ok (.ifCond .eq 22, 3) := by decide +kernel
theorem dX5_onCurve_14 : decode cX5_onCurve 14 = .ok (.aload_n 0, 1) := by decide +kernel
theorem dX5_onCurve_15 : decode cX5_onCurve 15 = .ok (.getfield 51, 3) := by decide +kernel
theorem dX5_onCurve_18 : decode cX5_onCurve 18 = .ok (.aload_n 0, 1) := by decide +kernel
theorem dX5_onCurve_19 : decode cX5_onCurve 19 = .ok (.iload_n 1, 1) := by decide +kernel
theorem dX5_onCurve_20 : decode cX5_onCurve 20 = .ok (.invokevirtual 106, 3) := by decide +kernel
theorem dX5_onCurve_23 : decode cX5_onCurve 23 = .ok (.invokevirtual 123, 3) := by decide +kernel
theorem dX5_onCurve_26 : decode cX5_onCurve 26 = .ok (.ifCond .eq 7, 3) := by decide +kernel
theorem dX5_onCurve_29 : decode cX5_onCurve 29 = .ok (.iconst 1, 1) := by decide +kernel
theorem dX5_onCurve_30 : decode cX5_onCurve 30 = .ok (.goto 4, 3) := by decide +kernel
theorem dX5_onCurve_33 : decode cX5_onCurve 33 = .ok (.iconst 0, 1) := by decide +kernel
theorem dX5_onCurve_34 : decode cX5_onCurve 34 = .ok (.ireturn, 1) := by decide +kernel
theorem dX5_isInfinity_0 : decode cX5_isInfinity 0 = .ok (.iload_n 1, 1) := by decide +kernel
theorem dX5_isInfinity_1 : decode cX5_isInfinity 1 = .ok (.invokestatic 103, 3) := by decide +kernel
theorem dX5_isInfinity_4 : decode cX5_isInfinity 4 = .ok (.ifCond .eq 18, 3) := by decide +kernel
theorem dX5_isInfinity_7 : decode cX5_isInfinity 7 = .ok (.aload_n 0, 1) := by decide +kernel
theorem dX5_isInfinity_8 : decode cX5_isInfinity 8 = .ok (.iload_n 1, 1) := by decide +kernel
theorem dX5_isInfinity_9 : decode cX5_isInfinity 9 = .ok (.invokevirtual 106, 3) := by decide +kernel
theorem dX5_isInfinity_12 : decode cX5_isInfinity 12 = .ok (.getfield 110, 3) := by decide +kernel
theorem dX5_isInfinity_15 : decode cX5_isInfinity 15 = .ok (.ifCond .eq 7, 3) := by decide +kernel
theorem dX5_isInfinity_18 : decode cX5_isInfinity 18 = .ok (.iconst 1, 1) := by decide +kernel
theorem dX5_isInfinity_19 : decode cX5_isInfinity 19 = .ok (.goto 4, 3) := by decide +kernel
theorem dX5_isInfinity_22 : decode cX5_isInfinity 22 = .ok (.iconst 0, 1) := by decide +kernel
theorem dX5_isInfinity_23 : decode cX5_isInfinity 23 = .ok (.ireturn, 1) := by decide +kernel
theorem dX5_addPts_0 : decode cX5_addPts 0 = .ok (.iload_n 1, 1) := by decide +kernel
theorem dX5_addPts_1 : decode cX5_addPts 1 = .ok (.invokestatic 103, 3) := by decide +kernel
theorem dX5_addPts_4 : decode cX5_addPts 4 = .ok (.ifCond .eq 19, 3) := by decide +kernel
theorem dX5_addPts_7 : decode cX5_addPts 7 = .ok (.aload_n 0, 1) := by decide +kernel
theorem dX5_addPts_8 : decode cX5_addPts 8 = .ok (.iload_n 2, 1) := by decide +kernel
theorem dX5_addPts_9 : decode cX5_addPts 9 = .ok (.invokevirtual 127, 3) := by decide +kernel
theorem dX5_addPts_12 : decode cX5_addPts 12 = .ok (.ifCond .eq 11, 3) := by decide +kernel
theorem dX5_addPts_15 : decode cX5_addPts 15 = .ok (.aload_n 0, 1) := by decide +kernel
theorem dX5_addPts_16 : decode cX5_addPts 16 = .ok (.iload_n 3, 1) := by decide +kernel
theorem dX5_addPts_17 : decode cX5_addPts 17 = .ok (.invokevirtual 127, 3) := by decide +kernel
theorem dX5_addPts_20 : decode cX5_addPts 20 = .ok (.ifCond .ne 5, 3) := by decide +kernel
theorem dX5_addPts_23 : decode cX5_addPts 23 = .ok (.iconst 0, 1) := by decide +kernel
theorem dX5_addPts_24 : decode cX5_addPts 24 = .ok (.ireturn, 1) := by decide +kernel
theorem dX5_addPts_25 : decode cX5_addPts 25 = .ok (.aload_n 0, 1) := by decide +kernel
theorem dX5_addPts_26 : decode cX5_addPts 26 = .ok (.getfield 60, 3) := by decide +kernel
theorem dX5_addPts_29 : decode cX5_addPts 29 = .ok (.invokevirtual 130, 3) := by decide +kernel
theorem dX5_addPts_32 : decode cX5_addPts 32 = .ok (.aload_n 0, 1) := by decide +kernel
theorem dX5_addPts_33 : decode cX5_addPts 33 = .ok (.getfield 60, 3) := by decide +kernel
theorem dX5_addPts_36 : decode cX5_addPts 36 = .ok (.aload_n 0, 1) := by decide +kernel
theorem dX5_addPts_37 : decode cX5_addPts 37 = .ok (.iload_n 2, 1) := by decide +kernel
theorem dX5_addPts_38 : decode cX5_addPts 38 = .ok (.invokevirtual 106, 3) := by decide +kernel
theorem dX5_addPts_41 : decode cX5_addPts 41 = .ok (.invokevirtual 133, 3) := by decide +kernel
theorem dX5_addPts_44 : decode cX5_addPts 44 = .ok (.aload_n 0, 1) := by decide +kernel
theorem dX5_addPts_45 : decode cX5_addPts 45 = .ok (.getfield 60, 3) := by decide +kernel
theorem dX5_addPts_48 : decode cX5_addPts 48 = .ok (.aload_n 0, 1) := by decide +kernel
theorem dX5_addPts_49 : decode cX5_addPts 49 = .ok (.iload_n 3, 1) := by decide +kernel
theorem dX5_addPts_50 : decode cX5_addPts 50 = .ok (.invokevirtual 106, 3) := by decide +kernel
theorem dX5_addPts_53 : decode cX5_addPts 53 = .ok (.invokevirtual 133, 3) := by decide +kernel
theorem dX5_addPts_56 : decode cX5_addPts 56 = .ok (.aload_n 0, 1) := by decide +kernel
theorem dX5_addPts_57 : decode cX5_addPts 57 = .ok (.iload_n 1, 1) := by decide +kernel
theorem dX5_addPts_58 : decode cX5_addPts 58 = .ok (.invokevirtual 137, 3) := by decide +kernel
theorem dX5_addPts_61 : decode cX5_addPts 61 = .ok (.ireturn, 1) := by decide +kernel
theorem dX5_dbl_0 : decode cX5_dbl 0 = .ok (.aload_n 0, 1) := by decide +kernel
theorem dX5_dbl_1 : decode cX5_dbl 1 = .ok (.iload_n 1, 1) := by decide +kernel
theorem dX5_dbl_2 : decode cX5_dbl 2 = .ok (.iload_n 2, 1) := by decide +kernel
theorem dX5_dbl_3 : decode cX5_dbl 3 = .ok (.iload_n 2, 1) := by decide +kernel
theorem dX5_dbl_4 : decode cX5_dbl 4 = .ok (.invokevirtual 140, 3) := by decide +kernel
theorem dX5_dbl_7 : decode cX5_dbl 7 = .ok (.ireturn, 1) := by decide +kernel
theorem dX5_scalarMul_0 : decode cX5_scalarMul 0 = .ok (.iload_n 1, 1) := by decide +kernel
theorem dX5_scalarMul_1 : decode cX5_scalarMul 1 = .ok (.invokestatic 103, 3) := by decide +kernel
theorem dX5_scalarMul_4 : decode cX5_scalarMul 4 = .ok (.ifCond .eq 18, 3) := by decide +kernel
theorem dX5_scalarMul_7 : decode cX5_scalarMul 7 = .ok (.iload_n 2, 1) := by decide +kernel
theorem dX5_scalarMul_8 : decode cX5_scalarMul 8 = .ok (.invokestatic 144, 3) := by decide +kernel
theorem dX5_scalarMul_11 : decode cX5_scalarMul 11 = .ok (.ifCond .eq 11, 3) := by decide +kernel
theorem dX5_scalarMul_14 : decode cX5_scalarMul 14 = .ok (.aload_n 0, 1) := by decide +kernel
theorem dX5_scalarMul_15 : decode cX5_scalarMul 15 = .ok (.iload_n 3, 1) := by decide +kernel
theorem dX5_scalarMul_16 : decode cX5_scalarMul 16 = .ok (.invokevirtual 127, 3) := by decide +kernel
theorem dX5_scalarMul_19 : decode cX5_scalarMul 19 = .ok (.ifCond .ne 5, 3) := by decide +kernel
theorem dX5_scalarMul_22 : decode cX5_scalarMul 22 = .ok (.iconst 0, 1) := by decide +kernel
theorem dX5_scalarMul_23 : decode cX5_scalarMul 23 = .ok (.ireturn, 1) := by decide +kernel
theorem dX5_scalarMul_24 : decode cX5_scalarMul 24 = .ok (.aload_n 0, 1) := by decide +kernel
theorem dX5_scalarMul_25 : decode cX5_scalarMul 25 = .ok (.getfield 60, 3) := by decide +kernel
theorem dX5_scalarMul_28 : decode cX5_scalarMul 28 = .ok (.aload_n 0, 1) := by decide +kernel
theorem dX5_scalarMul_29 : decode cX5_scalarMul 29 = .ok (.iload_n 2, 1) := by decide +kernel
theorem dX5_scalarMul_30 : decode cX5_scalarMul 30 = .ok (.invokevirtual 147, 3) := by decide +kernel
theorem dX5_scalarMul_33 : decode cX5_scalarMul 33 = .ok (.aload_n 0, 1) := by decide +kernel
theorem dX5_scalarMul_34 : decode cX5_scalarMul 34 = .ok (.iload_n 3, 1) := by decide +kernel
theorem dX5_scalarMul_35 : decode cX5_scalarMul 35 = .ok (.invokevirtual 106, 3) := by decide +kernel
theorem dX5_scalarMul_38 : decode cX5_scalarMul 38 = .ok (.invokevirtual 151, 3) := by decide +kernel
theorem dX5_scalarMul_41 : decode cX5_scalarMul 41 = .ok (.aload_n 0, 1) := by decide +kernel
theorem dX5_scalarMul_42 : decode cX5_scalarMul 42 = .ok (.iload_n 1, 1) := by decide +kernel
theorem dX5_scalarMul_43 : decode cX5_scalarMul 43 = .ok (.invokevirtual 137, 3) := by decide +kernel
theorem dX5_scalarMul_46 : decode cX5_scalarMul 46 = .ok (.ireturn, 1) := by decide +kernel
theorem dX5_negate_0 : decode cX5_negate 0 = .ok (.iload_n 1, 1) := by decide +kernel
theorem dX5_negate_1 : decode cX5_negate 1 = .ok (.invokestatic 103, 3) := by decide +kernel
theorem dX5_negate_4 : decode cX5_negate 4 = .ok (.ifCond .eq 11, 3) := by decide +kernel
theorem dX5_negate_7 : decode cX5_negate 7 = .ok (.aload_n 0, 1) := by decide +kernel
theorem dX5_negate_8 : decode cX5_negate 8 = .ok (.iload_n 2, 1) := by decide +kernel
theorem dX5_negate_9 : decode cX5_negate 9 = .ok (.invokevirtual 127, 3) := by decide +kernel
theorem dX5_negate_12 : decode cX5_negate 12 = .ok (.ifCond .ne 5, 3) := by decide +kernel
theorem dX5_negate_15 : decode cX5_negate 15 = .ok (.iconst 0, 1) := by decide +kernel
theorem dX5_negate_16 : decode cX5_negate 16 = .ok (.ireturn, 1) := by decide +kernel
theorem dX5_negate_17 : decode cX5_negate 17 = .ok (.aload_n 0, 1) := by decide +kernel
theorem dX5_negate_18 : decode cX5_negate 18 = .ok (.iload_n 1, 1) := by decide +kernel
theorem dX5_negate_19 : decode cX5_negate 19 = .ok (.invokevirtual 106, 3) := by decide +kernel
theorem dX5_negate_22 : decode cX5_negate 22 = .ok (.aload_n 0, 1) := by decide +kernel
theorem dX5_negate_23 : decode cX5_negate 23 = .ok (.iload_n 2, 1) := by decide +kernel
theorem dX5_negate_24 : decode cX5_negate 24 = .ok (.invokevirtual 106, 3) := by decide +kernel
theorem dX5_negate_27 : decode cX5_negate 27 = .ok (.invokevirtual 155, 3) := by decide +kernel
theorem dX5_negate_30 : decode cX5_negate 30 = .ok (.aload_n 0, 1) := by decide +kernel
theorem dX5_negate_31 : decode cX5_negate 31 = .ok (.getfield 51, 3) := by decide +kernel
theorem dX5_negate_34 : decode cX5_negate 34 = .ok (.aload_n 0, 1) := by decide +kernel
theorem dX5_negate_35 : decode cX5_negate 35 = .ok (.iload_n 1, 1) := by decide +kernel
theorem dX5_negate_36 : decode cX5_negate 36 = .ok (.invokevirtual 106, 3) := by decide +kernel
theorem dX5_negate_39 : decode cX5_negate 39 = .ok (.invokevirtual 158, 3) := by decide +kernel
theorem dX5_negate_42 : decode cX5_negate 42 = .ok (.aload_n 0, 1) := by decide +kernel
theorem dX5_negate_43 : decode cX5_negate 43 = .ok (.iload_n 1, 1) := by decide +kernel
theorem dX5_negate_44 : decode cX5_negate 44 = .ok (.invokevirtual 116, 3) := by decide +kernel
theorem dX5_negate_47 : decode cX5_negate 47 = .ok (.iconst 1, 1) := by decide +kernel
theorem dX5_negate_48 : decode cX5_negate 48 = .ok (.ireturn, 1) := by decide +kernel
theorem dX5_isSame_0 : decode cX5_isSame 0 = .ok (.iload_n 1, 1) := by decide +kernel
theorem dX5_isSame_1 : decode cX5_isSame 1 = .ok (.invokestatic 103, 3) := by decide +kernel
theorem dX5_isSame_4 : decode cX5_isSame 4 = .ok (.ifCond .eq 30, 3) := by decide +kernel
theorem dX5_isSame_7 : decode cX5_isSame 7 = .ok (.iload_n 2, 1) := by decide +kernel
theorem dX5_isSame_8 : decode cX5_isSame 8 = .ok (.invokestatic 103, 3) := by decide +kernel
theorem dX5_isSame_11 : decode cX5_isSame 11 = .ok (.ifCond .eq 23, 3) := by decide +kernel
theorem dX5_isSame_14 : decode cX5_isSame 14 = .ok (.aload_n 0, 1) := by decide +kernel
theorem dX5_isSame_15 : decode cX5_isSame 15 = .ok (.iload_n 1, 1) := by decide +kernel
theorem dX5_isSame_16 : decode cX5_isSame 16 = .ok (.invokevirtual 106, 3) := by decide +kernel
theorem dX5_isSame_19 : decode cX5_isSame 19 = .ok (.aload_n 0, 1) := by decide +kernel
theorem dX5_isSame_20 : decode cX5_isSame 20 = .ok (.iload_n 2, 1) := by decide +kernel
theorem dX5_isSame_21 : decode cX5_isSame 21 = .ok (.invokevirtual 106, 3) := by decide +kernel
theorem dX5_isSame_24 : decode cX5_isSame 24 = .ok (.invokevirtual 161, 3) := by decide +kernel
theorem dX5_isSame_27 : decode cX5_isSame 27 = .ok (.ifCond .eq 7, 3) := by decide +kernel
theorem dX5_isSame_30 : decode cX5_isSame 30 = .ok (.iconst 1, 1) := by decide +kernel
theorem dX5_isSame_31 : decode cX5_isSame 31 = .ok (.goto 4, 3) := by decide +kernel
theorem dX5_isSame_34 : decode cX5_isSame 34 = .ok (.iconst 0, 1) := by decide +kernel
theorem dX5_isSame_35 : decode cX5_isSame 35 = .ok (.ireturn, 1) := by decide +kernel
theorem dX5_verify_0 : decode cX5_verify 0 = .ok (.aload_n 0, 1) := by decide +kernel
theorem dX5_verify_1 : decode cX5_verify 1 = .ok (.iload_n 1, 1) := by decide +kernel
theorem dX5_verify_2 : decode cX5_verify 2 = .ok (.invokevirtual 127, 3) := by decide +kernel
theorem dX5_verify_5 : decode cX5_verify 5 = .ok (.ifCond .eq 34, 3) := by decide +kernel
theorem dX5_verify_8 : decode cX5_verify 8 = .ok (.aload_n 0, 1) := by decide +kernel
theorem dX5_verify_9 : decode cX5_verify 9 = .ok (.iload_n 2, 1) := by decide +kernel
theorem dX5_verify_10 : decode cX5_verify 10 = .ok (.invokevirtual 127, 3) := by decide +kernel
theorem dX5_verify_13 : decode cX5_verify 13 = .ok (.ifCond .eq 26, 3) := by decide +kernel
theorem dX5_verify_16 : decode cX5_verify 16 = .ok (.iload_n 3, 1) := by decide +kernel
theorem dX5_verify_17 : decode cX5_verify 17 = .ok (.invokestatic 144, 3) := by decide +kernel
theorem dX5_verify_20 : decode cX5_verify 20 = .ok (.ifCond .eq 19, 3) := by decide +kernel
theorem dX5_verify_23 : decode cX5_verify 23 = .ok (.iload 4, 2) := by decide +kernel
theorem dX5_verify_25 : decode cX5_verify 25 = .ok (.invokestatic 144, 3) := by decide +kernel
theorem dX5_verify_28 : decode cX5_verify 28 = .ok (.ifCond .eq 11, 3) := by decide +kernel
theorem dX5_verify_31 : decode cX5_verify 31 = .ok (.iload 5, 2) := by decide +kernel
theorem dX5_verify_33 : decode cX5_verify 33 = .ok (.invokestatic 144, 3) := by decide +kernel
theorem dX5_verify_36 : decode cX5_verify 36 = .ok (.ifCond .ne 5, 3) := by decide +kernel
theorem dX5_verify_39 : decode cX5_verify 39 = .ok (.iconst (-1), 1) := by decide +kernel
theorem dX5_verify_40 : decode cX5_verify 40 = .ok (.ireturn, 1) := by decide +kernel
theorem dX5_verify_41 : decode cX5_verify 41 = .ok (.aload_n 0, 1) := by decide +kernel
theorem dX5_verify_42 : decode cX5_verify 42 = .ok (.getfield 42, 3) := by decide +kernel
theorem dX5_verify_45 : decode cX5_verify 45 = .ok (.aload_n 0, 1) := by decide +kernel
theorem dX5_verify_46 : decode cX5_verify 46 = .ok (.getfield 24, 3) := by decide +kernel
theorem dX5_verify_49 : decode cX5_verify 49 = .ok (.iconst 3, 1) := by decide +kernel
theorem dX5_verify_50 : decode cX5_verify 50 = .ok (.aaload, 1) := by decide +kernel
theorem dX5_verify_51 : decode cX5_verify 51 = .ok (.invokevirtual 164, 3) := by decide +kernel
theorem dX5_verify_54 : decode cX5_verify 54 = .ok (.ifCond .ne 5, 3) := by decide +kernel
theorem dX5_verify_57 : decode cX5_verify 57 = .ok (.iconst (-1), 1) := by decide +kernel
theorem dX5_verify_58 : decode cX5_verify 58 = .ok (.ireturn, 1) := by decide +kernel
theorem dX5_verify_59 : decode cX5_verify 59 = .ok (.aload_n 0, 1) := by decide +kernel
theorem dX5_verify_60 : decode cX5_verify 60 = .ok (.iload 4, 2) := by decide +kernel
theorem dX5_verify_62 : decode cX5_verify 62 = .ok (.invokevirtual 147, 3) := by decide +kernel
theorem dX5_verify_65 : decode cX5_verify 65 = .ok (.astore 6, 2) := by decide +kernel
theorem dX5_verify_67 : decode cX5_verify 67 = .ok (.aload_n 0, 1) := by decide +kernel
theorem dX5_verify_68 : decode cX5_verify 68 = .ok (.aload 6, 2) := by decide +kernel
theorem dX5_verify_70 : decode cX5_verify 70 = .ok (.invokevirtual 168, 3) := by decide +kernel
theorem dX5_verify_73 : decode cX5_verify 73 = .ok (.ifCond .eq 16, 3) := by decide +kernel
theorem dX5_verify_76 : decode cX5_verify 76 = .ok (.aload_n 0, 1) := by decide +kernel
theorem dX5_verify_77 : decode cX5_verify 77 = .ok (.aload_n 0, 1) := by decide +kernel
theorem dX5_verify_78 : decode cX5_verify 78 = .ok (.iload 5, 2) := by decide +kernel
theorem dX5_verify_80 : decode cX5_verify 80 = .ok (.invokevirtual 147, 3) := by decide +kernel
theorem dX5_verify_83 : decode cX5_verify 83 = .ok (.invokevirtual 168, 3) := by decide +kernel
theorem dX5_verify_86 : decode cX5_verify 86 = .ok (.ifCond .ne 5, 3) := by decide +kernel
theorem dX5_verify_89 : decode cX5_verify 89 = .ok (.iconst 0, 1) := by decide +kernel
theorem dX5_verify_90 : decode cX5_verify 90 = .ok (.ireturn, 1) := by decide +kernel
theorem dX5_verify_91 : decode cX5_verify 91 = .ok (.aload_n 0, 1) := by decide +kernel
theorem dX5_verify_92 : decode cX5_verify 92 = .ok (.getfield 42, 3) := by decide +kernel
theorem dX5_verify_95 : decode cX5_verify 95 = .ok (.aload_n 0, 1) := by decide +kernel
theorem dX5_verify_96 : decode cX5_verify 96 = .ok (.getfield 68, 3) := by decide +kernel
theorem dX5_verify_99 : decode cX5_verify 99 = .ok (.aload_n 0, 1) := by decide +kernel
theorem dX5_verify_100 : decode cX5_verify 100 = .ok (.iload 5, 2) := by decide +kernel
theorem dX5_verify_102 : decode cX5_verify 102 = .ok (.invokevirtual 147, 3) := by decide +kernel
theorem dX5_verify_105 : decode cX5_verify 105 = .ok (.invokevirtual 171, 3) := by decide +kernel
theorem dX5_verify_108 : decode cX5_verify 108 = .ok (.ifCond .ne 5, 3) := by decide +kernel
theorem dX5_verify_111 : decode cX5_verify 111 = .ok (.iconst 0, 1) := by decide +kernel
theorem dX5_verify_112 : decode cX5_verify 112 = .ok (.ireturn, 1) := by decide +kernel
theorem dX5_verify_113 : decode cX5_verify 113 = .ok (.aload_n 0, 1) := by decide +kernel
theorem dX5_verify_114 : decode cX5_verify 114 = .ok (.getfield 42, 3) := by decide +kernel
theorem dX5_verify_117 : decode cX5_verify 117 = .ok (.aload_n 0, 1) := by decide +kernel
theorem dX5_verify_118 : decode cX5_verify 118 = .ok (.getfield 64, 3) := by decide +kernel
theorem dX5_verify_121 : decode cX5_verify 121 = .ok (.aload_n 0, 1) := by decide +kernel
theorem dX5_verify_122 : decode cX5_verify 122 = .ok (.iload_n 3, 1) := by decide +kernel
theorem dX5_verify_123 : decode cX5_verify 123 = .ok (.invokevirtual 147, 3) := by decide +kernel
theorem dX5_verify_126 : decode cX5_verify 126 = .ok (.invokevirtual 175, 3) := by decide +kernel
theorem dX5_verify_129 : decode cX5_verify 129 = .ok (.aload_n 0, 1) := by decide +kernel
theorem dX5_verify_130 : decode cX5_verify 130 = .ok (.getfield 42, 3) := by decide +kernel
theorem dX5_verify_133 : decode cX5_verify 133 = .ok (.aload_n 0, 1) := by decide +kernel
theorem dX5_verify_134 : decode cX5_verify 134 = .ok (.getfield 64, 3) := by decide +kernel
theorem dX5_verify_137 : decode cX5_verify 137 = .ok (.aload_n 0, 1) := by decide +kernel
theorem dX5_verify_138 : decode cX5_verify 138 = .ok (.getfield 64, 3) := by decide +kernel
theorem dX5_verify_141 : decode cX5_verify 141 = .ok (.aload_n 0, 1) := by decide +kernel
theorem dX5_verify_142 : decode cX5_verify 142 = .ok (.getfield 68, 3) := by decide +kernel
theorem dX5_verify_145 : decode cX5_verify 145 = .ok (.invokevirtual 179, 3) := by decide +kernel
theorem dX5_verify_148 : decode cX5_verify 148 = .ok (.aload_n 0, 1) := by decide +kernel
theorem dX5_verify_149 : decode cX5_verify 149 = .ok (.getfield 42, 3) := by decide +kernel
theorem dX5_verify_152 : decode cX5_verify 152 = .ok (.aload_n 0, 1) := by decide +kernel
theorem dX5_verify_153 : decode cX5_verify 153 = .ok (.getfield 68, 3) := by decide +kernel
theorem dX5_verify_156 : decode cX5_verify 156 = .ok (.aload 6, 2) := by decide +kernel
theorem dX5_verify_158 : decode cX5_verify 158 = .ok (.aload_n 0, 1) := by decide +kernel
theorem dX5_verify_159 : decode cX5_verify 159 = .ok (.getfield 68, 3) := by decide +kernel
theorem dX5_verify_162 : decode cX5_verify 162 = .ok (.invokevirtual 179, 3) := by decide +kernel
theorem dX5_verify_165 : decode cX5_verify 165 = .ok (.aload_n 0, 1) := by decide +kernel
theorem dX5_verify_166 : decode cX5_verify 166 = .ok (.getfield 60, 3) := by decide +kernel
theorem dX5_verify_169 : decode cX5_verify 169 = .ok (.aload_n 0, 1) := by decide +kernel
theorem dX5_verify_170 : decode cX5_verify 170 = .ok (.getfield 68, 3) := by decide +kernel
theorem dX5_verify_173 : decode cX5_verify 173 = .ok (.aload_n 0, 1) := by decide +kernel
theorem dX5_verify_174 : decode cX5_verify 174 = .ok (.iload_n 1, 1) := by decide +kernel
theorem dX5_verify_175 : decode cX5_verify 175 = .ok (.invokevirtual 106, 3) := by decide +kernel
theorem dX5_verify_178 : decode cX5_verify 178 = .ok (.invokevirtual 151, 3) := by decide +kernel
theorem dX5_verify_181 : decode cX5_verify 181 = .ok (.aload_n 0, 1) := by decide +kernel
theorem dX5_verify_182 : decode cX5_verify 182 = .ok (.getfield 60, 3) := by decide +kernel
theorem dX5_verify_185 : decode cX5_verify 185 = .ok (.aload_n 0, 1) := by decide +kernel
theorem dX5_verify_186 : decode cX5_verify 186 = .ok (.getfield 71, 3) := by decide +kernel
theorem dX5_verify_189 : decode cX5_verify 189 = .ok (.invokevirtual 183, 3) := by decide +kernel
theorem dX5_verify_192 : decode cX5_verify 192 = .ok (.ifCond .ne 6, 3) := by decide +kernel
theorem dX5_verify_195 : decode cX5_verify 195 = .ok (.bipush (-2), 2) := by decide +kernel
theorem dX5_verify_197 : decode cX5_verify 197 = .ok (.ireturn, 1) := by decide +kernel
theorem dX5_verify_198 : decode cX5_verify 198 = .ok (.aload_n 0, 1) := by decide +kernel
theorem dX5_verify_199 : decode cX5_verify 199 = .ok (.getfield 60, 3) := by decide +kernel
theorem dX5_verify_202 : decode cX5_verify 202 = .ok (.aload_n 0, 1) := by decide +kernel
theorem dX5_verify_203 : decode cX5_verify 203 = .ok (.getfield 64, 3) := by decide +kernel
theorem dX5_verify_206 : decode cX5_verify 206 = .ok (.aload_n 0, 1) := by decide +kernel
theorem dX5_verify_207 : decode cX5_verify 207 = .ok (.iload_n 2, 1) := by decide +kernel
theorem dX5_verify_208 : decode cX5_verify 208 = .ok (.invokevirtual 106, 3) := by decide +kernel
theorem dX5_verify_211 : decode cX5_verify 211 = .ok (.invokevirtual 151, 3) := by decide +kernel
theorem dX5_verify_214 : decode cX5_verify 214 = .ok (.aload_n 0, 1) := by decide +kernel
theorem dX5_verify_215 : decode cX5_verify 215 = .ok (.getfield 60, 3) := by decide +kernel
theorem dX5_verify_218 : decode cX5_verify 218 = .ok (.aload_n 0, 1) := by decide +kernel
theorem dX5_verify_219 : decode cX5_verify 219 = .ok (.getfield 71, 3) := by decide +kernel
theorem dX5_verify_222 : decode cX5_verify 222 = .ok (.invokevirtual 133, 3) := by decide +kernel
theorem dX5_verify_225 : decode cX5_verify 225 = .ok (.aload_n 0, 1) := by decide +kernel
theorem dX5_verify_226 : decode cX5_verify 226 = .ok (.getfield 60, 3) := by decide +kernel
theorem dX5_verify_229 : decode cX5_verify 229 = .ok (.aload_n 0, 1) := by decide +kernel
theorem dX5_verify_230 : decode cX5_verify 230 = .ok (.getfield 71, 3) := by decide +kernel
theorem dX5_verify_233 : decode cX5_verify 233 = .ok (.invokevirtual 183, 3) := by decide +kernel
theorem dX5_verify_236 : decode cX5_verify 236 = .ok (.ifCond .ne 6, 3) := by decide +kernel
theorem dX5_verify_239 : decode cX5_verify 239 = .ok (.bipush (-2), 2) := by decide +kernel
theorem dX5_verify_241 : decode cX5_verify 241 = .ok (.ireturn, 1) := by decide +kernel
theorem dX5_verify_242 : decode cX5_verify 242 = .ok (.aload_n 0, 1) := by decide +kernel
theorem dX5_verify_243 : decode cX5_verify 243 = .ok (.getfield 42, 3) := by decide +kernel
theorem dX5_verify_246 : decode cX5_verify 246 = .ok (.aload_n 0, 1) := by decide +kernel
theorem dX5_verify_247 : decode cX5_verify 247 = .ok (.getfield 64, 3) := by decide +kernel
theorem dX5_verify_250 : decode cX5_verify 250 = .ok (.aload_n 0, 1) := by decide +kernel
theorem dX5_verify_251 : decode cX5_verify 251 = .ok (.getfield 71, 3) := by decide +kernel
theorem dX5_verify_254 : decode cX5_verify 254 = .ok (.getfield 186, 3) := by decide +kernel
theorem dX5_verify_257 : decode cX5_verify 257 = .ok (.invokevirtual 175, 3) := by decide +kernel
theorem dX5_verify_260 : decode cX5_verify 260 = .ok (.aload_n 0, 1) := by decide +kernel
theorem dX5_verify_261 : decode cX5_verify 261 = .ok (.getfield 71, 3) := by decide +kernel
theorem dX5_verify_264 : decode cX5_verify 264 = .ok (.getfield 110, 3) := by decide +kernel
theorem dX5_verify_267 : decode cX5_verify 267 = .ok (.ifCond .ne 19, 3) := by decide +kernel
theorem dX5_verify_270 : decode cX5_verify 270 = .ok (.aload_n 0, 1) := by decide +kernel
theorem dX5_verify_271 : decode cX5_verify 271 = .ok (.getfield 64, 3) := by decide +kernel
theorem dX5_verify_274 : decode cX5_verify 274 = .ok (.aload 6, 2) := by decide +kernel
theorem dX5_verify_276 : decode cX5_verify 276 = .ok (.invokestatic 189, 3) := by decide +kernel
theorem dX5_verify_279 : decode cX5_verify 279 = .ok (.ifCond .ne 7, 3) := by decide +kernel
theorem dX5_verify_282 : decode cX5_verify 282 = .ok (.iconst 1, 1) := by decide +kernel
theorem dX5_verify_283 : decode cX5_verify 283 = .ok (.goto 4, 3) := by decide +kernel
theorem dX5_verify_286 : decode cX5_verify 286 = .ok (.iconst 0, 1) := by decide +kernel
theorem dX5_verify_287 : decode cX5_verify 287 = .ok (.ireturn, 1) := by decide +kernel
theorem dX5_reckon_0 : decode cX5_reckon 0 = .ok (.iload_n 1, 1) := by decide +kernel
theorem dX5_reckon_1 : decode cX5_reckon 1 = .ok (.ifCond .lt 22, 3) := by decide +kernel
theorem dX5_reckon_4 : decode cX5_reckon 4 = .ok (.iload_n 1, 1) := by decide +kernel
theorem dX5_reckon_5 : decode cX5_reckon 5 = .ok (.iconst 3, 1) := by decide +kernel
theorem dX5_reckon_6 : decode cX5_reckon 6 = .ok (.if_icmp .gt 17, 3) := by decide +kernel
theorem dX5_reckon_9 : decode cX5_reckon 9 = .ok (.iload_n 2, 1) := by decide +kernel
theorem dX5_reckon_10 : decode cX5_reckon 10 = .ok (.invokestatic 144, 3) := by decide +kernel
theorem dX5_reckon_13 : decode cX5_reckon 13 = .ok (.ifCond .eq 10, 3) := by decide +kernel
theorem dX5_reckon_16 : decode cX5_reckon 16 = .ok (.iload_n 3, 1) := by decide +kernel
theorem dX5_reckon_17 : decode cX5_reckon 17 = .ok (.invokestatic 144, 3) := by decide +kernel
theorem dX5_reckon_20 : decode cX5_reckon 20 = .ok (.ifCond .ne 5, 3) := by decide +kernel
theorem dX5_reckon_23 : decode cX5_reckon 23 = .ok (.iconst 0, 1) := by decide +kernel
theorem dX5_reckon_24 : decode cX5_reckon 24 = .ok (.ireturn, 1) := by decide +kernel
theorem dX5_reckon_25 : decode cX5_reckon 25 = .ok (.iload_n 1, 1) := by decide +kernel
theorem dX5_reckon_26 : decode cX5_reckon 26 = .ok (.iconst 3, 1) := by decide +kernel
theorem dX5_reckon_27 : decode cX5_reckon 27 = .ok (.if_icmp .eq 13, 3) := by decide +kernel
theorem dX5_reckon_30 : decode cX5_reckon 30 = .ok (.iload 4, 2) := by decide +kernel
theorem dX5_reckon_32 : decode cX5_reckon 32 = .ok (.invokestatic 144, 3) := by decide +kernel
theorem dX5_reckon_35 : decode cX5_reckon 35 = .ok (.ifCond .ne 5, 3) := by decide +kernel
theorem dX5_reckon_38 : decode cX5_reckon 38 = .ok (.iconst 0, 1) := by decide +kernel
theorem dX5_reckon_39 : decode cX5_reckon 39 = .ok (.ireturn, 1) := by decide +kernel
theorem dX5_reckon_40 : decode cX5_reckon 40 = .ok (.aload_n 0, 1) := by decide +kernel
theorem dX5_reckon_41 : decode cX5_reckon 41 = .ok (.getfield 42, 3) := by decide +kernel
theorem dX5_reckon_44 : decode cX5_reckon 44 = .ok (.aload_n 0, 1) := by decide +kernel
theorem dX5_reckon_45 : decode cX5_reckon 45 = .ok (.getfield 24, 3) := by decide +kernel
theorem dX5_reckon_48 : decode cX5_reckon 48 = .ok (.iconst 3, 1) := by decide +kernel
theorem dX5_reckon_49 : decode cX5_reckon 49 = .ok (.aaload, 1) := by decide +kernel
theorem dX5_reckon_50 : decode cX5_reckon 50 = .ok (.invokevirtual 164, 3) := by decide +kernel
theorem dX5_reckon_53 : decode cX5_reckon 53 = .ok (.ifCond .ne 5, 3) := by decide +kernel
theorem dX5_reckon_56 : decode cX5_reckon 56 = .ok (.iconst 0, 1) := by decide +kernel
theorem dX5_reckon_57 : decode cX5_reckon 57 = .ok (.ireturn, 1) := by decide +kernel
theorem dX5_reckon_58 : decode cX5_reckon 58 = .ok (.aload_n 0, 1) := by decide +kernel
theorem dX5_reckon_59 : decode cX5_reckon 59 = .ok (.getfield 42, 3) := by decide +kernel
theorem dX5_reckon_62 : decode cX5_reckon 62 = .ok (.aload_n 0, 1) := by decide +kernel
theorem dX5_reckon_63 : decode cX5_reckon 63 = .ok (.getfield 64, 3) := by decide +kernel
theorem dX5_reckon_66 : decode cX5_reckon 66 = .ok (.aload_n 0, 1) := by decide +kernel
theorem dX5_reckon_67 : decode cX5_reckon 67 = .ok (.iload_n 3, 1) := by decide +kernel
theorem dX5_reckon_68 : decode cX5_reckon 68 = .ok (.invokevirtual 147, 3) := by decide +kernel
theorem dX5_reckon_71 : decode cX5_reckon 71 = .ok (.invokevirtual 175, 3) := by decide +kernel
theorem dX5_reckon_74 : decode cX5_reckon 74 = .ok (.iload_n 1, 1) := by decide +kernel
theorem dX5_reckon_75 : decode cX5_reckon 75 = .ok (.iconst 3, 1) := by decide +kernel
theorem dX5_reckon_76 : decode cX5_reckon 76 = .ok (.if_icmp .ne 23, 3) := by decide +kernel
theorem dX5_reckon_79 : decode cX5_reckon 79 = .ok (.aload_n 0, 1) := by decide +kernel
theorem dX5_reckon_80 : decode cX5_reckon 80 = .ok (.getfield 42, 3) := by decide +kernel
theorem dX5_reckon_83 : decode cX5_reckon 83 = .ok (.aload_n 0, 1) := by decide +kernel
theorem dX5_reckon_84 : decode cX5_reckon 84 = .ok (.getfield 64, 3) := by decide +kernel
theorem dX5_reckon_87 : decode cX5_reckon 87 = .ok (.aload_n 0, 1) := by decide +kernel
theorem dX5_reckon_88 : decode cX5_reckon 88 = .ok (.getfield 64, 3) := by decide +kernel
theorem dX5_reckon_91 : decode cX5_reckon 91 = .ok (.invokevirtual 171, 3) := by decide +kernel
theorem dX5_reckon_94 : decode cX5_reckon 94 = .ok (.ifCond .ne 27, 3) := by decide +kernel
theorem dX5_reckon_97 : decode cX5_reckon 97 = .ok (.iconst 0, 1) := by decide +kernel
theorem dX5_reckon_98 : decode cX5_reckon 98 = .ok (.ireturn, 1) := by decide +kernel
theorem dX5_reckon_99 : decode cX5_reckon 99 = .ok (.aload_n 0, 1) := by decide +kernel
theorem dX5_reckon_100 : decode cX5_reckon 100 = .ok (.getfield 42, 3) := by decide +kernel
theorem dX5_reckon_103 : decode cX5_reckon 103 = .ok (.aload_n 0, 1) := by decide +kernel
theorem dX5_reckon_104 : decode cX5_reckon 104 = .ok (.getfield 68, 3) := by decide +kernel
theorem dX5_reckon_107 : decode cX5_reckon 107 = .ok (.aload_n 0, 1) := by decide +kernel
theorem dX5_reckon_108 : decode cX5_reckon 108 = .ok (.iload 4, 2) := by decide +kernel
theorem dX5_reckon_110 : decode cX5_reckon 110 = .ok (.invokevirtual 147, 3) := by decide +kernel
theorem dX5_reckon_113 : decode cX5_reckon 113 = .ok (.invokevirtual 175, 3) := by decide +kernel
theorem dX5_reckon_116 : decode cX5_reckon 116 = .ok (.aload_n 0, 1) := by decide +kernel
theorem dX5_reckon_117 : decode cX5_reckon 117 = .ok (.iload_n 1, 1) := by decide +kernel
theorem dX5_reckon_118 : decode cX5_reckon 118 = .ok (.invokevirtual 195, 3) := by decide +kernel
theorem dX5_reckon_121 : decode cX5_reckon 121 = .ok (.aload_n 0, 1) := by decide +kernel
theorem dX5_reckon_122 : decode cX5_reckon 122 = .ok (.iload_n 2, 1) := by decide +kernel
theorem dX5_reckon_123 : decode cX5_reckon 123 = .ok (.invokevirtual 147, 3) := by decide +kernel
theorem dX5_reckon_126 : decode cX5_reckon 126 = .ok (.aload_n 0, 1) := by decide +kernel
theorem dX5_reckon_127 : decode cX5_reckon 127 = .ok (.getfield 64, 3) := by decide +kernel
theorem dX5_reckon_130 : decode cX5_reckon 130 = .ok (.invokestatic 198, 3) := by decide +kernel
theorem dX5_reckon_133 : decode cX5_reckon 133 = .ok (.aload_n 0, 1) := by decide +kernel
theorem dX5_reckon_134 : decode cX5_reckon 134 = .ok (.iload_n 2, 1) := by decide +kernel
theorem dX5_reckon_135 : decode cX5_reckon 135 = .ok (.invokevirtual 116, 3) := by decide +kernel
theorem dX5_reckon_138 : decode cX5_reckon 138 = .ok (.iconst 1, 1) := by decide +kernel
theorem dX5_reckon_139 : decode cX5_reckon 139 = .ok (.ireturn, 1) := by decide +kernel
theorem dX5_state_0 : decode cX5_state 0 = .ok (.iload_n 1, 1) := by decide +kernel
theorem dX5_state_1 : decode cX5_state 1 = .ok (.tableswitch 59 0 3 #[31, 36, 49, 54], 31) := by decide +kernel
theorem dX5_state_32 : decode cX5_state 32 = .ok (.aload_n 0, 1) := by decide +kernel
theorem dX5_state_33 : decode cX5_state 33 = .ok (.getfield 18, 3) := by decide +kernel
theorem dX5_state_36 : decode cX5_state 36 = .ok (.ireturn, 1) := by decide +kernel
theorem dX5_state_37 : decode cX5_state 37 = .ok (.aload_n 0, 1) := by decide +kernel
theorem dX5_state_38 : decode cX5_state 38 = .ok (.getfield 75, 3) := by decide +kernel
theorem dX5_state_41 : decode cX5_state 41 = .ok (.ifCond .eq 7, 3) := by decide +kernel
theorem dX5_state_44 : decode cX5_state 44 = .ok (.iconst 1, 1) := by decide +kernel
theorem dX5_state_45 : decode cX5_state 45 = .ok (.goto 4, 3) := by decide +kernel
theorem dX5_state_48 : decode cX5_state 48 = .ok (.iconst 0, 1) := by decide +kernel
theorem dX5_state_49 : decode cX5_state 49 = .ok (.ireturn, 1) := by decide +kernel
theorem dX5_state_50 : decode cX5_state 50 = .ok (.aload_n 0, 1) := by decide +kernel
theorem dX5_state_51 : decode cX5_state 51 = .ok (.getfield 79, 3) := by decide +kernel
theorem dX5_state_54 : decode cX5_state 54 = .ok (.ireturn, 1) := by decide +kernel
theorem dX5_state_55 : decode cX5_state 55 = .ok (.aload_n 0, 1) := by decide +kernel
theorem dX5_state_56 : decode cX5_state 56 = .ok (.getfield 82, 3) := by decide +kernel
theorem dX5_state_59 : decode cX5_state 59 = .ok (.ireturn, 1) := by decide +kernel
theorem dX5_state_60 : decode cX5_state 60 = .ok (.iconst (-1), 1) := by decide +kernel
theorem dX5_state_61 : decode cX5_state 61 = .ok (.ireturn, 1) := by decide +kernel
theorem dX5_isSlot_0 : decode cX5_isSlot 0 = .ok (.iload_n 0, 1) := by decide +kernel
theorem dX5_isSlot_1 : decode cX5_isSlot 1 = .ok (.ifCond .lt 13, 3) := by decide +kernel
theorem dX5_isSlot_4 : decode cX5_isSlot 4 = .ok (.iload_n 0, 1) := by decide +kernel
theorem dX5_isSlot_5 : decode cX5_isSlot 5 = .ok (.bipush 20, 2) := by decide +kernel
theorem dX5_isSlot_7 : decode cX5_isSlot 7 = .ok (.if_icmp .ge 7, 3) := by decide +kernel
theorem dX5_isSlot_10 : decode cX5_isSlot 10 = .ok (.iconst 1, 1) := by decide +kernel
theorem dX5_isSlot_11 : decode cX5_isSlot 11 = .ok (.goto 4, 3) := by decide +kernel
theorem dX5_isSlot_14 : decode cX5_isSlot 14 = .ok (.iconst 0, 1) := by decide +kernel
theorem dX5_isSlot_15 : decode cX5_isSlot 15 = .ok (.ireturn, 1) := by decide +kernel
theorem dX5_isParameter_0 : decode cX5_isParameter 0 = .ok (.iload_n 0, 1) := by decide +kernel
theorem dX5_isParameter_1 : decode cX5_isParameter 1 = .ok (.ifCond .lt 12, 3) := by decide +kernel
theorem dX5_isParameter_4 : decode cX5_isParameter 4 = .ok (.iload_n 0, 1) := by decide +kernel
theorem dX5_isParameter_5 : decode cX5_isParameter 5 = .ok (.iconst 4, 1) := by decide +kernel
theorem dX5_isParameter_6 : decode cX5_isParameter 6 = .ok (.if_icmp .ge 7, 3) := by decide +kernel
theorem dX5_isParameter_9 : decode cX5_isParameter 9 = .ok (.iconst 1, 1) := by decide +kernel
theorem dX5_isParameter_10 : decode cX5_isParameter 10 = .ok (.goto 4, 3) := by decide +kernel
theorem dX5_isParameter_13 : decode cX5_isParameter 13 = .ok (.iconst 0, 1) := by decide +kernel
theorem dX5_isParameter_14 : decode cX5_isParameter 14 = .ok (.ireturn, 1) := by decide +kernel
theorem dX5_isPoint_0 : decode cX5_isPoint 0 = .ok (.iload_n 0, 1) := by decide +kernel
theorem dX5_isPoint_1 : decode cX5_isPoint 1 = .ok (.iconst 4, 1) := by decide +kernel
theorem dX5_isPoint_2 : decode cX5_isPoint 2 = .ok (.if_icmp .lt 13, 3) := by decide +kernel
theorem dX5_isPoint_5 : decode cX5_isPoint 5 = .ok (.iload_n 0, 1) := by decide +kernel
theorem dX5_isPoint_6 : decode cX5_isPoint 6 = .ok (.bipush 12, 2) := by decide +kernel
theorem dX5_isPoint_8 : decode cX5_isPoint 8 = .ok (.if_icmp .ge 7, 3) := by decide +kernel
theorem dX5_isPoint_11 : decode cX5_isPoint 11 = .ok (.iconst 1, 1) := by decide +kernel
theorem dX5_isPoint_12 : decode cX5_isPoint 12 = .ok (.goto 4, 3) := by decide +kernel
theorem dX5_isPoint_15 : decode cX5_isPoint 15 = .ok (.iconst 0, 1) := by decide +kernel
theorem dX5_isPoint_16 : decode cX5_isPoint 16 = .ok (.ireturn, 1) := by decide +kernel
theorem dX5_isScalar_0 : decode cX5_isScalar 0 = .ok (.iload_n 0, 1) := by decide +kernel
theorem dX5_isScalar_1 : decode cX5_isScalar 1 = .ok (.bipush 12, 2) := by decide +kernel
theorem dX5_isScalar_3 : decode cX5_isScalar 3 = .ok (.if_icmp .lt 13, 3) := by decide +kernel
theorem dX5_isScalar_6 : decode cX5_isScalar 6 = .ok (.iload_n 0, 1) := by decide +kernel
theorem dX5_isScalar_7 : decode cX5_isScalar 7 = .ok (.bipush 20, 2) := by decide +kernel
theorem dX5_isScalar_9 : decode cX5_isScalar 9 = .ok (.if_icmp .ge 7, 3) := by decide +kernel
theorem dX5_isScalar_12 : decode cX5_isScalar 12 = .ok (.iconst 1, 1) := by decide +kernel
theorem dX5_isScalar_13 : decode cX5_isScalar 13 = .ok (.goto 4, 3) := by decide +kernel
theorem dX5_isScalar_16 : decode cX5_isScalar 16 = .ok (.iconst 0, 1) := by decide +kernel
theorem dX5_isScalar_17 : decode cX5_isScalar 17 = .ok (.ireturn, 1) := by decide +kernel
theorem dX5_pointIn_0 : decode cX5_pointIn 0 = .ok (.aload_n 0, 1) := by decide +kernel
theorem dX5_pointIn_1 : decode cX5_pointIn 1 = .ok (.getfield 29, 3) := by decide +kernel
theorem dX5_pointIn_4 : decode cX5_pointIn 4 = .ok (.iload_n 1, 1) := by decide +kernel
theorem dX5_pointIn_5 : decode cX5_pointIn 5 = .ok (.iconst 4, 1) := by decide +kernel
theorem dX5_pointIn_6 : decode cX5_pointIn 6 = .ok (.isub, 1) := by decide +kernel
theorem dX5_pointIn_7 : decode cX5_pointIn 7 = .ok (.aaload, 1) := by decide +kernel
theorem dX5_pointIn_8 : decode cX5_pointIn 8 = .ok (.areturn, 1) := by decide +kernel
theorem dX5_scalarIn_0 : decode cX5_scalarIn 0 = .ok (.aload_n 0, 1) := by decide +kernel
theorem dX5_scalarIn_1 : decode cX5_scalarIn 1 = .ok (.getfield 36, 3) := by decide +kernel
theorem dX5_scalarIn_4 : decode cX5_scalarIn 4 = .ok (.iload_n 1, 1) := by decide +kernel
theorem dX5_scalarIn_5 : decode cX5_scalarIn 5 = .ok (.bipush 12, 2) := by decide +kernel
theorem dX5_scalarIn_7 : decode cX5_scalarIn 7 = .ok (.isub, 1) := by decide +kernel
theorem dX5_scalarIn_8 : decode cX5_scalarIn 8 = .ok (.aaload, 1) := by decide +kernel
theorem dX5_scalarIn_9 : decode cX5_scalarIn 9 = .ok (.areturn, 1) := by decide +kernel
theorem dX5_limbsOf_0 : decode cX5_limbsOf 0 = .ok (.iload_n 1, 1) := by decide +kernel
theorem dX5_limbsOf_1 : decode cX5_limbsOf 1 = .ok (.invokestatic 103, 3) := by decide +kernel
theorem dX5_limbsOf_4 : decode cX5_limbsOf 4 = .ok (.ifCond .eq 12, 3) := by decide +kernel
theorem dX5_limbsOf_7 : decode cX5_limbsOf 7 = .ok (.iconst 2, 1) := by decide +kernel
theorem dX5_limbsOf_8 : decode cX5_limbsOf 8 = .ok (.aload_n 0, 1) := by decide +kernel
theorem dX5_limbsOf_9 : decode cX5_limbsOf 9 = .ok (.getfield 18, 3) := by decide +kernel
theorem dX5_limbsOf_12 : decode cX5_limbsOf 12 = .ok (.imul, 1) := by decide +kernel
theorem dX5_limbsOf_13 : decode cX5_limbsOf 13 = .ok (.goto 7, 3) := by decide +kernel
theorem dX5_limbsOf_16 : decode cX5_limbsOf 16 = .ok (.aload_n 0, 1) := by decide +kernel
theorem dX5_limbsOf_17 : decode cX5_limbsOf 17 = .ok (.getfield 18, 3) := by decide +kernel
theorem dX5_limbsOf_20 : decode cX5_limbsOf 20 = .ok (.ireturn, 1) := by decide +kernel
theorem dX5_rowOf_0 : decode cX5_rowOf 0 = .ok (.iload_n 1, 1) := by decide +kernel
theorem dX5_rowOf_1 : decode cX5_rowOf 1 = .ok (.invokestatic 89, 3) := by decide +kernel
theorem dX5_rowOf_4 : decode cX5_rowOf 4 = .ok (.ifCond .eq 10, 3) := by decide +kernel
theorem dX5_rowOf_7 : decode cX5_rowOf 7 = .ok (.aload_n 0, 1) := by decide +kernel
theorem dX5_rowOf_8 : decode cX5_rowOf 8 = .ok (.getfield 24, 3) := by decide +kernel
theorem dX5_rowOf_11 : decode cX5_rowOf 11 = .ok (.iload_n 1, 1) := by decide +kernel
theorem dX5_rowOf_12 : decode cX5_rowOf 12 = .ok (.aaload, 1) := by decide +kernel
theorem dX5_rowOf_13 : decode cX5_rowOf 13 = .ok (.areturn, 1) := by decide +kernel
theorem dX5_rowOf_14 : decode cX5_rowOf 14 = .ok (.iload_n 1, 1) := by decide +kernel
theorem dX5_rowOf_15 : decode cX5_rowOf 15 = .ok (.invokestatic 144, 3) := by decide +kernel
theorem dX5_rowOf_18 : decode cX5_rowOf 18 = .ok (.ifCond .eq 9, 3) := by decide +kernel
theorem dX5_rowOf_21 : decode cX5_rowOf 21 = .ok (.aload_n 0, 1) := by decide +kernel
theorem dX5_rowOf_22 : decode cX5_rowOf 22 = .ok (.iload_n 1, 1) := by decide +kernel
theorem dX5_rowOf_23 : decode cX5_rowOf 23 = .ok (.invokevirtual 147, 3) := by decide +kernel
theorem dX5_rowOf_26 : decode cX5_rowOf 26 = .ok (.areturn, 1) := by decide +kernel
theorem dX5_rowOf_27 : decode cX5_rowOf 27 = .ok (.iload_n 2, 1) := by decide +kernel
theorem dX5_rowOf_28 : decode cX5_rowOf 28 = .ok (.aload_n 0, 1) := by decide +kernel
theorem dX5_rowOf_29 : decode cX5_rowOf 29 = .ok (.getfield 18, 3) := by decide +kernel
theorem dX5_rowOf_32 : decode cX5_rowOf 32 = .ok (.if_icmp .ge 14, 3) := by decide +kernel
theorem dX5_rowOf_35 : decode cX5_rowOf 35 = .ok (.aload_n 0, 1) := by decide +kernel
theorem dX5_rowOf_36 : decode cX5_rowOf 36 = .ok (.iload_n 1, 1) := by decide +kernel
theorem dX5_rowOf_37 : decode cX5_rowOf 37 = .ok (.invokevirtual 106, 3) := by decide +kernel
theorem dX5_rowOf_40 : decode cX5_rowOf 40 = .ok (.getfield 186, 3) := by decide +kernel
theorem dX5_rowOf_43 : decode cX5_rowOf 43 = .ok (.goto 11, 3) := by decide +kernel
theorem dX5_rowOf_46 : decode cX5_rowOf 46 = .ok (.aload_n 0, 1) := by decide +kernel
theorem dX5_rowOf_47 : decode cX5_rowOf 47 = .ok (.iload_n 1, 1) := by decide +kernel
theorem dX5_rowOf_48 : decode cX5_rowOf 48 = .ok (.invokevirtual 106, 3) := by decide +kernel
theorem dX5_rowOf_51 : decode cX5_rowOf 51 = .ok (.getfield 201, 3) := by decide +kernel
theorem dX5_rowOf_54 : decode cX5_rowOf 54 = .ok (.areturn, 1) := by decide +kernel
theorem dX5_placeInRow_0 : decode cX5_placeInRow 0 = .ok (.iload_n 1, 1) := by decide +kernel
theorem dX5_placeInRow_1 : decode cX5_placeInRow 1 = .ok (.aload_n 0, 1) := by decide +kernel
theorem dX5_placeInRow_2 : decode cX5_placeInRow 2 = .ok (.getfield 18, 3) := by decide +kernel
theorem dX5_placeInRow_5 : decode cX5_placeInRow 5 = .ok (.if_icmp .ge 7, 3) := by decide +kernel
theorem dX5_placeInRow_8 : decode cX5_placeInRow 8 = .ok (.iload_n 1, 1) := by decide +kernel
theorem dX5_placeInRow_9 : decode cX5_placeInRow 9 = .ok (.goto 9, 3) := by decide +kernel
theorem dX5_placeInRow_12 : decode cX5_placeInRow 12 = .ok (.iload_n 1, 1) := by decide +kernel
theorem dX5_placeInRow_13 : decode cX5_placeInRow 13 = .ok (.aload_n 0, 1) := by decide +kernel
theorem dX5_placeInRow_14 : decode cX5_placeInRow 14 = .ok (.getfield 18, 3) := by decide +kernel
theorem dX5_placeInRow_17 : decode cX5_placeInRow 17 = .ok (.isub, 1) := by decide +kernel
theorem dX5_placeInRow_18 : decode cX5_placeInRow 18 = .ok (.ireturn, 1) := by decide +kernel
theorem dX5_clearSlot_0 : decode cX5_clearSlot 0 = .ok (.iload_n 1, 1) := by decide +kernel
theorem dX5_clearSlot_1 : decode cX5_clearSlot 1 = .ok (.invokestatic 103, 3) := by decide +kernel
theorem dX5_clearSlot_4 : decode cX5_clearSlot 4 = .ok (.ifCond .eq 14, 3) := by decide +kernel
theorem dX5_clearSlot_7 : decode cX5_clearSlot 7 = .ok (.aload_n 0, 1) := by decide +kernel
theorem dX5_clearSlot_8 : decode cX5_clearSlot 8 = .ok (.iload_n 1, 1) := by decide +kernel
theorem dX5_clearSlot_9 : decode cX5_clearSlot 9 = .ok (.invokevirtual 106, 3) := by decide +kernel
theorem dX5_clearSlot_12 : decode cX5_clearSlot 12 = .ok (.invokevirtual 204, 3) := by decide +kernel
theorem dX5_clearSlot_15 : decode cX5_clearSlot 15 = .ok (.goto 13, 3) := by decide +kernel
theorem dX5_clearSlot_18 : decode cX5_clearSlot 18 = .ok (.aload_n 0, 1) := by decide +kernel
theorem dX5_clearSlot_19 : decode cX5_clearSlot 19 = .ok (.iload_n 1, 1) := by decide +kernel
theorem dX5_clearSlot_20 : decode cX5_clearSlot 20 = .ok (.iconst 0, 1) := by decide +kernel
theorem dX5_clearSlot_21 : decode cX5_clearSlot 21 = .ok (.invokevirtual 95, 3) := by decide +kernel
theorem dX5_clearSlot_24 : decode cX5_clearSlot 24 = .ok (.iconst 0, 1) := by decide +kernel
theorem dX5_clearSlot_25 : decode cX5_clearSlot 25 = .ok (.invokestatic 207, 3) := by decide +kernel
theorem dX5_clearSlot_28 : decode cX5_clearSlot 28 = .ok (.return_, 1) := by decide +kernel
theorem dX5_endFeeding_0 : decode cX5_endFeeding 0 = .ok (.aload_n 0, 1) := by decide +kernel
theorem dX5_endFeeding_1 : decode cX5_endFeeding 1 = .ok (.getfield 79, 3) := by decide +kernel
theorem dX5_endFeeding_4 : decode cX5_endFeeding 4 = .ok (.iload_n 1, 1) := by decide +kernel
theorem dX5_endFeeding_5 : decode cX5_endFeeding 5 = .ok (.if_icmp .ne 13, 3) := by decide +kernel
theorem dX5_endFeeding_8 : decode cX5_endFeeding 8 = .ok (.aload_n 0, 1) := by decide +kernel
theorem dX5_endFeeding_9 : decode cX5_endFeeding 9 = .ok (.iconst (-1), 1) := by decide +kernel
theorem dX5_endFeeding_10 : decode cX5_endFeeding 10 = .ok (.putfield 79, 3) := by decide +kernel
theorem dX5_endFeeding_13 : decode cX5_endFeeding 13 = .ok (.aload_n 0, 1) := by decide +kernel
theorem dX5_endFeeding_14 : decode cX5_endFeeding 14 = .ok (.iconst 0, 1) := by decide +kernel
theorem dX5_endFeeding_15 : decode cX5_endFeeding 15 = .ok (.putfield 82, 3) := by decide +kernel
theorem dX5_endFeeding_18 : decode cX5_endFeeding 18 = .ok (.return_, 1) := by decide +kernel
theorem dX5_writeRunningSum_0 : decode cX5_writeRunningSum 0 = .ok (.aload_n 0, 1) := by decide +kernel
theorem dX5_writeRunningSum_1 : decode cX5_writeRunningSum 1 = .ok (.getfield 60, 3) := by decide +kernel
theorem dX5_writeRunningSum_4 : decode cX5_writeRunningSum 4 = .ok (.aload_n 0, 1) := by decide +kernel
theorem dX5_writeRunningSum_5 : decode cX5_writeRunningSum 5 = .ok (.iload_n 1, 1) := by decide +kernel
theorem dX5_writeRunningSum_6 : decode cX5_writeRunningSum 6 = .ok (.invokevirtual 106, 3) := by decide +kernel
theorem dX5_writeRunningSum_9 : decode cX5_writeRunningSum 9 = .ok (.invokevirtual 183, 3) := by decide +kernel
theorem dX5_writeRunningSum_12 : decode cX5_writeRunningSum 12 = .ok (.ifCond .ne 5, 3) := by decide +kernel
theorem dX5_writeRunningSum_15 : decode cX5_writeRunningSum 15 = .ok (.iconst 0, 1) := by decide +kernel
theorem dX5_writeRunningSum_16 : decode cX5_writeRunningSum 16 = .ok (.ireturn, 1) := by decide +kernel
theorem dX5_writeRunningSum_17 : decode cX5_writeRunningSum 17 = .ok (.aload_n 0, 1) := by decide +kernel
theorem dX5_writeRunningSum_18 : decode cX5_writeRunningSum 18 = .ok (.iload_n 1, 1) := by decide +kernel
theorem dX5_writeRunningSum_19 : decode cX5_writeRunningSum 19 = .ok (.invokevirtual 116, 3) := by decide +kernel
theorem dX5_writeRunningSum_22 : decode cX5_writeRunningSum 22 = .ok (.iconst 1, 1) := by decide +kernel
theorem dX5_writeRunningSum_23 : decode cX5_writeRunningSum 23 = .ok (.ireturn, 1) := by decide +kernel
theorem dX5_isSignaturePart_0 : decode cX5_isSignaturePart 0 = .ok (.aload_n 1, 1) := by decide +kernel
theorem dX5_isSignaturePart_1 : decode cX5_isSignaturePart 1 = .ok (.invokestatic 211, 3) := by decide +kernel
theorem dX5_isSignaturePart_4 : decode cX5_isSignaturePart 4 = .ok (.ifCond .ne 20, 3) := by decide +kernel
theorem dX5_isSignaturePart_7 : decode cX5_isSignaturePart 7 = .ok (.aload_n 1, 1) := by decide +kernel
theorem dX5_isSignaturePart_8 : decode cX5_isSignaturePart 8 = .ok (.aload_n 0, 1) := by decide +kernel
theorem dX5_isSignaturePart_9 : decode cX5_isSignaturePart 9 = .ok (.getfield 24, 3) := by decide +kernel
theorem dX5_isSignaturePart_12 : decode cX5_isSignaturePart 12 = .ok (.iconst 3, 1) := by decide +kernel
theorem dX5_isSignaturePart_13 : decode cX5_isSignaturePart 13 = .ok (.aaload, 1) := by decide +kernel
theorem dX5_isSignaturePart_14 : decode cX5_isSignaturePart 14 = .ok (.invokestatic 189, 3) := by decide +kernel
theorem dX5_isSignaturePart_17 : decode cX5_isSignaturePart 17 = .ok (.ifCond .ge 7, 3) := by decide +kernel
theorem dX5_isSignaturePart_20 : decode cX5_isSignaturePart 20 = .ok (.iconst 1, 1) := by decide +kernel
theorem dX5_isSignaturePart_21 : decode cX5_isSignaturePart 21 = .ok (.goto 4, 3) := by decide +kernel
theorem dX5_isSignaturePart_24 : decode cX5_isSignaturePart 24 = .ok (.iconst 0, 1) := by decide +kernel
theorem dX5_isSignaturePart_25 : decode cX5_isSignaturePart 25 = .ok (.ireturn, 1) := by decide +kernel
theorem dX5_combineModuloOrder_0 : decode cX5_combineModuloOrder 0 = .ok (.iload_n 1, 1) := by decide +kernel
theorem dX5_combineModuloOrder_1 : decode cX5_combineModuloOrder 1 = .ok (.ifCond .ne 25, 3) := by decide +kernel
theorem dX5_combineModuloOrder_4 : decode cX5_combineModuloOrder 4 = .ok (.aload_n 0, 1) := by decide +kernel
theorem dX5_combineModuloOrder_5 : decode cX5_combineModuloOrder 5 = .ok (.getfield 42, 3) := by decide +kernel
theorem dX5_combineModuloOrder_8 : decode cX5_combineModuloOrder 8 = .ok (.aload_n 0, 1) := by decide +kernel
theorem dX5_combineModuloOrder_9 : decode cX5_combineModuloOrder 9 = .ok (.getfield 64, 3) := by decide +kernel
theorem dX5_combineModuloOrder_12 : decode cX5_combineModuloOrder 12 = .ok (.aload_n 0, 1) := by decide +kernel
theorem dX5_combineModuloOrder_13 : decode cX5_combineModuloOrder 13 = .ok (.getfield 64, 3) := by decide +kernel
theorem dX5_combineModuloOrder_16 : decode cX5_combineModuloOrder 16 = .ok (.aload_n 0, 1) := by decide +kernel
theorem dX5_combineModuloOrder_17 : decode cX5_combineModuloOrder 17 = .ok (.getfield 68, 3) := by decide +kernel
theorem dX5_combineModuloOrder_20 : decode cX5_combineModuloOrder 20 = .ok (.invokevirtual 214, 3) := by decide +kernel
theorem dX5_combineModuloOrder_23 : decode cX5_combineModuloOrder 23 = .ok (.goto 54, 3) := by decide +kernel
theorem dX5_combineModuloOrder_26 : decode cX5_combineModuloOrder 26 = .ok (.iload_n 1, 1) := by decide +kernel
theorem dX5_combineModuloOrder_27 : decode cX5_combineModuloOrder 27 = .ok (.iconst 1, 1) := by decide +kernel
theorem dX5_combineModuloOrder_28 : decode cX5_combineModuloOrder 28 = .ok (.if_icmp .ne 25, 3) := by decide +kernel
theorem dX5_combineModuloOrder_31 : decode cX5_combineModuloOrder 31 = .ok (.aload_n 0, 1) := by decide +kernel
theorem dX5_combineModuloOrder_32 : decode cX5_combineModuloOrder 32 = .ok (.getfield 42, 3) := by decide +kernel
theorem dX5_combineModuloOrder_35 : decode cX5_combineModuloOrder 35 = .ok (.aload_n 0, 1) := by decide +kernel
theorem dX5_combineModuloOrder_36 : decode cX5_combineModuloOrder 36 = .ok (.getfield 64, 3) := by decide +kernel
theorem dX5_combineModuloOrder_39 : decode cX5_combineModuloOrder 39 = .ok (.aload_n 0, 1) := by decide +kernel
theorem dX5_combineModuloOrder_40 : decode cX5_combineModuloOrder 40 = .ok (.getfield 64, 3) := by decide +kernel
theorem dX5_combineModuloOrder_43 : decode cX5_combineModuloOrder 43 = .ok (.aload_n 0, 1) := by decide +kernel
theorem dX5_combineModuloOrder_44 : decode cX5_combineModuloOrder 44 = .ok (.getfield 68, 3) := by decide +kernel
theorem dX5_combineModuloOrder_47 : decode cX5_combineModuloOrder 47 = .ok (.invokevirtual 217, 3) := by decide +kernel
theorem dX5_combineModuloOrder_50 : decode cX5_combineModuloOrder 50 = .ok (.goto 27, 3) := by decide +kernel
theorem dX5_combineModuloOrder_53 : decode cX5_combineModuloOrder 53 = .ok (.iload_n 1, 1) := by decide +kernel
theorem dX5_combineModuloOrder_54 : decode cX5_combineModuloOrder 54 = .ok (.iconst 2, 1) := by decide +kernel
theorem dX5_combineModuloOrder_55 : decode cX5_combineModuloOrder 55 = .ok (.if_icmp .ne 22, 3) := by decide +kernel
theorem dX5_combineModuloOrder_58 : decode cX5_combineModuloOrder 58 = .ok (.aload_n 0, 1) := by decide +kernel
theorem dX5_combineModuloOrder_59 : decode cX5_combineModuloOrder 59 = .ok (.getfield 42, 3) := by decide +kernel
theorem dX5_combineModuloOrder_62 : decode cX5_combineModuloOrder 62 = .ok (.aload_n 0, 1) := by decide +kernel
theorem dX5_combineModuloOrder_63 : decode cX5_combineModuloOrder 63 = .ok (.getfield 64, 3) := by decide +kernel
theorem dX5_combineModuloOrder_66 : decode cX5_combineModuloOrder 66 = .ok (.aload_n 0, 1) := by decide +kernel
theorem dX5_combineModuloOrder_67 : decode cX5_combineModuloOrder 67 = .ok (.getfield 64, 3) := by decide +kernel
theorem dX5_combineModuloOrder_70 : decode cX5_combineModuloOrder 70 = .ok (.aload_n 0, 1) := by decide +kernel
theorem dX5_combineModuloOrder_71 : decode cX5_combineModuloOrder 71 = .ok (.getfield 68, 3) := by decide +kernel
theorem dX5_combineModuloOrder_74 : decode cX5_combineModuloOrder 74 = .ok (.invokevirtual 179, 3) := by decide +kernel
theorem dX5_combineModuloOrder_77 : decode cX5_combineModuloOrder 77 = .ok (.return_, 1) := by decide +kernel
