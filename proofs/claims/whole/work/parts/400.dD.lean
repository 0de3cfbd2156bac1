theorem dX6_init_0 : decode cX6_init 0 = .ok (.aload_n 0, 1) := by decide +kernel
theorem dX6_init_1 : decode cX6_init 1 = .ok (.invokespecial 1, 3) := by decide +kernel
theorem dX6_init_4 : decode cX6_init 4 = .ok (.aload_n 0, 1) := by decide +kernel
theorem dX6_init_5 : decode cX6_init 5 = .ok (.sipush 360, 3) := by decide +kernel
theorem dX6_init_8 : decode cX6_init 8 = .ok (.newarray .int, 2) := by decide +kernel
theorem dX6_init_10 : decode cX6_init 10 = .ok (.putfield 7, 3) := by decide +kernel
theorem dX6_init_13 : decode cX6_init 13 = .ok (.aload_n 0, 1) := by decide +kernel
theorem dX6_init_14 : decode cX6_init 14 = .ok (.bipush 20, 2) := by decide +kernel
theorem dX6_init_16 : decode cX6_init 16 = .ok (.newarray .boolean, 2) := by decide +kernel
theorem dX6_init_18 : decode cX6_init 18 = .ok (.putfield 13, 3) := by decide +kernel
theorem dX6_init_21 : decode cX6_init 21 = .ok (.aload_n 0, 1) := by decide +kernel
theorem dX6_init_22 : decode cX6_init 22 = .ok (.iconst (-1), 1) := by decide +kernel
theorem dX6_init_23 : decode cX6_init 23 = .ok (.putfield 17, 3) := by decide +kernel
theorem dX6_init_26 : decode cX6_init 26 = .ok (.aload_n 0, 1) := by decide +kernel
theorem dX6_init_27 : decode cX6_init 27 = .ok (.sipush 300, 3) := by decide +kernel
theorem dX6_init_30 : decode cX6_init 30 = .ok (.newarray .int, 2) := by decide +kernel
theorem dX6_init_32 : decode cX6_init 32 = .ok (.putfield 21, 3) := by decide +kernel
theorem dX6_init_35 : decode cX6_init 35 = .ok (.aload_n 0, 1) := by decide +kernel
theorem dX6_init_36 : decode cX6_init 36 = .ok (.iconst 5, 1) := by decide +kernel
theorem dX6_init_37 : decode cX6_init 37 = .ok (.newarray .boolean, 2) := by decide +kernel
theorem dX6_init_39 : decode cX6_init 39 = .ok (.putfield 24, 3) := by decide +kernel
theorem dX6_init_42 : decode cX6_init 42 = .ok (.aload_n 0, 1) := by decide +kernel
theorem dX6_init_43 : decode cX6_init 43 = .ok (.bipush 24, 2) := by decide +kernel
theorem dX6_init_45 : decode cX6_init 45 = .ok (.newarray .int, 2) := by decide +kernel
theorem dX6_init_47 : decode cX6_init 47 = .ok (.putfield 27, 3) := by decide +kernel
theorem dX6_init_50 : decode cX6_init 50 = .ok (.aload_n 0, 1) := by decide +kernel
theorem dX6_init_51 : decode cX6_init 51 = .ok (.bipush 12, 2) := by decide +kernel
theorem dX6_init_53 : decode cX6_init 53 = .ok (.newarray .int, 2) := by decide +kernel
theorem dX6_init_55 : decode cX6_init 55 = .ok (.putfield 30, 3) := by decide +kernel
theorem dX6_init_58 : decode cX6_init 58 = .ok (.aload_n 0, 1) := by decide +kernel
theorem dX6_init_59 : decode cX6_init 59 = .ok (.bipush 24, 2) := by decide +kernel
theorem dX6_init_61 : decode cX6_init 61 = .ok (.newarray .int, 2) := by decide +kernel
theorem dX6_init_63 : decode cX6_init 63 = .ok (.putfield 33, 3) := by decide +kernel
theorem dX6_init_66 : decode cX6_init 66 = .ok (.aload_n 0, 1) := by decide +kernel
theorem dX6_init_67 : decode cX6_init 67 = .ok (.iload_n 1, 1) := by decide +kernel
theorem dX6_init_68 : decode cX6_init 68 = .ok (.iconst 1, 1) := by decide +kernel
theorem dX6_init_69 : decode cX6_init 69 = .ok (.if_icmp .ge 7, 3) := by decide +kernel
theorem dX6_init_72 : decode cX6_init 72 = .ok (.iconst 1, 1) := by decide +kernel
theorem dX6_init_73 : decode cX6_init 73 = .ok (.goto 15, 3) := by decide +kernel
theorem dX6_init_76 : decode cX6_init 76 = .ok (.iload_n 1, 1) := by decide +kernel
theorem dX6_init_77 : decode cX6_init 77 = .ok (.bipush 9, 2) := by decide +kernel
theorem dX6_init_79 : decode cX6_init 79 = .ok (.if_icmp .le 8, 3) := by decide +kernel
theorem dX6_init_82 : decode cX6_init 82 = .ok (.bipush 9, 2) := by decide +kernel
theorem dX6_init_84 : decode cX6_init 84 = .ok (.goto 4, 3) := by decide +kernel
theorem dX6_init_87 : decode cX6_init 87 = .ok (.iload_n 1, 1) := by decide +kernel
theorem dX6_init_88 : decode cX6_init 88 = .ok (.putfield 36, 3) := by decide +kernel
theorem dX6_init_91 : decode cX6_init 91 = .ok (.return_, 1) := by decide +kernel
theorem dX6_isPoint_0 : decode cX6_isPoint 0 = .ok (.iload_n 0, 1) := by decide +kernel
theorem dX6_isPoint_1 : decode cX6_isPoint 1 = .ok (.iconst 3, 1) := by decide +kernel
theorem dX6_isPoint_2 : decode cX6_isPoint 2 = .ok (.if_icmp .le 13, 3) := by decide +kernel
theorem dX6_isPoint_5 : decode cX6_isPoint 5 = .ok (.iload_n 0, 1) := by decide +kernel
theorem dX6_isPoint_6 : decode cX6_isPoint 6 = .ok (.bipush 12, 2) := by decide +kernel
theorem dX6_isPoint_8 : decode cX6_isPoint 8 = .ok (.if_icmp .ge 7, 3) := by decide +kernel
theorem dX6_isPoint_11 : decode cX6_isPoint 11 = .ok (.iconst 1, 1) := by decide +kernel
theorem dX6_isPoint_12 : decode cX6_isPoint 12 = .ok (.goto 4, 3) := by decide +kernel
theorem dX6_isPoint_15 : decode cX6_isPoint 15 = .ok (.iconst 0, 1) := by decide +kernel
theorem dX6_isPoint_16 : decode cX6_isPoint 16 = .ok (.ireturn, 1) := by decide +kernel
theorem dX6_isScalar_0 : decode cX6_isScalar 0 = .ok (.iload_n 0, 1) := by decide +kernel
theorem dX6_isScalar_1 : decode cX6_isScalar 1 = .ok (.bipush 11, 2) := by decide +kernel
theorem dX6_isScalar_3 : decode cX6_isScalar 3 = .ok (.if_icmp .le 13, 3) := by decide +kernel
theorem dX6_isScalar_6 : decode cX6_isScalar 6 = .ok (.iload_n 0, 1) := by decide +kernel
theorem dX6_isScalar_7 : decode cX6_isScalar 7 = .ok (.bipush 20, 2) := by decide +kernel
theorem dX6_isScalar_9 : decode cX6_isScalar 9 = .ok (.if_icmp .ge 7, 3) := by decide +kernel
theorem dX6_isScalar_12 : decode cX6_isScalar 12 = .ok (.iconst 1, 1) := by decide +kernel
theorem dX6_isScalar_13 : decode cX6_isScalar 13 = .ok (.goto 4, 3) := by decide +kernel
theorem dX6_isScalar_16 : decode cX6_isScalar 16 = .ok (.iconst 0, 1) := by decide +kernel
theorem dX6_isScalar_17 : decode cX6_isScalar 17 = .ok (.ireturn, 1) := by decide +kernel
theorem dX6_limbsOf_0 : decode cX6_limbsOf 0 = .ok (.iload_n 1, 1) := by decide +kernel
theorem dX6_limbsOf_1 : decode cX6_limbsOf 1 = .ok (.invokestatic 39, 3) := by decide +kernel
theorem dX6_limbsOf_4 : decode cX6_limbsOf 4 = .ok (.ifCond .eq 12, 3) := by decide +kernel
theorem dX6_limbsOf_7 : decode cX6_limbsOf 7 = .ok (.iconst 2, 1) := by decide +kernel
theorem dX6_limbsOf_8 : decode cX6_limbsOf 8 = .ok (.aload_n 0, 1) := by decide +kernel
theorem dX6_limbsOf_9 : decode cX6_limbsOf 9 = .ok (.getfield 36, 3) := by decide +kernel
theorem dX6_limbsOf_12 : decode cX6_limbsOf 12 = .ok (.imul, 1) := by decide +kernel
theorem dX6_limbsOf_13 : decode cX6_limbsOf 13 = .ok (.goto 7, 3) := by decide +kernel
theorem dX6_limbsOf_16 : decode cX6_limbsOf 16 = .ok (.aload_n 0, 1) := by decide +kernel
theorem dX6_limbsOf_17 : decode cX6_limbsOf 17 = .ok (.getfield 36, 3) := by decide +kernel
theorem dX6_limbsOf_20 : decode cX6_limbsOf 20 = .ok (.ireturn, 1) := by decide +kernel
theorem dX6_select_0 : decode cX6_select 0 = .ok (.iload_n 1, 1) := by decide +kernel
theorem dX6_select_1 : decode cX6_select 1 = .ok (.ifCond .lt 21, 3) := by decide +kernel
theorem dX6_select_4 : decode cX6_select 4 = .ok (.iload_n 1, 1) := by decide +kernel
theorem dX6_select_5 : decode cX6_select 5 = .ok (.bipush 19, 2) := by decide +kernel
theorem dX6_select_7 : decode cX6_select 7 = .ok (.if_icmp .gt 15, 3) := by decide +kernel
theorem dX6_select_10 : decode cX6_select 10 = .ok (.iload_n 1, 1) := by decide +kernel
theorem dX6_select_11 : decode cX6_select 11 = .ok (.iconst 4, 1) := by decide +kernel
theorem dX6_select_12 : decode cX6_select 12 = .ok (.if_icmp .ge 12, 3) := by decide +kernel
theorem dX6_select_15 : decode cX6_select 15 = .ok (.aload_n 0, 1) := by decide +kernel
theorem dX6_select_16 : decode cX6_select 16 = .ok (.getfield 43, 3) := by decide +kernel
theorem dX6_select_19 : decode cX6_select 19 = .ok (.ifCond .eq 5, 3) := by decide +kernel
theorem dX6_select_22 : decode cX6_select 22 = .ok (.iconst 0, 1) := by decide +kernel
theorem dX6_select_23 : decode cX6_select 23 = .ok (.ireturn, 1) := by decide +kernel
theorem dX6_select_24 : decode cX6_select 24 = .ok (.iconst 0, 1) := by decide +kernel
theorem dX6_select_25 : decode cX6_select 25 = .ok (.istore_n 2, 1) := by decide +kernel
theorem dX6_select_26 : decode cX6_select 26 = .ok (.iload_n 2, 1) := by decide +kernel
theorem dX6_select_27 : decode cX6_select 27 = .ok (.bipush 18, 2) := by decide +kernel
theorem dX6_select_29 : decode cX6_select 29 = .ok (.if_icmp .ge 21, 3) := by decide +kernel
theorem dX6_select_32 : decode cX6_select 32 = .ok (.aload_n 0, 1) := by decide +kernel
theorem dX6_select_33 : decode cX6_select 33 = .ok (.getfield 7, 3) := by decide +kernel
theorem dX6_select_36 : decode cX6_select 36 = .ok (.bipush 18, 2) := by decide +kernel
theorem dX6_select_38 : decode cX6_select 38 = .ok (.iload_n 1, 1) := by decide +kernel
theorem dX6_select_39 : decode cX6_select 39 = .ok (.imul, 1) := by decide +kernel
theorem dX6_select_40 : decode cX6_select 40 = .ok (.iload_n 2, 1) := by decide +kernel
theorem dX6_select_41 : decode cX6_select 41 = .ok (.iadd, 1) := by decide +kernel
theorem dX6_select_42 : decode cX6_select 42 = .ok (.iconst 0, 1) := by decide +kernel
theorem dX6_select_43 : decode cX6_select 43 = .ok (.iastore, 1) := by decide +kernel
theorem dX6_select_44 : decode cX6_select 44 = .ok (.iinc 2 1, 3) := by decide +kernel
theorem dX6_select_47 : decode cX6_select 47 = .ok (.goto (-21), 3) := by decide +kernel
theorem dX6_select_50 : decode cX6_select 50 = .ok (.aload_n 0, 1) := by decide +kernel
theorem dX6_select_51 : decode cX6_select 51 = .ok (.getfield 13, 3) := by decide +kernel
theorem dX6_select_54 : decode cX6_select 54 = .ok (.iload_n 1, 1) := by decide +kernel
theorem dX6_select_55 : decode cX6_select 55 = .ok (.iconst 0, 1) := by decide +kernel
theorem dX6_select_56 : decode cX6_select 56 = .ok (.bastore, 1) := by decide +kernel
theorem dX6_select_57 : decode cX6_select 57 = .ok (.aload_n 0, 1) := by decide +kernel
theorem dX6_select_58 : decode cX6_select 58 = .ok (.iload_n 1, 1) := by decide +kernel
theorem dX6_select_59 : decode cX6_select 59 = .ok (.putfield 17, 3) := by decide +kernel
theorem dX6_select_62 : decode cX6_select 62 = .ok (.aload_n 0, 1) := by decide +kernel
theorem dX6_select_63 : decode cX6_select 63 = .ok (.iconst 0, 1) := by decide +kernel
theorem dX6_select_64 : decode cX6_select 64 = .ok (.putfield 47, 3) := by decide +kernel
theorem dX6_select_67 : decode cX6_select 67 = .ok (.iconst 1, 1) := by decide +kernel
theorem dX6_select_68 : decode cX6_select 68 = .ok (.ireturn, 1) := by decide +kernel
theorem dX6_feedLimb_0 : decode cX6_feedLimb 0 = .ok (.aload_n 0, 1) := by decide +kernel
theorem dX6_feedLimb_1 : decode cX6_feedLimb 1 = .ok (.getfield 17, 3) := by decide +kernel
theorem dX6_feedLimb_4 : decode cX6_feedLimb 4 = .ok (.ifCond .lt 7, 3) := by decide +kernel
theorem dX6_feedLimb_7 : decode cX6_feedLimb 7 = .ok (.iload_n 1, 1) := by decide +kernel
theorem dX6_feedLimb_8 : decode cX6_feedLimb 8 = .ok (.ifCond .ge 5, 3) := by decide +kernel
theorem dX6_feedLimb_11 : decode cX6_feedLimb 11 = .ok (.iconst 0, 1) := by decide +kernel
theorem dX6_feedLimb_12 : decode cX6_feedLimb 12 = .ok (.ireturn, 1) := by decide +kernel
theorem dX6_feedLimb_13 : decode cX6_feedLimb 13 = .ok (.aload_n 0, 1) := by decide +kernel
theorem dX6_feedLimb_14 : decode cX6_feedLimb 14 = .ok (.getfield 7, 3) := by decide +kernel
theorem dX6_feedLimb_17 : decode cX6_feedLimb 17 = .ok (.bipush 18, 2) := by decide +kernel
theorem dX6_feedLimb_19 : decode cX6_feedLimb 19 = .ok (.aload_n 0, 1) := by decide +kernel
theorem dX6_feedLimb_20 : decode cX6_feedLimb 20 = .ok (.getfield 17, 3) := by decide +kernel
theorem dX6_feedLimb_23 : decode cX6_feedLimb 23 = .ok (.imul, 1) := by decide +kernel
theorem dX6_feedLimb_24 : decode cX6_feedLimb 24 = .ok (.aload_n 0, 1) := by decide +kernel
theorem dX6_feedLimb_25 : decode cX6_feedLimb 25 = .ok (.getfield 47, 3) := by decide +kernel
theorem dX6_feedLimb_28 : decode cX6_feedLimb 28 = .ok (.iadd, 1) := by decide +kernel
theorem dX6_feedLimb_29 : decode cX6_feedLimb 29 = .ok (.iload_n 1, 1) := by decide +kernel
theorem dX6_feedLimb_30 : decode cX6_feedLimb 30 = .ok (.iastore, 1) := by decide +kernel
theorem dX6_feedLimb_31 : decode cX6_feedLimb 31 = .ok (.aload_n 0, 1) := by decide +kernel
theorem dX6_feedLimb_32 : decode cX6_feedLimb 32 = .ok (.getfield 13, 3) := by decide +kernel
theorem dX6_feedLimb_35 : decode cX6_feedLimb 35 = .ok (.aload_n 0, 1) := by decide +kernel
theorem dX6_feedLimb_36 : decode cX6_feedLimb 36 = .ok (.getfield 17, 3) := by decide +kernel
theorem dX6_feedLimb_39 : decode cX6_feedLimb 39 = .ok (.aload_n 0, 1) := by decide +kernel
theorem dX6_feedLimb_40 : decode cX6_feedLimb 40 = .ok (.getfield 17, 3) := by decide +kernel
theorem dX6_feedLimb_43 : decode cX6_feedLimb 43 = .ok (.invokestatic 39, 3) := by decide +kernel
theorem dX6_feedLimb_46 : decode cX6_feedLimb 46 = .ok (.bastore, 1) := by decide +kernel
theorem dX6_feedLimb_47 : decode cX6_feedLimb 47 = .ok (.aload_n 0, 1) := by decide +kernel
theorem dX6_feedLimb_48 : decode cX6_feedLimb 48 = .ok (.dup, 1) := by decide +kernel
theorem dX6_feedLimb_49 : decode cX6_feedLimb 49 = .ok (.getfield 47, 3) := by decide +kernel
theorem dX6_feedLimb_52 : decode cX6_feedLimb 52 = .ok (.iconst 1, 1) := by decide +kernel
theorem dX6_feedLimb_53 : decode cX6_feedLimb 53 = .ok (.iadd, 1) := by decide +kernel
theorem dX6_feedLimb_54 : decode cX6_feedLimb 54 = .ok (.putfield 47, 3) := by decide +kernel
theorem dX6_feedLimb_57 : decode cX6_feedLimb 57 = .ok (.aload_n 0, 1) := by decide +kernel
theorem dX6_feedLimb_58 : decode cX6_feedLimb 58 = .ok (.getfield 47, 3) := by decide +kernel
theorem dX6_feedLimb_61 : decode cX6_feedLimb 61 = .ok (.aload_n 0, 1) := by decide +kernel
theorem dX6_feedLimb_62 : decode cX6_feedLimb 62 = .ok (.aload_n 0, 1) := by decide +kernel
theorem dX6_feedLimb_63 : decode cX6_feedLimb 63 = .ok (.getfield 17, 3) := by decide +kernel
theorem dX6_feedLimb_66 : decode cX6_feedLimb 66 = .ok (.invokevirtual 50, 3) := by decide +kernel
theorem dX6_feedLimb_69 : decode cX6_feedLimb 69 = .ok (.if_icmp .ne 7, 3) := by decide +kernel
theorem dX6_feedLimb_72 : decode cX6_feedLimb 72 = .ok (.aload_n 0, 1) := by decide +kernel
theorem dX6_feedLimb_73 : decode cX6_feedLimb 73 = .ok (.invokevirtual 54, 3) := by decide +kernel
theorem dX6_feedLimb_76 : decode cX6_feedLimb 76 = .ok (.iconst 1, 1) := by decide +kernel
theorem dX6_feedLimb_77 : decode cX6_feedLimb 77 = .ok (.ireturn, 1) := by decide +kernel
theorem dX6_stopFeeding_0 : decode cX6_stopFeeding 0 = .ok (.aload_n 0, 1) := by decide +kernel
theorem dX6_stopFeeding_1 : decode cX6_stopFeeding 1 = .ok (.iconst (-1), 1) := by decide +kernel
theorem dX6_stopFeeding_2 : decode cX6_stopFeeding 2 = .ok (.putfield 17, 3) := by decide +kernel
theorem dX6_stopFeeding_5 : decode cX6_stopFeeding 5 = .ok (.aload_n 0, 1) := by decide +kernel
theorem dX6_stopFeeding_6 : decode cX6_stopFeeding 6 = .ok (.iconst 0, 1) := by decide +kernel
theorem dX6_stopFeeding_7 : decode cX6_stopFeeding 7 = .ok (.putfield 47, 3) := by decide +kernel
theorem dX6_stopFeeding_10 : decode cX6_stopFeeding 10 = .ok (.return_, 1) := by decide +kernel
theorem dX6_written_0 : decode cX6_written 0 = .ok (.aload_n 0, 1) := by decide +kernel
theorem dX6_written_1 : decode cX6_written 1 = .ok (.getfield 17, 3) := by decide +kernel
theorem dX6_written_4 : decode cX6_written 4 = .ok (.iload_n 1, 1) := by decide +kernel
theorem dX6_written_5 : decode cX6_written 5 = .ok (.if_icmp .ne 7, 3) := by decide +kernel
theorem dX6_written_8 : decode cX6_written 8 = .ok (.aload_n 0, 1) := by decide +kernel
theorem dX6_written_9 : decode cX6_written 9 = .ok (.invokevirtual 54, 3) := by decide +kernel
theorem dX6_written_12 : decode cX6_written 12 = .ok (.return_, 1) := by decide +kernel
theorem dX6_get_0 : decode cX6_get 0 = .ok (.aload_n 0, 1) := by decide +kernel
theorem dX6_get_1 : decode cX6_get 1 = .ok (.getfield 21, 3) := by decide +kernel
theorem dX6_get_4 : decode cX6_get 4 = .ok (.bipush 10, 2) := by decide +kernel
theorem dX6_get_6 : decode cX6_get 6 = .ok (.iload_n 1, 1) := by decide +kernel
theorem dX6_get_7 : decode cX6_get 7 = .ok (.imul, 1) := by decide +kernel
theorem dX6_get_8 : decode cX6_get 8 = .ok (.iload_n 2, 1) := by decide +kernel
theorem dX6_get_9 : decode cX6_get 9 = .ok (.iadd, 1) := by decide +kernel
theorem dX6_get_10 : decode cX6_get 10 = .ok (.iaload, 1) := by decide +kernel
theorem dX6_get_11 : decode cX6_get 11 = .ok (.ireturn, 1) := by decide +kernel
theorem dX6_set_0 : decode cX6_set 0 = .ok (.aload_n 0, 1) := by decide +kernel
theorem dX6_set_1 : decode cX6_set 1 = .ok (.getfield 21, 3) := by decide +kernel
theorem dX6_set_4 : decode cX6_set 4 = .ok (.bipush 10, 2) := by decide +kernel
theorem dX6_set_6 : decode cX6_set 6 = .ok (.iload_n 1, 1) := by decide +kernel
theorem dX6_set_7 : decode cX6_set 7 = .ok (.imul, 1) := by decide +kernel
theorem dX6_set_8 : decode cX6_set 8 = .ok (.iload_n 2, 1) := by decide +kernel
theorem dX6_set_9 : decode cX6_set 9 = .ok (.iadd, 1) := by decide +kernel
theorem dX6_set_10 : decode cX6_set 10 = .ok (.iload_n 3, 1) := by decide +kernel
theorem dX6_set_11 : decode cX6_set 11 = .ok (.iastore, 1) := by decide +kernel
theorem dX6_set_12 : decode cX6_set 12 = .ok (.return_, 1) := by decide +kernel
theorem dX6_load_0 : decode cX6_load 0 = .ok (.iconst 0, 1) := by decide +kernel
theorem dX6_load_1 : decode cX6_load 1 = .ok (.istore 4, 2) := by decide +kernel
theorem dX6_load_3 : decode cX6_load 3 = .ok (.iload 4, 2) := by decide +kernel
theorem dX6_load_5 : decode cX6_load 5 = .ok (.bipush 10, 2) := by decide +kernel
theorem dX6_load_7 : decode cX6_load 7 = .ok (.if_icmp .ge 43, 3) := by decide +kernel
theorem dX6_load_10 : decode cX6_load 10 = .ok (.aload_n 0, 1) := by decide +kernel
theorem dX6_load_11 : decode cX6_load 11 = .ok (.iload_n 1, 1) := by decide +kernel
theorem dX6_load_12 : decode cX6_load 12 = .ok (.iload 4, 2) := by decide +kernel
theorem dX6_load_14 : decode cX6_load 14 = .ok (.iload 4, 2) := by decide +kernel
theorem dX6_load_16 : decode cX6_load 16 = .ok (.aload_n 0, 1) := by decide +kernel
theorem dX6_load_17 : decode cX6_load 17 = .ok (.getfield 36, 3) := by decide +kernel
theorem dX6_load_20 : decode cX6_load 20 = .ok (.if_icmp .ge 20, 3) := by decide +kernel
theorem dX6_load_23 : decode cX6_load 23 = .ok (.aload_n 0, 1) := by decide +kernel
theorem dX6_load_24 : decode cX6_load 24 = .ok (.getfield 7, 3) := by decide +kernel
theorem dX6_load_27 : decode cX6_load 27 = .ok (.bipush 18, 2) := by decide +kernel
theorem dX6_load_29 : decode cX6_load 29 = .ok (.iload_n 2, 1) := by decide +kernel
theorem dX6_load_30 : decode cX6_load 30 = .ok (.imul, 1) := by decide +kernel
theorem dX6_load_31 : decode cX6_load 31 = .ok (.iload_n 3, 1) := by decide +kernel
theorem dX6_load_32 : decode cX6_load 32 = .ok (.iadd, 1) := by decide +kernel
theorem dX6_load_33 : decode cX6_load 33 = .ok (.iload 4, 2) := by decide +kernel
theorem dX6_load_35 : decode cX6_load 35 = .ok (.iadd, 1) := by decide +kernel
theorem dX6_load_36 : decode cX6_load 36 = .ok (.iaload, 1) := by decide +kernel
theorem dX6_load_37 : decode cX6_load 37 = .ok (.goto 4, 3) := by decide +kernel
theorem dX6_load_40 : decode cX6_load 40 = .ok (.iconst 0, 1) := by decide +kernel
theorem dX6_load_41 : decode cX6_load 41 = .ok (.invokevirtual 57, 3) := by decide +kernel
theorem dX6_load_44 : decode cX6_load 44 = .ok (.iinc 4 1, 3) := by decide +kernel
theorem dX6_load_47 : decode cX6_load 47 = .ok (.goto (-44), 3) := by decide +kernel
theorem dX6_load_50 : decode cX6_load 50 = .ok (.return_, 1) := by decide +kernel
theorem dX6_loadParameters_0 : decode cX6_loadParameters 0 = .ok (.iconst 0, 1) := by decide +kernel
theorem dX6_loadParameters_1 : decode cX6_loadParameters 1 = .ok (.istore_n 1, 1) := by decide +kernel
theorem dX6_loadParameters_2 : decode cX6_loadParameters 2 = .ok (.iload_n 1, 1) := by decide +kernel
theorem dX6_loadParameters_3 : decode cX6_loadParameters 3 = .ok (.iconst 4, 1) := by decide +kernel
theorem dX6_loadParameters_4 : decode cX6_loadParameters 4 = .ok (.if_icmp .ge 16, 3) := by decide +kernel
theorem dX6_loadParameters_7 : decode cX6_loadParameters 7 = .ok (.aload_n 0, 1) := by decide +kernel
theorem dX6_loadParameters_8 : decode cX6_loadParameters 8 = .ok (.iload_n 1, 1) := by decide +kernel
theorem dX6_loadParameters_9 : decode cX6_loadParameters 9 = .ok (.iload_n 1, 1) := by decide +kernel
theorem dX6_loadParameters_10 : decode cX6_loadParameters 10 = .ok (.iconst 0, 1) := by decide +kernel
theorem dX6_loadParameters_11 : decode cX6_loadParameters 11 = .ok (.invokevirtual 61, 3) := by decide +kernel
theorem dX6_loadParameters_14 : decode cX6_loadParameters 14 = .ok (.iinc 1 1, 3) := by decide +kernel
theorem dX6_loadParameters_17 : decode cX6_loadParameters 17 = .ok (.goto (-15), 3) := by decide +kernel
theorem dX6_loadParameters_20 : decode cX6_loadParameters 20 = .ok (.aload_n 0, 1) := by decide +kernel
theorem dX6_loadParameters_21 : decode cX6_loadParameters 21 = .ok (.iconst 4, 1) := by decide +kernel
theorem dX6_loadParameters_22 : decode cX6_loadParameters 22 = .ok (.iconst 1, 1) := by decide +kernel
theorem dX6_loadParameters_23 : decode cX6_loadParameters 23 = .ok (.invokevirtual 64, 3) := by decide +kernel
theorem dX6_loadParameters_26 : decode cX6_loadParameters 26 = .ok (.return_, 1) := by decide +kernel
theorem dX6_small_0 : decode cX6_small 0 = .ok (.iconst 0, 1) := by decide +kernel
theorem dX6_small_1 : decode cX6_small 1 = .ok (.istore_n 3, 1) := by decide +kernel
theorem dX6_small_2 : decode cX6_small 2 = .ok (.iload_n 3, 1) := by decide +kernel
theorem dX6_small_3 : decode cX6_small 3 = .ok (.bipush 10, 2) := by decide +kernel
theorem dX6_small_5 : decode cX6_small 5 = .ok (.if_icmp .ge 24, 3) := by decide +kernel
theorem dX6_small_8 : decode cX6_small 8 = .ok (.aload_n 0, 1) := by decide +kernel
theorem dX6_small_9 : decode cX6_small 9 = .ok (.iload_n 1, 1) := by decide +kernel
theorem dX6_small_10 : decode cX6_small 10 = .ok (.iload_n 3, 1) := by decide +kernel
theorem dX6_small_11 : decode cX6_small 11 = .ok (.iload_n 3, 1) := by decide +kernel
theorem dX6_small_12 : decode cX6_small 12 = .ok (.ifCond .ne 7, 3) := by decide +kernel
theorem dX6_small_15 : decode cX6_small 15 = .ok (.iload_n 2, 1) := by decide +kernel
theorem dX6_small_16 : decode cX6_small 16 = .ok (.goto 4, 3) := by decide +kernel
theorem dX6_small_19 : decode cX6_small 19 = .ok (.iconst 0, 1) := by decide +kernel
theorem dX6_small_20 : decode cX6_small 20 = .ok (.invokevirtual 57, 3) := by decide +kernel
theorem dX6_small_23 : decode cX6_small 23 = .ok (.iinc 3 1, 3) := by decide +kernel
theorem dX6_small_26 : decode cX6_small 26 = .ok (.goto (-24), 3) := by decide +kernel
theorem dX6_small_29 : decode cX6_small 29 = .ok (.return_, 1) := by decide +kernel
theorem dX6_copy_0 : decode cX6_copy 0 = .ok (.iconst 0, 1) := by decide +kernel
theorem dX6_copy_1 : decode cX6_copy 1 = .ok (.istore_n 3, 1) := by decide +kernel
theorem dX6_copy_2 : decode cX6_copy 2 = .ok (.iload_n 3, 1) := by decide +kernel
theorem dX6_copy_3 : decode cX6_copy 3 = .ok (.bipush 10, 2) := by decide +kernel
theorem dX6_copy_5 : decode cX6_copy 5 = .ok (.if_icmp .ge 21, 3) := by decide +kernel
theorem dX6_copy_8 : decode cX6_copy 8 = .ok (.aload_n 0, 1) := by decide +kernel
theorem dX6_copy_9 : decode cX6_copy 9 = .ok (.iload_n 1, 1) := by decide +kernel
theorem dX6_copy_10 : decode cX6_copy 10 = .ok (.iload_n 3, 1) := by decide +kernel
theorem dX6_copy_11 : decode cX6_copy 11 = .ok (.aload_n 0, 1) := by decide +kernel
theorem dX6_copy_12 : decode cX6_copy 12 = .ok (.iload_n 2, 1) := by decide +kernel
theorem dX6_copy_13 : decode cX6_copy 13 = .ok (.iload_n 3, 1) := by decide +kernel
theorem dX6_copy_14 : decode cX6_copy 14 = .ok (.invokevirtual 68, 3) := by decide +kernel
theorem dX6_copy_17 : decode cX6_copy 17 = .ok (.invokevirtual 57, 3) := by decide +kernel
theorem dX6_copy_20 : decode cX6_copy 20 = .ok (.iinc 3 1, 3) := by decide +kernel
theorem dX6_copy_23 : decode cX6_copy 23 = .ok (.goto (-21), 3) := by decide +kernel
theorem dX6_copy_26 : decode cX6_copy 26 = .ok (.return_, 1) := by decide +kernel
theorem dX6_compare_0 : decode cX6_compare 0 = .ok (.bipush 9, 2) := by decide +kernel
theorem dX6_compare_2 : decode cX6_compare 2 = .ok (.istore_n 3, 1) := by decide +kernel
theorem dX6_compare_3 : decode cX6_compare 3 = .ok (.iload_n 3, 1) := by decide +kernel
theorem dX6_compare_4 : decode cX6_compare 4 = .ok (.ifCond .lt 45, 3) := by decide +kernel
theorem dX6_compare_7 : decode cX6_compare 7 = .ok (.aload_n 0, 1) := by decide +kernel
theorem dX6_compare_8 : decode cX6_compare 8 = .ok (.iload_n 1, 1) := by decide +kernel
theorem dX6_compare_9 : decode cX6_compare 9 = .ok (.iload_n 3, 1) := by decide +kernel
theorem dX6_compare_10 : decode cX6_compare 10 = .ok (.invokevirtual 68, 3) := by decide +kernel
theorem dX6_compare_13 : decode cX6_compare 13 = .ok (.aload_n 0, 1) := by decide +kernel
theorem dX6_compare_14 : decode cX6_compare 14 = .ok (.iload_n 2, 1) := by decide +kernel
theorem dX6_compare_15 : decode cX6_compare 15 = .ok (.iload_n 3, 1) := by decide +kernel
theorem dX6_compare_16 : decode cX6_compare 16 = .ok (.invokevirtual 68, 3) := by decide +kernel
theorem dX6_compare_19 : decode cX6_compare 19 = .ok (.if_icmp .eq 24, 3) := by decide +kernel
theorem dX6_compare_22 : decode cX6_compare 22 = .ok (.aload_n 0, 1) := by decide +kernel
theorem dX6_compare_23 : decode cX6_compare 23 = .ok (.iload_n 1, 1) := by decide +kernel
theorem dX6_compare_24 : decode cX6_compare 24 = .ok (.iload_n 3, 1) := by decide +kernel
theorem dX6_compare_25 : decode cX6_compare 25 = .ok (.invokevirtual 68, 3) := by decide +kernel
theorem dX6_compare_28 : decode cX6_compare 28 = .ok (.aload_n 0, 1) := by decide +kernel
theorem dX6_compare_29 : decode cX6_compare 29 = .ok (.iload_n 2, 1) := by decide +kernel
theorem dX6_compare_30 : decode cX6_compare 30 = .ok (.iload_n 3, 1) := by decide +kernel
theorem dX6_compare_31 : decode cX6_compare 31 = .ok (.invokevirtual 68, 3) := by decide +kernel
theorem dX6_compare_34 : decode cX6_compare 34 = .ok (.if_icmp .ge 7, 3) := by decide +kernel
theorem dX6_compare_37 : decode cX6_compare 37 = .ok (.iconst (-1), 1) := by decide +kernel
theorem dX6_compare_38 : decode cX6_compare 38 = .ok (.goto 4, 3) := by decide +kernel
theorem dX6_compare_41 : decode cX6_compare 41 = .ok (.iconst 1, 1) := by decide +kernel
theorem dX6_compare_42 : decode cX6_compare 42 = .ok (.ireturn, 1) := by decide +kernel
theorem dX6_compare_43 : decode cX6_compare 43 = .ok (.iinc 3 (-1), 3) := by decide +kernel
theorem dX6_compare_46 : decode cX6_compare 46 = .ok (.goto (-43), 3) := by decide +kernel
theorem dX6_compare_49 : decode cX6_compare 49 = .ok (.iconst 0, 1) := by decide +kernel
theorem dX6_compare_50 : decode cX6_compare 50 = .ok (.ireturn, 1) := by decide +kernel
theorem dX6_isZero_0 : decode cX6_isZero 0 = .ok (.iconst 1, 1) := by decide +kernel
theorem dX6_isZero_1 : decode cX6_isZero 1 = .ok (.istore_n 2, 1) := by decide +kernel
theorem dX6_isZero_2 : decode cX6_isZero 2 = .ok (.iconst 0, 1) := by decide +kernel
theorem dX6_isZero_3 : decode cX6_isZero 3 = .ok (.istore_n 3, 1) := by decide +kernel
theorem dX6_isZero_4 : decode cX6_isZero 4 = .ok (.iload_n 3, 1) := by decide +kernel
theorem dX6_isZero_5 : decode cX6_isZero 5 = .ok (.bipush 10, 2) := by decide +kernel
theorem dX6_isZero_7 : decode cX6_isZero 7 = .ok (.if_icmp .ge 28, 3) := by decide +kernel
theorem dX6_isZero_10 : decode cX6_isZero 10 = .ok (.iload_n 2, 1) := by decide +kernel
theorem dX6_isZero_11 : decode cX6_isZero 11 = .ok (.ifCond .eq 16, 3) := by decide +kernel
theorem dX6_isZero_14 : decode cX6_isZero 14 = .ok (.aload_n 0, 1) := by decide +kernel
theorem dX6_isZero_15 : decode cX6_isZero 15 = .ok (.iload_n 1, 1) := by decide +kernel
theorem dX6_isZero_16 : decode cX6_isZero 16 = .ok (.iload_n 3, 1) := by decide +kernel
theorem dX6_isZero_17 : decode cX6_isZero 17 = .ok (.invokevirtual 68, 3) := by decide +kernel
theorem dX6_isZero_20 : decode cX6_isZero 20 = .ok (.ifCond .ne 7, 3) := by decide +kernel
theorem dX6_isZero_23 : decode cX6_isZero 23 = .ok (.iconst 1, 1) := by decide +kernel
theorem dX6_isZero_24 : decode cX6_isZero 24 = .ok (.goto 4, 3) := by decide +kernel
theorem dX6_isZero_27 : decode cX6_isZero 27 = .ok (.iconst 0, 1) := by decide +kernel
theorem dX6_isZero_28 : decode cX6_isZero 28 = .ok (.istore_n 2, 1) := by decide +kernel
theorem dX6_isZero_29 : decode cX6_isZero 29 = .ok (.iinc 3 1, 3) := by decide +kernel
theorem dX6_isZero_32 : decode cX6_isZero 32 = .ok (.goto (-28), 3) := by decide +kernel
theorem dX6_isZero_35 : decode cX6_isZero 35 = .ok (.iload_n 2, 1) := by decide +kernel
theorem dX6_isZero_36 : decode cX6_isZero 36 = .ok (.ireturn, 1) := by decide +kernel
theorem dX6_isOne_0 : decode cX6_isOne 0 = .ok (.aload_n 0, 1) := by decide +kernel
theorem dX6_isOne_1 : decode cX6_isOne 1 = .ok (.iload_n 1, 1) := by decide +kernel
theorem dX6_isOne_2 : decode cX6_isOne 2 = .ok (.iconst 4, 1) := by decide +kernel
theorem dX6_isOne_3 : decode cX6_isOne 3 = .ok (.invokevirtual 72, 3) := by decide +kernel
theorem dX6_isOne_6 : decode cX6_isOne 6 = .ok (.ifCond .ne 7, 3) := by decide +kernel
theorem dX6_isOne_9 : decode cX6_isOne 9 = .ok (.iconst 1, 1) := by decide +kernel
theorem dX6_isOne_10 : decode cX6_isOne 10 = .ok (.goto 4, 3) := by decide +kernel
theorem dX6_isOne_13 : decode cX6_isOne 13 = .ok (.iconst 0, 1) := by decide +kernel
theorem dX6_isOne_14 : decode cX6_isOne 14 = .ok (.ireturn, 1) := by decide +kernel
theorem dX6_plus_0 : decode cX6_plus 0 = .ok (.lconst 0, 1) := by decide +kernel
theorem dX6_plus_1 : decode cX6_plus 1 = .ok (.lstore 4, 2) := by decide +kernel
theorem dX6_plus_3 : decode cX6_plus 3 = .ok (.iconst 0, 1) := by decide +kernel
theorem dX6_plus_4 : decode cX6_plus 4 = .ok (.istore 6, 2) := by decide +kernel
theorem dX6_plus_6 : decode cX6_plus 6 = .ok (.iload 6, 2) := by decide +kernel
theorem dX6_plus_8 : decode cX6_plus 8 = .ok (.bipush 10, 2) := by decide +kernel
theorem dX6_plus_10 : decode cX6_plus 10 = .ok (.if_icmp .ge 52, 3) := by decide +kernel
theorem dX6_plus_13 : decode cX6_plus 13 = .ok (.aload_n 0, 1) := by decide +kernel
theorem dX6_plus_14 : decode cX6_plus 14 = .ok (.iload_n 2, 1) := by decide +kernel
theorem dX6_plus_15 : decode cX6_plus 15 = .ok (.iload 6, 2) := by decide +kernel
theorem dX6_plus_17 : decode cX6_plus 17 = .ok (.invokevirtual 68, 3) := by decide +kernel
theorem dX6_plus_20 : decode cX6_plus 20 = .ok (.i2l, 1) := by decide +kernel
theorem dX6_plus_21 : decode cX6_plus 21 = .ok (.aload_n 0, 1) := by decide +kernel
theorem dX6_plus_22 : decode cX6_plus 22 = .ok (.iload_n 3, 1) := by decide +kernel
theorem dX6_plus_23 : decode cX6_plus 23 = .ok (.iload 6, 2) := by decide +kernel
theorem dX6_plus_25 : decode cX6_plus 25 = .ok (.invokevirtual 68, 3) := by decide +kernel
theorem dX6_plus_28 : decode cX6_plus 28 = .ok (.i2l, 1) := by decide +kernel
theorem dX6_plus_29 : decode cX6_plus 29 = .ok (.ladd, 1) := by decide +kernel
theorem dX6_plus_30 : decode cX6_plus 30 = .ok (.lload 4, 2) := by decide +kernel
theorem dX6_plus_32 : decode cX6_plus 32 = .ok (.ladd, 1) := by decide +kernel
theorem dX6_plus_33 : decode cX6_plus 33 = .ok (.lstore 7, 2) := by decide +kernel
theorem dX6_plus_35 : decode cX6_plus 35 = .ok (.aload_n 0, 1) := by decide +kernel
theorem dX6_plus_36 : decode cX6_plus 36 = .ok (.iload_n 1, 1) := by decide +kernel
theorem dX6_plus_37 : decode cX6_plus 37 = .ok (.iload 6, 2) := by decide +kernel
theorem dX6_plus_39 : decode cX6_plus 39 = .ok (.lload 7, 2) := by decide +kernel
theorem dX6_plus_41 : decode cX6_plus 41 = .ok (.ldc2_w 75, 3) := by decide +kernel
theorem dX6_plus_44 : decode cX6_plus 44 = .ok (.land, 1) := by decide +kernel
theorem dX6_plus_45 : decode cX6_plus 45 = .ok (.l2i, 1) := by decide +kernel
theorem dX6_plus_46 : decode cX6_plus 46 = .ok (.invokevirtual 57, 3) := by decide +kernel
theorem dX6_plus_49 : decode cX6_plus 49 = .ok (.lload 7, 2) := by decide +kernel
theorem dX6_plus_51 : decode cX6_plus 51 = .ok (.bipush 31, 2) := by decide +kernel
theorem dX6_plus_53 : decode cX6_plus 53 = .ok (.lshr, 1) := by decide +kernel
theorem dX6_plus_54 : decode cX6_plus 54 = .ok (.lstore 4, 2) := by decide +kernel
theorem dX6_plus_56 : decode cX6_plus 56 = .ok (.iinc 6 1, 3) := by decide +kernel
theorem dX6_plus_59 : decode cX6_plus 59 = .ok (.goto (-53), 3) := by decide +kernel
theorem dX6_plus_62 : decode cX6_plus 62 = .ok (.return_, 1) := by decide +kernel
theorem dX6_minus_0 : decode cX6_minus 0 = .ok (.lconst 0, 1) := by decide +kernel
theorem dX6_minus_1 : decode cX6_minus 1 = .ok (.lstore 4, 2) := by decide +kernel
theorem dX6_minus_3 : decode cX6_minus 3 = .ok (.iconst 0, 1) := by decide +kernel
theorem dX6_minus_4 : decode cX6_minus 4 = .ok (.istore 6, 2) := by decide +kernel
theorem dX6_minus_6 : decode cX6_minus 6 = .ok (.iload 6, 2) := by decide +kernel
theorem dX6_minus_8 : decode cX6_minus 8 = .ok (.bipush 10, 2) := by decide +kernel
theorem dX6_minus_10 : decode cX6_minus 10 = .ok (.if_icmp .ge 71, 3) := by decide +kernel
theorem dX6_minus_13 : decode cX6_minus 13 = .ok (.aload_n 0, 1) := by decide +kernel
theorem dX6_minus_14 : decode cX6_minus 14 = .ok (.iload_n 2, 1) := by decide +kernel
theorem dX6_minus_15 : decode cX6_minus 15 = .ok (.iload 6, 2) := by decide +kernel
theorem dX6_minus_17 : decode cX6_minus 17 = .ok (.invokevirtual 68, 3) := by decide +kernel
theorem dX6_minus_20 : decode cX6_minus 20 = .ok (.i2l, 1) := by decide +kernel
theorem dX6_minus_21 : decode cX6_minus 21 = .ok (.aload_n 0, 1) := by decide +kernel
theorem dX6_minus_22 : decode cX6_minus 22 = .ok (.iload_n 3, 1) := by decide +kernel
theorem dX6_minus_23 : decode cX6_minus 23 = .ok (.iload 6, 2) := by decide +kernel
theorem dX6_minus_25 : decode cX6_minus 25 = .ok (.invokevirtual 68, 3) := by decide +kernel
theorem dX6_minus_28 : decode cX6_minus 28 = .ok (.i2l, 1) := by decide +kernel
theorem dX6_minus_29 : decode cX6_minus 29 = .ok (.lsub, 1) := by decide +kernel
theorem dX6_minus_30 : decode cX6_minus 30 = .ok (.lload 4, 2) := by decide +kernel
theorem dX6_minus_32 : decode cX6_minus 32 = .ok (.lsub, 1) := by decide +kernel
theorem dX6_minus_33 : decode cX6_minus 33 = .ok (.lstore 7, 2) := by decide +kernel
theorem dX6_minus_35 : decode cX6_minus 35 = .ok (.lload 7, 2) := by decide +kernel
theorem dX6_minus_37 : decode cX6_minus 37 = .ok (.lconst 0, 1) := by decide +kernel
theorem dX6_minus_38 : decode cX6_minus 38 = .ok (.lcmp, 1) := by decide +kernel
theorem dX6_minus_39 : decode cX6_minus 39 = .ok (.ifCond .ge 7, 3) := by decide +kernel
theorem dX6_minus_42 : decode cX6_minus 42 = .ok (.lconst 1, 1) := by decide +kernel
theorem dX6_minus_43 : decode cX6_minus 43 = .ok (.goto 4, 3) := by decide +kernel
theorem dX6_minus_46 : decode cX6_minus 46 = .ok (.lconst 0, 1) := by decide +kernel
theorem dX6_minus_47 : decode cX6_minus 47 = .ok (.lstore 4, 2) := by decide +kernel
theorem dX6_minus_49 : decode cX6_minus 49 = .ok (.aload_n 0, 1) := by decide +kernel
theorem dX6_minus_50 : decode cX6_minus 50 = .ok (.iload_n 1, 1) := by decide +kernel
theorem dX6_minus_51 : decode cX6_minus 51 = .ok (.iload 6, 2) := by decide +kernel
theorem dX6_minus_53 : decode cX6_minus 53 = .ok (.lload 7, 2) := by decide +kernel
theorem dX6_minus_55 : decode cX6_minus 55 = .ok (.lconst 0, 1) := by decide +kernel
theorem dX6_minus_56 : decode cX6_minus 56 = .ok (.lcmp, 1) := by decide +kernel
theorem dX6_minus_57 : decode cX6_minus 57 = .ok (.ifCond .ge 12, 3) := by decide +kernel
theorem dX6_minus_60 : decode cX6_minus 60 = .ok (.lload 7, 2) := by decide +kernel
theorem dX6_minus_62 : decode cX6_minus 62 = .ok (.ldc2_w 77, 3) := by decide +kernel
theorem dX6_minus_65 : decode cX6_minus 65 = .ok (.ladd, 1) := by decide +kernel
theorem dX6_minus_66 : decode cX6_minus 66 = .ok (.goto 5, 3) := by decide +kernel
theorem dX6_minus_69 : decode cX6_minus 69 = .ok (.lload 7, 2) := by decide +kernel
theorem dX6_minus_71 : decode cX6_minus 71 = .ok (.l2i, 1) := by decide +kernel
theorem dX6_minus_72 : decode cX6_minus 72 = .ok (.invokevirtual 57, 3) := by decide +kernel
theorem dX6_minus_75 : decode cX6_minus 75 = .ok (.iinc 6 1, 3) := by decide +kernel
theorem dX6_minus_78 : decode cX6_minus 78 = .ok (.goto (-72), 3) := by decide +kernel
theorem dX6_minus_81 : decode cX6_minus 81 = .ok (.return_, 1) := by decide +kernel
theorem dX6_halve_0 : decode cX6_halve 0 = .ok (.iconst 0, 1) := by decide +kernel
theorem dX6_halve_1 : decode cX6_halve 1 = .ok (.istore_n 2, 1) := by decide +kernel
theorem dX6_halve_2 : decode cX6_halve 2 = .ok (.iload_n 2, 1) := by decide +kernel
theorem dX6_halve_3 : decode cX6_halve 3 = .ok (.bipush 10, 2) := by decide +kernel
theorem dX6_halve_5 : decode cX6_halve 5 = .ok (.if_icmp .ge 49, 3) := by decide +kernel
theorem dX6_halve_8 : decode cX6_halve 8 = .ok (.iload_n 2, 1) := by decide +kernel
theorem dX6_halve_9 : decode cX6_halve 9 = .ok (.bipush 9, 2) := by decide +kernel
theorem dX6_halve_11 : decode cX6_halve 11 = .ok (.if_icmp .ge 16, 3) := by decide +kernel
theorem dX6_halve_14 : decode cX6_halve 14 = .ok (.aload_n 0, 1) := by decide +kernel
theorem dX6_halve_15 : decode cX6_halve 15 = .ok (.iload_n 1, 1) := by decide +kernel
theorem dX6_halve_16 : decode cX6_halve 16 = .ok (.iload_n 2, 1) := by decide +kernel
theorem dX6_halve_17 : decode cX6_halve 17 = .ok (.iconst 1, 1) := by decide +kernel
theorem dX6_halve_18 : decode cX6_halve 18 = .ok (.iadd, 1) := by decide +kernel
theorem dX6_halve_19 : decode cX6_halve 19 = .ok (.invokevirtual 68, 3) := by decide +kernel
theorem dX6_halve_22 : decode cX6_halve 22 = .ok (.iconst 1, 1) := by decide +kernel
theorem dX6_halve_23 : decode cX6_halve 23 = .ok (.iand, 1) := by decide +kernel
theorem dX6_halve_24 : decode cX6_halve 24 = .ok (.goto 4, 3) := by decide +kernel
theorem dX6_halve_27 : decode cX6_halve 27 = .ok (.iconst 0, 1) := by decide +kernel
theorem dX6_halve_28 : decode cX6_halve 28 = .ok (.istore_n 3, 1) := by decide +kernel
theorem dX6_halve_29 : decode cX6_halve 29 = .ok (.aload_n 0, 1) := by decide +kernel
theorem dX6_halve_30 : decode cX6_halve 30 = .ok (.iload_n 1, 1) := by decide +kernel
theorem dX6_halve_31 : decode cX6_halve 31 = .ok (.iload_n 2, 1) := by decide +kernel
theorem dX6_halve_32 : decode cX6_halve 32 = .ok (.aload_n 0, 1) := by decide +kernel
theorem dX6_halve_33 : decode cX6_halve 33 = .ok (.iload_n 1, 1) := by decide +kernel
theorem dX6_halve_34 : decode cX6_halve 34 = .ok (.iload_n 2, 1) := by decide +kernel
theorem dX6_halve_35 : decode cX6_halve 35 = .ok (.invokevirtual 68, 3) := by decide +kernel
theorem dX6_halve_38 : decode cX6_halve 38 = .ok (.iconst 1, 1) := by decide +kernel
theorem dX6_halve_39 : decode cX6_halve 39 = .ok (.ishr, 1) := by decide +kernel
theorem dX6_halve_40 : decode cX6_halve 40 = .ok (.iload_n 3, 1) := by decide +kernel
theorem dX6_halve_41 : decode cX6_halve 41 = .ok (.bipush 30, 2) := by decide +kernel
theorem dX6_halve_43 : decode cX6_halve 43 = .ok (.ishl, 1) := by decide +kernel
theorem dX6_halve_44 : decode cX6_halve 44 = .ok (.ior, 1) := by decide +kernel
theorem dX6_halve_45 : decode cX6_halve 45 = .ok (.invokevirtual 57, 3) := by decide +kernel
theorem dX6_halve_48 : decode cX6_halve 48 = .ok (.iinc 2 1, 3) := by decide +kernel
theorem dX6_halve_51 : decode cX6_halve 51 = .ok (.goto (-49), 3) := by decide +kernel
theorem dX6_halve_54 : decode cX6_halve 54 = .ok (.return_, 1) := by decide +kernel
theorem dX6_isOdd_0 : decode cX6_isOdd 0 = .ok (.aload_n 0, 1) := by decide +kernel
theorem dX6_isOdd_1 : decode cX6_isOdd 1 = .ok (.iload_n 1, 1) := by decide +kernel
theorem dX6_isOdd_2 : decode cX6_isOdd 2 = .ok (.iconst 0, 1) := by decide +kernel
theorem dX6_isOdd_3 : decode cX6_isOdd 3 = .ok (.invokevirtual 68, 3) := by decide +kernel
theorem dX6_isOdd_6 : decode cX6_isOdd 6 = .ok (.iconst 1, 1) := by decide +kernel
theorem dX6_isOdd_7 : decode cX6_isOdd 7 = .ok (.iand, 1) := by decide +kernel
theorem dX6_isOdd_8 : decode cX6_isOdd 8 = .ok (.iconst 1, 1) := by decide +kernel
theorem dX6_isOdd_9 : decode cX6_isOdd 9 = .ok (.if_icmp .ne 7, 3) := by decide +kernel
theorem dX6_isOdd_12 : decode cX6_isOdd 12 = .ok (.iconst 1, 1) := by decide +kernel
theorem dX6_isOdd_13 : decode cX6_isOdd 13 = .ok (.goto 4, 3) := by decide +kernel
theorem dX6_isOdd_16 : decode cX6_isOdd 16 = .ok (.iconst 0, 1) := by decide +kernel
theorem dX6_isOdd_17 : decode cX6_isOdd 17 = .ok (.ireturn, 1) := by decide +kernel
theorem dX6_length_0 : decode cX6_length 0 = .ok (.bipush 10, 2) := by decide +kernel
theorem dX6_length_2 : decode cX6_length 2 = .ok (.istore_n 2, 1) := by decide +kernel
theorem dX6_length_3 : decode cX6_length 3 = .ok (.iload_n 2, 1) := by decide +kernel
theorem dX6_length_4 : decode cX6_length 4 = .ok (.ifCond .le 20, 3) := by decide +kernel
theorem dX6_length_7 : decode cX6_length 7 = .ok (.aload_n 0, 1) := by decide +kernel
theorem dX6_length_8 : decode cX6_length 8 = .ok (.iload_n 1, 1) := by decide +kernel
theorem dX6_length_9 : decode cX6_length 9 = .ok (.iload_n 2, 1) := by decide +kernel
theorem dX6_length_10 : decode cX6_length 10 = .ok (.iconst 1, 1) := by decide +kernel
theorem dX6_length_11 : decode cX6_length 11 = .ok (.isub, 1) := by decide +kernel
theorem dX6_length_12 : decode cX6_length 12 = .ok (.invokevirtual 68, 3) := by decide +kernel
theorem dX6_length_15 : decode cX6_length 15 = .ok (.ifCond .ne 9, 3) := by decide +kernel
theorem dX6_length_18 : decode cX6_length 18 = .ok (.iinc 2 (-1), 3) := by decide +kernel
theorem dX6_length_21 : decode cX6_length 21 = .ok (.goto (-18), 3) := by decide +kernel
theorem dX6_length_24 : decode cX6_length 24 = .ok (.iload_n 2, 1) := by decide +kernel
theorem dX6_length_25 : decode cX6_length 25 = .ok (.ireturn, 1) := by decide +kernel
theorem dX6_toU_0 : decode cX6_toU 0 = .ok (.iconst 0, 1) := by decide +kernel
theorem dX6_toU_1 : decode cX6_toU 1 = .ok (.istore_n 2, 1) := by decide +kernel
theorem dX6_toU_2 : decode cX6_toU 2 = .ok (.iload_n 2, 1) := by decide +kernel
theorem dX6_toU_3 : decode cX6_toU 3 = .ok (.bipush 24, 2) := by decide +kernel
theorem dX6_toU_5 : decode cX6_toU 5 = .ok (.if_icmp .ge 31, 3) := by decide +kernel
theorem dX6_toU_8 : decode cX6_toU 8 = .ok (.aload_n 0, 1) := by decide +kernel
theorem dX6_toU_9 : decode cX6_toU 9 = .ok (.getfield 27, 3) := by decide +kernel
theorem dX6_toU_12 : decode cX6_toU 12 = .ok (.iload_n 2, 1) := by decide +kernel
theorem dX6_toU_13 : decode cX6_toU 13 = .ok (.iload_n 2, 1) := by decide +kernel
theorem dX6_toU_14 : decode cX6_toU 14 = .ok (.bipush 10, 2) := by decide +kernel
theorem dX6_toU_16 : decode cX6_toU 16 = .ok (.if_icmp .ge 12, 3) := by decide +kernel
theorem dX6_toU_19 : decode cX6_toU 19 = .ok (.aload_n 0, 1) := by decide +kernel
theorem dX6_toU_20 : decode cX6_toU 20 = .ok (.iload_n 1, 1) := by decide +kernel
theorem dX6_toU_21 : decode cX6_toU 21 = .ok (.iload_n 2, 1) := by decide +kernel
theorem dX6_toU_22 : decode cX6_toU 22 = .ok (.invokevirtual 68, 3) := by decide +kernel
theorem dX6_toU_25 : decode cX6_toU 25 = .ok (.goto 4, 3) := by decide +kernel
theorem dX6_toU_28 : decode cX6_toU 28 = .ok (.iconst 0, 1) := by decide +kernel
theorem dX6_toU_29 : decode cX6_toU 29 = .ok (.iastore, 1) := by decide +kernel
theorem dX6_toU_30 : decode cX6_toU 30 = .ok (.iinc 2 1, 3) := by decide +kernel
theorem dX6_toU_33 : decode cX6_toU 33 = .ok (.goto (-31), 3) := by decide +kernel
theorem dX6_toU_36 : decode cX6_toU 36 = .ok (.aload_n 0, 1) := by decide +kernel
theorem dX6_toU_37 : decode cX6_toU 37 = .ok (.bipush 10, 2) := by decide +kernel
theorem dX6_toU_39 : decode cX6_toU 39 = .ok (.putfield 79, 3) := by decide +kernel
theorem dX6_toU_42 : decode cX6_toU 42 = .ok (.return_, 1) := by decide +kernel
theorem dX6_productToU_0 : decode cX6_productToU 0 = .ok (.iconst 0, 1) := by decide +kernel
theorem dX6_productToU_1 : decode cX6_productToU 1 = .ok (.istore_n 3, 1) := by decide +kernel
theorem dX6_productToU_2 : decode cX6_productToU 2 = .ok (.iload_n 3, 1) := by decide +kernel
theorem dX6_productToU_3 : decode cX6_productToU 3 = .ok (.bipush 24, 2) := by decide +kernel
theorem dX6_productToU_5 : decode cX6_productToU 5 = .ok (.if_icmp .ge 16, 3) := by decide +kernel
theorem dX6_productToU_8 : decode cX6_productToU 8 = .ok (.aload_n 0, 1) := by decide +kernel
theorem dX6_productToU_9 : decode cX6_productToU 9 = .ok (.getfield 27, 3) := by decide +kernel
theorem dX6_productToU_12 : decode cX6_productToU 12 = .ok (.iload_n 3, 1) := by decide +kernel
theorem dX6_productToU_13 : decode cX6_productToU 13 = .ok (.iconst 0, 1) := by decide +kernel
theorem dX6_productToU_14 : decode cX6_productToU 14 = .ok (.iastore, 1) := by decide +kernel
theorem dX6_productToU_15 : decode cX6_productToU 15 = .ok (.iinc 3 1, 3) := by decide +kernel
theorem dX6_productToU_18 : decode cX6_productToU 18 = .ok (.goto (-16), 3) := by decide +kernel
theorem dX6_productToU_21 : decode cX6_productToU 21 = .ok (.iconst 0, 1) := by decide +kernel
theorem dX6_productToU_22 : decode cX6_productToU 22 = .ok (.istore_n 3, 1) := by decide +kernel
theorem dX6_productToU_23 : decode cX6_productToU 23 = .ok (.iload_n 3, 1) := by decide +kernel
theorem dX6_productToU_24 : decode cX6_productToU 24 = .ok (.bipush 10, 2) := by decide +kernel
theorem dX6_productToU_26 : decode cX6_productToU 26 = .ok (.if_icmp .ge 95, 3) := by decide +kernel
theorem dX6_productToU_29 : decode cX6_productToU 29 = .ok (.lconst 0, 1) := by decide +kernel
theorem dX6_productToU_30 : decode cX6_productToU 30 = .ok (.lstore 4, 2) := by decide +kernel
theorem dX6_productToU_32 : decode cX6_productToU 32 = .ok (.iconst 0, 1) := by decide +kernel
theorem dX6_productToU_33 : decode cX6_productToU 33 = .ok (.istore 6, 2) := by decide +kernel
theorem dX6_productToU_35 : decode cX6_productToU 35 = .ok (.iload 6, 2) := by decide +kernel
theorem dX6_productToU_37 : decode cX6_productToU 37 = .ok (.bipush 10, 2) := by decide +kernel
theorem dX6_productToU_39 : decode cX6_productToU 39 = .ok (.if_icmp .ge 64, 3) := by decide +kernel
theorem dX6_productToU_42 : decode cX6_productToU 42 = .ok (.aload_n 0, 1) := by decide +kernel
theorem dX6_productToU_43 : decode cX6_productToU 43 = .ok (.iload_n 1, 1) := by decide +kernel
theorem dX6_productToU_44 : decode cX6_productToU 44 = .ok (.iload_n 3, 1) := by decide +kernel
theorem dX6_productToU_45 : decode cX6_productToU 45 = .ok (.invokevirtual 68, 3) := by decide +kernel
theorem dX6_productToU_48 : decode cX6_productToU 48 = .ok (.i2l, 1) := by decide +kernel
theorem dX6_productToU_49 : decode cX6_productToU 49 = .ok (.aload_n 0, 1) := by decide +kernel
theorem dX6_productToU_50 : decode cX6_productToU 50 = .ok (.iload_n 2, 1) := by decide +kernel
theorem dX6_productToU_51 : decode cX6_productToU 51 = .ok (.iload 6, 2) := by decide +kernel
theorem dX6_productToU_53 : decode cX6_productToU 53 = .ok (.invokevirtual 68, 3) := by decide +kernel
theorem dX6_productToU_56 : decode cX6_productToU 56 = .ok (.i2l, 1) := by decide +kernel
theorem dX6_productToU_57 : decode cX6_productToU 57 = .ok (.lmul, 1) := by decide +kernel
theorem dX6_productToU_58 : decode cX6_productToU 58 = .ok (.aload_n 0, 1) := by decide +kernel
theorem dX6_productToU_59 : decode cX6_productToU 59 = .ok (.getfield 27, 3) := by decide +kernel
theorem dX6_productToU_62 : decode cX6_productToU 62 = .ok (.iload_n 3, 1) := by decide +kernel
theorem dX6_productToU_63 : decode cX6_productToU 63 = .ok (.iload 6, 2) := by decide +kernel
theorem dX6_productToU_65 : decode cX6_productToU 65 = .ok (.iadd, 1) := by decide +kernel
theorem dX6_productToU_66 : decode cX6_productToU 66 = .ok (.iaload, 1) := by decide +kernel
theorem dX6_productToU_67 : decode cX6_productToU 67 = .ok (.i2l, 1) := by decide +kernel
theorem dX6_productToU_68 : decode cX6_productToU 68 = .ok (.ladd, 1) := by decide +kernel
theorem dX6_productToU_69 : decode cX6_productToU 69 = .ok (.lload 4, 2) := by decide +kernel
theorem dX6_productToU_71 : decode cX6_productToU 71 = .ok (.ladd, 1) := by decide +kernel
theorem dX6_productToU_72 : decode cX6_productToU 72 = .ok (.lstore 7, 2) := by decide +kernel
theorem dX6_productToU_74 : decode cX6_productToU 74 = .ok (.aload_n 0, 1) := by decide +kernel
theorem dX6_productToU_75 : decode cX6_productToU 75 = .ok (.getfield 27, 3) := by decide +kernel
theorem dX6_productToU_78 : decode cX6_productToU 78 = .ok (.iload_n 3, 1) := by decide +kernel
theorem dX6_productToU_79 : decode cX6_productToU 79 = .ok (.iload 6, 2) := by decide +kernel
theorem dX6_productToU_81 : decode cX6_productToU 81 = .ok (.iadd, 1) := by decide +kernel
theorem dX6_productToU_82 : decode cX6_productToU 82 = .ok (.lload 7, 2) := by decide +kernel
theorem dX6_productToU_84 : decode cX6_productToU 84 = .ok (.ldc2_w 75, 3) := by decide +kernel
theorem dX6_productToU_87 : decode cX6_productToU 87 = .ok (.land, 1) := by decide +kernel
theorem dX6_productToU_88 : decode cX6_productToU 88 = .ok (.l2i, 1) := by decide +kernel
theorem dX6_productToU_89 : decode cX6_productToU 89 = .ok (.iastore, 1) := by decide +kernel
theorem dX6_productToU_90 : decode cX6_productToU 90 = .ok (.lload 7, 2) := by decide +kernel
theorem dX6_productToU_92 : decode cX6_productToU 92 = .ok (.bipush 31, 2) := by decide +kernel
theorem dX6_productToU_94 : decode cX6_productToU 94 = .ok (.lshr, 1) := by decide +kernel
theorem dX6_productToU_95 : decode cX6_productToU 95 = .ok (.lstore 4, 2) := by decide +kernel
theorem dX6_productToU_97 : decode cX6_productToU 97 = .ok (.iinc 6 1, 3) := by decide +kernel
theorem dX6_productToU_100 : decode cX6_productToU 100 = .ok (.goto (-65), 3) := by decide +kernel
theorem dX6_productToU_103 : decode cX6_productToU 103 = .ok (.aload_n 0, 1) := by decide +kernel
theorem dX6_productToU_104 : decode cX6_productToU 104 = .ok (.getfield 27, 3) := by decide +kernel
theorem dX6_productToU_107 : decode cX6_productToU 107 = .ok (.iload_n 3, 1) := by decide +kernel
theorem dX6_productToU_108 : decode cX6_productToU 108 = .ok (.bipush 10, 2) := by decide +kernel
theorem dX6_productToU_110 : decode cX6_productToU 110 = .ok (.iadd, 1) := by decide +kernel
theorem dX6_productToU_111 : decode cX6_productToU 111 = .ok (.lload 4, 2) := by decide +kernel
theorem dX6_productToU_113 : decode cX6_productToU 113 = .ok (.l2i, 1) := by decide +kernel
theorem dX6_productToU_114 : decode cX6_productToU 114 = .ok (.iastore, 1) := by decide +kernel
theorem dX6_productToU_115 : decode cX6_productToU 115 = .ok (.iinc 3 1, 3) := by decide +kernel
theorem dX6_productToU_118 : decode cX6_productToU 118 = .ok (.goto (-95), 3) := by decide +kernel
theorem dX6_productToU_121 : decode cX6_productToU 121 = .ok (.aload_n 0, 1) := by decide +kernel
theorem dX6_productToU_122 : decode cX6_productToU 122 = .ok (.bipush 20, 2) := by decide +kernel
theorem dX6_productToU_124 : decode cX6_productToU 124 = .ok (.putfield 79, 3) := by decide +kernel
theorem dX6_productToU_127 : decode cX6_productToU 127 = .ok (.return_, 1) := by decide +kernel
theorem dX6_divide_0 : decode cX6_divide 0 = .ok (.aload_n 0, 1) := by decide +kernel
theorem dX6_divide_1 : decode cX6_divide 1 = .ok (.iload_n 1, 1) := by decide +kernel
theorem dX6_divide_2 : decode cX6_divide 2 = .ok (.invokevirtual 82, 3) := by decide +kernel
theorem dX6_divide_5 : decode cX6_divide 5 = .ok (.istore_n 3, 1) := by decide +kernel
theorem dX6_divide_6 : decode cX6_divide 6 = .ok (.iconst 0, 1) := by decide +kernel
theorem dX6_divide_7 : decode cX6_divide 7 = .ok (.istore 4, 2) := by decide +kernel
theorem dX6_divide_9 : decode cX6_divide 9 = .ok (.aload_n 0, 1) := by decide +kernel
theorem dX6_divide_10 : decode cX6_divide 10 = .ok (.iload_n 1, 1) := by decide +kernel
theorem dX6_divide_11 : decode cX6_divide 11 = .ok (.iload_n 3, 1) := by decide +kernel
theorem dX6_divide_12 : decode cX6_divide 12 = .ok (.iconst 1, 1) := by decide +kernel
theorem dX6_divide_13 : decode cX6_divide 13 = .ok (.isub, 1) := by decide +kernel
theorem dX6_divide_14 : decode cX6_divide 14 = .ok (.invokevirtual 68, 3) := by decide +kernel
theorem dX6_divide_17 : decode cX6_divide 17 = .ok (.iload 4, 2) := by decide +kernel
theorem dX6_divide_19 : decode cX6_divide 19 = .ok (.ishl, 1) := by decide +kernel
theorem dX6_divide_20 : decode cX6_divide 20 = .ok (.ldc 85, 2) := by decide +kernel
theorem dX6_divide_22 : decode cX6_divide 22 = .ok (.iand, 1) := by decide +kernel
theorem dX6_divide_23 : decode cX6_divide 23 = .ok (.ifCond .ne 9, 3) := by decide +kernel
theorem dX6_divide_26 : decode cX6_divide 26 = .ok (.iinc 4 1, 3) := by decide +kernel
theorem dX6_divide_29 : decode cX6_divide 29 = .ok (.goto (-20), 3) := by decide +kernel
theorem dX6_divide_32 : decode cX6_divide 32 = .ok (.iload_n 3, 1) := by decide +kernel
theorem dX6_divide_33 : decode cX6_divide 33 = .ok (.iconst 1, 1) := by decide +kernel
theorem dX6_divide_34 : decode cX6_divide 34 = .ok (.isub, 1) := by decide +kernel
theorem dX6_divide_35 : decode cX6_divide 35 = .ok (.istore 5, 2) := by decide +kernel
theorem dX6_divide_37 : decode cX6_divide 37 = .ok (.iload 5, 2) := by decide +kernel
theorem dX6_divide_39 : decode cX6_divide 39 = .ok (.ifCond .lt 66, 3) := by decide +kernel
theorem dX6_divide_42 : decode cX6_divide 42 = .ok (.iload 4, 2) := by decide +kernel
theorem dX6_divide_44 : decode cX6_divide 44 = .ok (.ifCond .eq 8, 3) := by decide +kernel
theorem dX6_divide_47 : decode cX6_divide 47 = .ok (.iload 5, 2) := by decide +kernel
theorem dX6_divide_49 : decode cX6_divide 49 = .ok (.ifCond .ne 7, 3) := by decide +kernel
theorem dX6_divide_52 : decode cX6_divide 52 = .ok (.iconst 0, 1) := by decide +kernel
theorem dX6_divide_53 : decode cX6_divide 53 = .ok (.goto 18, 3) := by decide +kernel
theorem dX6_divide_56 : decode cX6_divide 56 = .ok (.aload_n 0, 1) := by decide +kernel
theorem dX6_divide_57 : decode cX6_divide 57 = .ok (.iload_n 1, 1) := by decide +kernel
theorem dX6_divide_58 : decode cX6_divide 58 = .ok (.iload 5, 2) := by decide +kernel
theorem dX6_divide_60 : decode cX6_divide 60 = .ok (.iconst 1, 1) := by decide +kernel
theorem dX6_divide_61 : decode cX6_divide 61 = .ok (.isub, 1) := by decide +kernel
theorem dX6_divide_62 : decode cX6_divide 62 = .ok (.invokevirtual 68, 3) := by decide +kernel
theorem dX6_divide_65 : decode cX6_divide 65 = .ok (.bipush 31, 2) := by decide +kernel
theorem dX6_divide_67 : decode cX6_divide 67 = .ok (.iload 4, 2) := by decide +kernel
theorem dX6_divide_69 : decode cX6_divide 69 = .ok (.isub, 1) := by decide +kernel
theorem dX6_divide_70 : decode cX6_divide 70 = .ok (.ishr, 1) := by decide +kernel
theorem dX6_divide_71 : decode cX6_divide 71 = .ok (.istore 6, 2) := by decide +kernel
theorem dX6_divide_73 : decode cX6_divide 73 = .ok (.aload_n 0, 1) := by decide +kernel
theorem dX6_divide_74 : decode cX6_divide 74 = .ok (.getfield 30, 3) := by decide +kernel
theorem dX6_divide_77 : decode cX6_divide 77 = .ok (.iload 5, 2) := by decide +kernel
theorem dX6_divide_79 : decode cX6_divide 79 = .ok (.aload_n 0, 1) := by decide +kernel
theorem dX6_divide_80 : decode cX6_divide 80 = .ok (.iload_n 1, 1) := by decide +kernel
theorem dX6_divide_81 : decode cX6_divide 81 = .ok (.iload 5, 2) := by decide +kernel
theorem dX6_divide_83 : decode cX6_divide 83 = .ok (.invokevirtual 68, 3) := by decide +kernel
theorem dX6_divide_86 : decode cX6_divide 86 = .ok (.i2l, 1) := by decide +kernel
theorem dX6_divide_87 : decode cX6_divide 87 = .ok (.iload 4, 2) := by decide +kernel
theorem dX6_divide_89 : decode cX6_divide 89 = .ok (.lshl, 1) := by decide +kernel
theorem dX6_divide_90 : decode cX6_divide 90 = .ok (.ldc2_w 75, 3) := by decide +kernel
theorem dX6_divide_93 : decode cX6_divide 93 = .ok (.land, 1) := by decide +kernel
theorem dX6_divide_94 : decode cX6_divide 94 = .ok (.l2i, 1) := by decide +kernel
theorem dX6_divide_95 : decode cX6_divide 95 = .ok (.iload 6, 2) := by decide +kernel
theorem dX6_divide_97 : decode cX6_divide 97 = .ok (.ior, 1) := by decide +kernel
theorem dX6_divide_98 : decode cX6_divide 98 = .ok (.iastore, 1) := by decide +kernel
theorem dX6_divide_99 : decode cX6_divide 99 = .ok (.iinc 5 (-1), 3) := by decide +kernel
theorem dX6_divide_102 : decode cX6_divide 102 = .ok (.goto (-65), 3) := by decide +kernel
theorem dX6_divide_105 : decode cX6_divide 105 = .ok (.iconst 0, 1) := by decide +kernel
theorem dX6_divide_106 : decode cX6_divide 106 = .ok (.istore 5, 2) := by decide +kernel
theorem dX6_divide_108 : decode cX6_divide 108 = .ok (.iload 5, 2) := by decide +kernel
theorem dX6_divide_110 : decode cX6_divide 110 = .ok (.bipush 24, 2) := by decide +kernel
theorem dX6_divide_112 : decode cX6_divide 112 = .ok (.if_icmp .ge 17, 3) := by decide +kernel
theorem dX6_divide_115 : decode cX6_divide 115 = .ok (.aload_n 0, 1) := by decide +kernel
theorem dX6_divide_116 : decode cX6_divide 116 = .ok (.getfield 33, 3) := by decide +kernel
theorem dX6_divide_119 : decode cX6_divide 119 = .ok (.iload 5, 2) := by decide +kernel
theorem dX6_divide_121 : decode cX6_divide 121 = .ok (.iconst 0, 1) := by decide +kernel
theorem dX6_divide_122 : decode cX6_divide 122 = .ok (.iastore, 1) := by decide +kernel
theorem dX6_divide_123 : decode cX6_divide 123 = .ok (.iinc 5 1, 3) := by decide +kernel
theorem dX6_divide_126 : decode cX6_divide 126 = .ok (.goto (-18), 3) := by decide +kernel
theorem dX6_divide_129 : decode cX6_divide 129 = .ok (.aload_n 0, 1) := by decide +kernel
theorem dX6_divide_130 : decode cX6_divide 130 = .ok (.getfield 79, 3) := by decide +kernel
theorem dX6_divide_133 : decode cX6_divide 133 = .ok (.istore 5, 2) := by decide +kernel
theorem dX6_divide_135 : decode cX6_divide 135 = .ok (.iload 5, 2) := by decide +kernel
theorem dX6_divide_137 : decode cX6_divide 137 = .ok (.ifCond .lt 66, 3) := by decide +kernel
theorem dX6_divide_140 : decode cX6_divide 140 = .ok (.iload 4, 2) := by decide +kernel
theorem dX6_divide_142 : decode cX6_divide 142 = .ok (.ifCond .eq 8, 3) := by decide +kernel
theorem dX6_divide_145 : decode cX6_divide 145 = .ok (.iload 5, 2) := by decide +kernel
theorem dX6_divide_147 : decode cX6_divide 147 = .ok (.ifCond .ne 7, 3) := by decide +kernel
theorem dX6_divide_150 : decode cX6_divide 150 = .ok (.iconst 0, 1) := by decide +kernel
theorem dX6_divide_151 : decode cX6_divide 151 = .ok (.goto 18, 3) := by decide +kernel
theorem dX6_divide_154 : decode cX6_divide 154 = .ok (.aload_n 0, 1) := by decide +kernel
theorem dX6_divide_155 : decode cX6_divide 155 = .ok (.getfield 27, 3) := by decide +kernel
theorem dX6_divide_158 : decode cX6_divide 158 = .ok (.iload 5, 2) := by decide +kernel
theorem dX6_divide_160 : decode cX6_divide 160 = .ok (.iconst 1, 1) := by decide +kernel
theorem dX6_divide_161 : decode cX6_divide 161 = .ok (.isub, 1) := by decide +kernel
theorem dX6_divide_162 : decode cX6_divide 162 = .ok (.iaload, 1) := by decide +kernel
theorem dX6_divide_163 : decode cX6_divide 163 = .ok (.bipush 31, 2) := by decide +kernel
theorem dX6_divide_165 : decode cX6_divide 165 = .ok (.iload 4, 2) := by decide +kernel
theorem dX6_divide_167 : decode cX6_divide 167 = .ok (.isub, 1) := by decide +kernel
theorem dX6_divide_168 : decode cX6_divide 168 = .ok (.ishr, 1) := by decide +kernel
theorem dX6_divide_169 : decode cX6_divide 169 = .ok (.istore 6, 2) := by decide +kernel
theorem dX6_divide_171 : decode cX6_divide 171 = .ok (.aload_n 0, 1) := by decide +kernel
theorem dX6_divide_172 : decode cX6_divide 172 = .ok (.getfield 27, 3) := by decide +kernel
theorem dX6_divide_175 : decode cX6_divide 175 = .ok (.iload 5, 2) := by decide +kernel
theorem dX6_divide_177 : decode cX6_divide 177 = .ok (.aload_n 0, 1) := by decide +kernel
theorem dX6_divide_178 : decode cX6_divide 178 = .ok (.getfield 27, 3) := by decide +kernel
theorem dX6_divide_181 : decode cX6_divide 181 = .ok (.iload 5, 2) := by decide +kernel
theorem dX6_divide_183 : decode cX6_divide 183 = .ok (.iaload, 1) := by decide +kernel
theorem dX6_divide_184 : decode cX6_divide 184 = .ok (.i2l, 1) := by decide +kernel
theorem dX6_divide_185 : decode cX6_divide 185 = .ok (.iload 4, 2) := by decide +kernel
theorem dX6_divide_187 : decode cX6_divide 187 = .ok (.lshl, 1) := by decide +kernel
theorem dX6_divide_188 : decode cX6_divide 188 = .ok (.ldc2_w 75, 3) := by decide +kernel
theorem dX6_divide_191 : decode cX6_divide 191 = .ok (.land, 1) := by decide +kernel
theorem dX6_divide_192 : decode cX6_divide 192 = .ok (.l2i, 1) := by decide +kernel
theorem dX6_divide_193 : decode cX6_divide 193 = .ok (.iload 6, 2) := by decide +kernel
theorem dX6_divide_195 : decode cX6_divide 195 = .ok (.ior, 1) := by decide +kernel
theorem dX6_divide_196 : decode cX6_divide 196 = .ok (.iastore, 1) := by decide +kernel
theorem dX6_divide_197 : decode cX6_divide 197 = .ok (.iinc 5 (-1), 3) := by decide +kernel
theorem dX6_divide_200 : decode cX6_divide 200 = .ok (.goto (-65), 3) := by decide +kernel
theorem dX6_divide_203 : decode cX6_divide 203 = .ok (.aload_n 0, 1) := by decide +kernel
theorem dX6_divide_204 : decode cX6_divide 204 = .ok (.getfield 79, 3) := by decide +kernel
theorem dX6_divide_207 : decode cX6_divide 207 = .ok (.iload_n 3, 1) := by decide +kernel
theorem dX6_divide_208 : decode cX6_divide 208 = .ok (.isub, 1) := by decide +kernel
theorem dX6_divide_209 : decode cX6_divide 209 = .ok (.istore 5, 2) := by decide +kernel
theorem dX6_divide_211 : decode cX6_divide 211 = .ok (.iload 5, 2) := by decide +kernel
theorem dX6_divide_213 : decode cX6_divide 213 = .ok (.ifCond .lt 24, 3) := by decide +kernel
theorem dX6_divide_216 : decode cX6_divide 216 = .ok (.aload_n 0, 1) := by decide +kernel
theorem dX6_divide_217 : decode cX6_divide 217 = .ok (.getfield 33, 3) := by decide +kernel
theorem dX6_divide_220 : decode cX6_divide 220 = .ok (.iload 5, 2) := by decide +kernel
theorem dX6_divide_222 : decode cX6_divide 222 = .ok (.aload_n 0, 1) := by decide +kernel
theorem dX6_divide_223 : decode cX6_divide 223 = .ok (.iload 5, 2) := by decide +kernel
theorem dX6_divide_225 : decode cX6_divide 225 = .ok (.iload_n 3, 1) := by decide +kernel
theorem dX6_divide_226 : decode cX6_divide 226 = .ok (.invokevirtual 86, 3) := by decide +kernel
theorem dX6_divide_229 : decode cX6_divide 229 = .ok (.l2i, 1) := by decide +kernel
theorem dX6_divide_230 : decode cX6_divide 230 = .ok (.iastore, 1) := by decide +kernel
theorem dX6_divide_231 : decode cX6_divide 231 = .ok (.iinc 5 (-1), 3) := by decide +kernel
theorem dX6_divide_234 : decode cX6_divide 234 = .ok (.goto (-23), 3) := by decide +kernel
theorem dX6_divide_237 : decode cX6_divide 237 = .ok (.iconst 0, 1) := by decide +kernel
theorem dX6_divide_238 : decode cX6_divide 238 = .ok (.istore 5, 2) := by decide +kernel
theorem dX6_divide_240 : decode cX6_divide 240 = .ok (.iload 5, 2) := by decide +kernel
theorem dX6_divide_242 : decode cX6_divide 242 = .ok (.bipush 10, 2) := by decide +kernel
theorem dX6_divide_244 : decode cX6_divide 244 = .ok (.if_icmp .ge 79, 3) := by decide +kernel
theorem dX6_divide_247 : decode cX6_divide 247 = .ok (.iload 5, 2) := by decide +kernel
theorem dX6_divide_249 : decode cX6_divide 249 = .ok (.iconst 1, 1) := by decide +kernel
theorem dX6_divide_250 : decode cX6_divide 250 = .ok (.iadd, 1) := by decide +kernel
theorem dX6_divide_251 : decode cX6_divide 251 = .ok (.iload_n 3, 1) := by decide +kernel
theorem dX6_divide_252 : decode cX6_divide 252 = .ok (.if_icmp .ge 31, 3) := by decide +kernel
theorem dX6_divide_255 : decode cX6_divide 255 = .ok (.iload 4, 2) := by decide +kernel
theorem dX6_divide_257 : decode cX6_divide 257 = .ok (.ifCond .le 26, 3) := by decide +kernel
theorem dX6_divide_260 : decode cX6_divide 260 = .ok (.aload_n 0, 1) := by decide +kernel
theorem dX6_divide_261 : decode cX6_divide 261 = .ok (.getfield 27, 3) := by decide +kernel
theorem dX6_divide_264 : decode cX6_divide 264 = .ok (.iload 5, 2) := by decide +kernel
theorem dX6_divide_266 : decode cX6_divide 266 = .ok (.iconst 1, 1) := by decide +kernel
theorem dX6_divide_267 : decode cX6_divide 267 = .ok (.iadd, 1) := by decide +kernel
theorem dX6_divide_268 : decode cX6_divide 268 = .ok (.iaload, 1) := by decide +kernel
theorem dX6_divide_269 : decode cX6_divide 269 = .ok (.i2l, 1) := by decide +kernel
theorem dX6_divide_270 : decode cX6_divide 270 = .ok (.bipush 31, 2) := by decide +kernel
theorem dX6_divide_272 : decode cX6_divide 272 = .ok (.iload 4, 2) := by decide +kernel
theorem dX6_divide_274 : decode cX6_divide 274 = .ok (.isub, 1) := by decide +kernel
theorem dX6_divide_275 : decode cX6_divide 275 = .ok (.lshl, 1) := by decide +kernel
theorem dX6_divide_276 : decode cX6_divide 276 = .ok (.ldc2_w 75, 3) := by decide +kernel
theorem dX6_divide_279 : decode cX6_divide 279 = .ok (.land, 1) := by decide +kernel
theorem dX6_divide_280 : decode cX6_divide 280 = .ok (.goto 4, 3) := by decide +kernel
theorem dX6_divide_283 : decode cX6_divide 283 = .ok (.lconst 0, 1) := by decide +kernel
theorem dX6_divide_284 : decode cX6_divide 284 = .ok (.lstore 6, 2) := by decide +kernel
theorem dX6_divide_286 : decode cX6_divide 286 = .ok (.aload_n 0, 1) := by decide +kernel
theorem dX6_divide_287 : decode cX6_divide 287 = .ok (.iload_n 2, 1) := by decide +kernel
theorem dX6_divide_288 : decode cX6_divide 288 = .ok (.iload 5, 2) := by decide +kernel
theorem dX6_divide_290 : decode cX6_divide 290 = .ok (.iload 5, 2) := by decide +kernel
theorem dX6_divide_292 : decode cX6_divide 292 = .ok (.iload_n 3, 1) := by decide +kernel
theorem dX6_divide_293 : decode cX6_divide 293 = .ok (.if_icmp .ge 20, 3) := by decide +kernel
theorem dX6_divide_296 : decode cX6_divide 296 = .ok (.aload_n 0, 1) := by decide +kernel
theorem dX6_divide_297 : decode cX6_divide 297 = .ok (.getfield 27, 3) := by decide +kernel
theorem dX6_divide_300 : decode cX6_divide 300 = .ok (.iload 5, 2) := by decide +kernel
theorem dX6_divide_302 : decode cX6_divide 302 = .ok (.iaload, 1) := by decide +kernel
theorem dX6_divide_303 : decode cX6_divide 303 = .ok (.iload 4, 2) := by decide +kernel
theorem dX6_divide_305 : decode cX6_divide 305 = .ok (.ishr, 1) := by decide +kernel
theorem dX6_divide_306 : decode cX6_divide 306 = .ok (.lload 6, 2) := by decide +kernel
theorem dX6_divide_308 : decode cX6_divide 308 = .ok (.l2i, 1) := by decide +kernel
theorem dX6_divide_309 : decode cX6_divide 309 = .ok (.ior, 1) := by decide +kernel
theorem dX6_divide_310 : decode cX6_divide 310 = .ok (.goto 4, 3) := by decide +kernel
theorem dX6_divide_313 : decode cX6_divide 313 = .ok (.iconst 0, 1) := by decide +kernel
theorem dX6_divide_314 : decode cX6_divide 314 = .ok (.invokevirtual 57, 3) := by decide +kernel
theorem dX6_divide_317 : decode cX6_divide 317 = .ok (.iinc 5 1, 3) := by decide +kernel
theorem dX6_divide_320 : decode cX6_divide 320 = .ok (.goto (-80), 3) := by decide +kernel
theorem dX6_divide_323 : decode cX6_divide 323 = .ok (.return_, 1) := by decide +kernel
