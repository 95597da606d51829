theorem dX3_needX_0 : decode cX3_needX 0 = .ok (.iload_n 0, 1) := by decide +kernel
theorem dX3_needX_1 : decode cX3_needX 1 = .ok (.iconst 4, 1) := by decide +kernel
theorem dX3_needX_2 : decode cX3_needX 2 = .ok (.if_icmp .ne 20, 3) := by decide +kernel
theorem dX3_needX_5 : decode cX3_needX 5 = .ok (.iload_n 1, 1) := by decide +kernel
theorem dX3_needX_6 : decode cX3_needX 6 = .ok (.invokestatic 223, 3) := by decide +kernel
theorem dX3_needX_9 : decode cX3_needX 9 = .ok (.ifCond .ne 13, 3) := by decide +kernel
theorem dX3_needX_12 : decode cX3_needX 12 = .ok (.new 49, 3) := by decide +kernel
theorem dX3_needX_15 : decode cX3_needX 15 = .ok (.dup, 1) := by decide +kernel
theorem dX3_needX_16 : decode cX3_needX 16 = .ok (.ldc 226, 2) := by decide +kernel
theorem dX3_needX_18 : decode cX3_needX 18 = .ok (.invokespecial 53, 3) := by decide +kernel
theorem dX3_needX_21 : decode cX3_needX 21 = .ok (.athrow, 1) := by decide +kernel
theorem dX3_needX_22 : decode cX3_needX 22 = .ok (.iload_n 0, 1) := by decide +kernel
theorem dX3_needX_23 : decode cX3_needX 23 = .ok (.iconst 5, 1) := by decide +kernel
theorem dX3_needX_24 : decode cX3_needX 24 = .ok (.if_icmp .ne 24, 3) := by decide +kernel
theorem dX3_needX_27 : decode cX3_needX 27 = .ok (.iload_n 1, 1) := by decide +kernel
theorem dX3_needX_28 : decode cX3_needX 28 = .ok (.iconst 1, 1) := by decide +kernel
theorem dX3_needX_29 : decode cX3_needX 29 = .ok (.if_icmp .lt 9, 3) := by decide +kernel
theorem dX3_needX_32 : decode cX3_needX 32 = .ok (.iload_n 1, 1) := by decide +kernel
theorem dX3_needX_33 : decode cX3_needX 33 = .ok (.bipush 100, 2) := by decide +kernel
theorem dX3_needX_35 : decode cX3_needX 35 = .ok (.if_icmp .lt 13, 3) := by decide +kernel
theorem dX3_needX_38 : decode cX3_needX 38 = .ok (.new 49, 3) := by decide +kernel
theorem dX3_needX_41 : decode cX3_needX 41 = .ok (.dup, 1) := by decide +kernel
theorem dX3_needX_42 : decode cX3_needX 42 = .ok (.ldc 228, 2) := by decide +kernel
theorem dX3_needX_44 : decode cX3_needX 44 = .ok (.invokespecial 53, 3) := by decide +kernel
theorem dX3_needX_47 : decode cX3_needX 47 = .ok (.athrow, 1) := by decide +kernel
theorem dX3_needX_48 : decode cX3_needX 48 = .ok (.return_, 1) := by decide +kernel
theorem dX3_isIncident_0 : decode cX3_isIncident 0 = .ok (.iload_n 0, 1) := by decide +kernel
theorem dX3_isIncident_1 : decode cX3_isIncident 1 = .ok (.ifCond .lt 13, 3) := by decide +kernel
theorem dX3_isIncident_4 : decode cX3_isIncident 4 = .ok (.iload_n 0, 1) := by decide +kernel
theorem dX3_isIncident_5 : decode cX3_isIncident 5 = .ok (.bipush 20, 2) := by decide +kernel
theorem dX3_isIncident_7 : decode cX3_isIncident 7 = .ok (.if_icmp .ge 7, 3) := by decide +kernel
theorem dX3_isIncident_10 : decode cX3_isIncident 10 = .ok (.iconst 1, 1) := by decide +kernel
theorem dX3_isIncident_11 : decode cX3_isIncident 11 = .ok (.goto 4, 3) := by decide +kernel
theorem dX3_isIncident_14 : decode cX3_isIncident 14 = .ok (.iconst 0, 1) := by decide +kernel
theorem dX3_isIncident_15 : decode cX3_isIncident 15 = .ok (.ireturn, 1) := by decide +kernel
theorem dX3_hasEnd_0 : decode cX3_hasEnd 0 = .ok (.iload_n 0, 1) := by decide +kernel
theorem dX3_hasEnd_1 : decode cX3_hasEnd 1 = .ok (.iconst 2, 1) := by decide +kernel
theorem dX3_hasEnd_2 : decode cX3_hasEnd 2 = .ok (.if_icmp .eq 12, 3) := by decide +kernel
theorem dX3_hasEnd_5 : decode cX3_hasEnd 5 = .ok (.iload_n 0, 1) := by decide +kernel
theorem dX3_hasEnd_6 : decode cX3_hasEnd 6 = .ok (.iconst 3, 1) := by decide +kernel
theorem dX3_hasEnd_7 : decode cX3_hasEnd 7 = .ok (.if_icmp .eq 7, 3) := by decide +kernel
theorem dX3_hasEnd_10 : decode cX3_hasEnd 10 = .ok (.iconst 1, 1) := by decide +kernel
theorem dX3_hasEnd_11 : decode cX3_hasEnd 11 = .ok (.goto 4, 3) := by decide +kernel
theorem dX3_hasEnd_14 : decode cX3_hasEnd 14 = .ok (.iconst 0, 1) := by decide +kernel
theorem dX3_hasEnd_15 : decode cX3_hasEnd 15 = .ok (.ireturn, 1) := by decide +kernel
theorem dX3_isTimetable_0 : decode cX3_isTimetable 0 = .ok (.iload_n 0, 1) := by decide +kernel
theorem dX3_isTimetable_1 : decode cX3_isTimetable 1 = .ok (.invokestatic 230, 3) := by decide +kernel
theorem dX3_isTimetable_4 : decode cX3_isTimetable 4 = .ok (.istore_n 1, 1) := by decide +kernel
theorem dX3_isTimetable_5 : decode cX3_isTimetable 5 = .ok (.iload_n 1, 1) := by decide +kernel
theorem dX3_isTimetable_6 : decode cX3_isTimetable 6 = .ok (.iconst 1, 1) := by decide +kernel
theorem dX3_isTimetable_7 : decode cX3_isTimetable 7 = .ok (.if_icmp .lt 21, 3) := by decide +kernel
theorem dX3_isTimetable_10 : decode cX3_isTimetable 10 = .ok (.iload_n 1, 1) := by decide +kernel
theorem dX3_isTimetable_11 : decode cX3_isTimetable 11 = .ok (.bipush 99, 2) := by decide +kernel
theorem dX3_isTimetable_13 : decode cX3_isTimetable 13 = .ok (.if_icmp .gt 15, 3) := by decide +kernel
theorem dX3_isTimetable_16 : decode cX3_isTimetable 16 = .ok (.iload_n 0, 1) := by decide +kernel
theorem dX3_isTimetable_17 : decode cX3_isTimetable 17 = .ok (.invokestatic 233, 3) := by decide +kernel
theorem dX3_isTimetable_20 : decode cX3_isTimetable 20 = .ok (.iload_n 1, 1) := by decide +kernel
theorem dX3_isTimetable_21 : decode cX3_isTimetable 21 = .ok (.if_icmp .gt 7, 3) := by decide +kernel
theorem dX3_isTimetable_24 : decode cX3_isTimetable 24 = .ok (.iconst 1, 1) := by decide +kernel
theorem dX3_isTimetable_25 : decode cX3_isTimetable 25 = .ok (.goto 4, 3) := by decide +kernel
theorem dX3_isTimetable_28 : decode cX3_isTimetable 28 = .ok (.iconst 0, 1) := by decide +kernel
theorem dX3_isTimetable_29 : decode cX3_isTimetable 29 = .ok (.ireturn, 1) := by decide +kernel
theorem dX3_periodOf_0 : decode cX3_periodOf 0 = .ok (.iload_n 0, 1) := by decide +kernel
theorem dX3_periodOf_1 : decode cX3_periodOf 1 = .ok (.bipush 100, 2) := by decide +kernel
theorem dX3_periodOf_3 : decode cX3_periodOf 3 = .ok (.idiv, 1) := by decide +kernel
theorem dX3_periodOf_4 : decode cX3_periodOf 4 = .ok (.ireturn, 1) := by decide +kernel
theorem dX3_lengthOf_0 : decode cX3_lengthOf 0 = .ok (.iload_n 0, 1) := by decide +kernel
theorem dX3_lengthOf_1 : decode cX3_lengthOf 1 = .ok (.bipush 100, 2) := by decide +kernel
theorem dX3_lengthOf_3 : decode cX3_lengthOf 3 = .ok (.irem, 1) := by decide +kernel
theorem dX3_lengthOf_4 : decode cX3_lengthOf 4 = .ok (.ireturn, 1) := by decide +kernel
theorem dX3_placeOf_0 : decode cX3_placeOf 0 = .ok (.iconst 2, 1) := by decide +kernel
theorem dX3_placeOf_1 : decode cX3_placeOf 1 = .ok (.iload_n 0, 1) := by decide +kernel
theorem dX3_placeOf_2 : decode cX3_placeOf 2 = .ok (.imul, 1) := by decide +kernel
theorem dX3_placeOf_3 : decode cX3_placeOf 3 = .ok (.iload_n 1, 1) := by decide +kernel
theorem dX3_placeOf_4 : decode cX3_placeOf 4 = .ok (.iadd, 1) := by decide +kernel
theorem dX3_placeOf_5 : decode cX3_placeOf 5 = .ok (.iconst 1, 1) := by decide +kernel
theorem dX3_placeOf_6 : decode cX3_placeOf 6 = .ok (.isub, 1) := by decide +kernel
theorem dX3_placeOf_7 : decode cX3_placeOf 7 = .ok (.ireturn, 1) := by decide +kernel
theorem dX3_pieceOf_0 : decode cX3_pieceOf 0 = .ok (.iload_n 0, 1) := by decide +kernel
theorem dX3_pieceOf_1 : decode cX3_pieceOf 1 = .ok (.iconst 2, 1) := by decide +kernel
theorem dX3_pieceOf_2 : decode cX3_pieceOf 2 = .ok (.idiv, 1) := by decide +kernel
theorem dX3_pieceOf_3 : decode cX3_pieceOf 3 = .ok (.ireturn, 1) := by decide +kernel
theorem dX3_sideOf_0 : decode cX3_sideOf 0 = .ok (.iload_n 0, 1) := by decide +kernel
theorem dX3_sideOf_1 : decode cX3_sideOf 1 = .ok (.iconst 2, 1) := by decide +kernel
theorem dX3_sideOf_2 : decode cX3_sideOf 2 = .ok (.irem, 1) := by decide +kernel
theorem dX3_sideOf_3 : decode cX3_sideOf 3 = .ok (.iconst 1, 1) := by decide +kernel
theorem dX3_sideOf_4 : decode cX3_sideOf 4 = .ok (.iadd, 1) := by decide +kernel
theorem dX3_sideOf_5 : decode cX3_sideOf 5 = .ok (.ireturn, 1) := by decide +kernel
theorem dX4_init_0 : decode cX4_init 0 = .ok (.aload_n 0, 1) := by decide +kernel
theorem dX4_init_1 : decode cX4_init 1 = .ok (.invokespecial 1, 3) := by decide +kernel
theorem dX4_init_4 : decode cX4_init 4 = .ok (.aload_n 0, 1) := by decide +kernel
theorem dX4_init_5 : decode cX4_init 5 = .ok (.bipush 100, 2) := by decide +kernel
theorem dX4_init_7 : decode cX4_init 7 = .ok (.newarray .int, 2) := by decide +kernel
theorem dX4_init_9 : decode cX4_init 9 = .ok (.putfield 7, 3) := by decide +kernel
theorem dX4_init_12 : decode cX4_init 12 = .ok (.aload_n 0, 1) := by decide +kernel
theorem dX4_init_13 : decode cX4_init 13 = .ok (.bipush 100, 2) := by decide +kernel
theorem dX4_init_15 : decode cX4_init 15 = .ok (.newarray .int, 2) := by decide +kernel
theorem dX4_init_17 : decode cX4_init 17 = .ok (.putfield 13, 3) := by decide +kernel
theorem dX4_init_20 : decode cX4_init 20 = .ok (.aload_n 0, 1) := by decide +kernel
theorem dX4_init_21 : decode cX4_init 21 = .ok (.bipush 100, 2) := by decide +kernel
theorem dX4_init_23 : decode cX4_init 23 = .ok (.newarray .int, 2) := by decide +kernel
theorem dX4_init_25 : decode cX4_init 25 = .ok (.putfield 16, 3) := by decide +kernel
theorem dX4_init_28 : decode cX4_init 28 = .ok (.aload_n 0, 1) := by decide +kernel
theorem dX4_init_29 : decode cX4_init 29 = .ok (.bipush 100, 2) := by decide +kernel
theorem dX4_init_31 : decode cX4_init 31 = .ok (.newarray .int, 2) := by decide +kernel
theorem dX4_init_33 : decode cX4_init 33 = .ok (.putfield 19, 3) := by decide +kernel
theorem dX4_init_36 : decode cX4_init 36 = .ok (.aload_n 0, 1) := by decide +kernel
theorem dX4_init_37 : decode cX4_init 37 = .ok (.bipush 100, 2) := by decide +kernel
theorem dX4_init_39 : decode cX4_init 39 = .ok (.newarray .int, 2) := by decide +kernel
theorem dX4_init_41 : decode cX4_init 41 = .ok (.putfield 22, 3) := by decide +kernel
theorem dX4_init_44 : decode cX4_init 44 = .ok (.aload_n 0, 1) := by decide +kernel
theorem dX4_init_45 : decode cX4_init 45 = .ok (.bipush 100, 2) := by decide +kernel
theorem dX4_init_47 : decode cX4_init 47 = .ok (.newarray .int, 2) := by decide +kernel
theorem dX4_init_49 : decode cX4_init 49 = .ok (.putfield 25, 3) := by decide +kernel
theorem dX4_init_52 : decode cX4_init 52 = .ok (.aload_n 0, 1) := by decide +kernel
theorem dX4_init_53 : decode cX4_init 53 = .ok (.bipush 100, 2) := by decide +kernel
theorem dX4_init_55 : decode cX4_init 55 = .ok (.newarray .int, 2) := by decide +kernel
theorem dX4_init_57 : decode cX4_init 57 = .ok (.putfield 28, 3) := by decide +kernel
theorem dX4_init_60 : decode cX4_init 60 = .ok (.aload_n 0, 1) := by decide +kernel
theorem dX4_init_61 : decode cX4_init 61 = .ok (.bipush 100, 2) := by decide +kernel
theorem dX4_init_63 : decode cX4_init 63 = .ok (.newarray .int, 2) := by decide +kernel
theorem dX4_init_65 : decode cX4_init 65 = .ok (.putfield 31, 3) := by decide +kernel
theorem dX4_init_68 : decode cX4_init 68 = .ok (.aload_n 0, 1) := by decide +kernel
theorem dX4_init_69 : decode cX4_init 69 = .ok (.bipush 100, 2) := by decide +kernel
theorem dX4_init_71 : decode cX4_init 71 = .ok (.newarray .int, 2) := by decide +kernel
theorem dX4_init_73 : decode cX4_init 73 = .ok (.putfield 34, 3) := by decide +kernel
theorem dX4_init_76 : decode cX4_init 76 = .ok (.aload_n 0, 1) := by decide +kernel
theorem dX4_init_77 : decode cX4_init 77 = .ok (.bipush 20, 2) := by decide +kernel
theorem dX4_init_79 : decode cX4_init 79 = .ok (.newarray .boolean, 2) := by decide +kernel
theorem dX4_init_81 : decode cX4_init 81 = .ok (.putfield 37, 3) := by decide +kernel
theorem dX4_init_84 : decode cX4_init 84 = .ok (.aload_n 0, 1) := by decide +kernel
theorem dX4_init_85 : decode cX4_init 85 = .ok (.bipush 10, 2) := by decide +kernel
theorem dX4_init_87 : decode cX4_init 87 = .ok (.newarray .int, 2) := by decide +kernel
theorem dX4_init_89 : decode cX4_init 89 = .ok (.putfield 41, 3) := by decide +kernel
theorem dX4_init_92 : decode cX4_init 92 = .ok (.aload_n 0, 1) := by decide +kernel
theorem dX4_init_93 : decode cX4_init 93 = .ok (.bipush 120, 2) := by decide +kernel
theorem dX4_init_95 : decode cX4_init 95 = .ok (.newarray .int, 2) := by decide +kernel
theorem dX4_init_97 : decode cX4_init 97 = .ok (.putfield 44, 3) := by decide +kernel
theorem dX4_init_100 : decode cX4_init 100 = .ok (.aload_n 0, 1) := by decide +kernel
theorem dX4_init_101 : decode cX4_init 101 = .ok (.bipush 120, 2) := by decide +kernel
theorem dX4_init_103 : decode cX4_init 103 = .ok (.newarray .boolean, 2) := by decide +kernel
theorem dX4_init_105 : decode cX4_init 105 = .ok (.putfield 47, 3) := by decide +kernel
theorem dX4_init_108 : decode cX4_init 108 = .ok (.aload_n 0, 1) := by decide +kernel
theorem dX4_init_109 : decode cX4_init 109 = .ok (.sipush 500, 3) := by decide +kernel
theorem dX4_init_112 : decode cX4_init 112 = .ok (.newarray .int, 2) := by decide +kernel
theorem dX4_init_114 : decode cX4_init 114 = .ok (.putfield 50, 3) := by decide +kernel
theorem dX4_init_117 : decode cX4_init 117 = .ok (.return_, 1) := by decide +kernel
theorem dX4_thrown_0 : decode cX4_thrown 0 = .ok (.aload_n 0, 1) := by decide +kernel
theorem dX4_thrown_1 : decode cX4_thrown 1 = .ok (.getfield 53, 3) := by decide +kernel
theorem dX4_thrown_4 : decode cX4_thrown 4 = .ok (.ireturn, 1) := by decide +kernel
theorem dX4_throwing_0 : decode cX4_throwing 0 = .ok (.aload_n 0, 1) := by decide +kernel
theorem dX4_throwing_1 : decode cX4_throwing 1 = .ok (.iload_n 1, 1) := by decide +kernel
theorem dX4_throwing_2 : decode cX4_throwing 2 = .ok (.ifCond .eq 7, 3) := by decide +kernel
theorem dX4_throwing_5 : decode cX4_throwing 5 = .ok (.iconst 1, 1) := by decide +kernel
theorem dX4_throwing_6 : decode cX4_throwing 6 = .ok (.goto 20, 3) := by decide +kernel
theorem dX4_throwing_9 : decode cX4_throwing 9 = .ok (.iload_n 2, 1) := by decide +kernel
theorem dX4_throwing_10 : decode cX4_throwing 10 = .ok (.ifCond .eq 7, 3) := by decide +kernel
theorem dX4_throwing_13 : decode cX4_throwing 13 = .ok (.iconst 2, 1) := by decide +kernel
theorem dX4_throwing_14 : decode cX4_throwing 14 = .ok (.goto 12, 3) := by decide +kernel
theorem dX4_throwing_17 : decode cX4_throwing 17 = .ok (.iload_n 3, 1) := by decide +kernel
theorem dX4_throwing_18 : decode cX4_throwing 18 = .ok (.ifCond .eq 7, 3) := by decide +kernel
theorem dX4_throwing_21 : decode cX4_throwing 21 = .ok (.iconst 3, 1) := by decide +kernel
theorem dX4_throwing_22 : decode cX4_throwing 22 = .ok (.goto 4, 3) := by decide +kernel
theorem dX4_throwing_25 : decode cX4_throwing 25 = .ok (.iconst 0, 1) := by decide +kernel
theorem dX4_throwing_26 : decode cX4_throwing 26 = .ok (.putfield 53, 3) := by decide +kernel
theorem dX4_throwing_29 : decode cX4_throwing 29 = .ok (.aload_n 0, 1) := by decide +kernel
theorem dX4_throwing_30 : decode cX4_throwing 30 = .ok (.getfield 53, 3) := by decide +kernel
theorem dX4_throwing_33 : decode cX4_throwing 33 = .ok (.ifCond .le 7, 3) := by decide +kernel
theorem dX4_throwing_36 : decode cX4_throwing 36 = .ok (.iconst 1, 1) := by decide +kernel
theorem dX4_throwing_37 : decode cX4_throwing 37 = .ok (.goto 4, 3) := by decide +kernel
theorem dX4_throwing_40 : decode cX4_throwing 40 = .ok (.iconst 0, 1) := by decide +kernel
theorem dX4_throwing_41 : decode cX4_throwing 41 = .ok (.ireturn, 1) := by decide +kernel
theorem dX4_in_0 : decode cX4_in 0 = .ok (.iload_n 0, 1) := by decide +kernel
theorem dX4_in_1 : decode cX4_in 1 = .ok (.iload_n 1, 1) := by decide +kernel
theorem dX4_in_2 : decode cX4_in 2 = .ok (.if_icmp .lt 12, 3) := by decide +kernel
theorem dX4_in_5 : decode cX4_in 5 = .ok (.iload_n 0, 1) := by decide +kernel
theorem dX4_in_6 : decode cX4_in 6 = .ok (.iload_n 2, 1) := by decide +kernel
theorem dX4_in_7 : decode cX4_in 7 = .ok (.if_icmp .gt 7, 3) := by decide +kernel
theorem dX4_in_10 : decode cX4_in 10 = .ok (.iconst 1, 1) := by decide +kernel
theorem dX4_in_11 : decode cX4_in 11 = .ok (.goto 4, 3) := by decide +kernel
theorem dX4_in_14 : decode cX4_in 14 = .ok (.iconst 0, 1) := by decide +kernel
theorem dX4_in_15 : decode cX4_in 15 = .ok (.ireturn, 1) := by decide +kernel
theorem dX4_isPiece_0 : decode cX4_isPiece 0 = .ok (.iload_n 0, 1) := by decide +kernel
theorem dX4_isPiece_1 : decode cX4_isPiece 1 = .ok (.iconst 0, 1) := by decide +kernel
theorem dX4_isPiece_2 : decode cX4_isPiece 2 = .ok (.bipush 59, 2) := by decide +kernel
theorem dX4_isPiece_4 : decode cX4_isPiece 4 = .ok (.invokestatic 57, 3) := by decide +kernel
theorem dX4_isPiece_7 : decode cX4_isPiece 7 = .ok (.ireturn, 1) := by decide +kernel
theorem dX4_isSide_0 : decode cX4_isSide 0 = .ok (.iload_n 0, 1) := by decide +kernel
theorem dX4_isSide_1 : decode cX4_isSide 1 = .ok (.iconst 1, 1) := by decide +kernel
theorem dX4_isSide_2 : decode cX4_isSide 2 = .ok (.iconst 2, 1) := by decide +kernel
theorem dX4_isSide_3 : decode cX4_isSide 3 = .ok (.invokestatic 57, 3) := by decide +kernel
theorem dX4_isSide_6 : decode cX4_isSide 6 = .ok (.ireturn, 1) := by decide +kernel
theorem dX4_isMinute_0 : decode cX4_isMinute 0 = .ok (.iload_n 0, 1) := by decide +kernel
theorem dX4_isMinute_1 : decode cX4_isMinute 1 = .ok (.iconst 0, 1) := by decide +kernel
theorem dX4_isMinute_2 : decode cX4_isMinute 2 = .ok (.ldc 61, 2) := by decide +kernel
theorem dX4_isMinute_4 : decode cX4_isMinute 4 = .ok (.invokestatic 57, 3) := by decide +kernel
theorem dX4_isMinute_7 : decode cX4_isMinute 7 = .ok (.ireturn, 1) := by decide +kernel
theorem dX4_isClosure_0 : decode cX4_isClosure 0 = .ok (.iload_n 1, 1) := by decide +kernel
theorem dX4_isClosure_1 : decode cX4_isClosure 1 = .ok (.iconst 0, 1) := by decide +kernel
theorem dX4_isClosure_2 : decode cX4_isClosure 2 = .ok (.aload_n 0, 1) := by decide +kernel
theorem dX4_isClosure_3 : decode cX4_isClosure 3 = .ok (.getfield 62, 3) := by decide +kernel
theorem dX4_isClosure_6 : decode cX4_isClosure 6 = .ok (.iconst 1, 1) := by decide +kernel
theorem dX4_isClosure_7 : decode cX4_isClosure 7 = .ok (.isub, 1) := by decide +kernel
theorem dX4_isClosure_8 : decode cX4_isClosure 8 = .ok (.invokestatic 57, 3) := by decide +kernel
theorem dX4_isClosure_11 : decode cX4_isClosure 11 = .ok (.ireturn, 1) := by decide +kernel
theorem dX4_holds_0 : decode cX4_holds 0 = .ok (.aload_n 0, 1) := by decide +kernel
theorem dX4_holds_1 : decode cX4_holds 1 = .ok (.getfield 7, 3) := by decide +kernel
theorem dX4_holds_4 : decode cX4_holds 4 = .ok (.iload_n 1, 1) := by decide +kernel
theorem dX4_holds_5 : decode cX4_holds 5 = .ok (.iaload, 1) := by decide +kernel
theorem dX4_holds_6 : decode cX4_holds 6 = .ok (.istore_n 3, 1) := by decide +kernel
theorem dX4_holds_7 : decode cX4_holds 7 = .ok (.iload_n 2, 1) := by decide +kernel
theorem dX4_holds_8 : decode cX4_holds 8 = .ok (.aload_n 0, 1) := by decide +kernel
theorem dX4_holds_9 : decode cX4_holds 9 = .ok (.getfield 19, 3) := by decide +kernel
theorem dX4_holds_12 : decode cX4_holds 12 = .ok (.iload_n 1, 1) := by decide +kernel
theorem dX4_holds_13 : decode cX4_holds 13 = .ok (.iaload, 1) := by decide +kernel
theorem dX4_holds_14 : decode cX4_holds 14 = .ok (.if_icmp .lt 23, 3) := by decide +kernel
theorem dX4_holds_17 : decode cX4_holds 17 = .ok (.aload_n 0, 1) := by decide +kernel
theorem dX4_holds_18 : decode cX4_holds 18 = .ok (.getfield 31, 3) := by decide +kernel
theorem dX4_holds_21 : decode cX4_holds 21 = .ok (.iload_n 1, 1) := by decide +kernel
theorem dX4_holds_22 : decode cX4_holds 22 = .ok (.iaload, 1) := by decide +kernel
theorem dX4_holds_23 : decode cX4_holds 23 = .ok (.iconst (-1), 1) := by decide +kernel
theorem dX4_holds_24 : decode cX4_holds 24 = .ok (.if_icmp .eq 15, 3) := by decide +kernel
theorem dX4_holds_27 : decode cX4_holds 27 = .ok (.iload_n 2, 1) := by decide +kernel
theorem dX4_holds_28 : decode cX4_holds 28 = .ok (.aload_n 0, 1) := by decide +kernel
theorem dX4_holds_29 : decode cX4_holds 29 = .ok (.getfield 31, 3) := by decide +kernel
theorem dX4_holds_32 : decode cX4_holds 32 = .ok (.iload_n 1, 1) := by decide +kernel
theorem dX4_holds_33 : decode cX4_holds 33 = .ok (.iaload, 1) := by decide +kernel
theorem dX4_holds_34 : decode cX4_holds 34 = .ok (.if_icmp .lt 5, 3) := by decide +kernel
theorem dX4_holds_37 : decode cX4_holds 37 = .ok (.iconst 0, 1) := by decide +kernel
theorem dX4_holds_38 : decode cX4_holds 38 = .ok (.ireturn, 1) := by decide +kernel
theorem dX4_holds_39 : decode cX4_holds 39 = .ok (.iload_n 3, 1) := by decide +kernel
theorem dX4_holds_40 : decode cX4_holds 40 = .ok (.iconst 2, 1) := by decide +kernel
theorem dX4_holds_41 : decode cX4_holds 41 = .ok (.if_icmp .ne 15, 3) := by decide +kernel
theorem dX4_holds_44 : decode cX4_holds 44 = .ok (.aload_n 0, 1) := by decide +kernel
theorem dX4_holds_45 : decode cX4_holds 45 = .ok (.getfield 37, 3) := by decide +kernel
theorem dX4_holds_48 : decode cX4_holds 48 = .ok (.aload_n 0, 1) := by decide +kernel
theorem dX4_holds_49 : decode cX4_holds 49 = .ok (.getfield 25, 3) := by decide +kernel
theorem dX4_holds_52 : decode cX4_holds 52 = .ok (.iload_n 1, 1) := by decide +kernel
theorem dX4_holds_53 : decode cX4_holds 53 = .ok (.iaload, 1) := by decide +kernel
theorem dX4_holds_54 : decode cX4_holds 54 = .ok (.baload, 1) := by decide +kernel
theorem dX4_holds_55 : decode cX4_holds 55 = .ok (.ireturn, 1) := by decide +kernel
theorem dX4_holds_56 : decode cX4_holds 56 = .ok (.iload_n 3, 1) := by decide +kernel
theorem dX4_holds_57 : decode cX4_holds 57 = .ok (.iconst 3, 1) := by decide +kernel
theorem dX4_holds_58 : decode cX4_holds 58 = .ok (.if_icmp .ne 5, 3) := by decide +kernel
theorem dX4_holds_61 : decode cX4_holds 61 = .ok (.iconst 1, 1) := by decide +kernel
theorem dX4_holds_62 : decode cX4_holds 62 = .ok (.ireturn, 1) := by decide +kernel
theorem dX4_holds_63 : decode cX4_holds 63 = .ok (.iload_n 2, 1) := by decide +kernel
theorem dX4_holds_64 : decode cX4_holds 64 = .ok (.aload_n 0, 1) := by decide +kernel
theorem dX4_holds_65 : decode cX4_holds 65 = .ok (.getfield 22, 3) := by decide +kernel
theorem dX4_holds_68 : decode cX4_holds 68 = .ok (.iload_n 1, 1) := by decide +kernel
theorem dX4_holds_69 : decode cX4_holds 69 = .ok (.iaload, 1) := by decide +kernel
theorem dX4_holds_70 : decode cX4_holds 70 = .ok (.if_icmp .ge 18, 3) := by decide +kernel
theorem dX4_holds_73 : decode cX4_holds 73 = .ok (.iload_n 3, 1) := by decide +kernel
theorem dX4_holds_74 : decode cX4_holds 74 = .ok (.iconst 1, 1) := by decide +kernel
theorem dX4_holds_75 : decode cX4_holds 75 = .ok (.if_icmp .ne 15, 3) := by decide +kernel
theorem dX4_holds_78 : decode cX4_holds 78 = .ok (.aload_n 0, 1) := by decide +kernel
theorem dX4_holds_79 : decode cX4_holds 79 = .ok (.getfield 28, 3) := by decide +kernel
theorem dX4_holds_82 : decode cX4_holds 82 = .ok (.iload_n 1, 1) := by decide +kernel
theorem dX4_holds_83 : decode cX4_holds 83 = .ok (.iaload, 1) := by decide +kernel
theorem dX4_holds_84 : decode cX4_holds 84 = .ok (.iconst 1, 1) := by decide +kernel
theorem dX4_holds_85 : decode cX4_holds 85 = .ok (.if_icmp .eq 5, 3) := by decide +kernel
theorem dX4_holds_88 : decode cX4_holds 88 = .ok (.iconst 0, 1) := by decide +kernel
theorem dX4_holds_89 : decode cX4_holds 89 = .ok (.ireturn, 1) := by decide +kernel
theorem dX4_holds_90 : decode cX4_holds 90 = .ok (.iload_n 3, 1) := by decide +kernel
theorem dX4_holds_91 : decode cX4_holds 91 = .ok (.iconst 4, 1) := by decide +kernel
theorem dX4_holds_92 : decode cX4_holds 92 = .ok (.if_icmp .ne 33, 3) := by decide +kernel
theorem dX4_holds_95 : decode cX4_holds 95 = .ok (.iload_n 2, 1) := by decide +kernel
theorem dX4_holds_96 : decode cX4_holds 96 = .ok (.aload_n 0, 1) := by decide +kernel
theorem dX4_holds_97 : decode cX4_holds 97 = .ok (.getfield 19, 3) := by decide +kernel
theorem dX4_holds_100 : decode cX4_holds 100 = .ok (.iload_n 1, 1) := by decide +kernel
theorem dX4_holds_101 : decode cX4_holds 101 = .ok (.iaload, 1) := by decide +kernel
theorem dX4_holds_102 : decode cX4_holds 102 = .ok (.isub, 1) := by decide +kernel
theorem dX4_holds_103 : decode cX4_holds 103 = .ok (.aload_n 0, 1) := by decide +kernel
theorem dX4_holds_104 : decode cX4_holds 104 = .ok (.getfield 25, 3) := by decide +kernel
theorem dX4_holds_107 : decode cX4_holds 107 = .ok (.iload_n 1, 1) := by decide +kernel
theorem dX4_holds_108 : decode cX4_holds 108 = .ok (.iaload, 1) := by decide +kernel
theorem dX4_holds_109 : decode cX4_holds 109 = .ok (.bipush 100, 2) := by decide +kernel
theorem dX4_holds_111 : decode cX4_holds 111 = .ok (.idiv, 1) := by decide +kernel
theorem dX4_holds_112 : decode cX4_holds 112 = .ok (.irem, 1) := by decide +kernel
theorem dX4_holds_113 : decode cX4_holds 113 = .ok (.aload_n 0, 1) := by decide +kernel
theorem dX4_holds_114 : decode cX4_holds 114 = .ok (.getfield 25, 3) := by decide +kernel
theorem dX4_holds_117 : decode cX4_holds 117 = .ok (.iload_n 1, 1) := by decide +kernel
theorem dX4_holds_118 : decode cX4_holds 118 = .ok (.iaload, 1) := by decide +kernel
theorem dX4_holds_119 : decode cX4_holds 119 = .ok (.bipush 100, 2) := by decide +kernel
theorem dX4_holds_121 : decode cX4_holds 121 = .ok (.irem, 1) := by decide +kernel
theorem dX4_holds_122 : decode cX4_holds 122 = .ok (.if_icmp .ge 7, 3) := by decide +kernel
theorem dX4_holds_125 : decode cX4_holds 125 = .ok (.iconst 1, 1) := by decide +kernel
theorem dX4_holds_126 : decode cX4_holds 126 = .ok (.goto 4, 3) := by decide +kernel
theorem dX4_holds_129 : decode cX4_holds 129 = .ok (.iconst 0, 1) := by decide +kernel
theorem dX4_holds_130 : decode cX4_holds 130 = .ok (.ireturn, 1) := by decide +kernel
theorem dX4_isOn_0 : decode cX4_isOn 0 = .ok (.aload_n 0, 1) := by decide +kernel
theorem dX4_isOn_1 : decode cX4_isOn 1 = .ok (.getfield 13, 3) := by decide +kernel
theorem dX4_isOn_4 : decode cX4_isOn 4 = .ok (.iload_n 1, 1) := by decide +kernel
theorem dX4_isOn_5 : decode cX4_isOn 5 = .ok (.iaload, 1) := by decide +kernel
theorem dX4_isOn_6 : decode cX4_isOn 6 = .ok (.iload_n 2, 1) := by decide +kernel
theorem dX4_isOn_7 : decode cX4_isOn 7 = .ok (.if_icmp .ne 27, 3) := by decide +kernel
theorem dX4_isOn_10 : decode cX4_isOn 10 = .ok (.aload_n 0, 1) := by decide +kernel
theorem dX4_isOn_11 : decode cX4_isOn 11 = .ok (.getfield 16, 3) := by decide +kernel
theorem dX4_isOn_14 : decode cX4_isOn 14 = .ok (.iload_n 1, 1) := by decide +kernel
theorem dX4_isOn_15 : decode cX4_isOn 15 = .ok (.iaload, 1) := by decide +kernel
theorem dX4_isOn_16 : decode cX4_isOn 16 = .ok (.iconst 3, 1) := by decide +kernel
theorem dX4_isOn_17 : decode cX4_isOn 17 = .ok (.if_icmp .eq 13, 3) := by decide +kernel
theorem dX4_isOn_20 : decode cX4_isOn 20 = .ok (.aload_n 0, 1) := by decide +kernel
theorem dX4_isOn_21 : decode cX4_isOn 21 = .ok (.getfield 16, 3) := by decide +kernel
theorem dX4_isOn_24 : decode cX4_isOn 24 = .ok (.iload_n 1, 1) := by decide +kernel
theorem dX4_isOn_25 : decode cX4_isOn 25 = .ok (.iaload, 1) := by decide +kernel
theorem dX4_isOn_26 : decode cX4_isOn 26 = .ok (.iload_n 3, 1) := by decide +kernel
theorem dX4_isOn_27 : decode cX4_isOn 27 = .ok (.if_icmp .ne 7, 3) := by decide +kernel
theorem dX4_isOn_30 : decode cX4_isOn 30 = .ok (.iconst 1, 1) := by decide +kernel
theorem dX4_isOn_31 : decode cX4_isOn 31 = .ok (.goto 4, 3) := by decide +kernel
theorem dX4_isOn_34 : decode cX4_isOn 34 = .ok (.iconst 0, 1) := by decide +kernel
theorem dX4_isOn_35 : decode cX4_isOn 35 = .ok (.ireturn, 1) := by decide +kernel
theorem dX4_isClosed_0 : decode cX4_isClosed 0 = .ok (.iconst 0, 1) := by decide +kernel
theorem dX4_isClosed_1 : decode cX4_isClosed 1 = .ok (.istore 4, 2) := by decide +kernel
theorem dX4_isClosed_3 : decode cX4_isClosed 3 = .ok (.iconst 0, 1) := by decide +kernel
theorem dX4_isClosed_4 : decode cX4_isClosed 4 = .ok (.istore 5, 2) := by decide +kernel
theorem dX4_isClosed_6 : decode cX4_isClosed 6 = .ok (.iload 5, 2) := by decide +kernel
theorem dX4_isClosed_8 : decode cX4_isClosed 8 = .ok (.aload_n 0, 1) := by decide +kernel
theorem dX4_isClosed_9 : decode cX4_isClosed 9 = .ok (.getfield 62, 3) := by decide +kernel
theorem dX4_isClosed_12 : decode cX4_isClosed 12 = .ok (.if_icmp .ge 53, 3) := by decide +kernel
theorem dX4_isClosed_15 : decode cX4_isClosed 15 = .ok (.iload 4, 2) := by decide +kernel
theorem dX4_isClosed_17 : decode cX4_isClosed 17 = .ok (.ifCond .ne 35, 3) := by decide +kernel
theorem dX4_isClosed_20 : decode cX4_isClosed 20 = .ok (.aload_n 0, 1) := by decide +kernel
theorem dX4_isClosed_21 : decode cX4_isClosed 21 = .ok (.getfield 7, 3) := by decide +kernel
theorem dX4_isClosed_24 : decode cX4_isClosed 24 = .ok (.iload 5, 2) := by decide +kernel
theorem dX4_isClosed_26 : decode cX4_isClosed 26 = .ok (.iaload, 1) := by decide +kernel
theorem dX4_isClosed_27 : decode cX4_isClosed 27 = .ok (.iconst 5, 1) := by decide +kernel
theorem dX4_isClosed_28 : decode cX4_isClosed 28 = .ok (.if_icmp .eq 28, 3) := by decide +kernel
theorem dX4_isClosed_31 : decode cX4_isClosed 31 = .ok (.aload_n 0, 1) := by decide +kernel
theorem dX4_isClosed_32 : decode cX4_isClosed 32 = .ok (.iload 5, 2) := by decide +kernel
theorem dX4_isClosed_34 : decode cX4_isClosed 34 = .ok (.iload_n 1, 1) := by decide +kernel
theorem dX4_isClosed_35 : decode cX4_isClosed 35 = .ok (.iload_n 2, 1) := by decide +kernel
theorem dX4_isClosed_36 : decode cX4_isClosed 36 = .ok (.invokevirtual 65, 3) := by decide +kernel
theorem dX4_isClosed_39 : decode cX4_isClosed 39 = .ok (.ifCond .eq 17, 3) := by decide +kernel
theorem dX4_isClosed_42 : decode cX4_isClosed 42 = .ok (.aload_n 0, 1) := by decide +kernel
theorem dX4_isClosed_43 : decode cX4_isClosed 43 = .ok (.iload 5, 2) := by decide +kernel
theorem dX4_isClosed_45 : decode cX4_isClosed 45 = .ok (.iload_n 3, 1) := by decide +kernel
theorem dX4_isClosed_46 : decode cX4_isClosed 46 = .ok (.invokevirtual 68, 3) := by decide +kernel
theorem dX4_isClosed_49 : decode cX4_isClosed 49 = .ok (.ifCond .eq 7, 3) := by decide +kernel
theorem dX4_isClosed_52 : decode cX4_isClosed 52 = .ok (.iconst 1, 1) := by decide +kernel
theorem dX4_isClosed_53 : decode cX4_isClosed 53 = .ok (.goto 4, 3) := by decide +kernel
theorem dX4_isClosed_56 : decode cX4_isClosed 56 = .ok (.iconst 0, 1) := by decide +kernel
theorem dX4_isClosed_57 : decode cX4_isClosed 57 = .ok (.istore 4, 2) := by decide +kernel
theorem dX4_isClosed_59 : decode cX4_isClosed 59 = .ok (.iinc 5 1, 3) := by decide +kernel
theorem dX4_isClosed_62 : decode cX4_isClosed 62 = .ok (.goto (-56), 3) := by decide +kernel
theorem dX4_isClosed_65 : decode cX4_isClosed 65 = .ok (.iload 4, 2) := by decide +kernel
theorem dX4_isClosed_67 : decode cX4_isClosed 67 = .ok (.ireturn, 1) := by decide +kernel
theorem dX4_has_0 : decode cX4_has 0 = .ok (.iconst 0, 1) := by decide +kernel
theorem dX4_has_1 : decode cX4_has 1 = .ok (.istore_n 3, 1) := by decide +kernel
theorem dX4_has_2 : decode cX4_has 2 = .ok (.iconst 0, 1) := by decide +kernel
theorem dX4_has_3 : decode cX4_has 3 = .ok (.istore 4, 2) := by decide +kernel
theorem dX4_has_5 : decode cX4_has 5 = .ok (.iload 4, 2) := by decide +kernel
theorem dX4_has_7 : decode cX4_has 7 = .ok (.aload_n 0, 1) := by decide +kernel
theorem dX4_has_8 : decode cX4_has 8 = .ok (.getfield 41, 3) := by decide +kernel
theorem dX4_has_11 : decode cX4_has 11 = .ok (.iload_n 1, 1) := by decide +kernel
theorem dX4_has_12 : decode cX4_has 12 = .ok (.iaload, 1) := by decide +kernel
theorem dX4_has_13 : decode cX4_has 13 = .ok (.if_icmp .ge 35, 3) := by decide +kernel
theorem dX4_has_16 : decode cX4_has 16 = .ok (.iload_n 3, 1) := by decide +kernel
theorem dX4_has_17 : decode cX4_has 17 = .ok (.ifCond .ne 19, 3) := by decide +kernel
theorem dX4_has_20 : decode cX4_has 20 = .ok (.aload_n 0, 1) := by decide +kernel
theorem dX4_has_21 : decode cX4_has 21 = .ok (.getfield 44, 3) := by decide +kernel
theorem dX4_has_24 : decode cX4_has 24 = .ok (.bipush 12, 2) := by decide +kernel
theorem dX4_has_26 : decode cX4_has 26 = .ok (.iload_n 1, 1) := by decide +kernel
theorem dX4_has_27 : decode cX4_has 27 = .ok (.imul, 1) := by decide +kernel
theorem dX4_has_28 : decode cX4_has 28 = .ok (.iload 4, 2) := by decide +kernel
theorem dX4_has_30 : decode cX4_has 30 = .ok (.iadd, 1) := by decide +kernel
theorem dX4_has_31 : decode cX4_has 31 = .ok (.iaload, 1) := by decide +kernel
theorem dX4_has_32 : decode cX4_has 32 = .ok (.iload_n 2, 1) := by decide +kernel
theorem dX4_has_33 : decode cX4_has 33 = .ok (.if_icmp .ne 7, 3) := by decide +kernel
theorem dX4_has_36 : decode cX4_has 36 = .ok (.iconst 1, 1) := by decide +kernel
theorem dX4_has_37 : decode cX4_has 37 = .ok (.goto 4, 3) := by decide +kernel
theorem dX4_has_40 : decode cX4_has 40 = .ok (.iconst 0, 1) := by decide +kernel
theorem dX4_has_41 : decode cX4_has 41 = .ok (.istore_n 3, 1) := by decide +kernel
theorem dX4_has_42 : decode cX4_has 42 = .ok (.iinc 4 1, 3) := by decide +kernel
theorem dX4_has_45 : decode cX4_has 45 = .ok (.goto (-40), 3) := by decide +kernel
theorem dX4_has_48 : decode cX4_has 48 = .ok (.iload_n 3, 1) := by decide +kernel
theorem dX4_has_49 : decode cX4_has 49 = .ok (.ireturn, 1) := by decide +kernel
theorem dX4_look_0 : decode cX4_look 0 = .ok (.iconst 0, 1) := by decide +kernel
theorem dX4_look_1 : decode cX4_look 1 = .ok (.istore_n 1, 1) := by decide +kernel
theorem dX4_look_2 : decode cX4_look 2 = .ok (.iload_n 1, 1) := by decide +kernel
theorem dX4_look_3 : decode cX4_look 3 = .ok (.bipush 120, 2) := by decide +kernel
theorem dX4_look_5 : decode cX4_look 5 = .ok (.if_icmp .ge 152, 3) := by decide +kernel
theorem dX4_look_8 : decode cX4_look 8 = .ok (.aload_n 0, 1) := by decide +kernel
theorem dX4_look_9 : decode cX4_look 9 = .ok (.iload_n 1, 1) := by decide +kernel
theorem dX4_look_10 : decode cX4_look 10 = .ok (.iconst 2, 1) := by decide +kernel
theorem dX4_look_11 : decode cX4_look 11 = .ok (.idiv, 1) := by decide +kernel
theorem dX4_look_12 : decode cX4_look 12 = .ok (.iload_n 1, 1) := by decide +kernel
theorem dX4_look_13 : decode cX4_look 13 = .ok (.iconst 2, 1) := by decide +kernel
theorem dX4_look_14 : decode cX4_look 14 = .ok (.irem, 1) := by decide +kernel
theorem dX4_look_15 : decode cX4_look 15 = .ok (.iconst 1, 1) := by decide +kernel
theorem dX4_look_16 : decode cX4_look 16 = .ok (.iadd, 1) := by decide +kernel
theorem dX4_look_17 : decode cX4_look 17 = .ok (.aload_n 0, 1) := by decide +kernel
theorem dX4_look_18 : decode cX4_look 18 = .ok (.getfield 72, 3) := by decide +kernel
theorem dX4_look_21 : decode cX4_look 21 = .ok (.invokevirtual 75, 3) := by decide +kernel
theorem dX4_look_24 : decode cX4_look 24 = .ok (.istore_n 2, 1) := by decide +kernel
theorem dX4_look_25 : decode cX4_look 25 = .ok (.iconst 0, 1) := by decide +kernel
theorem dX4_look_26 : decode cX4_look 26 = .ok (.istore_n 3, 1) := by decide +kernel
theorem dX4_look_27 : decode cX4_look 27 = .ok (.iload_n 3, 1) := by decide +kernel
theorem dX4_look_28 : decode cX4_look 28 = .ok (.bipush 10, 2) := by decide +kernel
theorem dX4_look_30 : decode cX4_look 30 = .ok (.if_icmp .ge 114, 3) := by decide +kernel
theorem dX4_look_33 : decode cX4_look 33 = .ok (.iload_n 2, 1) := by decide +kernel
theorem dX4_look_34 : decode cX4_look 34 = .ok (.aload_n 0, 1) := by decide +kernel
theorem dX4_look_35 : decode cX4_look 35 = .ok (.getfield 47, 3) := by decide +kernel
theorem dX4_look_38 : decode cX4_look 38 = .ok (.iload_n 1, 1) := by decide +kernel
theorem dX4_look_39 : decode cX4_look 39 = .ok (.baload, 1) := by decide +kernel
theorem dX4_look_40 : decode cX4_look 40 = .ok (.if_icmp .eq 104, 3) := by decide +kernel
theorem dX4_look_43 : decode cX4_look 43 = .ok (.aload_n 0, 1) := by decide +kernel
theorem dX4_look_44 : decode cX4_look 44 = .ok (.iload_n 3, 1) := by decide +kernel
theorem dX4_look_45 : decode cX4_look 45 = .ok (.iload_n 1, 1) := by decide +kernel
theorem dX4_look_46 : decode cX4_look 46 = .ok (.invokevirtual 78, 3) := by decide +kernel
theorem dX4_look_49 : decode cX4_look 49 = .ok (.ifCond .eq 89, 3) := by decide +kernel
theorem dX4_look_52 : decode cX4_look 52 = .ok (.iconst 5, 1) := by decide +kernel
theorem dX4_look_53 : decode cX4_look 53 = .ok (.aload_n 0, 1) := by decide +kernel
theorem dX4_look_54 : decode cX4_look 54 = .ok (.getfield 81, 3) := by decide +kernel
theorem dX4_look_57 : decode cX4_look 57 = .ok (.bipush 100, 2) := by decide +kernel
theorem dX4_look_59 : decode cX4_look 59 = .ok (.irem, 1) := by decide +kernel
theorem dX4_look_60 : decode cX4_look 60 = .ok (.imul, 1) := by decide +kernel
theorem dX4_look_61 : decode cX4_look 61 = .ok (.istore 4, 2) := by decide +kernel
theorem dX4_look_63 : decode cX4_look 63 = .ok (.aload_n 0, 1) := by decide +kernel
theorem dX4_look_64 : decode cX4_look 64 = .ok (.getfield 50, 3) := by decide +kernel
theorem dX4_look_67 : decode cX4_look 67 = .ok (.iload 4, 2) := by decide +kernel
theorem dX4_look_69 : decode cX4_look 69 = .ok (.iload_n 3, 1) := by decide +kernel
theorem dX4_look_70 : decode cX4_look 70 = .ok (.iastore, 1) := by decide +kernel
theorem dX4_look_71 : decode cX4_look 71 = .ok (.aload_n 0, 1) := by decide +kernel
theorem dX4_look_72 : decode cX4_look 72 = .ok (.getfield 50, 3) := by decide +kernel
theorem dX4_look_75 : decode cX4_look 75 = .ok (.iload 4, 2) := by decide +kernel
theorem dX4_look_77 : decode cX4_look 77 = .ok (.iconst 1, 1) := by decide +kernel
theorem dX4_look_78 : decode cX4_look 78 = .ok (.iadd, 1) := by decide +kernel
theorem dX4_look_79 : decode cX4_look 79 = .ok (.iload_n 1, 1) := by decide +kernel
theorem dX4_look_80 : decode cX4_look 80 = .ok (.iconst 2, 1) := by decide +kernel
theorem dX4_look_81 : decode cX4_look 81 = .ok (.idiv, 1) := by decide +kernel
theorem dX4_look_82 : decode cX4_look 82 = .ok (.iastore, 1) := by decide +kernel
theorem dX4_look_83 : decode cX4_look 83 = .ok (.aload_n 0, 1) := by decide +kernel
theorem dX4_look_84 : decode cX4_look 84 = .ok (.getfield 50, 3) := by decide +kernel
theorem dX4_look_87 : decode cX4_look 87 = .ok (.iload 4, 2) := by decide +kernel
theorem dX4_look_89 : decode cX4_look 89 = .ok (.iconst 2, 1) := by decide +kernel
theorem dX4_look_90 : decode cX4_look 90 = .ok (.iadd, 1) := by decide +kernel
theorem dX4_look_91 : decode cX4_look 91 = .ok (.iload_n 1, 1) := by decide +kernel
theorem dX4_look_92 : decode cX4_look 92 = .ok (.iconst 2, 1) := by decide +kernel
theorem dX4_look_93 : decode cX4_look 93 = .ok (.irem, 1) := by decide +kernel
theorem dX4_look_94 : decode cX4_look 94 = .ok (.iconst 1, 1) := by decide +kernel
theorem dX4_look_95 : decode cX4_look 95 = .ok (.iadd, 1) := by decide +kernel
theorem dX4_look_96 : decode cX4_look 96 = .ok (.iastore, 1) := by decide +kernel
theorem dX4_look_97 : decode cX4_look 97 = .ok (.aload_n 0, 1) := by decide +kernel
theorem dX4_look_98 : decode cX4_look 98 = .ok (.getfield 50, 3) := by decide +kernel
theorem dX4_look_101 : decode cX4_look 101 = .ok (.iload 4, 2) := by decide +kernel
theorem dX4_look_103 : decode cX4_look 103 = .ok (.iconst 3, 1) := by decide +kernel
theorem dX4_look_104 : decode cX4_look 104 = .ok (.iadd, 1) := by decide +kernel
theorem dX4_look_105 : decode cX4_look 105 = .ok (.iload_n 2, 1) := by decide +kernel
theorem dX4_look_106 : decode cX4_look 106 = .ok (.ifCond .eq 7, 3) := by decide +kernel
theorem dX4_look_109 : decode cX4_look 109 = .ok (.iconst 1, 1) := by decide +kernel
theorem dX4_look_110 : decode cX4_look 110 = .ok (.goto 4, 3) := by decide +kernel
theorem dX4_look_113 : decode cX4_look 113 = .ok (.iconst 0, 1) := by decide +kernel
theorem dX4_look_114 : decode cX4_look 114 = .ok (.iastore, 1) := by decide +kernel
theorem dX4_look_115 : decode cX4_look 115 = .ok (.aload_n 0, 1) := by decide +kernel
theorem dX4_look_116 : decode cX4_look 116 = .ok (.getfield 50, 3) := by decide +kernel
theorem dX4_look_119 : decode cX4_look 119 = .ok (.iload 4, 2) := by decide +kernel
theorem dX4_look_121 : decode cX4_look 121 = .ok (.iconst 4, 1) := by decide +kernel
theorem dX4_look_122 : decode cX4_look 122 = .ok (.iadd, 1) := by decide +kernel
theorem dX4_look_123 : decode cX4_look 123 = .ok (.aload_n 0, 1) := by decide +kernel
theorem dX4_look_124 : decode cX4_look 124 = .ok (.getfield 72, 3) := by decide +kernel
theorem dX4_look_127 : decode cX4_look 127 = .ok (.iastore, 1) := by decide +kernel
theorem dX4_look_128 : decode cX4_look 128 = .ok (.aload_n 0, 1) := by decide +kernel
theorem dX4_look_129 : decode cX4_look 129 = .ok (.dup, 1) := by decide +kernel
theorem dX4_look_130 : decode cX4_look 130 = .ok (.getfield 81, 3) := by decide +kernel
theorem dX4_look_133 : decode cX4_look 133 = .ok (.iconst 1, 1) := by decide +kernel
theorem dX4_look_134 : decode cX4_look 134 = .ok (.iadd, 1) := by decide +kernel
theorem dX4_look_135 : decode cX4_look 135 = .ok (.putfield 81, 3) := by decide +kernel
theorem dX4_look_138 : decode cX4_look 138 = .ok (.iinc 3 1, 3) := by decide +kernel
theorem dX4_look_141 : decode cX4_look 141 = .ok (.goto (-114), 3) := by decide +kernel
theorem dX4_look_144 : decode cX4_look 144 = .ok (.aload_n 0, 1) := by decide +kernel
theorem dX4_look_145 : decode cX4_look 145 = .ok (.getfield 47, 3) := by decide +kernel
theorem dX4_look_148 : decode cX4_look 148 = .ok (.iload_n 1, 1) := by decide +kernel
theorem dX4_look_149 : decode cX4_look 149 = .ok (.iload_n 2, 1) := by decide +kernel
theorem dX4_look_150 : decode cX4_look 150 = .ok (.bastore, 1) := by decide +kernel
theorem dX4_look_151 : decode cX4_look 151 = .ok (.iinc 1 1, 3) := by decide +kernel
theorem dX4_look_154 : decode cX4_look 154 = .ok (.goto (-152), 3) := by decide +kernel
theorem dX4_look_157 : decode cX4_look 157 = .ok (.return_, 1) := by decide +kernel
theorem dX4_isNumber_0 : decode cX4_isNumber 0 = .ok (.iload_n 0, 1) := by decide +kernel
theorem dX4_isNumber_1 : decode cX4_isNumber 1 = .ok (.iconst 4, 1) := by decide +kernel
theorem dX4_isNumber_2 : decode cX4_isNumber 2 = .ok (.if_icmp .ne 37, 3) := by decide +kernel
theorem dX4_isNumber_5 : decode cX4_isNumber 5 = .ok (.iload_n 1, 1) := by decide +kernel
theorem dX4_isNumber_6 : decode cX4_isNumber 6 = .ok (.bipush 100, 2) := by decide +kernel
theorem dX4_isNumber_8 : decode cX4_isNumber 8 = .ok (.idiv, 1) := by decide +kernel
theorem dX4_isNumber_9 : decode cX4_isNumber 9 = .ok (.iconst 1, 1) := by decide +kernel
theorem dX4_isNumber_10 : decode cX4_isNumber 10 = .ok (.bipush 99, 2) := by decide +kernel
theorem dX4_isNumber_12 : decode cX4_isNumber 12 = .ok (.invokestatic 57, 3) := by decide +kernel
theorem dX4_isNumber_15 : decode cX4_isNumber 15 = .ok (.ifCond .eq 22, 3) := by decide +kernel
theorem dX4_isNumber_18 : decode cX4_isNumber 18 = .ok (.iload_n 1, 1) := by decide +kernel
theorem dX4_isNumber_19 : decode cX4_isNumber 19 = .ok (.ifCond .lt 18, 3) := by decide +kernel
theorem dX4_isNumber_22 : decode cX4_isNumber 22 = .ok (.iload_n 1, 1) := by decide +kernel
theorem dX4_isNumber_23 : decode cX4_isNumber 23 = .ok (.bipush 100, 2) := by decide +kernel
theorem dX4_isNumber_25 : decode cX4_isNumber 25 = .ok (.irem, 1) := by decide +kernel
theorem dX4_isNumber_26 : decode cX4_isNumber 26 = .ok (.iload_n 1, 1) := by decide +kernel
theorem dX4_isNumber_27 : decode cX4_isNumber 27 = .ok (.bipush 100, 2) := by decide +kernel
theorem dX4_isNumber_29 : decode cX4_isNumber 29 = .ok (.idiv, 1) := by decide +kernel
theorem dX4_isNumber_30 : decode cX4_isNumber 30 = .ok (.if_icmp .gt 7, 3) := by decide +kernel
theorem dX4_isNumber_33 : decode cX4_isNumber 33 = .ok (.iconst 1, 1) := by decide +kernel
theorem dX4_isNumber_34 : decode cX4_isNumber 34 = .ok (.goto 4, 3) := by decide +kernel
theorem dX4_isNumber_37 : decode cX4_isNumber 37 = .ok (.iconst 0, 1) := by decide +kernel
theorem dX4_isNumber_38 : decode cX4_isNumber 38 = .ok (.ireturn, 1) := by decide +kernel
theorem dX4_isNumber_39 : decode cX4_isNumber 39 = .ok (.iload_n 0, 1) := by decide +kernel
theorem dX4_isNumber_40 : decode cX4_isNumber 40 = .ok (.iconst 5, 1) := by decide +kernel
theorem dX4_isNumber_41 : decode cX4_isNumber 41 = .ok (.if_icmp .ne 13, 3) := by decide +kernel
theorem dX4_isNumber_44 : decode cX4_isNumber 44 = .ok (.iload_n 1, 1) := by decide +kernel
theorem dX4_isNumber_45 : decode cX4_isNumber 45 = .ok (.iconst 1, 1) := by decide +kernel
theorem dX4_isNumber_46 : decode cX4_isNumber 46 = .ok (.bipush 99, 2) := by decide +kernel
theorem dX4_isNumber_48 : decode cX4_isNumber 48 = .ok (.invokestatic 57, 3) := by decide +kernel
theorem dX4_isNumber_51 : decode cX4_isNumber 51 = .ok (.ifCond .eq 7, 3) := by decide +kernel
theorem dX4_isNumber_54 : decode cX4_isNumber 54 = .ok (.iconst 1, 1) := by decide +kernel
theorem dX4_isNumber_55 : decode cX4_isNumber 55 = .ok (.goto 4, 3) := by decide +kernel
theorem dX4_isNumber_58 : decode cX4_isNumber 58 = .ok (.iconst 0, 1) := by decide +kernel
theorem dX4_isNumber_59 : decode cX4_isNumber 59 = .ok (.ireturn, 1) := by decide +kernel
theorem dX4_close_0 : decode cX4_close 0 = .ok (.iload_n 1, 1) := by decide +kernel
theorem dX4_close_1 : decode cX4_close 1 = .ok (.iconst 0, 1) := by decide +kernel
theorem dX4_close_2 : decode cX4_close 2 = .ok (.iconst 5, 1) := by decide +kernel
theorem dX4_close_3 : decode cX4_close 3 = .ok (.invokestatic 57, 3) := by decide +kernel
theorem dX4_close_6 : decode cX4_close 6 = .ok (.ifCond .eq 26, 3) := by decide +kernel
theorem dX4_close_9 : decode cX4_close 9 = .ok (.iload_n 2, 1) := by decide +kernel
theorem dX4_close_10 : decode cX4_close 10 = .ok (.invokestatic 84, 3) := by decide +kernel
theorem dX4_close_13 : decode cX4_close 13 = .ok (.ifCond .eq 19, 3) := by decide +kernel
theorem dX4_close_16 : decode cX4_close 16 = .ok (.iload_n 1, 1) := by decide +kernel
theorem dX4_close_17 : decode cX4_close 17 = .ok (.iconst 2, 1) := by decide +kernel
theorem dX4_close_18 : decode cX4_close 18 = .ok (.if_icmp .ne 18, 3) := by decide +kernel
theorem dX4_close_21 : decode cX4_close 21 = .ok (.iload 6, 2) := by decide +kernel
theorem dX4_close_23 : decode cX4_close 23 = .ok (.iconst 0, 1) := by decide +kernel
theorem dX4_close_24 : decode cX4_close 24 = .ok (.bipush 19, 2) := by decide +kernel
theorem dX4_close_26 : decode cX4_close 26 = .ok (.invokestatic 57, 3) := by decide +kernel
theorem dX4_close_29 : decode cX4_close 29 = .ok (.ifCond .ne 7, 3) := by decide +kernel
theorem dX4_close_32 : decode cX4_close 32 = .ok (.iconst 1, 1) := by decide +kernel
theorem dX4_close_33 : decode cX4_close 33 = .ok (.goto 4, 3) := by decide +kernel
theorem dX4_close_36 : decode cX4_close 36 = .ok (.iconst 0, 1) := by decide +kernel
theorem dX4_close_37 : decode cX4_close 37 = .ok (.istore 7, 2) := by decide +kernel
theorem dX4_close_39 : decode cX4_close 39 = .ok (.iload_n 1, 1) := by decide +kernel
theorem dX4_close_40 : decode cX4_close 40 = .ok (.iconst 2, 1) := by decide +kernel
theorem dX4_close_41 : decode cX4_close 41 = .ok (.if_icmp .eq 12, 3) := by decide +kernel
theorem dX4_close_44 : decode cX4_close 44 = .ok (.iload_n 1, 1) := by decide +kernel
theorem dX4_close_45 : decode cX4_close 45 = .ok (.iconst 3, 1) := by decide +kernel
theorem dX4_close_46 : decode cX4_close 46 = .ok (.if_icmp .eq 7, 3) := by decide +kernel
theorem dX4_close_49 : decode cX4_close 49 = .ok (.iconst 1, 1) := by decide +kernel
theorem dX4_close_50 : decode cX4_close 50 = .ok (.goto 4, 3) := by decide +kernel
theorem dX4_close_53 : decode cX4_close 53 = .ok (.iconst 0, 1) := by decide +kernel
theorem dX4_close_54 : decode cX4_close 54 = .ok (.istore 8, 2) := by decide +kernel
theorem dX4_close_56 : decode cX4_close 56 = .ok (.iload_n 3, 1) := by decide +kernel
theorem dX4_close_57 : decode cX4_close 57 = .ok (.iconst 1, 1) := by decide +kernel
theorem dX4_close_58 : decode cX4_close 58 = .ok (.iconst 3, 1) := by decide +kernel
theorem dX4_close_59 : decode cX4_close 59 = .ok (.invokestatic 57, 3) := by decide +kernel
theorem dX4_close_62 : decode cX4_close 62 = .ok (.ifCond .eq 40, 3) := by decide +kernel
theorem dX4_close_65 : decode cX4_close 65 = .ok (.iload 4, 2) := by decide +kernel
theorem dX4_close_67 : decode cX4_close 67 = .ok (.invokestatic 88, 3) := by decide +kernel
theorem dX4_close_70 : decode cX4_close 70 = .ok (.ifCond .eq 32, 3) := by decide +kernel
theorem dX4_close_73 : decode cX4_close 73 = .ok (.iload 8, 2) := by decide +kernel
theorem dX4_close_75 : decode cX4_close 75 = .ok (.ifCond .eq 18, 3) := by decide +kernel
theorem dX4_close_78 : decode cX4_close 78 = .ok (.iload 5, 2) := by decide +kernel
theorem dX4_close_80 : decode cX4_close 80 = .ok (.invokestatic 88, 3) := by decide +kernel
theorem dX4_close_83 : decode cX4_close 83 = .ok (.ifCond .eq 19, 3) := by decide +kernel
theorem dX4_close_86 : decode cX4_close 86 = .ok (.iload 5, 2) := by decide +kernel
theorem dX4_close_88 : decode cX4_close 88 = .ok (.iload 4, 2) := by decide +kernel
theorem dX4_close_90 : decode cX4_close 90 = .ok (.if_icmp .le 12, 3) := by decide +kernel
theorem dX4_close_93 : decode cX4_close 93 = .ok (.iload_n 1, 1) := by decide +kernel
theorem dX4_close_94 : decode cX4_close 94 = .ok (.iload 6, 2) := by decide +kernel
theorem dX4_close_96 : decode cX4_close 96 = .ok (.invokestatic 91, 3) := by decide +kernel
theorem dX4_close_99 : decode cX4_close 99 = .ok (.ifCond .ne 7, 3) := by decide +kernel
theorem dX4_close_102 : decode cX4_close 102 = .ok (.iconst 1, 1) := by decide +kernel
theorem dX4_close_103 : decode cX4_close 103 = .ok (.goto 4, 3) := by decide +kernel
theorem dX4_close_106 : decode cX4_close 106 = .ok (.iconst 0, 1) := by decide +kernel
theorem dX4_close_107 : decode cX4_close 107 = .ok (.istore 9, 2) := by decide +kernel
theorem dX4_close_109 : decode cX4_close 109 = .ok (.aload_n 0, 1) := by decide +kernel
theorem dX4_close_110 : decode cX4_close 110 = .ok (.iload 7, 2) := by decide +kernel
theorem dX4_close_112 : decode cX4_close 112 = .ok (.iload 9, 2) := by decide +kernel
theorem dX4_close_114 : decode cX4_close 114 = .ok (.aload_n 0, 1) := by decide +kernel
theorem dX4_close_115 : decode cX4_close 115 = .ok (.getfield 62, 3) := by decide +kernel
theorem dX4_close_118 : decode cX4_close 118 = .ok (.bipush 100, 2) := by decide +kernel
theorem dX4_close_120 : decode cX4_close 120 = .ok (.if_icmp .ne 7, 3) := by decide +kernel
theorem dX4_close_123 : decode cX4_close 123 = .ok (.iconst 1, 1) := by decide +kernel
theorem dX4_close_124 : decode cX4_close 124 = .ok (.goto 4, 3) := by decide +kernel
theorem dX4_close_127 : decode cX4_close 127 = .ok (.iconst 0, 1) := by decide +kernel
theorem dX4_close_128 : decode cX4_close 128 = .ok (.invokevirtual 94, 3) := by decide +kernel
theorem dX4_close_131 : decode cX4_close 131 = .ok (.ifCond .eq 5, 3) := by decide +kernel
theorem dX4_close_134 : decode cX4_close 134 = .ok (.iconst 0, 1) := by decide +kernel
theorem dX4_close_135 : decode cX4_close 135 = .ok (.ireturn, 1) := by decide +kernel
theorem dX4_close_136 : decode cX4_close 136 = .ok (.aload_n 0, 1) := by decide +kernel
theorem dX4_close_137 : decode cX4_close 137 = .ok (.getfield 7, 3) := by decide +kernel
theorem dX4_close_140 : decode cX4_close 140 = .ok (.aload_n 0, 1) := by decide +kernel
theorem dX4_close_141 : decode cX4_close 141 = .ok (.getfield 62, 3) := by decide +kernel
theorem dX4_close_144 : decode cX4_close 144 = .ok (.iload_n 1, 1) := by decide +kernel
theorem dX4_close_145 : decode cX4_close 145 = .ok (.iastore, 1) := by decide +kernel
theorem dX4_close_146 : decode cX4_close 146 = .ok (.aload_n 0, 1) := by decide +kernel
theorem dX4_close_147 : decode cX4_close 147 = .ok (.getfield 13, 3) := by decide +kernel
theorem dX4_close_150 : decode cX4_close 150 = .ok (.aload_n 0, 1) := by decide +kernel
theorem dX4_close_151 : decode cX4_close 151 = .ok (.getfield 62, 3) := by decide +kernel
theorem dX4_close_154 : decode cX4_close 154 = .ok (.iload_n 2, 1) := by decide +kernel
theorem dX4_close_155 : decode cX4_close 155 = .ok (.iastore, 1) := by decide +kernel
theorem dX4_close_156 : decode cX4_close 156 = .ok (.aload_n 0, 1) := by decide +kernel
theorem dX4_close_157 : decode cX4_close 157 = .ok (.getfield 16, 3) := by decide +kernel
theorem dX4_close_160 : decode cX4_close 160 = .ok (.aload_n 0, 1) := by decide +kernel
theorem dX4_close_161 : decode cX4_close 161 = .ok (.getfield 62, 3) := by decide +kernel
theorem dX4_close_164 : decode cX4_close 164 = .ok (.iload_n 3, 1) := by decide +kernel
theorem dX4_close_165 : decode cX4_close 165 = .ok (.iastore, 1) := by decide +kernel
theorem dX4_close_166 : decode cX4_close 166 = .ok (.aload_n 0, 1) := by decide +kernel
theorem dX4_close_167 : decode cX4_close 167 = .ok (.getfield 19, 3) := by decide +kernel
theorem dX4_close_170 : decode cX4_close 170 = .ok (.aload_n 0, 1) := by decide +kernel
theorem dX4_close_171 : decode cX4_close 171 = .ok (.getfield 62, 3) := by decide +kernel
theorem dX4_close_174 : decode cX4_close 174 = .ok (.iload 4, 2) := by decide +kernel
theorem dX4_close_176 : decode cX4_close 176 = .ok (.iastore, 1) := by decide +kernel
theorem dX4_close_177 : decode cX4_close 177 = .ok (.aload_n 0, 1) := by decide +kernel
theorem dX4_close_178 : decode cX4_close 178 = .ok (.getfield 22, 3) := by decide +kernel
theorem dX4_close_181 : decode cX4_close 181 = .ok (.aload_n 0, 1) := by decide +kernel
theorem dX4_close_182 : decode cX4_close 182 = .ok (.getfield 62, 3) := by decide +kernel
theorem dX4_close_185 : decode cX4_close 185 = .ok (.iload 5, 2) := by decide +kernel
theorem dX4_close_187 : decode cX4_close 187 = .ok (.iastore, 1) := by decide +kernel
theorem dX4_close_188 : decode cX4_close 188 = .ok (.aload_n 0, 1) := by decide +kernel
theorem dX4_close_189 : decode cX4_close 189 = .ok (.getfield 25, 3) := by decide +kernel
theorem dX4_close_192 : decode cX4_close 192 = .ok (.aload_n 0, 1) := by decide +kernel
theorem dX4_close_193 : decode cX4_close 193 = .ok (.getfield 62, 3) := by decide +kernel
theorem dX4_close_196 : decode cX4_close 196 = .ok (.iload 6, 2) := by decide +kernel
theorem dX4_close_198 : decode cX4_close 198 = .ok (.iastore, 1) := by decide +kernel
theorem dX4_close_199 : decode cX4_close 199 = .ok (.aload_n 0, 1) := by decide +kernel
theorem dX4_close_200 : decode cX4_close 200 = .ok (.getfield 28, 3) := by decide +kernel
theorem dX4_close_203 : decode cX4_close 203 = .ok (.aload_n 0, 1) := by decide +kernel
theorem dX4_close_204 : decode cX4_close 204 = .ok (.getfield 62, 3) := by decide +kernel
theorem dX4_close_207 : decode cX4_close 207 = .ok (.iconst (-1), 1) := by decide +kernel
theorem dX4_close_208 : decode cX4_close 208 = .ok (.iastore, 1) := by decide +kernel
theorem dX4_close_209 : decode cX4_close 209 = .ok (.aload_n 0, 1) := by decide +kernel
theorem dX4_close_210 : decode cX4_close 210 = .ok (.getfield 31, 3) := by decide +kernel
theorem dX4_close_213 : decode cX4_close 213 = .ok (.aload_n 0, 1) := by decide +kernel
theorem dX4_close_214 : decode cX4_close 214 = .ok (.getfield 62, 3) := by decide +kernel
theorem dX4_close_217 : decode cX4_close 217 = .ok (.iconst (-1), 1) := by decide +kernel
theorem dX4_close_218 : decode cX4_close 218 = .ok (.iastore, 1) := by decide +kernel
theorem dX4_close_219 : decode cX4_close 219 = .ok (.aload_n 0, 1) := by decide +kernel
theorem dX4_close_220 : decode cX4_close 220 = .ok (.getfield 34, 3) := by decide +kernel
theorem dX4_close_223 : decode cX4_close 223 = .ok (.aload_n 0, 1) := by decide +kernel
theorem dX4_close_224 : decode cX4_close 224 = .ok (.getfield 62, 3) := by decide +kernel
theorem dX4_close_227 : decode cX4_close 227 = .ok (.iconst (-1), 1) := by decide +kernel
theorem dX4_close_228 : decode cX4_close 228 = .ok (.iastore, 1) := by decide +kernel
theorem dX4_close_229 : decode cX4_close 229 = .ok (.aload_n 0, 1) := by decide +kernel
theorem dX4_close_230 : decode cX4_close 230 = .ok (.dup, 1) := by decide +kernel
theorem dX4_close_231 : decode cX4_close 231 = .ok (.getfield 62, 3) := by decide +kernel
theorem dX4_close_234 : decode cX4_close 234 = .ok (.iconst 1, 1) := by decide +kernel
theorem dX4_close_235 : decode cX4_close 235 = .ok (.iadd, 1) := by decide +kernel
theorem dX4_close_236 : decode cX4_close 236 = .ok (.putfield 62, 3) := by decide +kernel
theorem dX4_close_239 : decode cX4_close 239 = .ok (.aload_n 0, 1) := by decide +kernel
theorem dX4_close_240 : decode cX4_close 240 = .ok (.invokevirtual 98, 3) := by decide +kernel
theorem dX4_close_243 : decode cX4_close 243 = .ok (.aload_n 0, 1) := by decide +kernel
theorem dX4_close_244 : decode cX4_close 244 = .ok (.getfield 62, 3) := by decide +kernel
theorem dX4_close_247 : decode cX4_close 247 = .ok (.iconst 1, 1) := by decide +kernel
theorem dX4_close_248 : decode cX4_close 248 = .ok (.isub, 1) := by decide +kernel
theorem dX4_close_249 : decode cX4_close 249 = .ok (.ireturn, 1) := by decide +kernel
theorem dX4_answer_0 : decode cX4_answer 0 = .ok (.aload_n 0, 1) := by decide +kernel
theorem dX4_answer_1 : decode cX4_answer 1 = .ok (.iload_n 1, 1) := by decide +kernel
theorem dX4_answer_2 : decode cX4_answer 2 = .ok (.invokevirtual 101, 3) := by decide +kernel
theorem dX4_answer_5 : decode cX4_answer 5 = .ok (.ifCond .ne 7, 3) := by decide +kernel
theorem dX4_answer_8 : decode cX4_answer 8 = .ok (.iconst 1, 1) := by decide +kernel
theorem dX4_answer_9 : decode cX4_answer 9 = .ok (.goto 4, 3) := by decide +kernel
theorem dX4_answer_12 : decode cX4_answer 12 = .ok (.iconst 0, 1) := by decide +kernel
theorem dX4_answer_13 : decode cX4_answer 13 = .ok (.istore_n 3, 1) := by decide +kernel
theorem dX4_answer_14 : decode cX4_answer 14 = .ok (.aload_n 0, 1) := by decide +kernel
theorem dX4_answer_15 : decode cX4_answer 15 = .ok (.iload_n 3, 1) := by decide +kernel
theorem dX4_answer_16 : decode cX4_answer 16 = .ok (.iload_n 3, 1) := by decide +kernel
theorem dX4_answer_17 : decode cX4_answer 17 = .ok (.ifCond .ne 27, 3) := by decide +kernel
theorem dX4_answer_20 : decode cX4_answer 20 = .ok (.aload_n 0, 1) := by decide +kernel
theorem dX4_answer_21 : decode cX4_answer 21 = .ok (.getfield 7, 3) := by decide +kernel
theorem dX4_answer_24 : decode cX4_answer 24 = .ok (.iload_n 1, 1) := by decide +kernel
theorem dX4_answer_25 : decode cX4_answer 25 = .ok (.iaload, 1) := by decide +kernel
theorem dX4_answer_26 : decode cX4_answer 26 = .ok (.iconst 1, 1) := by decide +kernel
theorem dX4_answer_27 : decode cX4_answer 27 = .ok (.if_icmp .ne 13, 3) := by decide +kernel
theorem dX4_answer_30 : decode cX4_answer 30 = .ok (.aload_n 0, 1) := by decide +kernel
theorem dX4_answer_31 : decode cX4_answer 31 = .ok (.getfield 28, 3) := by decide +kernel
theorem dX4_answer_34 : decode cX4_answer 34 = .ok (.iload_n 1, 1) := by decide +kernel
theorem dX4_answer_35 : decode cX4_answer 35 = .ok (.iaload, 1) := by decide +kernel
theorem dX4_answer_36 : decode cX4_answer 36 = .ok (.iconst (-1), 1) := by decide +kernel
theorem dX4_answer_37 : decode cX4_answer 37 = .ok (.if_icmp .eq 7, 3) := by decide +kernel
theorem dX4_answer_40 : decode cX4_answer 40 = .ok (.iconst 1, 1) := by decide +kernel
theorem dX4_answer_41 : decode cX4_answer 41 = .ok (.goto 4, 3) := by decide +kernel
theorem dX4_answer_44 : decode cX4_answer 44 = .ok (.iconst 0, 1) := by decide +kernel
theorem dX4_answer_45 : decode cX4_answer 45 = .ok (.iconst 0, 1) := by decide +kernel
theorem dX4_answer_46 : decode cX4_answer 46 = .ok (.invokevirtual 94, 3) := by decide +kernel
theorem dX4_answer_49 : decode cX4_answer 49 = .ok (.ifCond .eq 4, 3) := by decide +kernel
theorem dX4_answer_52 : decode cX4_answer 52 = .ok (.return_, 1) := by decide +kernel
theorem dX4_answer_53 : decode cX4_answer 53 = .ok (.aload_n 0, 1) := by decide +kernel
theorem dX4_answer_54 : decode cX4_answer 54 = .ok (.getfield 28, 3) := by decide +kernel
theorem dX4_answer_57 : decode cX4_answer 57 = .ok (.iload_n 1, 1) := by decide +kernel
theorem dX4_answer_58 : decode cX4_answer 58 = .ok (.iload_n 2, 1) := by decide +kernel
theorem dX4_answer_59 : decode cX4_answer 59 = .ok (.ifCond .eq 7, 3) := by decide +kernel
theorem dX4_answer_62 : decode cX4_answer 62 = .ok (.iconst 1, 1) := by decide +kernel
theorem dX4_answer_63 : decode cX4_answer 63 = .ok (.goto 4, 3) := by decide +kernel
theorem dX4_answer_66 : decode cX4_answer 66 = .ok (.iconst 0, 1) := by decide +kernel
theorem dX4_answer_67 : decode cX4_answer 67 = .ok (.iastore, 1) := by decide +kernel
theorem dX4_answer_68 : decode cX4_answer 68 = .ok (.aload_n 0, 1) := by decide +kernel
theorem dX4_answer_69 : decode cX4_answer 69 = .ok (.invokevirtual 98, 3) := by decide +kernel
theorem dX4_answer_72 : decode cX4_answer 72 = .ok (.return_, 1) := by decide +kernel
