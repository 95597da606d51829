theorem dX0_init_0 : decode cX0_init 0 = .ok (.aload_n 0, 1) := by decide +kernel
theorem dX0_init_1 : decode cX0_init 1 = .ok (.invokespecial 3, 3) := by decide +kernel
theorem dX0_init_4 : decode cX0_init 4 = .ok (.aload_n 0, 1) := by decide +kernel
theorem dX0_init_5 : decode cX0_init 5 = .ok (.bipush 100, 2) := by decide +kernel
theorem dX0_init_7 : decode cX0_init 7 = .ok (.newarray .int, 2) := by decide +kernel
theorem dX0_init_9 : decode cX0_init 9 = .ok (.putfield 9, 3) := by decide +kernel
theorem dX0_init_12 : decode cX0_init 12 = .ok (.aload_n 0, 1) := by decide +kernel
theorem dX0_init_13 : decode cX0_init 13 = .ok (.bipush 100, 2) := by decide +kernel
theorem dX0_init_15 : decode cX0_init 15 = .ok (.newarray .int, 2) := by decide +kernel
theorem dX0_init_17 : decode cX0_init 17 = .ok (.putfield 15, 3) := by decide +kernel
theorem dX0_init_20 : decode cX0_init 20 = .ok (.aload_n 0, 1) := by decide +kernel
theorem dX0_init_21 : decode cX0_init 21 = .ok (.bipush 100, 2) := by decide +kernel
theorem dX0_init_23 : decode cX0_init 23 = .ok (.newarray .int, 2) := by decide +kernel
theorem dX0_init_25 : decode cX0_init 25 = .ok (.putfield 18, 3) := by decide +kernel
theorem dX0_init_28 : decode cX0_init 28 = .ok (.aload_n 0, 1) := by decide +kernel
theorem dX0_init_29 : decode cX0_init 29 = .ok (.bipush 100, 2) := by decide +kernel
theorem dX0_init_31 : decode cX0_init 31 = .ok (.newarray .int, 2) := by decide +kernel
theorem dX0_init_33 : decode cX0_init 33 = .ok (.putfield 21, 3) := by decide +kernel
theorem dX0_init_36 : decode cX0_init 36 = .ok (.aload_n 0, 1) := by decide +kernel
theorem dX0_init_37 : decode cX0_init 37 = .ok (.bipush 100, 2) := by decide +kernel
theorem dX0_init_39 : decode cX0_init 39 = .ok (.newarray .int, 2) := by decide +kernel
theorem dX0_init_41 : decode cX0_init 41 = .ok (.putfield 24, 3) := by decide +kernel
theorem dX0_init_44 : decode cX0_init 44 = .ok (.aload_n 0, 1) := by decide +kernel
theorem dX0_init_45 : decode cX0_init 45 = .ok (.bipush 100, 2) := by decide +kernel
theorem dX0_init_47 : decode cX0_init 47 = .ok (.newarray .int, 2) := by decide +kernel
theorem dX0_init_49 : decode cX0_init 49 = .ok (.putfield 27, 3) := by decide +kernel
theorem dX0_init_52 : decode cX0_init 52 = .ok (.aload_n 0, 1) := by decide +kernel
theorem dX0_init_53 : decode cX0_init 53 = .ok (.bipush 100, 2) := by decide +kernel
theorem dX0_init_55 : decode cX0_init 55 = .ok (.newarray .int, 2) := by decide +kernel
theorem dX0_init_57 : decode cX0_init 57 = .ok (.putfield 30, 3) := by decide +kernel
theorem dX0_init_60 : decode cX0_init 60 = .ok (.aload_n 0, 1) := by decide +kernel
theorem dX0_init_61 : decode cX0_init 61 = .ok (.bipush 100, 2) := by decide +kernel
theorem dX0_init_63 : decode cX0_init 63 = .ok (.newarray .int, 2) := by decide +kernel
theorem dX0_init_65 : decode cX0_init 65 = .ok (.putfield 33, 3) := by decide +kernel
theorem dX0_init_68 : decode cX0_init 68 = .ok (.aload_n 0, 1) := by decide +kernel
theorem dX0_init_69 : decode cX0_init 69 = .ok (.bipush 20, 2) := by decide +kernel
theorem dX0_init_71 : decode cX0_init 71 = .ok (.newarray .boolean, 2) := by decide +kernel
theorem dX0_init_73 : decode cX0_init 73 = .ok (.putfield 36, 3) := by decide +kernel
theorem dX0_init_76 : decode cX0_init 76 = .ok (.aload_n 0, 1) := by decide +kernel
theorem dX0_init_77 : decode cX0_init 77 = .ok (.iconst 0, 1) := by decide +kernel
theorem dX0_init_78 : decode cX0_init 78 = .ok (.putfield 40, 3) := by decide +kernel
theorem dX0_init_81 : decode cX0_init 81 = .ok (.return_, 1) := by decide +kernel
theorem dX0_isFull_0 : decode cX0_isFull 0 = .ok (.aload_n 0, 1) := by decide +kernel
theorem dX0_isFull_1 : decode cX0_isFull 1 = .ok (.getfield 40, 3) := by decide +kernel
theorem dX0_isFull_4 : decode cX0_isFull 4 = .ok (.bipush 100, 2) := by decide +kernel
theorem dX0_isFull_6 : decode cX0_isFull 6 = .ok (.if_icmp .lt 7, 3) := by decide +kernel
theorem dX0_isFull_9 : decode cX0_isFull 9 = .ok (.iconst 1, 1) := by decide +kernel
theorem dX0_isFull_10 : decode cX0_isFull 10 = .ok (.goto 4, 3) := by decide +kernel
theorem dX0_isFull_13 : decode cX0_isFull 13 = .ok (.iconst 0, 1) := by decide +kernel
theorem dX0_isFull_14 : decode cX0_isFull 14 = .ok (.ireturn, 1) := by decide +kernel
theorem dX0_has_0 : decode cX0_has 0 = .ok (.iload_n 1, 1) := by decide +kernel
theorem dX0_has_1 : decode cX0_has 1 = .ok (.ifCond .lt 15, 3) := by decide +kernel
theorem dX0_has_4 : decode cX0_has 4 = .ok (.iload_n 1, 1) := by decide +kernel
theorem dX0_has_5 : decode cX0_has 5 = .ok (.aload_n 0, 1) := by decide +kernel
theorem dX0_has_6 : decode cX0_has 6 = .ok (.getfield 40, 3) := by decide +kernel
theorem dX0_has_9 : decode cX0_has 9 = .ok (.if_icmp .ge 7, 3) := by decide +kernel
theorem dX0_has_12 : decode cX0_has 12 = .ok (.iconst 1, 1) := by decide +kernel
theorem dX0_has_13 : decode cX0_has 13 = .ok (.goto 4, 3) := by decide +kernel
theorem dX0_has_16 : decode cX0_has 16 = .ok (.iconst 0, 1) := by decide +kernel
theorem dX0_has_17 : decode cX0_has 17 = .ok (.ireturn, 1) := by decide +kernel
theorem dX0_add_0 : decode cX0_add 0 = .ok (.aload_n 0, 1) := by decide +kernel
theorem dX0_add_1 : decode cX0_add 1 = .ok (.getfield 40, 3) := by decide +kernel
theorem dX0_add_4 : decode cX0_add 4 = .ok (.istore 7, 2) := by decide +kernel
theorem dX0_add_6 : decode cX0_add 6 = .ok (.aload_n 0, 1) := by decide +kernel
theorem dX0_add_7 : decode cX0_add 7 = .ok (.getfield 9, 3) := by decide +kernel
theorem dX0_add_10 : decode cX0_add 10 = .ok (.iload 7, 2) := by decide +kernel
theorem dX0_add_12 : decode cX0_add 12 = .ok (.iload_n 1, 1) := by decide +kernel
theorem dX0_add_13 : decode cX0_add 13 = .ok (.iastore, 1) := by decide +kernel
theorem dX0_add_14 : decode cX0_add 14 = .ok (.aload_n 0, 1) := by decide +kernel
theorem dX0_add_15 : decode cX0_add 15 = .ok (.getfield 15, 3) := by decide +kernel
theorem dX0_add_18 : decode cX0_add 18 = .ok (.iload 7, 2) := by decide +kernel
theorem dX0_add_20 : decode cX0_add 20 = .ok (.iload_n 2, 1) := by decide +kernel
theorem dX0_add_21 : decode cX0_add 21 = .ok (.iastore, 1) := by decide +kernel
theorem dX0_add_22 : decode cX0_add 22 = .ok (.aload_n 0, 1) := by decide +kernel
theorem dX0_add_23 : decode cX0_add 23 = .ok (.getfield 18, 3) := by decide +kernel
theorem dX0_add_26 : decode cX0_add 26 = .ok (.iload 7, 2) := by decide +kernel
theorem dX0_add_28 : decode cX0_add 28 = .ok (.iload_n 3, 1) := by decide +kernel
theorem dX0_add_29 : decode cX0_add 29 = .ok (.iastore, 1) := by decide +kernel
theorem dX0_add_30 : decode cX0_add 30 = .ok (.aload_n 0, 1) := by decide +kernel
theorem dX0_add_31 : decode cX0_add 31 = .ok (.getfield 21, 3) := by decide +kernel
theorem dX0_add_34 : decode cX0_add 34 = .ok (.iload 7, 2) := by decide +kernel
theorem dX0_add_36 : decode cX0_add 36 = .ok (.iload 4, 2) := by decide +kernel
theorem dX0_add_38 : decode cX0_add 38 = .ok (.iastore, 1) := by decide +kernel
theorem dX0_add_39 : decode cX0_add 39 = .ok (.aload_n 0, 1) := by decide +kernel
theorem dX0_add_40 : decode cX0_add 40 = .ok (.getfield 24, 3) := by decide +kernel
theorem dX0_add_43 : decode cX0_add 43 = .ok (.iload 7, 2) := by decide +kernel
theorem dX0_add_45 : decode cX0_add 45 = .ok (.iload 5, 2) := by decide +kernel
theorem dX0_add_47 : decode cX0_add 47 = .ok (.iastore, 1) := by decide +kernel
theorem dX0_add_48 : decode cX0_add 48 = .ok (.aload_n 0, 1) := by decide +kernel
theorem dX0_add_49 : decode cX0_add 49 = .ok (.getfield 27, 3) := by decide +kernel
theorem dX0_add_52 : decode cX0_add 52 = .ok (.iload 7, 2) := by decide +kernel
theorem dX0_add_54 : decode cX0_add 54 = .ok (.iload 6, 2) := by decide +kernel
theorem dX0_add_56 : decode cX0_add 56 = .ok (.iastore, 1) := by decide +kernel
theorem dX0_add_57 : decode cX0_add 57 = .ok (.aload_n 0, 1) := by decide +kernel
theorem dX0_add_58 : decode cX0_add 58 = .ok (.getfield 30, 3) := by decide +kernel
theorem dX0_add_61 : decode cX0_add 61 = .ok (.iload 7, 2) := by decide +kernel
theorem dX0_add_63 : decode cX0_add 63 = .ok (.iconst 0, 1) := by decide +kernel
theorem dX0_add_64 : decode cX0_add 64 = .ok (.iastore, 1) := by decide +kernel
theorem dX0_add_65 : decode cX0_add 65 = .ok (.aload_n 0, 1) := by decide +kernel
theorem dX0_add_66 : decode cX0_add 66 = .ok (.getfield 33, 3) := by decide +kernel
theorem dX0_add_69 : decode cX0_add 69 = .ok (.iload 7, 2) := by decide +kernel
theorem dX0_add_71 : decode cX0_add 71 = .ok (.iconst (-1), 1) := by decide +kernel
theorem dX0_add_72 : decode cX0_add 72 = .ok (.iastore, 1) := by decide +kernel
theorem dX0_add_73 : decode cX0_add 73 = .ok (.aload_n 0, 1) := by decide +kernel
theorem dX0_add_74 : decode cX0_add 74 = .ok (.dup, 1) := by decide +kernel
theorem dX0_add_75 : decode cX0_add 75 = .ok (.getfield 40, 3) := by decide +kernel
theorem dX0_add_78 : decode cX0_add 78 = .ok (.iconst 1, 1) := by decide +kernel
theorem dX0_add_79 : decode cX0_add 79 = .ok (.iadd, 1) := by decide +kernel
theorem dX0_add_80 : decode cX0_add 80 = .ok (.putfield 40, 3) := by decide +kernel
theorem dX0_add_83 : decode cX0_add 83 = .ok (.iload 7, 2) := by decide +kernel
theorem dX0_add_85 : decode cX0_add 85 = .ok (.ireturn, 1) := by decide +kernel
theorem dX0_awaitsAnswer_0 : decode cX0_awaitsAnswer 0 = .ok (.aload_n 0, 1) := by decide +kernel
theorem dX0_awaitsAnswer_1 : decode cX0_awaitsAnswer 1 = .ok (.getfield 9, 3) := by decide +kernel
theorem dX0_awaitsAnswer_4 : decode cX0_awaitsAnswer 4 = .ok (.iload_n 1, 1) := by decide +kernel
theorem dX0_awaitsAnswer_5 : decode cX0_awaitsAnswer 5 = .ok (.iaload, 1) := by decide +kernel
theorem dX0_awaitsAnswer_6 : decode cX0_awaitsAnswer 6 = .ok (.iconst 1, 1) := by decide +kernel
theorem dX0_awaitsAnswer_7 : decode cX0_awaitsAnswer 7 = .ok (.if_icmp .ne 16, 3) := by decide +kernel
theorem dX0_awaitsAnswer_10 : decode cX0_awaitsAnswer 10 = .ok (.aload_n 0, 1) := by decide +kernel
theorem dX0_awaitsAnswer_11 : decode cX0_awaitsAnswer 11 = .ok (.getfield 30, 3) := by decide +kernel
theorem dX0_awaitsAnswer_14 : decode cX0_awaitsAnswer 14 = .ok (.iload_n 1, 1) := by decide +kernel
theorem dX0_awaitsAnswer_15 : decode cX0_awaitsAnswer 15 = .ok (.iaload, 1) := by decide +kernel
theorem dX0_awaitsAnswer_16 : decode cX0_awaitsAnswer 16 = .ok (.ifCond .ne 7, 3) := by decide +kernel
theorem dX0_awaitsAnswer_19 : decode cX0_awaitsAnswer 19 = .ok (.iconst 1, 1) := by decide +kernel
theorem dX0_awaitsAnswer_20 : decode cX0_awaitsAnswer 20 = .ok (.goto 4, 3) := by decide +kernel
theorem dX0_awaitsAnswer_23 : decode cX0_awaitsAnswer 23 = .ok (.iconst 0, 1) := by decide +kernel
theorem dX0_awaitsAnswer_24 : decode cX0_awaitsAnswer 24 = .ok (.ireturn, 1) := by decide +kernel
theorem dX0_setAnswer_0 : decode cX0_setAnswer 0 = .ok (.aload_n 0, 1) := by decide +kernel
theorem dX0_setAnswer_1 : decode cX0_setAnswer 1 = .ok (.getfield 30, 3) := by decide +kernel
theorem dX0_setAnswer_4 : decode cX0_setAnswer 4 = .ok (.iload_n 1, 1) := by decide +kernel
theorem dX0_setAnswer_5 : decode cX0_setAnswer 5 = .ok (.iload_n 2, 1) := by decide +kernel
theorem dX0_setAnswer_6 : decode cX0_setAnswer 6 = .ok (.ifCond .eq 7, 3) := by decide +kernel
theorem dX0_setAnswer_9 : decode cX0_setAnswer 9 = .ok (.iconst 1, 1) := by decide +kernel
theorem dX0_setAnswer_10 : decode cX0_setAnswer 10 = .ok (.goto 4, 3) := by decide +kernel
theorem dX0_setAnswer_13 : decode cX0_setAnswer 13 = .ok (.iconst 2, 1) := by decide +kernel
theorem dX0_setAnswer_14 : decode cX0_setAnswer 14 = .ok (.iastore, 1) := by decide +kernel
theorem dX0_setAnswer_15 : decode cX0_setAnswer 15 = .ok (.return_, 1) := by decide +kernel
theorem dX0_setIncident_0 : decode cX0_setIncident 0 = .ok (.aload_n 0, 1) := by decide +kernel
theorem dX0_setIncident_1 : decode cX0_setIncident 1 = .ok (.getfield 36, 3) := by decide +kernel
theorem dX0_setIncident_4 : decode cX0_setIncident 4 = .ok (.iload_n 1, 1) := by decide +kernel
theorem dX0_setIncident_5 : decode cX0_setIncident 5 = .ok (.iload_n 2, 1) := by decide +kernel
theorem dX0_setIncident_6 : decode cX0_setIncident 6 = .ok (.bastore, 1) := by decide +kernel
theorem dX0_setIncident_7 : decode cX0_setIncident 7 = .ok (.return_, 1) := by decide +kernel
theorem dX0_canBeLifted_0 : decode cX0_canBeLifted 0 = .ok (.aload_n 0, 1) := by decide +kernel
theorem dX0_canBeLifted_1 : decode cX0_canBeLifted 1 = .ok (.getfield 9, 3) := by decide +kernel
theorem dX0_canBeLifted_4 : decode cX0_canBeLifted 4 = .ok (.iload_n 1, 1) := by decide +kernel
theorem dX0_canBeLifted_5 : decode cX0_canBeLifted 5 = .ok (.iaload, 1) := by decide +kernel
theorem dX0_canBeLifted_6 : decode cX0_canBeLifted 6 = .ok (.iconst 4, 1) := by decide +kernel
theorem dX0_canBeLifted_7 : decode cX0_canBeLifted 7 = .ok (.if_icmp .eq 17, 3) := by decide +kernel
theorem dX0_canBeLifted_10 : decode cX0_canBeLifted 10 = .ok (.aload_n 0, 1) := by decide +kernel
theorem dX0_canBeLifted_11 : decode cX0_canBeLifted 11 = .ok (.getfield 24, 3) := by decide +kernel
theorem dX0_canBeLifted_14 : decode cX0_canBeLifted 14 = .ok (.iload_n 1, 1) := by decide +kernel
theorem dX0_canBeLifted_15 : decode cX0_canBeLifted 15 = .ok (.iaload, 1) := by decide +kernel
theorem dX0_canBeLifted_16 : decode cX0_canBeLifted 16 = .ok (.iload_n 2, 1) := by decide +kernel
theorem dX0_canBeLifted_17 : decode cX0_canBeLifted 17 = .ok (.if_icmp .le 7, 3) := by decide +kernel
theorem dX0_canBeLifted_20 : decode cX0_canBeLifted 20 = .ok (.iconst 1, 1) := by decide +kernel
theorem dX0_canBeLifted_21 : decode cX0_canBeLifted 21 = .ok (.goto 4, 3) := by decide +kernel
theorem dX0_canBeLifted_24 : decode cX0_canBeLifted 24 = .ok (.iconst 0, 1) := by decide +kernel
theorem dX0_canBeLifted_25 : decode cX0_canBeLifted 25 = .ok (.ireturn, 1) := by decide +kernel
theorem dX0_giveWord_0 : decode cX0_giveWord 0 = .ok (.aload_n 0, 1) := by decide +kernel
theorem dX0_giveWord_1 : decode cX0_giveWord 1 = .ok (.getfield 9, 3) := by decide +kernel
theorem dX0_giveWord_4 : decode cX0_giveWord 4 = .ok (.iload_n 1, 1) := by decide +kernel
theorem dX0_giveWord_5 : decode cX0_giveWord 5 = .ok (.iaload, 1) := by decide +kernel
theorem dX0_giveWord_6 : decode cX0_giveWord 6 = .ok (.iconst 3, 1) := by decide +kernel
theorem dX0_giveWord_7 : decode cX0_giveWord 7 = .ok (.if_icmp .eq 5, 3) := by decide +kernel
theorem dX0_giveWord_10 : decode cX0_giveWord 10 = .ok (.iconst 1, 1) := by decide +kernel
theorem dX0_giveWord_11 : decode cX0_giveWord 11 = .ok (.ireturn, 1) := by decide +kernel
theorem dX0_giveWord_12 : decode cX0_giveWord 12 = .ok (.aload_n 0, 1) := by decide +kernel
theorem dX0_giveWord_13 : decode cX0_giveWord 13 = .ok (.getfield 33, 3) := by decide +kernel
theorem dX0_giveWord_16 : decode cX0_giveWord 16 = .ok (.iload_n 1, 1) := by decide +kernel
theorem dX0_giveWord_17 : decode cX0_giveWord 17 = .ok (.iaload, 1) := by decide +kernel
theorem dX0_giveWord_18 : decode cX0_giveWord 18 = .ok (.iconst (-1), 1) := by decide +kernel
theorem dX0_giveWord_19 : decode cX0_giveWord 19 = .ok (.if_icmp .ne 10, 3) := by decide +kernel
theorem dX0_giveWord_22 : decode cX0_giveWord 22 = .ok (.aload_n 0, 1) := by decide +kernel
theorem dX0_giveWord_23 : decode cX0_giveWord 23 = .ok (.getfield 33, 3) := by decide +kernel
theorem dX0_giveWord_26 : decode cX0_giveWord 26 = .ok (.iload_n 1, 1) := by decide +kernel
theorem dX0_giveWord_27 : decode cX0_giveWord 27 = .ok (.iload_n 2, 1) := by decide +kernel
theorem dX0_giveWord_28 : decode cX0_giveWord 28 = .ok (.iastore, 1) := by decide +kernel
theorem dX0_giveWord_29 : decode cX0_giveWord 29 = .ok (.aload_n 0, 1) := by decide +kernel
theorem dX0_giveWord_30 : decode cX0_giveWord 30 = .ok (.getfield 33, 3) := by decide +kernel
theorem dX0_giveWord_33 : decode cX0_giveWord 33 = .ok (.iload_n 1, 1) := by decide +kernel
theorem dX0_giveWord_34 : decode cX0_giveWord 34 = .ok (.iaload, 1) := by decide +kernel
theorem dX0_giveWord_35 : decode cX0_giveWord 35 = .ok (.iload_n 2, 1) := by decide +kernel
theorem dX0_giveWord_36 : decode cX0_giveWord 36 = .ok (.if_icmp .eq 7, 3) := by decide +kernel
theorem dX0_giveWord_39 : decode cX0_giveWord 39 = .ok (.iconst 1, 1) := by decide +kernel
theorem dX0_giveWord_40 : decode cX0_giveWord 40 = .ok (.goto 4, 3) := by decide +kernel
theorem dX0_giveWord_43 : decode cX0_giveWord 43 = .ok (.iconst 0, 1) := by decide +kernel
theorem dX0_giveWord_44 : decode cX0_giveWord 44 = .ok (.ireturn, 1) := by decide +kernel
theorem dX0_endAt_0 : decode cX0_endAt 0 = .ok (.aload_n 0, 1) := by decide +kernel
theorem dX0_endAt_1 : decode cX0_endAt 1 = .ok (.getfield 24, 3) := by decide +kernel
theorem dX0_endAt_4 : decode cX0_endAt 4 = .ok (.iload_n 1, 1) := by decide +kernel
theorem dX0_endAt_5 : decode cX0_endAt 5 = .ok (.iload_n 2, 1) := by decide +kernel
theorem dX0_endAt_6 : decode cX0_endAt 6 = .ok (.iastore, 1) := by decide +kernel
theorem dX0_endAt_7 : decode cX0_endAt 7 = .ok (.return_, 1) := by decide +kernel
theorem dX0_isClosedAt_0 : decode cX0_isClosedAt 0 = .ok (.iconst 0, 1) := by decide +kernel
theorem dX0_isClosedAt_1 : decode cX0_isClosedAt 1 = .ok (.istore_n 3, 1) := by decide +kernel
theorem dX0_isClosedAt_2 : decode cX0_isClosedAt 2 = .ok (.iload_n 3, 1) := by decide +kernel
theorem dX0_isClosedAt_3 : decode cX0_isClosedAt 3 = .ok (.aload_n 0, 1) := by decide +kernel
theorem dX0_isClosedAt_4 : decode cX0_isClosedAt 4 = .ok (.getfield 40, 3) := by decide +kernel
theorem dX0_isClosedAt_7 : decode cX0_isClosedAt 7 = .ok (.if_icmp .ge 31, 3) := by decide +kernel
theorem dX0_isClosedAt_10 : decode cX0_isClosedAt 10 = .ok (.aload_n 0, 1) := by decide +kernel
theorem dX0_isClosedAt_11 : decode cX0_isClosedAt 11 = .ok (.getfield 9, 3) := by decide +kernel
theorem dX0_isClosedAt_14 : decode cX0_isClosedAt 14 = .ok (.iload_n 3, 1) := by decide +kernel
theorem dX0_isClosedAt_15 : decode cX0_isClosedAt 15 = .ok (.iaload, 1) := by decide +kernel
theorem dX0_isClosedAt_16 : decode cX0_isClosedAt 16 = .ok (.iconst 5, 1) := by decide +kernel
theorem dX0_isClosedAt_17 : decode cX0_isClosedAt 17 = .ok (.if_icmp .eq 15, 3) := by decide +kernel
theorem dX0_isClosedAt_20 : decode cX0_isClosedAt 20 = .ok (.aload_n 0, 1) := by decide +kernel
theorem dX0_isClosedAt_21 : decode cX0_isClosedAt 21 = .ok (.iload_n 3, 1) := by decide +kernel
theorem dX0_isClosedAt_22 : decode cX0_isClosedAt 22 = .ok (.iload_n 1, 1) := by decide +kernel
theorem dX0_isClosedAt_23 : decode cX0_isClosedAt 23 = .ok (.iload_n 2, 1) := by decide +kernel
theorem dX0_isClosedAt_24 : decode cX0_isClosedAt 24 = .ok (.invokevirtual 44, 3) := by decide +kernel
theorem dX0_isClosedAt_27 : decode cX0_isClosedAt 27 = .ok (.ifCond .eq 5, 3) := by decide +kernel
theorem dX0_isClosedAt_30 : decode cX0_isClosedAt 30 = .ok (.iconst 1, 1) := by decide +kernel
theorem dX0_isClosedAt_31 : decode cX0_isClosedAt 31 = .ok (.ireturn, 1) := by decide +kernel
theorem dX0_isClosedAt_32 : decode cX0_isClosedAt 32 = .ok (.iinc 3 1, 3) := by decide +kernel
theorem dX0_isClosedAt_35 : decode cX0_isClosedAt 35 = .ok (.goto (-33), 3) := by decide +kernel
theorem dX0_isClosedAt_38 : decode cX0_isClosedAt 38 = .ok (.iconst 0, 1) := by decide +kernel
theorem dX0_isClosedAt_39 : decode cX0_isClosedAt 39 = .ok (.ireturn, 1) := by decide +kernel
theorem dX0_markClosed_0 : decode cX0_markClosed 0 = .ok (.iconst 0, 1) := by decide +kernel
theorem dX0_markClosed_1 : decode cX0_markClosed 1 = .ok (.istore_n 3, 1) := by decide +kernel
theorem dX0_markClosed_2 : decode cX0_markClosed 2 = .ok (.iload_n 3, 1) := by decide +kernel
theorem dX0_markClosed_3 : decode cX0_markClosed 3 = .ok (.bipush 120, 2) := by decide +kernel
theorem dX0_markClosed_5 : decode cX0_markClosed 5 = .ok (.if_icmp .ge 13, 3) := by decide +kernel
theorem dX0_markClosed_8 : decode cX0_markClosed 8 = .ok (.aload_n 1, 1) := by decide +kernel
theorem dX0_markClosed_9 : decode cX0_markClosed 9 = .ok (.iload_n 3, 1) := by decide +kernel
theorem dX0_markClosed_10 : decode cX0_markClosed 10 = .ok (.iconst 0, 1) := by decide +kernel
theorem dX0_markClosed_11 : decode cX0_markClosed 11 = .ok (.bastore, 1) := by decide +kernel
theorem dX0_markClosed_12 : decode cX0_markClosed 12 = .ok (.iinc 3 1, 3) := by decide +kernel
theorem dX0_markClosed_15 : decode cX0_markClosed 15 = .ok (.goto (-13), 3) := by decide +kernel
theorem dX0_markClosed_18 : decode cX0_markClosed 18 = .ok (.iconst 0, 1) := by decide +kernel
theorem dX0_markClosed_19 : decode cX0_markClosed 19 = .ok (.istore_n 3, 1) := by decide +kernel
theorem dX0_markClosed_20 : decode cX0_markClosed 20 = .ok (.iload_n 3, 1) := by decide +kernel
theorem dX0_markClosed_21 : decode cX0_markClosed 21 = .ok (.aload_n 0, 1) := by decide +kernel
theorem dX0_markClosed_22 : decode cX0_markClosed 22 = .ok (.getfield 40, 3) := by decide +kernel
theorem dX0_markClosed_25 : decode cX0_markClosed 25 = .ok (.if_icmp .ge 34, 3) := by decide +kernel
theorem dX0_markClosed_28 : decode cX0_markClosed 28 = .ok (.aload_n 0, 1) := by decide +kernel
theorem dX0_markClosed_29 : decode cX0_markClosed 29 = .ok (.getfield 9, 3) := by decide +kernel
theorem dX0_markClosed_32 : decode cX0_markClosed 32 = .ok (.iload_n 3, 1) := by decide +kernel
theorem dX0_markClosed_33 : decode cX0_markClosed 33 = .ok (.iaload, 1) := by decide +kernel
theorem dX0_markClosed_34 : decode cX0_markClosed 34 = .ok (.iconst 5, 1) := by decide +kernel
theorem dX0_markClosed_35 : decode cX0_markClosed 35 = .ok (.if_icmp .eq 18, 3) := by decide +kernel
theorem dX0_markClosed_38 : decode cX0_markClosed 38 = .ok (.aload_n 0, 1) := by decide +kernel
theorem dX0_markClosed_39 : decode cX0_markClosed 39 = .ok (.iload_n 3, 1) := by decide +kernel
theorem dX0_markClosed_40 : decode cX0_markClosed 40 = .ok (.iload_n 2, 1) := by decide +kernel
theorem dX0_markClosed_41 : decode cX0_markClosed 41 = .ok (.invokevirtual 48, 3) := by decide +kernel
theorem dX0_markClosed_44 : decode cX0_markClosed 44 = .ok (.ifCond .eq 9, 3) := by decide +kernel
theorem dX0_markClosed_47 : decode cX0_markClosed 47 = .ok (.aload_n 0, 1) := by decide +kernel
theorem dX0_markClosed_48 : decode cX0_markClosed 48 = .ok (.aload_n 1, 1) := by decide +kernel
theorem dX0_markClosed_49 : decode cX0_markClosed 49 = .ok (.iload_n 3, 1) := by decide +kernel
theorem dX0_markClosed_50 : decode cX0_markClosed 50 = .ok (.invokevirtual 52, 3) := by decide +kernel
theorem dX0_markClosed_53 : decode cX0_markClosed 53 = .ok (.iinc 3 1, 3) := by decide +kernel
theorem dX0_markClosed_56 : decode cX0_markClosed 56 = .ok (.goto (-36), 3) := by decide +kernel
theorem dX0_markClosed_59 : decode cX0_markClosed 59 = .ok (.return_, 1) := by decide +kernel
theorem dX0_markSides_0 : decode cX0_markSides 0 = .ok (.aload_n 0, 1) := by decide +kernel
theorem dX0_markSides_1 : decode cX0_markSides 1 = .ok (.getfield 18, 3) := by decide +kernel
theorem dX0_markSides_4 : decode cX0_markSides 4 = .ok (.iload_n 2, 1) := by decide +kernel
theorem dX0_markSides_5 : decode cX0_markSides 5 = .ok (.iaload, 1) := by decide +kernel
theorem dX0_markSides_6 : decode cX0_markSides 6 = .ok (.iconst 1, 1) := by decide +kernel
theorem dX0_markSides_7 : decode cX0_markSides 7 = .ok (.iand, 1) := by decide +kernel
theorem dX0_markSides_8 : decode cX0_markSides 8 = .ok (.ifCond .eq 16, 3) := by decide +kernel
theorem dX0_markSides_11 : decode cX0_markSides 11 = .ok (.aload_n 1, 1) := by decide +kernel
theorem dX0_markSides_12 : decode cX0_markSides 12 = .ok (.aload_n 0, 1) := by decide +kernel
theorem dX0_markSides_13 : decode cX0_markSides 13 = .ok (.getfield 15, 3) := by decide +kernel
theorem dX0_markSides_16 : decode cX0_markSides 16 = .ok (.iload_n 2, 1) := by decide +kernel
theorem dX0_markSides_17 : decode cX0_markSides 17 = .ok (.iaload, 1) := by decide +kernel
theorem dX0_markSides_18 : decode cX0_markSides 18 = .ok (.iconst 1, 1) := by decide +kernel
theorem dX0_markSides_19 : decode cX0_markSides 19 = .ok (.invokestatic 56, 3) := by decide +kernel
theorem dX0_markSides_22 : decode cX0_markSides 22 = .ok (.iconst 1, 1) := by decide +kernel
theorem dX0_markSides_23 : decode cX0_markSides 23 = .ok (.bastore, 1) := by decide +kernel
theorem dX0_markSides_24 : decode cX0_markSides 24 = .ok (.aload_n 0, 1) := by decide +kernel
theorem dX0_markSides_25 : decode cX0_markSides 25 = .ok (.getfield 18, 3) := by decide +kernel
theorem dX0_markSides_28 : decode cX0_markSides 28 = .ok (.iload_n 2, 1) := by decide +kernel
theorem dX0_markSides_29 : decode cX0_markSides 29 = .ok (.iaload, 1) := by decide +kernel
theorem dX0_markSides_30 : decode cX0_markSides 30 = .ok (.iconst 2, 1) := by decide +kernel
theorem dX0_markSides_31 : decode cX0_markSides 31 = .ok (.iand, 1) := by decide +kernel
theorem dX0_markSides_32 : decode cX0_markSides 32 = .ok (.ifCond .eq 16, 3) := by decide +kernel
theorem dX0_markSides_35 : decode cX0_markSides 35 = .ok (.aload_n 1, 1) := by decide +kernel
theorem dX0_markSides_36 : decode cX0_markSides 36 = .ok (.aload_n 0, 1) := by decide +kernel
theorem dX0_markSides_37 : decode cX0_markSides 37 = .ok (.getfield 15, 3) := by decide +kernel
theorem dX0_markSides_40 : decode cX0_markSides 40 = .ok (.iload_n 2, 1) := by decide +kernel
theorem dX0_markSides_41 : decode cX0_markSides 41 = .ok (.iaload, 1) := by decide +kernel
theorem dX0_markSides_42 : decode cX0_markSides 42 = .ok (.iconst 2, 1) := by decide +kernel
theorem dX0_markSides_43 : decode cX0_markSides 43 = .ok (.invokestatic 56, 3) := by decide +kernel
theorem dX0_markSides_46 : decode cX0_markSides 46 = .ok (.iconst 1, 1) := by decide +kernel
theorem dX0_markSides_47 : decode cX0_markSides 47 = .ok (.bastore, 1) := by decide +kernel
theorem dX0_markSides_48 : decode cX0_markSides 48 = .ok (.return_, 1) := by decide +kernel
theorem dX0_percentAt_0 : decode cX0_percentAt 0 = .ok (.bipush 100, 2) := by decide +kernel
theorem dX0_percentAt_2 : decode cX0_percentAt 2 = .ok (.istore_n 3, 1) := by decide +kernel
theorem dX0_percentAt_3 : decode cX0_percentAt 3 = .ok (.iconst 0, 1) := by decide +kernel
theorem dX0_percentAt_4 : decode cX0_percentAt 4 = .ok (.istore 4, 2) := by decide +kernel
theorem dX0_percentAt_6 : decode cX0_percentAt 6 = .ok (.iload 4, 2) := by decide +kernel
theorem dX0_percentAt_8 : decode cX0_percentAt 8 = .ok (.aload_n 0, 1) := by decide +kernel
theorem dX0_percentAt_9 : decode cX0_percentAt 9 = .ok (.getfield 40, 3) := by decide +kernel
theorem dX0_percentAt_12 : decode cX0_percentAt 12 = .ok (.if_icmp .ge 43, 3) := by decide +kernel
theorem dX0_percentAt_15 : decode cX0_percentAt 15 = .ok (.aload_n 0, 1) := by decide +kernel
theorem dX0_percentAt_16 : decode cX0_percentAt 16 = .ok (.getfield 9, 3) := by decide +kernel
theorem dX0_percentAt_19 : decode cX0_percentAt 19 = .ok (.iload 4, 2) := by decide +kernel
theorem dX0_percentAt_21 : decode cX0_percentAt 21 = .ok (.iaload, 1) := by decide +kernel
theorem dX0_percentAt_22 : decode cX0_percentAt 22 = .ok (.iconst 5, 1) := by decide +kernel
theorem dX0_percentAt_23 : decode cX0_percentAt 23 = .ok (.if_icmp .ne 26, 3) := by decide +kernel
theorem dX0_percentAt_26 : decode cX0_percentAt 26 = .ok (.aload_n 0, 1) := by decide +kernel
theorem dX0_percentAt_27 : decode cX0_percentAt 27 = .ok (.iload 4, 2) := by decide +kernel
theorem dX0_percentAt_29 : decode cX0_percentAt 29 = .ok (.iload_n 1, 1) := by decide +kernel
theorem dX0_percentAt_30 : decode cX0_percentAt 30 = .ok (.iload_n 2, 1) := by decide +kernel
theorem dX0_percentAt_31 : decode cX0_percentAt 31 = .ok (.invokevirtual 44, 3) := by decide +kernel
theorem dX0_percentAt_34 : decode cX0_percentAt 34 = .ok (.ifCond .eq 15, 3) := by decide +kernel
theorem dX0_percentAt_37 : decode cX0_percentAt 37 = .ok (.iload_n 3, 1) := by decide +kernel
theorem dX0_percentAt_38 : decode cX0_percentAt 38 = .ok (.aload_n 0, 1) := by decide +kernel
theorem dX0_percentAt_39 : decode cX0_percentAt 39 = .ok (.getfield 27, 3) := by decide +kernel
theorem dX0_percentAt_42 : decode cX0_percentAt 42 = .ok (.iload 4, 2) := by decide +kernel
theorem dX0_percentAt_44 : decode cX0_percentAt 44 = .ok (.iaload, 1) := by decide +kernel
theorem dX0_percentAt_45 : decode cX0_percentAt 45 = .ok (.invokestatic 60, 3) := by decide +kernel
theorem dX0_percentAt_48 : decode cX0_percentAt 48 = .ok (.istore_n 3, 1) := by decide +kernel
theorem dX0_percentAt_49 : decode cX0_percentAt 49 = .ok (.iinc 4 1, 3) := by decide +kernel
theorem dX0_percentAt_52 : decode cX0_percentAt 52 = .ok (.goto (-46), 3) := by decide +kernel
theorem dX0_percentAt_55 : decode cX0_percentAt 55 = .ok (.iload_n 3, 1) := by decide +kernel
theorem dX0_percentAt_56 : decode cX0_percentAt 56 = .ok (.ireturn, 1) := by decide +kernel
theorem dX0_holdingAt_0 : decode cX0_holdingAt 0 = .ok (.iconst 0, 1) := by decide +kernel
theorem dX0_holdingAt_1 : decode cX0_holdingAt 1 = .ok (.istore 4, 2) := by decide +kernel
theorem dX0_holdingAt_3 : decode cX0_holdingAt 3 = .ok (.iload 4, 2) := by decide +kernel
theorem dX0_holdingAt_5 : decode cX0_holdingAt 5 = .ok (.aload_n 0, 1) := by decide +kernel
theorem dX0_holdingAt_6 : decode cX0_holdingAt 6 = .ok (.getfield 40, 3) := by decide +kernel
theorem dX0_holdingAt_9 : decode cX0_holdingAt 9 = .ok (.if_icmp .ge 35, 3) := by decide +kernel
theorem dX0_holdingAt_12 : decode cX0_holdingAt 12 = .ok (.aload_n 0, 1) := by decide +kernel
theorem dX0_holdingAt_13 : decode cX0_holdingAt 13 = .ok (.iload 4, 2) := by decide +kernel
theorem dX0_holdingAt_15 : decode cX0_holdingAt 15 = .ok (.iload_n 1, 1) := by decide +kernel
theorem dX0_holdingAt_16 : decode cX0_holdingAt 16 = .ok (.iload_n 2, 1) := by decide +kernel
theorem dX0_holdingAt_17 : decode cX0_holdingAt 17 = .ok (.invokevirtual 44, 3) := by decide +kernel
theorem dX0_holdingAt_20 : decode cX0_holdingAt 20 = .ok (.ifCond .eq 18, 3) := by decide +kernel
theorem dX0_holdingAt_23 : decode cX0_holdingAt 23 = .ok (.aload_n 0, 1) := by decide +kernel
theorem dX0_holdingAt_24 : decode cX0_holdingAt 24 = .ok (.iload 4, 2) := by decide +kernel
theorem dX0_holdingAt_26 : decode cX0_holdingAt 26 = .ok (.iload_n 1, 1) := by decide +kernel
theorem dX0_holdingAt_27 : decode cX0_holdingAt 27 = .ok (.iload_n 2, 1) := by decide +kernel
theorem dX0_holdingAt_28 : decode cX0_holdingAt 28 = .ok (.invokevirtual 65, 3) := by decide +kernel
theorem dX0_holdingAt_31 : decode cX0_holdingAt 31 = .ok (.iload_n 3, 1) := by decide +kernel
theorem dX0_holdingAt_32 : decode cX0_holdingAt 32 = .ok (.if_icmp .ne 6, 3) := by decide +kernel
theorem dX0_holdingAt_35 : decode cX0_holdingAt 35 = .ok (.iload 4, 2) := by decide +kernel
theorem dX0_holdingAt_37 : decode cX0_holdingAt 37 = .ok (.ireturn, 1) := by decide +kernel
theorem dX0_holdingAt_38 : decode cX0_holdingAt 38 = .ok (.iinc 4 1, 3) := by decide +kernel
theorem dX0_holdingAt_41 : decode cX0_holdingAt 41 = .ok (.goto (-38), 3) := by decide +kernel
theorem dX0_holdingAt_44 : decode cX0_holdingAt 44 = .ok (.iconst (-1), 1) := by decide +kernel
theorem dX0_holdingAt_45 : decode cX0_holdingAt 45 = .ok (.ireturn, 1) := by decide +kernel
theorem dX0_rankOf_0 : decode cX0_rankOf 0 = .ok (.iconst 0, 1) := by decide +kernel
theorem dX0_rankOf_1 : decode cX0_rankOf 1 = .ok (.istore 4, 2) := by decide +kernel
theorem dX0_rankOf_3 : decode cX0_rankOf 3 = .ok (.iconst 0, 1) := by decide +kernel
theorem dX0_rankOf_4 : decode cX0_rankOf 4 = .ok (.istore 5, 2) := by decide +kernel
theorem dX0_rankOf_6 : decode cX0_rankOf 6 = .ok (.iload 5, 2) := by decide +kernel
theorem dX0_rankOf_8 : decode cX0_rankOf 8 = .ok (.aload_n 0, 1) := by decide +kernel
theorem dX0_rankOf_9 : decode cX0_rankOf 9 = .ok (.getfield 40, 3) := by decide +kernel
theorem dX0_rankOf_12 : decode cX0_rankOf 12 = .ok (.if_icmp .ge 33, 3) := by decide +kernel
theorem dX0_rankOf_15 : decode cX0_rankOf 15 = .ok (.aload_n 0, 1) := by decide +kernel
theorem dX0_rankOf_16 : decode cX0_rankOf 16 = .ok (.iload 5, 2) := by decide +kernel
theorem dX0_rankOf_18 : decode cX0_rankOf 18 = .ok (.iload_n 1, 1) := by decide +kernel
theorem dX0_rankOf_19 : decode cX0_rankOf 19 = .ok (.invokevirtual 69, 3) := by decide +kernel
theorem dX0_rankOf_22 : decode cX0_rankOf 22 = .ok (.ifCond .eq 17, 3) := by decide +kernel
theorem dX0_rankOf_25 : decode cX0_rankOf 25 = .ok (.aload_n 0, 1) := by decide +kernel
theorem dX0_rankOf_26 : decode cX0_rankOf 26 = .ok (.iload 5, 2) := by decide +kernel
theorem dX0_rankOf_28 : decode cX0_rankOf 28 = .ok (.iload_n 2, 1) := by decide +kernel
theorem dX0_rankOf_29 : decode cX0_rankOf 29 = .ok (.iload_n 3, 1) := by decide +kernel
theorem dX0_rankOf_30 : decode cX0_rankOf 30 = .ok (.invokevirtual 44, 3) := by decide +kernel
theorem dX0_rankOf_33 : decode cX0_rankOf 33 = .ok (.ifCond .eq 6, 3) := by decide +kernel
theorem dX0_rankOf_36 : decode cX0_rankOf 36 = .ok (.iinc 4 1, 3) := by decide +kernel
theorem dX0_rankOf_39 : decode cX0_rankOf 39 = .ok (.iinc 5 1, 3) := by decide +kernel
theorem dX0_rankOf_42 : decode cX0_rankOf 42 = .ok (.goto (-36), 3) := by decide +kernel
theorem dX0_rankOf_45 : decode cX0_rankOf 45 = .ok (.iload 4, 2) := by decide +kernel
theorem dX0_rankOf_47 : decode cX0_rankOf 47 = .ok (.ireturn, 1) := by decide +kernel
theorem dX0_endsAheadOf_0 : decode cX0_endsAheadOf 0 = .ok (.aload_n 0, 1) := by decide +kernel
theorem dX0_endsAheadOf_1 : decode cX0_endsAheadOf 1 = .ok (.getfield 24, 3) := by decide +kernel
theorem dX0_endsAheadOf_4 : decode cX0_endsAheadOf 4 = .ok (.iload_n 1, 1) := by decide +kernel
theorem dX0_endsAheadOf_5 : decode cX0_endsAheadOf 5 = .ok (.iaload, 1) := by decide +kernel
theorem dX0_endsAheadOf_6 : decode cX0_endsAheadOf 6 = .ok (.aload_n 0, 1) := by decide +kernel
theorem dX0_endsAheadOf_7 : decode cX0_endsAheadOf 7 = .ok (.getfield 24, 3) := by decide +kernel
theorem dX0_endsAheadOf_10 : decode cX0_endsAheadOf 10 = .ok (.iload_n 2, 1) := by decide +kernel
theorem dX0_endsAheadOf_11 : decode cX0_endsAheadOf 11 = .ok (.iaload, 1) := by decide +kernel
theorem dX0_endsAheadOf_12 : decode cX0_endsAheadOf 12 = .ok (.if_icmp .lt 23, 3) := by decide +kernel
theorem dX0_endsAheadOf_15 : decode cX0_endsAheadOf 15 = .ok (.aload_n 0, 1) := by decide +kernel
theorem dX0_endsAheadOf_16 : decode cX0_endsAheadOf 16 = .ok (.getfield 24, 3) := by decide +kernel
theorem dX0_endsAheadOf_19 : decode cX0_endsAheadOf 19 = .ok (.iload_n 1, 1) := by decide +kernel
theorem dX0_endsAheadOf_20 : decode cX0_endsAheadOf 20 = .ok (.iaload, 1) := by decide +kernel
theorem dX0_endsAheadOf_21 : decode cX0_endsAheadOf 21 = .ok (.aload_n 0, 1) := by decide +kernel
theorem dX0_endsAheadOf_22 : decode cX0_endsAheadOf 22 = .ok (.getfield 24, 3) := by decide +kernel
theorem dX0_endsAheadOf_25 : decode cX0_endsAheadOf 25 = .ok (.iload_n 2, 1) := by decide +kernel
theorem dX0_endsAheadOf_26 : decode cX0_endsAheadOf 26 = .ok (.iaload, 1) := by decide +kernel
theorem dX0_endsAheadOf_27 : decode cX0_endsAheadOf 27 = .ok (.if_icmp .ne 12, 3) := by decide +kernel
theorem dX0_endsAheadOf_30 : decode cX0_endsAheadOf 30 = .ok (.iload_n 1, 1) := by decide +kernel
theorem dX0_endsAheadOf_31 : decode cX0_endsAheadOf 31 = .ok (.iload_n 2, 1) := by decide +kernel
theorem dX0_endsAheadOf_32 : decode cX0_endsAheadOf 32 = .ok (.if_icmp .ge 7, 3) := by decide +kernel
theorem dX0_endsAheadOf_35 : decode cX0_endsAheadOf 35 = .ok (.iconst 1, 1) := by decide +kernel
theorem dX0_endsAheadOf_36 : decode cX0_endsAheadOf 36 = .ok (.goto 4, 3) := by decide +kernel
theorem dX0_endsAheadOf_39 : decode cX0_endsAheadOf 39 = .ok (.iconst 0, 1) := by decide +kernel
theorem dX0_endsAheadOf_40 : decode cX0_endsAheadOf 40 = .ok (.ireturn, 1) := by decide +kernel
theorem dX0_nextChange_0 : decode cX0_nextChange 0 = .ok (.ldc 72, 2) := by decide +kernel
theorem dX0_nextChange_2 : decode cX0_nextChange 2 = .ok (.istore_n 2, 1) := by decide +kernel
theorem dX0_nextChange_3 : decode cX0_nextChange 3 = .ok (.iconst 0, 1) := by decide +kernel
theorem dX0_nextChange_4 : decode cX0_nextChange 4 = .ok (.istore_n 3, 1) := by decide +kernel
theorem dX0_nextChange_5 : decode cX0_nextChange 5 = .ok (.iload_n 3, 1) := by decide +kernel
theorem dX0_nextChange_6 : decode cX0_nextChange 6 = .ok (.aload_n 0, 1) := by decide +kernel
theorem dX0_nextChange_7 : decode cX0_nextChange 7 = .ok (.getfield 40, 3) := by decide +kernel
theorem dX0_nextChange_10 : decode cX0_nextChange 10 = .ok (.if_icmp .ge 20, 3) := by decide +kernel
theorem dX0_nextChange_13 : decode cX0_nextChange 13 = .ok (.iload_n 2, 1) := by decide +kernel
theorem dX0_nextChange_14 : decode cX0_nextChange 14 = .ok (.aload_n 0, 1) := by decide +kernel
theorem dX0_nextChange_15 : decode cX0_nextChange 15 = .ok (.iload_n 3, 1) := by decide +kernel
theorem dX0_nextChange_16 : decode cX0_nextChange 16 = .ok (.iload_n 1, 1) := by decide +kernel
theorem dX0_nextChange_17 : decode cX0_nextChange 17 = .ok (.invokevirtual 73, 3) := by decide +kernel
theorem dX0_nextChange_20 : decode cX0_nextChange 20 = .ok (.invokestatic 60, 3) := by decide +kernel
theorem dX0_nextChange_23 : decode cX0_nextChange 23 = .ok (.istore_n 2, 1) := by decide +kernel
theorem dX0_nextChange_24 : decode cX0_nextChange 24 = .ok (.iinc 3 1, 3) := by decide +kernel
theorem dX0_nextChange_27 : decode cX0_nextChange 27 = .ok (.goto (-22), 3) := by decide +kernel
theorem dX0_nextChange_30 : decode cX0_nextChange 30 = .ok (.iload_n 2, 1) := by decide +kernel
theorem dX0_nextChange_31 : decode cX0_nextChange 31 = .ok (.ireturn, 1) := by decide +kernel
theorem dX0_nextChangeOn_0 : decode cX0_nextChangeOn 0 = .ok (.ldc 72, 2) := by decide +kernel
theorem dX0_nextChangeOn_2 : decode cX0_nextChangeOn 2 = .ok (.istore_n 3, 1) := by decide +kernel
theorem dX0_nextChangeOn_3 : decode cX0_nextChangeOn 3 = .ok (.iconst 0, 1) := by decide +kernel
theorem dX0_nextChangeOn_4 : decode cX0_nextChangeOn 4 = .ok (.istore 4, 2) := by decide +kernel
theorem dX0_nextChangeOn_6 : decode cX0_nextChangeOn 6 = .ok (.iload 4, 2) := by decide +kernel
theorem dX0_nextChangeOn_8 : decode cX0_nextChangeOn 8 = .ok (.aload_n 0, 1) := by decide +kernel
theorem dX0_nextChangeOn_9 : decode cX0_nextChangeOn 9 = .ok (.getfield 40, 3) := by decide +kernel
theorem dX0_nextChangeOn_12 : decode cX0_nextChangeOn 12 = .ok (.if_icmp .ge 31, 3) := by decide +kernel
theorem dX0_nextChangeOn_15 : decode cX0_nextChangeOn 15 = .ok (.aload_n 0, 1) := by decide +kernel
theorem dX0_nextChangeOn_16 : decode cX0_nextChangeOn 16 = .ok (.iload 4, 2) := by decide +kernel
theorem dX0_nextChangeOn_18 : decode cX0_nextChangeOn 18 = .ok (.iload_n 1, 1) := by decide +kernel
theorem dX0_nextChangeOn_19 : decode cX0_nextChangeOn 19 = .ok (.invokevirtual 76, 3) := by decide +kernel
theorem dX0_nextChangeOn_22 : decode cX0_nextChangeOn 22 = .ok (.ifCond .eq 15, 3) := by decide +kernel
theorem dX0_nextChangeOn_25 : decode cX0_nextChangeOn 25 = .ok (.iload_n 3, 1) := by decide +kernel
theorem dX0_nextChangeOn_26 : decode cX0_nextChangeOn 26 = .ok (.aload_n 0, 1) := by decide +kernel
theorem dX0_nextChangeOn_27 : decode cX0_nextChangeOn 27 = .ok (.iload 4, 2) := by decide +kernel
theorem dX0_nextChangeOn_29 : decode cX0_nextChangeOn 29 = .ok (.iload_n 2, 1) := by decide +kernel
theorem dX0_nextChangeOn_30 : decode cX0_nextChangeOn 30 = .ok (.invokevirtual 73, 3) := by decide +kernel
theorem dX0_nextChangeOn_33 : decode cX0_nextChangeOn 33 = .ok (.invokestatic 60, 3) := by decide +kernel
theorem dX0_nextChangeOn_36 : decode cX0_nextChangeOn 36 = .ok (.istore_n 3, 1) := by decide +kernel
theorem dX0_nextChangeOn_37 : decode cX0_nextChangeOn 37 = .ok (.iinc 4 1, 3) := by decide +kernel
theorem dX0_nextChangeOn_40 : decode cX0_nextChangeOn 40 = .ok (.goto (-34), 3) := by decide +kernel
theorem dX0_nextChangeOn_43 : decode cX0_nextChangeOn 43 = .ok (.iload_n 3, 1) := by decide +kernel
theorem dX0_nextChangeOn_44 : decode cX0_nextChangeOn 44 = .ok (.ireturn, 1) := by decide +kernel
theorem dX0_changeOf_0 : decode cX0_changeOf 0 = .ok (.iload_n 2, 1) := by decide +kernel
theorem dX0_changeOf_1 : decode cX0_changeOf 1 = .ok (.aload_n 0, 1) := by decide +kernel
theorem dX0_changeOf_2 : decode cX0_changeOf 2 = .ok (.getfield 24, 3) := by decide +kernel
theorem dX0_changeOf_5 : decode cX0_changeOf 5 = .ok (.iload_n 1, 1) := by decide +kernel
theorem dX0_changeOf_6 : decode cX0_changeOf 6 = .ok (.iaload, 1) := by decide +kernel
theorem dX0_changeOf_7 : decode cX0_changeOf 7 = .ok (.if_icmp .lt 6, 3) := by decide +kernel
theorem dX0_changeOf_10 : decode cX0_changeOf 10 = .ok (.ldc 72, 2) := by decide +kernel
theorem dX0_changeOf_12 : decode cX0_changeOf 12 = .ok (.ireturn, 1) := by decide +kernel
theorem dX0_changeOf_13 : decode cX0_changeOf 13 = .ok (.iload_n 2, 1) := by decide +kernel
theorem dX0_changeOf_14 : decode cX0_changeOf 14 = .ok (.aload_n 0, 1) := by decide +kernel
theorem dX0_changeOf_15 : decode cX0_changeOf 15 = .ok (.getfield 21, 3) := by decide +kernel
theorem dX0_changeOf_18 : decode cX0_changeOf 18 = .ok (.iload_n 1, 1) := by decide +kernel
theorem dX0_changeOf_19 : decode cX0_changeOf 19 = .ok (.iaload, 1) := by decide +kernel
theorem dX0_changeOf_20 : decode cX0_changeOf 20 = .ok (.if_icmp .ge 10, 3) := by decide +kernel
theorem dX0_changeOf_23 : decode cX0_changeOf 23 = .ok (.aload_n 0, 1) := by decide +kernel
theorem dX0_changeOf_24 : decode cX0_changeOf 24 = .ok (.getfield 21, 3) := by decide +kernel
theorem dX0_changeOf_27 : decode cX0_changeOf 27 = .ok (.iload_n 1, 1) := by decide +kernel
theorem dX0_changeOf_28 : decode cX0_changeOf 28 = .ok (.iaload, 1) := by decide +kernel
theorem dX0_changeOf_29 : decode cX0_changeOf 29 = .ok (.ireturn, 1) := by decide +kernel
theorem dX0_changeOf_30 : decode cX0_changeOf 30 = .ok (.aload_n 0, 1) := by decide +kernel
theorem dX0_changeOf_31 : decode cX0_changeOf 31 = .ok (.getfield 9, 3) := by decide +kernel
theorem dX0_changeOf_34 : decode cX0_changeOf 34 = .ok (.iload_n 1, 1) := by decide +kernel
theorem dX0_changeOf_35 : decode cX0_changeOf 35 = .ok (.iaload, 1) := by decide +kernel
theorem dX0_changeOf_36 : decode cX0_changeOf 36 = .ok (.iconst 4, 1) := by decide +kernel
theorem dX0_changeOf_37 : decode cX0_changeOf 37 = .ok (.if_icmp .eq 10, 3) := by decide +kernel
theorem dX0_changeOf_40 : decode cX0_changeOf 40 = .ok (.aload_n 0, 1) := by decide +kernel
theorem dX0_changeOf_41 : decode cX0_changeOf 41 = .ok (.getfield 24, 3) := by decide +kernel
theorem dX0_changeOf_44 : decode cX0_changeOf 44 = .ok (.iload_n 1, 1) := by decide +kernel
theorem dX0_changeOf_45 : decode cX0_changeOf 45 = .ok (.iaload, 1) := by decide +kernel
theorem dX0_changeOf_46 : decode cX0_changeOf 46 = .ok (.ireturn, 1) := by decide +kernel
theorem dX0_changeOf_47 : decode cX0_changeOf 47 = .ok (.aload_n 0, 1) := by decide +kernel
theorem dX0_changeOf_48 : decode cX0_changeOf 48 = .ok (.iload_n 1, 1) := by decide +kernel
theorem dX0_changeOf_49 : decode cX0_changeOf 49 = .ok (.iload_n 2, 1) := by decide +kernel
theorem dX0_changeOf_50 : decode cX0_changeOf 50 = .ok (.invokevirtual 79, 3) := by decide +kernel
theorem dX0_changeOf_53 : decode cX0_changeOf 53 = .ok (.istore_n 3, 1) := by decide +kernel
theorem dX0_changeOf_54 : decode cX0_changeOf 54 = .ok (.aload_n 0, 1) := by decide +kernel
theorem dX0_changeOf_55 : decode cX0_changeOf 55 = .ok (.getfield 27, 3) := by decide +kernel
theorem dX0_changeOf_58 : decode cX0_changeOf 58 = .ok (.iload_n 1, 1) := by decide +kernel
theorem dX0_changeOf_59 : decode cX0_changeOf 59 = .ok (.iaload, 1) := by decide +kernel
theorem dX0_changeOf_60 : decode cX0_changeOf 60 = .ok (.invokestatic 82, 3) := by decide +kernel
theorem dX0_changeOf_63 : decode cX0_changeOf 63 = .ok (.istore 4, 2) := by decide +kernel
theorem dX0_changeOf_65 : decode cX0_changeOf 65 = .ok (.iload_n 3, 1) := by decide +kernel
theorem dX0_changeOf_66 : decode cX0_changeOf 66 = .ok (.iload 4, 2) := by decide +kernel
theorem dX0_changeOf_68 : decode cX0_changeOf 68 = .ok (.if_icmp .ge 8, 3) := by decide +kernel
theorem dX0_changeOf_71 : decode cX0_changeOf 71 = .ok (.iload 4, 2) := by decide +kernel
theorem dX0_changeOf_73 : decode cX0_changeOf 73 = .ok (.goto 12, 3) := by decide +kernel
theorem dX0_changeOf_76 : decode cX0_changeOf 76 = .ok (.aload_n 0, 1) := by decide +kernel
theorem dX0_changeOf_77 : decode cX0_changeOf 77 = .ok (.getfield 27, 3) := by decide +kernel
theorem dX0_changeOf_80 : decode cX0_changeOf 80 = .ok (.iload_n 1, 1) := by decide +kernel
theorem dX0_changeOf_81 : decode cX0_changeOf 81 = .ok (.iaload, 1) := by decide +kernel
theorem dX0_changeOf_82 : decode cX0_changeOf 82 = .ok (.invokestatic 86, 3) := by decide +kernel
theorem dX0_changeOf_85 : decode cX0_changeOf 85 = .ok (.istore 5, 2) := by decide +kernel
theorem dX0_changeOf_87 : decode cX0_changeOf 87 = .ok (.iload_n 2, 1) := by decide +kernel
theorem dX0_changeOf_88 : decode cX0_changeOf 88 = .ok (.iload_n 3, 1) := by decide +kernel
theorem dX0_changeOf_89 : decode cX0_changeOf 89 = .ok (.isub, 1) := by decide +kernel
theorem dX0_changeOf_90 : decode cX0_changeOf 90 = .ok (.iload 5, 2) := by decide +kernel
theorem dX0_changeOf_92 : decode cX0_changeOf 92 = .ok (.iadd, 1) := by decide +kernel
theorem dX0_changeOf_93 : decode cX0_changeOf 93 = .ok (.aload_n 0, 1) := by decide +kernel
theorem dX0_changeOf_94 : decode cX0_changeOf 94 = .ok (.getfield 24, 3) := by decide +kernel
theorem dX0_changeOf_97 : decode cX0_changeOf 97 = .ok (.iload_n 1, 1) := by decide +kernel
theorem dX0_changeOf_98 : decode cX0_changeOf 98 = .ok (.iaload, 1) := by decide +kernel
theorem dX0_changeOf_99 : decode cX0_changeOf 99 = .ok (.invokestatic 60, 3) := by decide +kernel
theorem dX0_changeOf_102 : decode cX0_changeOf 102 = .ok (.ireturn, 1) := by decide +kernel
theorem dX0_holdsOn_0 : decode cX0_holdsOn 0 = .ok (.aload_n 0, 1) := by decide +kernel
theorem dX0_holdsOn_1 : decode cX0_holdsOn 1 = .ok (.iload_n 1, 1) := by decide +kernel
theorem dX0_holdsOn_2 : decode cX0_holdsOn 2 = .ok (.iload_n 2, 1) := by decide +kernel
theorem dX0_holdsOn_3 : decode cX0_holdsOn 3 = .ok (.invokevirtual 76, 3) := by decide +kernel
theorem dX0_holdsOn_6 : decode cX0_holdsOn 6 = .ok (.ifCond .eq 16, 3) := by decide +kernel
theorem dX0_holdsOn_9 : decode cX0_holdsOn 9 = .ok (.aload_n 0, 1) := by decide +kernel
theorem dX0_holdsOn_10 : decode cX0_holdsOn 10 = .ok (.iload_n 1, 1) := by decide +kernel
theorem dX0_holdsOn_11 : decode cX0_holdsOn 11 = .ok (.iload_n 3, 1) := by decide +kernel
theorem dX0_holdsOn_12 : decode cX0_holdsOn 12 = .ok (.invokevirtual 48, 3) := by decide +kernel
theorem dX0_holdsOn_15 : decode cX0_holdsOn 15 = .ok (.ifCond .eq 7, 3) := by decide +kernel
theorem dX0_holdsOn_18 : decode cX0_holdsOn 18 = .ok (.iconst 1, 1) := by decide +kernel
theorem dX0_holdsOn_19 : decode cX0_holdsOn 19 = .ok (.goto 4, 3) := by decide +kernel
theorem dX0_holdsOn_22 : decode cX0_holdsOn 22 = .ok (.iconst 0, 1) := by decide +kernel
theorem dX0_holdsOn_23 : decode cX0_holdsOn 23 = .ok (.ireturn, 1) := by decide +kernel
theorem dX0_covers_0 : decode cX0_covers 0 = .ok (.aload_n 0, 1) := by decide +kernel
theorem dX0_covers_1 : decode cX0_covers 1 = .ok (.getfield 15, 3) := by decide +kernel
theorem dX0_covers_4 : decode cX0_covers 4 = .ok (.iload_n 1, 1) := by decide +kernel
theorem dX0_covers_5 : decode cX0_covers 5 = .ok (.iaload, 1) := by decide +kernel
theorem dX0_covers_6 : decode cX0_covers 6 = .ok (.iload_n 2, 1) := by decide +kernel
theorem dX0_covers_7 : decode cX0_covers 7 = .ok (.invokestatic 89, 3) := by decide +kernel
theorem dX0_covers_10 : decode cX0_covers 10 = .ok (.if_icmp .ne 21, 3) := by decide +kernel
theorem dX0_covers_13 : decode cX0_covers 13 = .ok (.aload_n 0, 1) := by decide +kernel
theorem dX0_covers_14 : decode cX0_covers 14 = .ok (.getfield 18, 3) := by decide +kernel
theorem dX0_covers_17 : decode cX0_covers 17 = .ok (.iload_n 1, 1) := by decide +kernel
theorem dX0_covers_18 : decode cX0_covers 18 = .ok (.iaload, 1) := by decide +kernel
theorem dX0_covers_19 : decode cX0_covers 19 = .ok (.iload_n 2, 1) := by decide +kernel
theorem dX0_covers_20 : decode cX0_covers 20 = .ok (.invokestatic 92, 3) := by decide +kernel
theorem dX0_covers_23 : decode cX0_covers 23 = .ok (.iand, 1) := by decide +kernel
theorem dX0_covers_24 : decode cX0_covers 24 = .ok (.ifCond .eq 7, 3) := by decide +kernel
theorem dX0_covers_27 : decode cX0_covers 27 = .ok (.iconst 1, 1) := by decide +kernel
theorem dX0_covers_28 : decode cX0_covers 28 = .ok (.goto 4, 3) := by decide +kernel
theorem dX0_covers_31 : decode cX0_covers 31 = .ok (.iconst 0, 1) := by decide +kernel
theorem dX0_covers_32 : decode cX0_covers 32 = .ok (.ireturn, 1) := by decide +kernel
theorem dX0_holds_0 : decode cX0_holds 0 = .ok (.iload_n 2, 1) := by decide +kernel
theorem dX0_holds_1 : decode cX0_holds 1 = .ok (.aload_n 0, 1) := by decide +kernel
theorem dX0_holds_2 : decode cX0_holds 2 = .ok (.getfield 21, 3) := by decide +kernel
theorem dX0_holds_5 : decode cX0_holds 5 = .ok (.iload_n 1, 1) := by decide +kernel
theorem dX0_holds_6 : decode cX0_holds 6 = .ok (.iaload, 1) := by decide +kernel
theorem dX0_holds_7 : decode cX0_holds 7 = .ok (.if_icmp .lt 13, 3) := by decide +kernel
theorem dX0_holds_10 : decode cX0_holds 10 = .ok (.iload_n 2, 1) := by decide +kernel
theorem dX0_holds_11 : decode cX0_holds 11 = .ok (.aload_n 0, 1) := by decide +kernel
theorem dX0_holds_12 : decode cX0_holds 12 = .ok (.getfield 24, 3) := by decide +kernel
theorem dX0_holds_15 : decode cX0_holds 15 = .ok (.iload_n 1, 1) := by decide +kernel
theorem dX0_holds_16 : decode cX0_holds 16 = .ok (.iaload, 1) := by decide +kernel
theorem dX0_holds_17 : decode cX0_holds 17 = .ok (.if_icmp .lt 5, 3) := by decide +kernel
theorem dX0_holds_20 : decode cX0_holds 20 = .ok (.iconst 0, 1) := by decide +kernel
theorem dX0_holds_21 : decode cX0_holds 21 = .ok (.ireturn, 1) := by decide +kernel
theorem dX0_holds_22 : decode cX0_holds 22 = .ok (.aload_n 0, 1) := by decide +kernel
theorem dX0_holds_23 : decode cX0_holds 23 = .ok (.getfield 9, 3) := by decide +kernel
theorem dX0_holds_26 : decode cX0_holds 26 = .ok (.iload_n 1, 1) := by decide +kernel
theorem dX0_holds_27 : decode cX0_holds 27 = .ok (.iaload, 1) := by decide +kernel
theorem dX0_holds_28 : decode cX0_holds 28 = .ok (.tableswitch 84 1 4 #[32, 48, 84, 60], 32) := by decide +kernel
theorem dX0_holds_60 : decode cX0_holds 60 = .ok (.aload_n 0, 1) := by decide +kernel
theorem dX0_holds_61 : decode cX0_holds 61 = .ok (.getfield 30, 3) := by decide +kernel
theorem dX0_holds_64 : decode cX0_holds 64 = .ok (.iload_n 1, 1) := by decide +kernel
theorem dX0_holds_65 : decode cX0_holds 65 = .ok (.iaload, 1) := by decide +kernel
theorem dX0_holds_66 : decode cX0_holds 66 = .ok (.iconst 1, 1) := by decide +kernel
theorem dX0_holds_67 : decode cX0_holds 67 = .ok (.if_icmp .ne 7, 3) := by decide +kernel
theorem dX0_holds_70 : decode cX0_holds 70 = .ok (.iconst 1, 1) := by decide +kernel
theorem dX0_holds_71 : decode cX0_holds 71 = .ok (.goto 4, 3) := by decide +kernel
theorem dX0_holds_74 : decode cX0_holds 74 = .ok (.iconst 0, 1) := by decide +kernel
theorem dX0_holds_75 : decode cX0_holds 75 = .ok (.ireturn, 1) := by decide +kernel
theorem dX0_holds_76 : decode cX0_holds 76 = .ok (.aload_n 0, 1) := by decide +kernel
theorem dX0_holds_77 : decode cX0_holds 77 = .ok (.getfield 36, 3) := by decide +kernel
theorem dX0_holds_80 : decode cX0_holds 80 = .ok (.aload_n 0, 1) := by decide +kernel
theorem dX0_holds_81 : decode cX0_holds 81 = .ok (.getfield 27, 3) := by decide +kernel
theorem dX0_holds_84 : decode cX0_holds 84 = .ok (.iload_n 1, 1) := by decide +kernel
theorem dX0_holds_85 : decode cX0_holds 85 = .ok (.iaload, 1) := by decide +kernel
theorem dX0_holds_86 : decode cX0_holds 86 = .ok (.baload, 1) := by decide +kernel
theorem dX0_holds_87 : decode cX0_holds 87 = .ok (.ireturn, 1) := by decide +kernel
theorem dX0_holds_88 : decode cX0_holds 88 = .ok (.aload_n 0, 1) := by decide +kernel
theorem dX0_holds_89 : decode cX0_holds 89 = .ok (.iload_n 1, 1) := by decide +kernel
theorem dX0_holds_90 : decode cX0_holds 90 = .ok (.iload_n 2, 1) := by decide +kernel
theorem dX0_holds_91 : decode cX0_holds 91 = .ok (.invokevirtual 79, 3) := by decide +kernel
theorem dX0_holds_94 : decode cX0_holds 94 = .ok (.aload_n 0, 1) := by decide +kernel
theorem dX0_holds_95 : decode cX0_holds 95 = .ok (.getfield 27, 3) := by decide +kernel
theorem dX0_holds_98 : decode cX0_holds 98 = .ok (.iload_n 1, 1) := by decide +kernel
theorem dX0_holds_99 : decode cX0_holds 99 = .ok (.iaload, 1) := by decide +kernel
theorem dX0_holds_100 : decode cX0_holds 100 = .ok (.invokestatic 82, 3) := by decide +kernel
theorem dX0_holds_103 : decode cX0_holds 103 = .ok (.if_icmp .ge 7, 3) := by decide +kernel
theorem dX0_holds_106 : decode cX0_holds 106 = .ok (.iconst 1, 1) := by decide +kernel
theorem dX0_holds_107 : decode cX0_holds 107 = .ok (.goto 4, 3) := by decide +kernel
theorem dX0_holds_110 : decode cX0_holds 110 = .ok (.iconst 0, 1) := by decide +kernel
theorem dX0_holds_111 : decode cX0_holds 111 = .ok (.ireturn, 1) := by decide +kernel
theorem dX0_holds_112 : decode cX0_holds 112 = .ok (.iconst 1, 1) := by decide +kernel
theorem dX0_holds_113 : decode cX0_holds 113 = .ok (.ireturn, 1) := by decide +kernel
theorem dX0_minuteOfPeriod_0 : decode cX0_minuteOfPeriod 0 = .ok (.iload_n 2, 1) := by decide +kernel
theorem dX0_minuteOfPeriod_1 : decode cX0_minuteOfPeriod 1 = .ok (.aload_n 0, 1) := by decide +kernel
theorem dX0_minuteOfPeriod_2 : decode cX0_minuteOfPeriod 2 = .ok (.getfield 21, 3) := by decide +kernel
theorem dX0_minuteOfPeriod_5 : decode cX0_minuteOfPeriod 5 = .ok (.iload_n 1, 1) := by decide +kernel
theorem dX0_minuteOfPeriod_6 : decode cX0_minuteOfPeriod 6 = .ok (.iaload, 1) := by decide +kernel
theorem dX0_minuteOfPeriod_7 : decode cX0_minuteOfPeriod 7 = .ok (.isub, 1) := by decide +kernel
theorem dX0_minuteOfPeriod_8 : decode cX0_minuteOfPeriod 8 = .ok (.aload_n 0, 1) := by decide +kernel
theorem dX0_minuteOfPeriod_9 : decode cX0_minuteOfPeriod 9 = .ok (.getfield 27, 3) := by decide +kernel
theorem dX0_minuteOfPeriod_12 : decode cX0_minuteOfPeriod 12 = .ok (.iload_n 1, 1) := by decide +kernel
theorem dX0_minuteOfPeriod_13 : decode cX0_minuteOfPeriod 13 = .ok (.iaload, 1) := by decide +kernel
theorem dX0_minuteOfPeriod_14 : decode cX0_minuteOfPeriod 14 = .ok (.invokestatic 86, 3) := by decide +kernel
theorem dX0_minuteOfPeriod_17 : decode cX0_minuteOfPeriod 17 = .ok (.irem, 1) := by decide +kernel
theorem dX0_minuteOfPeriod_18 : decode cX0_minuteOfPeriod 18 = .ok (.ireturn, 1) := by decide +kernel
theorem dX1_init_0 : decode cX1_init 0 = .ok (.aload_n 0, 1) := by decide +kernel
theorem dX1_init_1 : decode cX1_init 1 = .ok (.invokespecial 3, 3) := by decide +kernel
theorem dX1_init_4 : decode cX1_init 4 = .ok (.aload_n 0, 1) := by decide +kernel
theorem dX1_init_5 : decode cX1_init 5 = .ok (.sipush 500, 3) := by decide +kernel
theorem dX1_init_8 : decode cX1_init 8 = .ok (.newarray .int, 2) := by decide +kernel
theorem dX1_init_10 : decode cX1_init 10 = .ok (.putfield 9, 3) := by decide +kernel
theorem dX1_init_13 : decode cX1_init 13 = .ok (.aload_n 0, 1) := by decide +kernel
theorem dX1_init_14 : decode cX1_init 14 = .ok (.iconst 0, 1) := by decide +kernel
theorem dX1_init_15 : decode cX1_init 15 = .ok (.putfield 15, 3) := by decide +kernel
theorem dX1_init_18 : decode cX1_init 18 = .ok (.return_, 1) := by decide +kernel
theorem dX1_total_0 : decode cX1_total 0 = .ok (.aload_n 0, 1) := by decide +kernel
theorem dX1_total_1 : decode cX1_total 1 = .ok (.getfield 15, 3) := by decide +kernel
theorem dX1_total_4 : decode cX1_total 4 = .ok (.ireturn, 1) := by decide +kernel
theorem dX1_isKept_0 : decode cX1_isKept 0 = .ok (.iload_n 1, 1) := by decide +kernel
theorem dX1_isKept_1 : decode cX1_isKept 1 = .ok (.ifCond .lt 26, 3) := by decide +kernel
theorem dX1_isKept_4 : decode cX1_isKept 4 = .ok (.iload_n 1, 1) := by decide +kernel
theorem dX1_isKept_5 : decode cX1_isKept 5 = .ok (.aload_n 0, 1) := by decide +kernel
theorem dX1_isKept_6 : decode cX1_isKept 6 = .ok (.getfield 15, 3) := by decide +kernel
theorem dX1_isKept_9 : decode cX1_isKept 9 = .ok (.if_icmp .ge 18, 3) := by decide +kernel
theorem dX1_isKept_12 : decode cX1_isKept 12 = .ok (.iload_n 1, 1) := by decide +kernel
theorem dX1_isKept_13 : decode cX1_isKept 13 = .ok (.aload_n 0, 1) := by decide +kernel
theorem dX1_isKept_14 : decode cX1_isKept 14 = .ok (.getfield 15, 3) := by decide +kernel
theorem dX1_isKept_17 : decode cX1_isKept 17 = .ok (.bipush 100, 2) := by decide +kernel
theorem dX1_isKept_19 : decode cX1_isKept 19 = .ok (.isub, 1) := by decide +kernel
theorem dX1_isKept_20 : decode cX1_isKept 20 = .ok (.if_icmp .lt 7, 3) := by decide +kernel
theorem dX1_isKept_23 : decode cX1_isKept 23 = .ok (.iconst 1, 1) := by decide +kernel
theorem dX1_isKept_24 : decode cX1_isKept 24 = .ok (.goto 4, 3) := by decide +kernel
theorem dX1_isKept_27 : decode cX1_isKept 27 = .ok (.iconst 0, 1) := by decide +kernel
theorem dX1_isKept_28 : decode cX1_isKept 28 = .ok (.ireturn, 1) := by decide +kernel
theorem dX1_get_0 : decode cX1_get 0 = .ok (.aload_n 0, 1) := by decide +kernel
theorem dX1_get_1 : decode cX1_get 1 = .ok (.getfield 9, 3) := by decide +kernel
theorem dX1_get_4 : decode cX1_get 4 = .ok (.iload_n 1, 1) := by decide +kernel
theorem dX1_get_5 : decode cX1_get 5 = .ok (.invokestatic 19, 3) := by decide +kernel
theorem dX1_get_8 : decode cX1_get 8 = .ok (.iload_n 2, 1) := by decide +kernel
theorem dX1_get_9 : decode cX1_get 9 = .ok (.iadd, 1) := by decide +kernel
theorem dX1_get_10 : decode cX1_get 10 = .ok (.iaload, 1) := by decide +kernel
theorem dX1_get_11 : decode cX1_get 11 = .ok (.ireturn, 1) := by decide +kernel
theorem dX1_add_0 : decode cX1_add 0 = .ok (.aload_n 0, 1) := by decide +kernel
theorem dX1_add_1 : decode cX1_add 1 = .ok (.getfield 15, 3) := by decide +kernel
theorem dX1_add_4 : decode cX1_add 4 = .ok (.invokestatic 19, 3) := by decide +kernel
theorem dX1_add_7 : decode cX1_add 7 = .ok (.istore 5, 2) := by decide +kernel
theorem dX1_add_9 : decode cX1_add 9 = .ok (.aload_n 0, 1) := by decide +kernel
theorem dX1_add_10 : decode cX1_add 10 = .ok (.getfield 9, 3) := by decide +kernel
theorem dX1_add_13 : decode cX1_add 13 = .ok (.iload 5, 2) := by decide +kernel
theorem dX1_add_15 : decode cX1_add 15 = .ok (.iload_n 1, 1) := by decide +kernel
theorem dX1_add_16 : decode cX1_add 16 = .ok (.iastore, 1) := by decide +kernel
theorem dX1_add_17 : decode cX1_add 17 = .ok (.aload_n 0, 1) := by decide +kernel
theorem dX1_add_18 : decode cX1_add 18 = .ok (.getfield 9, 3) := by decide +kernel
theorem dX1_add_21 : decode cX1_add 21 = .ok (.iload 5, 2) := by decide +kernel
theorem dX1_add_23 : decode cX1_add 23 = .ok (.iconst 1, 1) := by decide +kernel
theorem dX1_add_24 : decode cX1_add 24 = .ok (.iadd, 1) := by decide +kernel
theorem dX1_add_25 : decode cX1_add 25 = .ok (.iload_n 2, 1) := by decide +kernel
theorem dX1_add_26 : decode cX1_add 26 = .ok (.invokestatic 23, 3) := by decide +kernel
theorem dX1_add_29 : decode cX1_add 29 = .ok (.iastore, 1) := by decide +kernel
theorem dX1_add_30 : decode cX1_add 30 = .ok (.aload_n 0, 1) := by decide +kernel
theorem dX1_add_31 : decode cX1_add 31 = .ok (.getfield 9, 3) := by decide +kernel
theorem dX1_add_34 : decode cX1_add 34 = .ok (.iload 5, 2) := by decide +kernel
theorem dX1_add_36 : decode cX1_add 36 = .ok (.iconst 2, 1) := by decide +kernel
theorem dX1_add_37 : decode cX1_add 37 = .ok (.iadd, 1) := by decide +kernel
theorem dX1_add_38 : decode cX1_add 38 = .ok (.iload_n 2, 1) := by decide +kernel
theorem dX1_add_39 : decode cX1_add 39 = .ok (.invokestatic 26, 3) := by decide +kernel
theorem dX1_add_42 : decode cX1_add 42 = .ok (.iastore, 1) := by decide +kernel
theorem dX1_add_43 : decode cX1_add 43 = .ok (.aload_n 0, 1) := by decide +kernel
theorem dX1_add_44 : decode cX1_add 44 = .ok (.getfield 9, 3) := by decide +kernel
theorem dX1_add_47 : decode cX1_add 47 = .ok (.iload 5, 2) := by decide +kernel
theorem dX1_add_49 : decode cX1_add 49 = .ok (.iconst 3, 1) := by decide +kernel
theorem dX1_add_50 : decode cX1_add 50 = .ok (.iadd, 1) := by decide +kernel
theorem dX1_add_51 : decode cX1_add 51 = .ok (.iload_n 3, 1) := by decide +kernel
theorem dX1_add_52 : decode cX1_add 52 = .ok (.ifCond .eq 7, 3) := by decide +kernel
theorem dX1_add_55 : decode cX1_add 55 = .ok (.iconst 1, 1) := by decide +kernel
theorem dX1_add_56 : decode cX1_add 56 = .ok (.goto 4, 3) := by decide +kernel
theorem dX1_add_59 : decode cX1_add 59 = .ok (.iconst 0, 1) := by decide +kernel
theorem dX1_add_60 : decode cX1_add 60 = .ok (.iastore, 1) := by decide +kernel
theorem dX1_add_61 : decode cX1_add 61 = .ok (.aload_n 0, 1) := by decide +kernel
theorem dX1_add_62 : decode cX1_add 62 = .ok (.getfield 9, 3) := by decide +kernel
theorem dX1_add_65 : decode cX1_add 65 = .ok (.iload 5, 2) := by decide +kernel
theorem dX1_add_67 : decode cX1_add 67 = .ok (.iconst 4, 1) := by decide +kernel
theorem dX1_add_68 : decode cX1_add 68 = .ok (.iadd, 1) := by decide +kernel
theorem dX1_add_69 : decode cX1_add 69 = .ok (.iload 4, 2) := by decide +kernel
theorem dX1_add_71 : decode cX1_add 71 = .ok (.iastore, 1) := by decide +kernel
theorem dX1_add_72 : decode cX1_add 72 = .ok (.aload_n 0, 1) := by decide +kernel
theorem dX1_add_73 : decode cX1_add 73 = .ok (.dup, 1) := by decide +kernel
theorem dX1_add_74 : decode cX1_add 74 = .ok (.getfield 15, 3) := by decide +kernel
theorem dX1_add_77 : decode cX1_add 77 = .ok (.iconst 1, 1) := by decide +kernel
theorem dX1_add_78 : decode cX1_add 78 = .ok (.iadd, 1) := by decide +kernel
theorem dX1_add_79 : decode cX1_add 79 = .ok (.putfield 15, 3) := by decide +kernel
theorem dX1_add_82 : decode cX1_add 82 = .ok (.return_, 1) := by decide +kernel
theorem dX1_firstOf_0 : decode cX1_firstOf 0 = .ok (.iload_n 0, 1) := by decide +kernel
theorem dX1_firstOf_1 : decode cX1_firstOf 1 = .ok (.bipush 100, 2) := by decide +kernel
theorem dX1_firstOf_3 : decode cX1_firstOf 3 = .ok (.invokestatic 29, 3) := by decide +kernel
theorem dX1_firstOf_6 : decode cX1_firstOf 6 = .ok (.iconst 5, 1) := by decide +kernel
theorem dX1_firstOf_7 : decode cX1_firstOf 7 = .ok (.imul, 1) := by decide +kernel
theorem dX1_firstOf_8 : decode cX1_firstOf 8 = .ok (.ireturn, 1) := by decide +kernel
theorem dX2_init_0 : decode cX2_init 0 = .ok (.aload_n 0, 1) := by decide +kernel
theorem dX2_init_1 : decode cX2_init 1 = .ok (.invokespecial 3, 3) := by decide +kernel
theorem dX2_init_4 : decode cX2_init 4 = .ok (.aload_n 0, 1) := by decide +kernel
theorem dX2_init_5 : decode cX2_init 5 = .ok (.bipush 120, 2) := by decide +kernel
theorem dX2_init_7 : decode cX2_init 7 = .ok (.newarray .int, 2) := by decide +kernel
theorem dX2_init_9 : decode cX2_init 9 = .ok (.putfield 9, 3) := by decide +kernel
theorem dX2_init_12 : decode cX2_init 12 = .ok (.aload_n 0, 1) := by decide +kernel
theorem dX2_init_13 : decode cX2_init 13 = .ok (.bipush 10, 2) := by decide +kernel
theorem dX2_init_15 : decode cX2_init 15 = .ok (.newarray .int, 2) := by decide +kernel
theorem dX2_init_17 : decode cX2_init 17 = .ok (.putfield 15, 3) := by decide +kernel
theorem dX2_init_20 : decode cX2_init 20 = .ok (.return_, 1) := by decide +kernel
