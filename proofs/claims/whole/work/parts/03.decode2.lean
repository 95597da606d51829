theorem dX2_empty_0 : decode cX2_empty 0 = .ok (.aload_n 0, 1) := by decide +kernel
theorem dX2_empty_1 : decode cX2_empty 1 = .ok (.getfield 15, 3) := by decide +kernel
theorem dX2_empty_4 : decode cX2_empty 4 = .ok (.iload_n 1, 1) := by decide +kernel
theorem dX2_empty_5 : decode cX2_empty 5 = .ok (.iconst 0, 1) := by decide +kernel
theorem dX2_empty_6 : decode cX2_empty 6 = .ok (.iastore, 1) := by decide +kernel
theorem dX2_empty_7 : decode cX2_empty 7 = .ok (.return_, 1) := by decide +kernel
theorem dX2_isFull_0 : decode cX2_isFull 0 = .ok (.aload_n 0, 1) := by decide +kernel
theorem dX2_isFull_1 : decode cX2_isFull 1 = .ok (.getfield 15, 3) := by decide +kernel
theorem dX2_isFull_4 : decode cX2_isFull 4 = .ok (.iload_n 1, 1) := by decide +kernel
theorem dX2_isFull_5 : decode cX2_isFull 5 = .ok (.iaload, 1) := by decide +kernel
theorem dX2_isFull_6 : decode cX2_isFull 6 = .ok (.bipush 12, 2) := by decide +kernel
theorem dX2_isFull_8 : decode cX2_isFull 8 = .ok (.if_icmp .lt 7, 3) := by decide +kernel
theorem dX2_isFull_11 : decode cX2_isFull 11 = .ok (.iconst 1, 1) := by decide +kernel
theorem dX2_isFull_12 : decode cX2_isFull 12 = .ok (.goto 4, 3) := by decide +kernel
theorem dX2_isFull_15 : decode cX2_isFull 15 = .ok (.iconst 0, 1) := by decide +kernel
theorem dX2_isFull_16 : decode cX2_isFull 16 = .ok (.ireturn, 1) := by decide +kernel
theorem dX2_add_0 : decode cX2_add 0 = .ok (.aload_n 0, 1) := by decide +kernel
theorem dX2_add_1 : decode cX2_add 1 = .ok (.getfield 9, 3) := by decide +kernel
theorem dX2_add_4 : decode cX2_add 4 = .ok (.iload_n 1, 1) := by decide +kernel
theorem dX2_add_5 : decode cX2_add 5 = .ok (.bipush 12, 2) := by decide +kernel
theorem dX2_add_7 : decode cX2_add 7 = .ok (.imul, 1) := by decide +kernel
theorem dX2_add_8 : decode cX2_add 8 = .ok (.aload_n 0, 1) := by decide +kernel
theorem dX2_add_9 : decode cX2_add 9 = .ok (.getfield 15, 3) := by decide +kernel
theorem dX2_add_12 : decode cX2_add 12 = .ok (.iload_n 1, 1) := by decide +kernel
theorem dX2_add_13 : decode cX2_add 13 = .ok (.iaload, 1) := by decide +kernel
theorem dX2_add_14 : decode cX2_add 14 = .ok (.iadd, 1) := by decide +kernel
theorem dX2_add_15 : decode cX2_add 15 = .ok (.iload_n 2, 1) := by decide +kernel
theorem dX2_add_16 : decode cX2_add 16 = .ok (.iastore, 1) := by decide +kernel
theorem dX2_add_17 : decode cX2_add 17 = .ok (.aload_n 0, 1) := by decide +kernel
theorem dX2_add_18 : decode cX2_add 18 = .ok (.getfield 15, 3) := by decide +kernel
theorem dX2_add_21 : decode cX2_add 21 = .ok (.iload_n 1, 1) := by decide +kernel
theorem dX2_add_22 : decode cX2_add 22 = .ok (.dup2, 1) := by decide +kernel
theorem dX2_add_23 : decode cX2_add 23 = .ok (.iaload, 1) := by decide +kernel
theorem dX2_add_24 : decode cX2_add 24 = .ok (.iconst 1, 1) := by decide +kernel
theorem dX2_add_25 : decode cX2_add 25 = .ok (.iadd, 1) := by decide +kernel
theorem dX2_add_26 : decode cX2_add 26 = .ok (.iastore, 1) := by decide +kernel
theorem dX2_add_27 : decode cX2_add 27 = .ok (.aload_n 0, 1) := by decide +kernel
theorem dX2_add_28 : decode cX2_add 28 = .ok (.getfield 15, 3) := by decide +kernel
theorem dX2_add_31 : decode cX2_add 31 = .ok (.iload_n 1, 1) := by decide +kernel
theorem dX2_add_32 : decode cX2_add 32 = .ok (.iaload, 1) := by decide +kernel
theorem dX2_add_33 : decode cX2_add 33 = .ok (.ireturn, 1) := by decide +kernel
theorem dX2_length_0 : decode cX2_length 0 = .ok (.aload_n 0, 1) := by decide +kernel
theorem dX2_length_1 : decode cX2_length 1 = .ok (.getfield 15, 3) := by decide +kernel
theorem dX2_length_4 : decode cX2_length 4 = .ok (.iload_n 1, 1) := by decide +kernel
theorem dX2_length_5 : decode cX2_length 5 = .ok (.iaload, 1) := by decide +kernel
theorem dX2_length_6 : decode cX2_length 6 = .ok (.ireturn, 1) := by decide +kernel
theorem dX2_stepOf_0 : decode cX2_stepOf 0 = .ok (.aload_n 0, 1) := by decide +kernel
theorem dX2_stepOf_1 : decode cX2_stepOf 1 = .ok (.getfield 9, 3) := by decide +kernel
theorem dX2_stepOf_4 : decode cX2_stepOf 4 = .ok (.iload_n 1, 1) := by decide +kernel
theorem dX2_stepOf_5 : decode cX2_stepOf 5 = .ok (.bipush 12, 2) := by decide +kernel
theorem dX2_stepOf_7 : decode cX2_stepOf 7 = .ok (.imul, 1) := by decide +kernel
theorem dX2_stepOf_8 : decode cX2_stepOf 8 = .ok (.iload_n 2, 1) := by decide +kernel
theorem dX2_stepOf_9 : decode cX2_stepOf 9 = .ok (.iadd, 1) := by decide +kernel
theorem dX2_stepOf_10 : decode cX2_stepOf 10 = .ok (.iaload, 1) := by decide +kernel
theorem dX2_stepOf_11 : decode cX2_stepOf 11 = .ok (.ireturn, 1) := by decide +kernel
theorem dX2_leadsOver_0 : decode cX2_leadsOver 0 = .ok (.iconst 0, 1) := by decide +kernel
theorem dX2_leadsOver_1 : decode cX2_leadsOver 1 = .ok (.istore_n 3, 1) := by decide +kernel
theorem dX2_leadsOver_2 : decode cX2_leadsOver 2 = .ok (.iload_n 3, 1) := by decide +kernel
theorem dX2_leadsOver_3 : decode cX2_leadsOver 3 = .ok (.aload_n 0, 1) := by decide +kernel
theorem dX2_leadsOver_4 : decode cX2_leadsOver 4 = .ok (.getfield 15, 3) := by decide +kernel
theorem dX2_leadsOver_7 : decode cX2_leadsOver 7 = .ok (.iload_n 1, 1) := by decide +kernel
theorem dX2_leadsOver_8 : decode cX2_leadsOver 8 = .ok (.iaload, 1) := by decide +kernel
theorem dX2_leadsOver_9 : decode cX2_leadsOver 9 = .ok (.if_icmp .ge 21, 3) := by decide +kernel
theorem dX2_leadsOver_12 : decode cX2_leadsOver 12 = .ok (.aload_n 0, 1) := by decide +kernel
theorem dX2_leadsOver_13 : decode cX2_leadsOver 13 = .ok (.iload_n 1, 1) := by decide +kernel
theorem dX2_leadsOver_14 : decode cX2_leadsOver 14 = .ok (.iload_n 3, 1) := by decide +kernel
theorem dX2_leadsOver_15 : decode cX2_leadsOver 15 = .ok (.invokevirtual 18, 3) := by decide +kernel
theorem dX2_leadsOver_18 : decode cX2_leadsOver 18 = .ok (.iload_n 2, 1) := by decide +kernel
theorem dX2_leadsOver_19 : decode cX2_leadsOver 19 = .ok (.if_icmp .ne 5, 3) := by decide +kernel
theorem dX2_leadsOver_22 : decode cX2_leadsOver 22 = .ok (.iconst 1, 1) := by decide +kernel
theorem dX2_leadsOver_23 : decode cX2_leadsOver 23 = .ok (.ireturn, 1) := by decide +kernel
theorem dX2_leadsOver_24 : decode cX2_leadsOver 24 = .ok (.iinc 3 1, 3) := by decide +kernel
theorem dX2_leadsOver_27 : decode cX2_leadsOver 27 = .ok (.goto (-25), 3) := by decide +kernel
theorem dX2_leadsOver_30 : decode cX2_leadsOver 30 = .ok (.iconst 0, 1) := by decide +kernel
theorem dX2_leadsOver_31 : decode cX2_leadsOver 31 = .ok (.ireturn, 1) := by decide +kernel
theorem dX3_init_0 : decode cX3_init 0 = .ok (.aload_n 0, 1) := by decide +kernel
theorem dX3_init_1 : decode cX3_init 1 = .ok (.invokespecial 3, 3) := by decide +kernel
theorem dX3_init_4 : decode cX3_init 4 = .ok (.aload_n 0, 1) := by decide +kernel
theorem dX3_init_5 : decode cX3_init 5 = .ok (.new 9, 3) := by decide +kernel
theorem dX3_init_8 : decode cX3_init 8 = .ok (.dup, 1) := by decide +kernel
theorem dX3_init_9 : decode cX3_init 9 = .ok (.invokespecial 11, 3) := by decide +kernel
theorem dX3_init_12 : decode cX3_init 12 = .ok (.putfield 12, 3) := by decide +kernel
theorem dX3_init_15 : decode cX3_init 15 = .ok (.aload_n 0, 1) := by decide +kernel
theorem dX3_init_16 : decode cX3_init 16 = .ok (.new 16, 3) := by decide +kernel
theorem dX3_init_19 : decode cX3_init 19 = .ok (.dup, 1) := by decide +kernel
theorem dX3_init_20 : decode cX3_init 20 = .ok (.invokespecial 18, 3) := by decide +kernel
theorem dX3_init_23 : decode cX3_init 23 = .ok (.putfield 19, 3) := by decide +kernel
theorem dX3_init_26 : decode cX3_init 26 = .ok (.aload_n 0, 1) := by decide +kernel
theorem dX3_init_27 : decode cX3_init 27 = .ok (.new 23, 3) := by decide +kernel
theorem dX3_init_30 : decode cX3_init 30 = .ok (.dup, 1) := by decide +kernel
theorem dX3_init_31 : decode cX3_init 31 = .ok (.invokespecial 25, 3) := by decide +kernel
theorem dX3_init_34 : decode cX3_init 34 = .ok (.putfield 26, 3) := by decide +kernel
theorem dX3_init_37 : decode cX3_init 37 = .ok (.aload_n 0, 1) := by decide +kernel
theorem dX3_init_38 : decode cX3_init 38 = .ok (.bipush 120, 2) := by decide +kernel
theorem dX3_init_40 : decode cX3_init 40 = .ok (.newarray .boolean, 2) := by decide +kernel
theorem dX3_init_42 : decode cX3_init 42 = .ok (.putfield 30, 3) := by decide +kernel
theorem dX3_init_45 : decode cX3_init 45 = .ok (.aload_n 0, 1) := by decide +kernel
theorem dX3_init_46 : decode cX3_init 46 = .ok (.bipush 120, 2) := by decide +kernel
theorem dX3_init_48 : decode cX3_init 48 = .ok (.newarray .boolean, 2) := by decide +kernel
theorem dX3_init_50 : decode cX3_init 50 = .ok (.putfield 34, 3) := by decide +kernel
theorem dX3_init_53 : decode cX3_init 53 = .ok (.aload_n 0, 1) := by decide +kernel
theorem dX3_init_54 : decode cX3_init 54 = .ok (.iconst 0, 1) := by decide +kernel
theorem dX3_init_55 : decode cX3_init 55 = .ok (.putfield 37, 3) := by decide +kernel
theorem dX3_init_58 : decode cX3_init 58 = .ok (.return_, 1) := by decide +kernel
theorem dX3_close_0 : decode cX3_close 0 = .ok (.iload_n 1, 1) := by decide +kernel
theorem dX3_close_1 : decode cX3_close 1 = .ok (.iload 6, 2) := by decide +kernel
theorem dX3_close_3 : decode cX3_close 3 = .ok (.invokestatic 41, 3) := by decide +kernel
theorem dX3_close_6 : decode cX3_close 6 = .ok (.iload_n 2, 1) := by decide +kernel
theorem dX3_close_7 : decode cX3_close 7 = .ok (.invokestatic 45, 3) := by decide +kernel
theorem dX3_close_10 : decode cX3_close 10 = .ok (.iload_n 3, 1) := by decide +kernel
theorem dX3_close_11 : decode cX3_close 11 = .ok (.iconst 1, 1) := by decide +kernel
theorem dX3_close_12 : decode cX3_close 12 = .ok (.if_icmp .lt 8, 3) := by decide +kernel
theorem dX3_close_15 : decode cX3_close 15 = .ok (.iload_n 3, 1) := by decide +kernel
theorem dX3_close_16 : decode cX3_close 16 = .ok (.iconst 3, 1) := by decide +kernel
theorem dX3_close_17 : decode cX3_close 17 = .ok (.if_icmp .le 13, 3) := by decide +kernel
theorem dX3_close_20 : decode cX3_close 20 = .ok (.new 49, 3) := by decide +kernel
theorem dX3_close_23 : decode cX3_close 23 = .ok (.dup, 1) := by decide +kernel
theorem dX3_close_24 : decode cX3_close 24 = .ok (.ldc 51, 2) := by decide +kernel
theorem dX3_close_26 : decode cX3_close 26 = .ok (.invokespecial 53, 3) := by decide +kernel
theorem dX3_close_29 : decode cX3_close 29 = .ok (.athrow, 1) := by decide +kernel
theorem dX3_close_30 : decode cX3_close 30 = .ok (.iload 4, 2) := by decide +kernel
theorem dX3_close_32 : decode cX3_close 32 = .ok (.invokestatic 56, 3) := by decide +kernel
theorem dX3_close_35 : decode cX3_close 35 = .ok (.iload_n 1, 1) := by decide +kernel
theorem dX3_close_36 : decode cX3_close 36 = .ok (.iload 4, 2) := by decide +kernel
theorem dX3_close_38 : decode cX3_close 38 = .ok (.iload 5, 2) := by decide +kernel
theorem dX3_close_40 : decode cX3_close 40 = .ok (.invokestatic 59, 3) := by decide +kernel
theorem dX3_close_43 : decode cX3_close 43 = .ok (.iload_n 1, 1) := by decide +kernel
theorem dX3_close_44 : decode cX3_close 44 = .ok (.iload 6, 2) := by decide +kernel
theorem dX3_close_46 : decode cX3_close 46 = .ok (.invokestatic 63, 3) := by decide +kernel
theorem dX3_close_49 : decode cX3_close 49 = .ok (.aload_n 0, 1) := by decide +kernel
theorem dX3_close_50 : decode cX3_close 50 = .ok (.getfield 12, 3) := by decide +kernel
theorem dX3_close_53 : decode cX3_close 53 = .ok (.invokevirtual 66, 3) := by decide +kernel
theorem dX3_close_56 : decode cX3_close 56 = .ok (.ifCond .eq 13, 3) := by decide +kernel
theorem dX3_close_59 : decode cX3_close 59 = .ok (.new 70, 3) := by decide +kernel
theorem dX3_close_62 : decode cX3_close 62 = .ok (.dup, 1) := by decide +kernel
theorem dX3_close_63 : decode cX3_close 63 = .ok (.ldc 72, 2) := by decide +kernel
theorem dX3_close_65 : decode cX3_close 65 = .ok (.invokespecial 74, 3) := by decide +kernel
theorem dX3_close_68 : decode cX3_close 68 = .ok (.athrow, 1) := by decide +kernel
theorem dX3_close_69 : decode cX3_close 69 = .ok (.aload_n 0, 1) := by decide +kernel
theorem dX3_close_70 : decode cX3_close 70 = .ok (.getfield 12, 3) := by decide +kernel
theorem dX3_close_73 : decode cX3_close 73 = .ok (.iload_n 1, 1) := by decide +kernel
theorem dX3_close_74 : decode cX3_close 74 = .ok (.iload_n 2, 1) := by decide +kernel
theorem dX3_close_75 : decode cX3_close 75 = .ok (.iload_n 3, 1) := by decide +kernel
theorem dX3_close_76 : decode cX3_close 76 = .ok (.iload 4, 2) := by decide +kernel
theorem dX3_close_78 : decode cX3_close 78 = .ok (.iload_n 1, 1) := by decide +kernel
theorem dX3_close_79 : decode cX3_close 79 = .ok (.invokestatic 75, 3) := by decide +kernel
theorem dX3_close_82 : decode cX3_close 82 = .ok (.ifCond .eq 8, 3) := by decide +kernel
theorem dX3_close_85 : decode cX3_close 85 = .ok (.iload 5, 2) := by decide +kernel
theorem dX3_close_87 : decode cX3_close 87 = .ok (.goto 5, 3) := by decide +kernel
theorem dX3_close_90 : decode cX3_close 90 = .ok (.ldc 79, 2) := by decide +kernel
theorem dX3_close_92 : decode cX3_close 92 = .ok (.iload 6, 2) := by decide +kernel
theorem dX3_close_94 : decode cX3_close 94 = .ok (.invokevirtual 80, 3) := by decide +kernel
theorem dX3_close_97 : decode cX3_close 97 = .ok (.istore 7, 2) := by decide +kernel
theorem dX3_close_99 : decode cX3_close 99 = .ok (.aload_n 0, 1) := by decide +kernel
theorem dX3_close_100 : decode cX3_close 100 = .ok (.invokevirtual 84, 3) := by decide +kernel
theorem dX3_close_103 : decode cX3_close 103 = .ok (.iload 7, 2) := by decide +kernel
theorem dX3_close_105 : decode cX3_close 105 = .ok (.ireturn, 1) := by decide +kernel
theorem dX3_answer_0 : decode cX3_answer 0 = .ok (.aload_n 0, 1) := by decide +kernel
theorem dX3_answer_1 : decode cX3_answer 1 = .ok (.iload_n 1, 1) := by decide +kernel
theorem dX3_answer_2 : decode cX3_answer 2 = .ok (.invokevirtual 87, 3) := by decide +kernel
theorem dX3_answer_5 : decode cX3_answer 5 = .ok (.aload_n 0, 1) := by decide +kernel
theorem dX3_answer_6 : decode cX3_answer 6 = .ok (.getfield 12, 3) := by decide +kernel
theorem dX3_answer_9 : decode cX3_answer 9 = .ok (.iload_n 1, 1) := by decide +kernel
theorem dX3_answer_10 : decode cX3_answer 10 = .ok (.invokevirtual 90, 3) := by decide +kernel
theorem dX3_answer_13 : decode cX3_answer 13 = .ok (.ifCond .ne 13, 3) := by decide +kernel
theorem dX3_answer_16 : decode cX3_answer 16 = .ok (.new 93, 3) := by decide +kernel
theorem dX3_answer_19 : decode cX3_answer 19 = .ok (.dup, 1) := by decide +kernel
theorem dX3_answer_20 : decode cX3_answer 20 = .ok (.ldc 95, 2) := by decide +kernel
theorem dX3_answer_22 : decode cX3_answer 22 = .ok (.invokespecial 97, 3) := by decide +kernel
theorem dX3_answer_25 : decode cX3_answer 25 = .ok (.athrow, 1) := by decide +kernel
theorem dX3_answer_26 : decode cX3_answer 26 = .ok (.aload_n 0, 1) := by decide +kernel
theorem dX3_answer_27 : decode cX3_answer 27 = .ok (.getfield 12, 3) := by decide +kernel
theorem dX3_answer_30 : decode cX3_answer 30 = .ok (.iload_n 1, 1) := by decide +kernel
theorem dX3_answer_31 : decode cX3_answer 31 = .ok (.iload_n 2, 1) := by decide +kernel
theorem dX3_answer_32 : decode cX3_answer 32 = .ok (.invokevirtual 98, 3) := by decide +kernel
theorem dX3_answer_35 : decode cX3_answer 35 = .ok (.aload_n 0, 1) := by decide +kernel
theorem dX3_answer_36 : decode cX3_answer 36 = .ok (.invokevirtual 84, 3) := by decide +kernel
theorem dX3_answer_39 : decode cX3_answer 39 = .ok (.return_, 1) := by decide +kernel
theorem dX3_lift_0 : decode cX3_lift 0 = .ok (.aload_n 0, 1) := by decide +kernel
theorem dX3_lift_1 : decode cX3_lift 1 = .ok (.iload_n 1, 1) := by decide +kernel
theorem dX3_lift_2 : decode cX3_lift 2 = .ok (.invokevirtual 87, 3) := by decide +kernel
theorem dX3_lift_5 : decode cX3_lift 5 = .ok (.iload_n 2, 1) := by decide +kernel
theorem dX3_lift_6 : decode cX3_lift 6 = .ok (.ifCond .lt 10, 3) := by decide +kernel
theorem dX3_lift_9 : decode cX3_lift 9 = .ok (.iload_n 2, 1) := by decide +kernel
theorem dX3_lift_10 : decode cX3_lift 10 = .ok (.sipush 999, 3) := by decide +kernel
theorem dX3_lift_13 : decode cX3_lift 13 = .ok (.if_icmp .le 13, 3) := by decide +kernel
theorem dX3_lift_16 : decode cX3_lift 16 = .ok (.new 49, 3) := by decide +kernel
theorem dX3_lift_19 : decode cX3_lift 19 = .ok (.dup, 1) := by decide +kernel
theorem dX3_lift_20 : decode cX3_lift 20 = .ok (.ldc 102, 2) := by decide +kernel
theorem dX3_lift_22 : decode cX3_lift 22 = .ok (.invokespecial 53, 3) := by decide +kernel
theorem dX3_lift_25 : decode cX3_lift 25 = .ok (.athrow, 1) := by decide +kernel
theorem dX3_lift_26 : decode cX3_lift 26 = .ok (.aload_n 0, 1) := by decide +kernel
theorem dX3_lift_27 : decode cX3_lift 27 = .ok (.getfield 12, 3) := by decide +kernel
theorem dX3_lift_30 : decode cX3_lift 30 = .ok (.iload_n 1, 1) := by decide +kernel
theorem dX3_lift_31 : decode cX3_lift 31 = .ok (.aload_n 0, 1) := by decide +kernel
theorem dX3_lift_32 : decode cX3_lift 32 = .ok (.getfield 37, 3) := by decide +kernel
theorem dX3_lift_35 : decode cX3_lift 35 = .ok (.invokevirtual 104, 3) := by decide +kernel
theorem dX3_lift_38 : decode cX3_lift 38 = .ok (.ifCond .ne 13, 3) := by decide +kernel
theorem dX3_lift_41 : decode cX3_lift 41 = .ok (.new 93, 3) := by decide +kernel
theorem dX3_lift_44 : decode cX3_lift 44 = .ok (.dup, 1) := by decide +kernel
theorem dX3_lift_45 : decode cX3_lift 45 = .ok (.ldc 108, 2) := by decide +kernel
theorem dX3_lift_47 : decode cX3_lift 47 = .ok (.invokespecial 97, 3) := by decide +kernel
theorem dX3_lift_50 : decode cX3_lift 50 = .ok (.athrow, 1) := by decide +kernel
theorem dX3_lift_51 : decode cX3_lift 51 = .ok (.aload_n 0, 1) := by decide +kernel
theorem dX3_lift_52 : decode cX3_lift 52 = .ok (.getfield 12, 3) := by decide +kernel
theorem dX3_lift_55 : decode cX3_lift 55 = .ok (.iload_n 1, 1) := by decide +kernel
theorem dX3_lift_56 : decode cX3_lift 56 = .ok (.iload_n 2, 1) := by decide +kernel
theorem dX3_lift_57 : decode cX3_lift 57 = .ok (.invokevirtual 110, 3) := by decide +kernel
theorem dX3_lift_60 : decode cX3_lift 60 = .ok (.ifCond .ne 5, 3) := by decide +kernel
theorem dX3_lift_63 : decode cX3_lift 63 = .ok (.iconst 0, 1) := by decide +kernel
theorem dX3_lift_64 : decode cX3_lift 64 = .ok (.ireturn, 1) := by decide +kernel
theorem dX3_lift_65 : decode cX3_lift 65 = .ok (.aload_n 0, 1) := by decide +kernel
theorem dX3_lift_66 : decode cX3_lift 66 = .ok (.getfield 12, 3) := by decide +kernel
theorem dX3_lift_69 : decode cX3_lift 69 = .ok (.iload_n 1, 1) := by decide +kernel
theorem dX3_lift_70 : decode cX3_lift 70 = .ok (.aload_n 0, 1) := by decide +kernel
theorem dX3_lift_71 : decode cX3_lift 71 = .ok (.getfield 37, 3) := by decide +kernel
theorem dX3_lift_74 : decode cX3_lift 74 = .ok (.invokevirtual 113, 3) := by decide +kernel
theorem dX3_lift_77 : decode cX3_lift 77 = .ok (.aload_n 0, 1) := by decide +kernel
theorem dX3_lift_78 : decode cX3_lift 78 = .ok (.invokevirtual 84, 3) := by decide +kernel
theorem dX3_lift_81 : decode cX3_lift 81 = .ok (.iconst 1, 1) := by decide +kernel
theorem dX3_lift_82 : decode cX3_lift 82 = .ok (.ireturn, 1) := by decide +kernel
theorem dX3_incident_0 : decode cX3_incident 0 = .ok (.iload_n 1, 1) := by decide +kernel
theorem dX3_incident_1 : decode cX3_incident 1 = .ok (.invokestatic 116, 3) := by decide +kernel
theorem dX3_incident_4 : decode cX3_incident 4 = .ok (.ifCond .ne 13, 3) := by decide +kernel
theorem dX3_incident_7 : decode cX3_incident 7 = .ok (.new 119, 3) := by decide +kernel
theorem dX3_incident_10 : decode cX3_incident 10 = .ok (.dup, 1) := by decide +kernel
theorem dX3_incident_11 : decode cX3_incident 11 = .ok (.ldc 121, 2) := by decide +kernel
theorem dX3_incident_13 : decode cX3_incident 13 = .ok (.invokespecial 123, 3) := by decide +kernel
theorem dX3_incident_16 : decode cX3_incident 16 = .ok (.athrow, 1) := by decide +kernel
theorem dX3_incident_17 : decode cX3_incident 17 = .ok (.aload_n 0, 1) := by decide +kernel
theorem dX3_incident_18 : decode cX3_incident 18 = .ok (.getfield 12, 3) := by decide +kernel
theorem dX3_incident_21 : decode cX3_incident 21 = .ok (.iload_n 1, 1) := by decide +kernel
theorem dX3_incident_22 : decode cX3_incident 22 = .ok (.iload_n 2, 1) := by decide +kernel
theorem dX3_incident_23 : decode cX3_incident 23 = .ok (.invokevirtual 124, 3) := by decide +kernel
theorem dX3_incident_26 : decode cX3_incident 26 = .ok (.aload_n 0, 1) := by decide +kernel
theorem dX3_incident_27 : decode cX3_incident 27 = .ok (.invokevirtual 84, 3) := by decide +kernel
theorem dX3_incident_30 : decode cX3_incident 30 = .ok (.return_, 1) := by decide +kernel
theorem dX3_step_0 : decode cX3_step 0 = .ok (.iload_n 1, 1) := by decide +kernel
theorem dX3_step_1 : decode cX3_step 1 = .ok (.invokestatic 127, 3) := by decide +kernel
theorem dX3_step_4 : decode cX3_step 4 = .ok (.iload_n 2, 1) := by decide +kernel
theorem dX3_step_5 : decode cX3_step 5 = .ok (.iconst (-1), 1) := by decide +kernel
theorem dX3_step_6 : decode cX3_step 6 = .ok (.if_icmp .ne 13, 3) := by decide +kernel
theorem dX3_step_9 : decode cX3_step 9 = .ok (.aload_n 0, 1) := by decide +kernel
theorem dX3_step_10 : decode cX3_step 10 = .ok (.getfield 19, 3) := by decide +kernel
theorem dX3_step_13 : decode cX3_step 13 = .ok (.iload_n 1, 1) := by decide +kernel
theorem dX3_step_14 : decode cX3_step 14 = .ok (.invokevirtual 130, 3) := by decide +kernel
theorem dX3_step_17 : decode cX3_step 17 = .ok (.iconst 0, 1) := by decide +kernel
theorem dX3_step_18 : decode cX3_step 18 = .ok (.ireturn, 1) := by decide +kernel
theorem dX3_step_19 : decode cX3_step 19 = .ok (.iload_n 2, 1) := by decide +kernel
theorem dX3_step_20 : decode cX3_step 20 = .ok (.iload_n 3, 1) := by decide +kernel
theorem dX3_step_21 : decode cX3_step 21 = .ok (.invokestatic 133, 3) := by decide +kernel
theorem dX3_step_24 : decode cX3_step 24 = .ok (.istore 4, 2) := by decide +kernel
theorem dX3_step_26 : decode cX3_step 26 = .ok (.aload_n 0, 1) := by decide +kernel
theorem dX3_step_27 : decode cX3_step 27 = .ok (.getfield 19, 3) := by decide +kernel
theorem dX3_step_30 : decode cX3_step 30 = .ok (.iload_n 1, 1) := by decide +kernel
theorem dX3_step_31 : decode cX3_step 31 = .ok (.invokevirtual 137, 3) := by decide +kernel
theorem dX3_step_34 : decode cX3_step 34 = .ok (.ifCond .eq 13, 3) := by decide +kernel
theorem dX3_step_37 : decode cX3_step 37 = .ok (.new 70, 3) := by decide +kernel
theorem dX3_step_40 : decode cX3_step 40 = .ok (.dup, 1) := by decide +kernel
theorem dX3_step_41 : decode cX3_step 41 = .ok (.ldc 139, 2) := by decide +kernel
theorem dX3_step_43 : decode cX3_step 43 = .ok (.invokespecial 74, 3) := by decide +kernel
theorem dX3_step_46 : decode cX3_step 46 = .ok (.athrow, 1) := by decide +kernel
theorem dX3_step_47 : decode cX3_step 47 = .ok (.aload_n 0, 1) := by decide +kernel
theorem dX3_step_48 : decode cX3_step 48 = .ok (.getfield 19, 3) := by decide +kernel
theorem dX3_step_51 : decode cX3_step 51 = .ok (.iload_n 1, 1) := by decide +kernel
theorem dX3_step_52 : decode cX3_step 52 = .ok (.iload 4, 2) := by decide +kernel
theorem dX3_step_54 : decode cX3_step 54 = .ok (.invokevirtual 141, 3) := by decide +kernel
theorem dX3_step_57 : decode cX3_step 57 = .ok (.ireturn, 1) := by decide +kernel
theorem dX3_tick_0 : decode cX3_tick 0 = .ok (.iload_n 1, 1) := by decide +kernel
theorem dX3_tick_1 : decode cX3_tick 1 = .ok (.iconst 1, 1) := by decide +kernel
theorem dX3_tick_2 : decode cX3_tick 2 = .ok (.if_icmp .lt 21, 3) := by decide +kernel
theorem dX3_tick_5 : decode cX3_tick 5 = .ok (.iload_n 1, 1) := by decide +kernel
theorem dX3_tick_6 : decode cX3_tick 6 = .ok (.sipush 2000, 3) := by decide +kernel
theorem dX3_tick_9 : decode cX3_tick 9 = .ok (.if_icmp .gt 14, 3) := by decide +kernel
theorem dX3_tick_12 : decode cX3_tick 12 = .ok (.iload_n 1, 1) := by decide +kernel
theorem dX3_tick_13 : decode cX3_tick 13 = .ok (.ldc 143, 2) := by decide +kernel
theorem dX3_tick_15 : decode cX3_tick 15 = .ok (.aload_n 0, 1) := by decide +kernel
theorem dX3_tick_16 : decode cX3_tick 16 = .ok (.getfield 37, 3) := by decide +kernel
theorem dX3_tick_19 : decode cX3_tick 19 = .ok (.isub, 1) := by decide +kernel
theorem dX3_tick_20 : decode cX3_tick 20 = .ok (.if_icmp .le 13, 3) := by decide +kernel
theorem dX3_tick_23 : decode cX3_tick 23 = .ok (.new 49, 3) := by decide +kernel
theorem dX3_tick_26 : decode cX3_tick 26 = .ok (.dup, 1) := by decide +kernel
theorem dX3_tick_27 : decode cX3_tick 27 = .ok (.ldc 144, 2) := by decide +kernel
theorem dX3_tick_29 : decode cX3_tick 29 = .ok (.invokespecial 53, 3) := by decide +kernel
theorem dX3_tick_32 : decode cX3_tick 32 = .ok (.athrow, 1) := by decide +kernel
theorem dX3_tick_33 : decode cX3_tick 33 = .ok (.aload_n 0, 1) := by decide +kernel
theorem dX3_tick_34 : decode cX3_tick 34 = .ok (.getfield 26, 3) := by decide +kernel
theorem dX3_tick_37 : decode cX3_tick 37 = .ok (.invokevirtual 146, 3) := by decide +kernel
theorem dX3_tick_40 : decode cX3_tick 40 = .ok (.istore_n 2, 1) := by decide +kernel
theorem dX3_tick_41 : decode cX3_tick 41 = .ok (.aload_n 0, 1) := by decide +kernel
theorem dX3_tick_42 : decode cX3_tick 42 = .ok (.getfield 12, 3) := by decide +kernel
theorem dX3_tick_45 : decode cX3_tick 45 = .ok (.aload_n 0, 1) := by decide +kernel
theorem dX3_tick_46 : decode cX3_tick 46 = .ok (.getfield 37, 3) := by decide +kernel
theorem dX3_tick_49 : decode cX3_tick 49 = .ok (.invokevirtual 150, 3) := by decide +kernel
theorem dX3_tick_52 : decode cX3_tick 52 = .ok (.istore_n 3, 1) := by decide +kernel
theorem dX3_tick_53 : decode cX3_tick 53 = .ok (.iconst 0, 1) := by decide +kernel
theorem dX3_tick_54 : decode cX3_tick 54 = .ok (.istore 4, 2) := by decide +kernel
theorem dX3_tick_56 : decode cX3_tick 56 = .ok (.iload 4, 2) := by decide +kernel
theorem dX3_tick_58 : decode cX3_tick 58 = .ok (.iload_n 1, 1) := by decide +kernel
theorem dX3_tick_59 : decode cX3_tick 59 = .ok (.if_icmp .ge 43, 3) := by decide +kernel
theorem dX3_tick_62 : decode cX3_tick 62 = .ok (.aload_n 0, 1) := by decide +kernel
theorem dX3_tick_63 : decode cX3_tick 63 = .ok (.dup, 1) := by decide +kernel
theorem dX3_tick_64 : decode cX3_tick 64 = .ok (.getfield 37, 3) := by decide +kernel
theorem dX3_tick_67 : decode cX3_tick 67 = .ok (.iconst 1, 1) := by decide +kernel
theorem dX3_tick_68 : decode cX3_tick 68 = .ok (.iadd, 1) := by decide +kernel
theorem dX3_tick_69 : decode cX3_tick 69 = .ok (.putfield 37, 3) := by decide +kernel
theorem dX3_tick_72 : decode cX3_tick 72 = .ok (.aload_n 0, 1) := by decide +kernel
theorem dX3_tick_73 : decode cX3_tick 73 = .ok (.getfield 37, 3) := by decide +kernel
theorem dX3_tick_76 : decode cX3_tick 76 = .ok (.iload_n 3, 1) := by decide +kernel
theorem dX3_tick_77 : decode cX3_tick 77 = .ok (.if_icmp .lt 19, 3) := by decide +kernel
theorem dX3_tick_80 : decode cX3_tick 80 = .ok (.aload_n 0, 1) := by decide +kernel
theorem dX3_tick_81 : decode cX3_tick 81 = .ok (.invokevirtual 84, 3) := by decide +kernel
theorem dX3_tick_84 : decode cX3_tick 84 = .ok (.aload_n 0, 1) := by decide +kernel
theorem dX3_tick_85 : decode cX3_tick 85 = .ok (.getfield 12, 3) := by decide +kernel
theorem dX3_tick_88 : decode cX3_tick 88 = .ok (.aload_n 0, 1) := by decide +kernel
theorem dX3_tick_89 : decode cX3_tick 89 = .ok (.getfield 37, 3) := by decide +kernel
theorem dX3_tick_92 : decode cX3_tick 92 = .ok (.invokevirtual 150, 3) := by decide +kernel
theorem dX3_tick_95 : decode cX3_tick 95 = .ok (.istore_n 3, 1) := by decide +kernel
theorem dX3_tick_96 : decode cX3_tick 96 = .ok (.iinc 4 1, 3) := by decide +kernel
theorem dX3_tick_99 : decode cX3_tick 99 = .ok (.goto (-43), 3) := by decide +kernel
theorem dX3_tick_102 : decode cX3_tick 102 = .ok (.aload_n 0, 1) := by decide +kernel
theorem dX3_tick_103 : decode cX3_tick 103 = .ok (.getfield 26, 3) := by decide +kernel
theorem dX3_tick_106 : decode cX3_tick 106 = .ok (.invokevirtual 146, 3) := by decide +kernel
theorem dX3_tick_109 : decode cX3_tick 109 = .ok (.iload_n 2, 1) := by decide +kernel
theorem dX3_tick_110 : decode cX3_tick 110 = .ok (.isub, 1) := by decide +kernel
theorem dX3_tick_111 : decode cX3_tick 111 = .ok (.ireturn, 1) := by decide +kernel
theorem dX3_clock_0 : decode cX3_clock 0 = .ok (.aload_n 0, 1) := by decide +kernel
theorem dX3_clock_1 : decode cX3_clock 1 = .ok (.getfield 37, 3) := by decide +kernel
theorem dX3_clock_4 : decode cX3_clock 4 = .ok (.ireturn, 1) := by decide +kernel
theorem dX3_closed_0 : decode cX3_closed 0 = .ok (.iload_n 1, 1) := by decide +kernel
theorem dX3_closed_1 : decode cX3_closed 1 = .ok (.iload_n 2, 1) := by decide +kernel
theorem dX3_closed_2 : decode cX3_closed 2 = .ok (.invokestatic 133, 3) := by decide +kernel
theorem dX3_closed_5 : decode cX3_closed 5 = .ok (.istore 4, 2) := by decide +kernel
theorem dX3_closed_7 : decode cX3_closed 7 = .ok (.iload_n 3, 1) := by decide +kernel
theorem dX3_closed_8 : decode cX3_closed 8 = .ok (.invokestatic 56, 3) := by decide +kernel
theorem dX3_closed_11 : decode cX3_closed 11 = .ok (.aload_n 0, 1) := by decide +kernel
theorem dX3_closed_12 : decode cX3_closed 12 = .ok (.getfield 12, 3) := by decide +kernel
theorem dX3_closed_15 : decode cX3_closed 15 = .ok (.iload 4, 2) := by decide +kernel
theorem dX3_closed_17 : decode cX3_closed 17 = .ok (.iload_n 3, 1) := by decide +kernel
theorem dX3_closed_18 : decode cX3_closed 18 = .ok (.invokevirtual 154, 3) := by decide +kernel
theorem dX3_closed_21 : decode cX3_closed 21 = .ok (.ireturn, 1) := by decide +kernel
theorem dX3_minutes_0 : decode cX3_minutes 0 = .ok (.iload_n 1, 1) := by decide +kernel
theorem dX3_minutes_1 : decode cX3_minutes 1 = .ok (.iload_n 2, 1) := by decide +kernel
theorem dX3_minutes_2 : decode cX3_minutes 2 = .ok (.invokestatic 133, 3) := by decide +kernel
theorem dX3_minutes_5 : decode cX3_minutes 5 = .ok (.istore 5, 2) := by decide +kernel
theorem dX3_minutes_7 : decode cX3_minutes 7 = .ok (.iload_n 3, 1) := by decide +kernel
theorem dX3_minutes_8 : decode cX3_minutes 8 = .ok (.invokestatic 56, 3) := by decide +kernel
theorem dX3_minutes_11 : decode cX3_minutes 11 = .ok (.iload 4, 2) := by decide +kernel
theorem dX3_minutes_13 : decode cX3_minutes 13 = .ok (.invokestatic 56, 3) := by decide +kernel
theorem dX3_minutes_16 : decode cX3_minutes 16 = .ok (.iload 4, 2) := by decide +kernel
theorem dX3_minutes_18 : decode cX3_minutes 18 = .ok (.iload_n 3, 1) := by decide +kernel
theorem dX3_minutes_19 : decode cX3_minutes 19 = .ok (.if_icmp .lt 13, 3) := by decide +kernel
theorem dX3_minutes_22 : decode cX3_minutes 22 = .ok (.iload 4, 2) := by decide +kernel
theorem dX3_minutes_24 : decode cX3_minutes 24 = .ok (.iload_n 3, 1) := by decide +kernel
theorem dX3_minutes_25 : decode cX3_minutes 25 = .ok (.isub, 1) := by decide +kernel
theorem dX3_minutes_26 : decode cX3_minutes 26 = .ok (.sipush 2000, 3) := by decide +kernel
theorem dX3_minutes_29 : decode cX3_minutes 29 = .ok (.if_icmp .le 13, 3) := by decide +kernel
theorem dX3_minutes_32 : decode cX3_minutes 32 = .ok (.new 49, 3) := by decide +kernel
theorem dX3_minutes_35 : decode cX3_minutes 35 = .ok (.dup, 1) := by decide +kernel
theorem dX3_minutes_36 : decode cX3_minutes 36 = .ok (.ldc 157, 2) := by decide +kernel
theorem dX3_minutes_38 : decode cX3_minutes 38 = .ok (.invokespecial 53, 3) := by decide +kernel
theorem dX3_minutes_41 : decode cX3_minutes 41 = .ok (.athrow, 1) := by decide +kernel
theorem dX3_minutes_42 : decode cX3_minutes 42 = .ok (.iconst 0, 1) := by decide +kernel
theorem dX3_minutes_43 : decode cX3_minutes 43 = .ok (.istore 6, 2) := by decide +kernel
theorem dX3_minutes_45 : decode cX3_minutes 45 = .ok (.iload_n 3, 1) := by decide +kernel
theorem dX3_minutes_46 : decode cX3_minutes 46 = .ok (.istore 7, 2) := by decide +kernel
theorem dX3_minutes_48 : decode cX3_minutes 48 = .ok (.iconst 0, 1) := by decide +kernel
theorem dX3_minutes_49 : decode cX3_minutes 49 = .ok (.istore 8, 2) := by decide +kernel
theorem dX3_minutes_51 : decode cX3_minutes 51 = .ok (.iload_n 3, 1) := by decide +kernel
theorem dX3_minutes_52 : decode cX3_minutes 52 = .ok (.istore 9, 2) := by decide +kernel
theorem dX3_minutes_54 : decode cX3_minutes 54 = .ok (.iload 9, 2) := by decide +kernel
theorem dX3_minutes_56 : decode cX3_minutes 56 = .ok (.iload 4, 2) := by decide +kernel
theorem dX3_minutes_58 : decode cX3_minutes 58 = .ok (.if_icmp .ge 50, 3) := by decide +kernel
theorem dX3_minutes_61 : decode cX3_minutes 61 = .ok (.iload 9, 2) := by decide +kernel
theorem dX3_minutes_63 : decode cX3_minutes 63 = .ok (.iload 7, 2) := by decide +kernel
theorem dX3_minutes_65 : decode cX3_minutes 65 = .ok (.if_icmp .lt 29, 3) := by decide +kernel
theorem dX3_minutes_68 : decode cX3_minutes 68 = .ok (.aload_n 0, 1) := by decide +kernel
theorem dX3_minutes_69 : decode cX3_minutes 69 = .ok (.getfield 12, 3) := by decide +kernel
theorem dX3_minutes_72 : decode cX3_minutes 72 = .ok (.iload 5, 2) := by decide +kernel
theorem dX3_minutes_74 : decode cX3_minutes 74 = .ok (.iload 9, 2) := by decide +kernel
theorem dX3_minutes_76 : decode cX3_minutes 76 = .ok (.invokevirtual 154, 3) := by decide +kernel
theorem dX3_minutes_79 : decode cX3_minutes 79 = .ok (.istore 8, 2) := by decide +kernel
theorem dX3_minutes_81 : decode cX3_minutes 81 = .ok (.aload_n 0, 1) := by decide +kernel
theorem dX3_minutes_82 : decode cX3_minutes 82 = .ok (.getfield 12, 3) := by decide +kernel
theorem dX3_minutes_85 : decode cX3_minutes 85 = .ok (.iload 5, 2) := by decide +kernel
theorem dX3_minutes_87 : decode cX3_minutes 87 = .ok (.iload 9, 2) := by decide +kernel
theorem dX3_minutes_89 : decode cX3_minutes 89 = .ok (.invokevirtual 159, 3) := by decide +kernel
theorem dX3_minutes_92 : decode cX3_minutes 92 = .ok (.istore 7, 2) := by decide +kernel
theorem dX3_minutes_94 : decode cX3_minutes 94 = .ok (.iload 8, 2) := by decide +kernel
theorem dX3_minutes_96 : decode cX3_minutes 96 = .ok (.ifCond .eq 6, 3) := by decide +kernel
theorem dX3_minutes_99 : decode cX3_minutes 99 = .ok (.iinc 6 1, 3) := by decide +kernel
theorem dX3_minutes_102 : decode cX3_minutes 102 = .ok (.iinc 9 1, 3) := by decide +kernel
theorem dX3_minutes_105 : decode cX3_minutes 105 = .ok (.goto (-51), 3) := by decide +kernel
theorem dX3_minutes_108 : decode cX3_minutes 108 = .ok (.iload 6, 2) := by decide +kernel
theorem dX3_minutes_110 : decode cX3_minutes 110 = .ok (.ireturn, 1) := by decide +kernel
theorem dX3_opens_0 : decode cX3_opens 0 = .ok (.iload_n 1, 1) := by decide +kernel
theorem dX3_opens_1 : decode cX3_opens 1 = .ok (.iload_n 2, 1) := by decide +kernel
theorem dX3_opens_2 : decode cX3_opens 2 = .ok (.invokestatic 133, 3) := by decide +kernel
theorem dX3_opens_5 : decode cX3_opens 5 = .ok (.istore 4, 2) := by decide +kernel
theorem dX3_opens_7 : decode cX3_opens 7 = .ok (.iload_n 3, 1) := by decide +kernel
theorem dX3_opens_8 : decode cX3_opens 8 = .ok (.invokestatic 56, 3) := by decide +kernel
theorem dX3_opens_11 : decode cX3_opens 11 = .ok (.iload_n 3, 1) := by decide +kernel
theorem dX3_opens_12 : decode cX3_opens 12 = .ok (.sipush 2000, 3) := by decide +kernel
theorem dX3_opens_15 : decode cX3_opens 15 = .ok (.iadd, 1) := by decide +kernel
theorem dX3_opens_16 : decode cX3_opens 16 = .ok (.iconst 1, 1) := by decide +kernel
theorem dX3_opens_17 : decode cX3_opens 17 = .ok (.isub, 1) := by decide +kernel
theorem dX3_opens_18 : decode cX3_opens 18 = .ok (.ldc 143, 2) := by decide +kernel
theorem dX3_opens_20 : decode cX3_opens 20 = .ok (.invokestatic 162, 3) := by decide +kernel
theorem dX3_opens_23 : decode cX3_opens 23 = .ok (.istore 5, 2) := by decide +kernel
theorem dX3_opens_25 : decode cX3_opens 25 = .ok (.iload_n 3, 1) := by decide +kernel
theorem dX3_opens_26 : decode cX3_opens 26 = .ok (.istore 6, 2) := by decide +kernel
theorem dX3_opens_28 : decode cX3_opens 28 = .ok (.iload_n 3, 1) := by decide +kernel
theorem dX3_opens_29 : decode cX3_opens 29 = .ok (.istore 7, 2) := by decide +kernel
theorem dX3_opens_31 : decode cX3_opens 31 = .ok (.iload 7, 2) := by decide +kernel
theorem dX3_opens_33 : decode cX3_opens 33 = .ok (.iload 5, 2) := by decide +kernel
theorem dX3_opens_35 : decode cX3_opens 35 = .ok (.if_icmp .gt 46, 3) := by decide +kernel
theorem dX3_opens_38 : decode cX3_opens 38 = .ok (.iload 7, 2) := by decide +kernel
theorem dX3_opens_40 : decode cX3_opens 40 = .ok (.iload 6, 2) := by decide +kernel
theorem dX3_opens_42 : decode cX3_opens 42 = .ok (.if_icmp .lt 33, 3) := by decide +kernel
theorem dX3_opens_45 : decode cX3_opens 45 = .ok (.aload_n 0, 1) := by decide +kernel
theorem dX3_opens_46 : decode cX3_opens 46 = .ok (.getfield 12, 3) := by decide +kernel
theorem dX3_opens_49 : decode cX3_opens 49 = .ok (.iload 4, 2) := by decide +kernel
theorem dX3_opens_51 : decode cX3_opens 51 = .ok (.iload 7, 2) := by decide +kernel
theorem dX3_opens_53 : decode cX3_opens 53 = .ok (.invokevirtual 154, 3) := by decide +kernel
theorem dX3_opens_56 : decode cX3_opens 56 = .ok (.ifCond .ne 6, 3) := by decide +kernel
theorem dX3_opens_59 : decode cX3_opens 59 = .ok (.iload 7, 2) := by decide +kernel
theorem dX3_opens_61 : decode cX3_opens 61 = .ok (.ireturn, 1) := by decide +kernel
theorem dX3_opens_62 : decode cX3_opens 62 = .ok (.aload_n 0, 1) := by decide +kernel
theorem dX3_opens_63 : decode cX3_opens 63 = .ok (.getfield 12, 3) := by decide +kernel
theorem dX3_opens_66 : decode cX3_opens 66 = .ok (.iload 4, 2) := by decide +kernel
theorem dX3_opens_68 : decode cX3_opens 68 = .ok (.iload 7, 2) := by decide +kernel
theorem dX3_opens_70 : decode cX3_opens 70 = .ok (.invokevirtual 159, 3) := by decide +kernel
theorem dX3_opens_73 : decode cX3_opens 73 = .ok (.istore 6, 2) := by decide +kernel
theorem dX3_opens_75 : decode cX3_opens 75 = .ok (.iinc 7 1, 3) := by decide +kernel
theorem dX3_opens_78 : decode cX3_opens 78 = .ok (.goto (-47), 3) := by decide +kernel
theorem dX3_opens_81 : decode cX3_opens 81 = .ok (.iconst (-1), 1) := by decide +kernel
theorem dX3_opens_82 : decode cX3_opens 82 = .ok (.ireturn, 1) := by decide +kernel
theorem dX3_reason_0 : decode cX3_reason 0 = .ok (.iload_n 1, 1) := by decide +kernel
theorem dX3_reason_1 : decode cX3_reason 1 = .ok (.iload_n 2, 1) := by decide +kernel
theorem dX3_reason_2 : decode cX3_reason 2 = .ok (.invokestatic 133, 3) := by decide +kernel
theorem dX3_reason_5 : decode cX3_reason 5 = .ok (.istore 5, 2) := by decide +kernel
theorem dX3_reason_7 : decode cX3_reason 7 = .ok (.iload_n 3, 1) := by decide +kernel
theorem dX3_reason_8 : decode cX3_reason 8 = .ok (.invokestatic 56, 3) := by decide +kernel
theorem dX3_reason_11 : decode cX3_reason 11 = .ok (.iload 4, 2) := by decide +kernel
theorem dX3_reason_13 : decode cX3_reason 13 = .ok (.ifCond .ge 13, 3) := by decide +kernel
theorem dX3_reason_16 : decode cX3_reason 16 = .ok (.new 49, 3) := by decide +kernel
theorem dX3_reason_19 : decode cX3_reason 19 = .ok (.dup, 1) := by decide +kernel
theorem dX3_reason_20 : decode cX3_reason 20 = .ok (.ldc 167, 2) := by decide +kernel
theorem dX3_reason_22 : decode cX3_reason 22 = .ok (.invokespecial 53, 3) := by decide +kernel
theorem dX3_reason_25 : decode cX3_reason 25 = .ok (.athrow, 1) := by decide +kernel
theorem dX3_reason_26 : decode cX3_reason 26 = .ok (.aload_n 0, 1) := by decide +kernel
theorem dX3_reason_27 : decode cX3_reason 27 = .ok (.getfield 12, 3) := by decide +kernel
theorem dX3_reason_30 : decode cX3_reason 30 = .ok (.iload 5, 2) := by decide +kernel
theorem dX3_reason_32 : decode cX3_reason 32 = .ok (.iload_n 3, 1) := by decide +kernel
theorem dX3_reason_33 : decode cX3_reason 33 = .ok (.iload 4, 2) := by decide +kernel
theorem dX3_reason_35 : decode cX3_reason 35 = .ok (.invokevirtual 169, 3) := by decide +kernel
theorem dX3_reason_38 : decode cX3_reason 38 = .ok (.ireturn, 1) := by decide +kernel
theorem dX3_speed_0 : decode cX3_speed 0 = .ok (.iload_n 1, 1) := by decide +kernel
theorem dX3_speed_1 : decode cX3_speed 1 = .ok (.iload_n 2, 1) := by decide +kernel
theorem dX3_speed_2 : decode cX3_speed 2 = .ok (.invokestatic 133, 3) := by decide +kernel
theorem dX3_speed_5 : decode cX3_speed 5 = .ok (.istore 4, 2) := by decide +kernel
theorem dX3_speed_7 : decode cX3_speed 7 = .ok (.iload_n 3, 1) := by decide +kernel
theorem dX3_speed_8 : decode cX3_speed 8 = .ok (.invokestatic 56, 3) := by decide +kernel
theorem dX3_speed_11 : decode cX3_speed 11 = .ok (.aload_n 0, 1) := by decide +kernel
theorem dX3_speed_12 : decode cX3_speed 12 = .ok (.getfield 12, 3) := by decide +kernel
theorem dX3_speed_15 : decode cX3_speed 15 = .ok (.iload 4, 2) := by decide +kernel
theorem dX3_speed_17 : decode cX3_speed 17 = .ok (.iload_n 3, 1) := by decide +kernel
theorem dX3_speed_18 : decode cX3_speed 18 = .ok (.invokevirtual 173, 3) := by decide +kernel
theorem dX3_speed_21 : decode cX3_speed 21 = .ok (.ireturn, 1) := by decide +kernel
theorem dX3_notice_0 : decode cX3_notice 0 = .ok (.aload_n 0, 1) := by decide +kernel
theorem dX3_notice_1 : decode cX3_notice 1 = .ok (.getfield 26, 3) := by decide +kernel
theorem dX3_notice_4 : decode cX3_notice 4 = .ok (.iload_n 1, 1) := by decide +kernel
theorem dX3_notice_5 : decode cX3_notice 5 = .ok (.invokevirtual 176, 3) := by decide +kernel
theorem dX3_notice_8 : decode cX3_notice 8 = .ok (.ifCond .eq 12, 3) := by decide +kernel
theorem dX3_notice_11 : decode cX3_notice 11 = .ok (.iload_n 2, 1) := by decide +kernel
theorem dX3_notice_12 : decode cX3_notice 12 = .ok (.ifCond .lt 8, 3) := by decide +kernel
theorem dX3_notice_15 : decode cX3_notice 15 = .ok (.iload_n 2, 1) := by decide +kernel
theorem dX3_notice_16 : decode cX3_notice 16 = .ok (.iconst 5, 1) := by decide +kernel
theorem dX3_notice_17 : decode cX3_notice 17 = .ok (.if_icmp .lt 13, 3) := by decide +kernel
theorem dX3_notice_20 : decode cX3_notice 20 = .ok (.new 119, 3) := by decide +kernel
theorem dX3_notice_23 : decode cX3_notice 23 = .ok (.dup, 1) := by decide +kernel
theorem dX3_notice_24 : decode cX3_notice 24 = .ok (.ldc 179, 2) := by decide +kernel
theorem dX3_notice_26 : decode cX3_notice 26 = .ok (.invokespecial 123, 3) := by decide +kernel
theorem dX3_notice_29 : decode cX3_notice 29 = .ok (.athrow, 1) := by decide +kernel
theorem dX3_notice_30 : decode cX3_notice 30 = .ok (.aload_n 0, 1) := by decide +kernel
theorem dX3_notice_31 : decode cX3_notice 31 = .ok (.getfield 26, 3) := by decide +kernel
theorem dX3_notice_34 : decode cX3_notice 34 = .ok (.iload_n 1, 1) := by decide +kernel
theorem dX3_notice_35 : decode cX3_notice 35 = .ok (.iload_n 2, 1) := by decide +kernel
theorem dX3_notice_36 : decode cX3_notice 36 = .ok (.invokevirtual 181, 3) := by decide +kernel
theorem dX3_notice_39 : decode cX3_notice 39 = .ok (.ireturn, 1) := by decide +kernel
theorem dX3_blocked_0 : decode cX3_blocked 0 = .ok (.iload_n 1, 1) := by decide +kernel
theorem dX3_blocked_1 : decode cX3_blocked 1 = .ok (.invokestatic 127, 3) := by decide +kernel
theorem dX3_blocked_4 : decode cX3_blocked 4 = .ok (.iconst 0, 1) := by decide +kernel
theorem dX3_blocked_5 : decode cX3_blocked 5 = .ok (.istore_n 2, 1) := by decide +kernel
theorem dX3_blocked_6 : decode cX3_blocked 6 = .ok (.iconst 0, 1) := by decide +kernel
theorem dX3_blocked_7 : decode cX3_blocked 7 = .ok (.istore_n 3, 1) := by decide +kernel
theorem dX3_blocked_8 : decode cX3_blocked 8 = .ok (.iload_n 3, 1) := by decide +kernel
theorem dX3_blocked_9 : decode cX3_blocked 9 = .ok (.aload_n 0, 1) := by decide +kernel
theorem dX3_blocked_10 : decode cX3_blocked 10 = .ok (.getfield 19, 3) := by decide +kernel
theorem dX3_blocked_13 : decode cX3_blocked 13 = .ok (.iload_n 1, 1) := by decide +kernel
theorem dX3_blocked_14 : decode cX3_blocked 14 = .ok (.invokevirtual 184, 3) := by decide +kernel
theorem dX3_blocked_17 : decode cX3_blocked 17 = .ok (.if_icmp .ge 35, 3) := by decide +kernel
theorem dX3_blocked_20 : decode cX3_blocked 20 = .ok (.aload_n 0, 1) := by decide +kernel
theorem dX3_blocked_21 : decode cX3_blocked 21 = .ok (.getfield 12, 3) := by decide +kernel
theorem dX3_blocked_24 : decode cX3_blocked 24 = .ok (.aload_n 0, 1) := by decide +kernel
theorem dX3_blocked_25 : decode cX3_blocked 25 = .ok (.getfield 19, 3) := by decide +kernel
theorem dX3_blocked_28 : decode cX3_blocked 28 = .ok (.iload_n 1, 1) := by decide +kernel
theorem dX3_blocked_29 : decode cX3_blocked 29 = .ok (.iload_n 3, 1) := by decide +kernel
theorem dX3_blocked_30 : decode cX3_blocked 30 = .ok (.invokevirtual 187, 3) := by decide +kernel
theorem dX3_blocked_33 : decode cX3_blocked 33 = .ok (.aload_n 0, 1) := by decide +kernel
theorem dX3_blocked_34 : decode cX3_blocked 34 = .ok (.getfield 37, 3) := by decide +kernel
theorem dX3_blocked_37 : decode cX3_blocked 37 = .ok (.invokevirtual 154, 3) := by decide +kernel
theorem dX3_blocked_40 : decode cX3_blocked 40 = .ok (.ifCond .eq 6, 3) := by decide +kernel
theorem dX3_blocked_43 : decode cX3_blocked 43 = .ok (.iinc 2 1, 3) := by decide +kernel
theorem dX3_blocked_46 : decode cX3_blocked 46 = .ok (.iinc 3 1, 3) := by decide +kernel
theorem dX3_blocked_49 : decode cX3_blocked 49 = .ok (.goto (-41), 3) := by decide +kernel
theorem dX3_blocked_52 : decode cX3_blocked 52 = .ok (.iload_n 2, 1) := by decide +kernel
theorem dX3_blocked_53 : decode cX3_blocked 53 = .ok (.ireturn, 1) := by decide +kernel
theorem dX3_tellChanges_0 : decode cX3_tellChanges 0 = .ok (.aload_n 0, 1) := by decide +kernel
theorem dX3_tellChanges_1 : decode cX3_tellChanges 1 = .ok (.getfield 12, 3) := by decide +kernel
theorem dX3_tellChanges_4 : decode cX3_tellChanges 4 = .ok (.aload_n 0, 1) := by decide +kernel
theorem dX3_tellChanges_5 : decode cX3_tellChanges 5 = .ok (.getfield 34, 3) := by decide +kernel
theorem dX3_tellChanges_8 : decode cX3_tellChanges 8 = .ok (.aload_n 0, 1) := by decide +kernel
theorem dX3_tellChanges_9 : decode cX3_tellChanges 9 = .ok (.getfield 37, 3) := by decide +kernel
theorem dX3_tellChanges_12 : decode cX3_tellChanges 12 = .ok (.invokevirtual 190, 3) := by decide +kernel
theorem dX3_tellChanges_15 : decode cX3_tellChanges 15 = .ok (.iconst 0, 1) := by decide +kernel
theorem dX3_tellChanges_16 : decode cX3_tellChanges 16 = .ok (.istore_n 1, 1) := by decide +kernel
theorem dX3_tellChanges_17 : decode cX3_tellChanges 17 = .ok (.iload_n 1, 1) := by decide +kernel
theorem dX3_tellChanges_18 : decode cX3_tellChanges 18 = .ok (.bipush 120, 2) := by decide +kernel
theorem dX3_tellChanges_20 : decode cX3_tellChanges 20 = .ok (.if_icmp .ge 41, 3) := by decide +kernel
theorem dX3_tellChanges_23 : decode cX3_tellChanges 23 = .ok (.aload_n 0, 1) := by decide +kernel
theorem dX3_tellChanges_24 : decode cX3_tellChanges 24 = .ok (.getfield 30, 3) := by decide +kernel
theorem dX3_tellChanges_27 : decode cX3_tellChanges 27 = .ok (.iload_n 1, 1) := by decide +kernel
theorem dX3_tellChanges_28 : decode cX3_tellChanges 28 = .ok (.baload, 1) := by decide +kernel
theorem dX3_tellChanges_29 : decode cX3_tellChanges 29 = .ok (.aload_n 0, 1) := by decide +kernel
theorem dX3_tellChanges_30 : decode cX3_tellChanges 30 = .ok (.getfield 34, 3) := by decide +kernel
theorem dX3_tellChanges_33 : decode cX3_tellChanges 33 = .ok (.iload_n 1, 1) := by decide +kernel
theorem dX3_tellChanges_34 : decode cX3_tellChanges 34 = .ok (.baload, 1) := by decide +kernel
theorem dX3_tellChanges_35 : decode cX3_tellChanges 35 = .ok (.if_icmp .eq 20, 3) := by decide +kernel
theorem dX3_tellChanges_38 : decode cX3_tellChanges 38 = .ok (.aload_n 0, 1) := by decide +kernel
theorem dX3_tellChanges_39 : decode cX3_tellChanges 39 = .ok (.getfield 30, 3) := by decide +kernel
theorem dX3_tellChanges_42 : decode cX3_tellChanges 42 = .ok (.iload_n 1, 1) := by decide +kernel
theorem dX3_tellChanges_43 : decode cX3_tellChanges 43 = .ok (.aload_n 0, 1) := by decide +kernel
theorem dX3_tellChanges_44 : decode cX3_tellChanges 44 = .ok (.getfield 34, 3) := by decide +kernel
theorem dX3_tellChanges_47 : decode cX3_tellChanges 47 = .ok (.iload_n 1, 1) := by decide +kernel
theorem dX3_tellChanges_48 : decode cX3_tellChanges 48 = .ok (.baload, 1) := by decide +kernel
theorem dX3_tellChanges_49 : decode cX3_tellChanges 49 = .ok (.bastore, 1) := by decide +kernel
theorem dX3_tellChanges_50 : decode cX3_tellChanges 50 = .ok (.aload_n 0, 1) := by decide +kernel
theorem dX3_tellChanges_51 : decode cX3_tellChanges 51 = .ok (.iload_n 1, 1) := by decide +kernel
theorem dX3_tellChanges_52 : decode cX3_tellChanges 52 = .ok (.invokevirtual 194, 3) := by decide +kernel
theorem dX3_tellChanges_55 : decode cX3_tellChanges 55 = .ok (.iinc 1 1, 3) := by decide +kernel
theorem dX3_tellChanges_58 : decode cX3_tellChanges 58 = .ok (.goto (-41), 3) := by decide +kernel
theorem dX3_tellChanges_61 : decode cX3_tellChanges 61 = .ok (.return_, 1) := by decide +kernel
theorem dX3_tellUnits_0 : decode cX3_tellUnits 0 = .ok (.iconst 0, 1) := by decide +kernel
theorem dX3_tellUnits_1 : decode cX3_tellUnits 1 = .ok (.istore_n 2, 1) := by decide +kernel
theorem dX3_tellUnits_2 : decode cX3_tellUnits 2 = .ok (.iload_n 2, 1) := by decide +kernel
theorem dX3_tellUnits_3 : decode cX3_tellUnits 3 = .ok (.bipush 10, 2) := by decide +kernel
theorem dX3_tellUnits_5 : decode cX3_tellUnits 5 = .ok (.if_icmp .ge 40, 3) := by decide +kernel
theorem dX3_tellUnits_8 : decode cX3_tellUnits 8 = .ok (.aload_n 0, 1) := by decide +kernel
theorem dX3_tellUnits_9 : decode cX3_tellUnits 9 = .ok (.getfield 19, 3) := by decide +kernel
theorem dX3_tellUnits_12 : decode cX3_tellUnits 12 = .ok (.iload_n 2, 1) := by decide +kernel
theorem dX3_tellUnits_13 : decode cX3_tellUnits 13 = .ok (.iload_n 1, 1) := by decide +kernel
theorem dX3_tellUnits_14 : decode cX3_tellUnits 14 = .ok (.invokevirtual 197, 3) := by decide +kernel
theorem dX3_tellUnits_17 : decode cX3_tellUnits 17 = .ok (.ifCond .eq 22, 3) := by decide +kernel
theorem dX3_tellUnits_20 : decode cX3_tellUnits 20 = .ok (.aload_n 0, 1) := by decide +kernel
theorem dX3_tellUnits_21 : decode cX3_tellUnits 21 = .ok (.getfield 26, 3) := by decide +kernel
theorem dX3_tellUnits_24 : decode cX3_tellUnits 24 = .ok (.iload_n 2, 1) := by decide +kernel
theorem dX3_tellUnits_25 : decode cX3_tellUnits 25 = .ok (.iload_n 1, 1) := by decide +kernel
theorem dX3_tellUnits_26 : decode cX3_tellUnits 26 = .ok (.aload_n 0, 1) := by decide +kernel
theorem dX3_tellUnits_27 : decode cX3_tellUnits 27 = .ok (.getfield 34, 3) := by decide +kernel
theorem dX3_tellUnits_30 : decode cX3_tellUnits 30 = .ok (.iload_n 1, 1) := by decide +kernel
theorem dX3_tellUnits_31 : decode cX3_tellUnits 31 = .ok (.baload, 1) := by decide +kernel
theorem dX3_tellUnits_32 : decode cX3_tellUnits 32 = .ok (.aload_n 0, 1) := by decide +kernel
theorem dX3_tellUnits_33 : decode cX3_tellUnits 33 = .ok (.getfield 37, 3) := by decide +kernel
theorem dX3_tellUnits_36 : decode cX3_tellUnits 36 = .ok (.invokevirtual 200, 3) := by decide +kernel
theorem dX3_tellUnits_39 : decode cX3_tellUnits 39 = .ok (.iinc 2 1, 3) := by decide +kernel
theorem dX3_tellUnits_42 : decode cX3_tellUnits 42 = .ok (.goto (-40), 3) := by decide +kernel
theorem dX3_tellUnits_45 : decode cX3_tellUnits 45 = .ok (.return_, 1) := by decide +kernel
theorem dX3_needClosure_0 : decode cX3_needClosure 0 = .ok (.aload_n 0, 1) := by decide +kernel
theorem dX3_needClosure_1 : decode cX3_needClosure 1 = .ok (.getfield 12, 3) := by decide +kernel
theorem dX3_needClosure_4 : decode cX3_needClosure 4 = .ok (.iload_n 1, 1) := by decide +kernel
theorem dX3_needClosure_5 : decode cX3_needClosure 5 = .ok (.invokevirtual 203, 3) := by decide +kernel
theorem dX3_needClosure_8 : decode cX3_needClosure 8 = .ok (.ifCond .ne 13, 3) := by decide +kernel
theorem dX3_needClosure_11 : decode cX3_needClosure 11 = .ok (.new 119, 3) := by decide +kernel
theorem dX3_needClosure_14 : decode cX3_needClosure 14 = .ok (.dup, 1) := by decide +kernel
theorem dX3_needClosure_15 : decode cX3_needClosure 15 = .ok (.ldc 206, 2) := by decide +kernel
theorem dX3_needClosure_17 : decode cX3_needClosure 17 = .ok (.invokespecial 123, 3) := by decide +kernel
theorem dX3_needClosure_20 : decode cX3_needClosure 20 = .ok (.athrow, 1) := by decide +kernel
theorem dX3_needClosure_21 : decode cX3_needClosure 21 = .ok (.return_, 1) := by decide +kernel
theorem dX3_needKind_0 : decode cX3_needKind 0 = .ok (.iload_n 0, 1) := by decide +kernel
theorem dX3_needKind_1 : decode cX3_needKind 1 = .ok (.ifCond .lt 8, 3) := by decide +kernel
theorem dX3_needKind_4 : decode cX3_needKind 4 = .ok (.iload_n 0, 1) := by decide +kernel
theorem dX3_needKind_5 : decode cX3_needKind 5 = .ok (.iconst 5, 1) := by decide +kernel
theorem dX3_needKind_6 : decode cX3_needKind 6 = .ok (.if_icmp .le 13, 3) := by decide +kernel
theorem dX3_needKind_9 : decode cX3_needKind 9 = .ok (.new 119, 3) := by decide +kernel
theorem dX3_needKind_12 : decode cX3_needKind 12 = .ok (.dup, 1) := by decide +kernel
theorem dX3_needKind_13 : decode cX3_needKind 13 = .ok (.ldc 208, 2) := by decide +kernel
theorem dX3_needKind_15 : decode cX3_needKind 15 = .ok (.invokespecial 123, 3) := by decide +kernel
theorem dX3_needKind_18 : decode cX3_needKind 18 = .ok (.athrow, 1) := by decide +kernel
theorem dX3_needKind_19 : decode cX3_needKind 19 = .ok (.iload_n 0, 1) := by decide +kernel
theorem dX3_needKind_20 : decode cX3_needKind 20 = .ok (.iconst 2, 1) := by decide +kernel
theorem dX3_needKind_21 : decode cX3_needKind 21 = .ok (.if_icmp .ne 20, 3) := by decide +kernel
theorem dX3_needKind_24 : decode cX3_needKind 24 = .ok (.iload_n 1, 1) := by decide +kernel
theorem dX3_needKind_25 : decode cX3_needKind 25 = .ok (.invokestatic 116, 3) := by decide +kernel
theorem dX3_needKind_28 : decode cX3_needKind 28 = .ok (.ifCond .ne 13, 3) := by decide +kernel
theorem dX3_needKind_31 : decode cX3_needKind 31 = .ok (.new 119, 3) := by decide +kernel
theorem dX3_needKind_34 : decode cX3_needKind 34 = .ok (.dup, 1) := by decide +kernel
theorem dX3_needKind_35 : decode cX3_needKind 35 = .ok (.ldc 121, 2) := by decide +kernel
theorem dX3_needKind_37 : decode cX3_needKind 37 = .ok (.invokespecial 123, 3) := by decide +kernel
theorem dX3_needKind_40 : decode cX3_needKind 40 = .ok (.athrow, 1) := by decide +kernel
theorem dX3_needKind_41 : decode cX3_needKind 41 = .ok (.return_, 1) := by decide +kernel
theorem dX3_needPiece_0 : decode cX3_needPiece 0 = .ok (.iload_n 0, 1) := by decide +kernel
theorem dX3_needPiece_1 : decode cX3_needPiece 1 = .ok (.ifCond .lt 9, 3) := by decide +kernel
theorem dX3_needPiece_4 : decode cX3_needPiece 4 = .ok (.iload_n 0, 1) := by decide +kernel
theorem dX3_needPiece_5 : decode cX3_needPiece 5 = .ok (.bipush 60, 2) := by decide +kernel
theorem dX3_needPiece_7 : decode cX3_needPiece 7 = .ok (.if_icmp .lt 13, 3) := by decide +kernel
theorem dX3_needPiece_10 : decode cX3_needPiece 10 = .ok (.new 119, 3) := by decide +kernel
theorem dX3_needPiece_13 : decode cX3_needPiece 13 = .ok (.dup, 1) := by decide +kernel
theorem dX3_needPiece_14 : decode cX3_needPiece 14 = .ok (.ldc 210, 2) := by decide +kernel
theorem dX3_needPiece_16 : decode cX3_needPiece 16 = .ok (.invokespecial 123, 3) := by decide +kernel
theorem dX3_needPiece_19 : decode cX3_needPiece 19 = .ok (.athrow, 1) := by decide +kernel
theorem dX3_needPiece_20 : decode cX3_needPiece 20 = .ok (.return_, 1) := by decide +kernel
theorem dX3_needPlace_0 : decode cX3_needPlace 0 = .ok (.iload_n 0, 1) := by decide +kernel
theorem dX3_needPlace_1 : decode cX3_needPlace 1 = .ok (.invokestatic 45, 3) := by decide +kernel
theorem dX3_needPlace_4 : decode cX3_needPlace 4 = .ok (.iload_n 1, 1) := by decide +kernel
theorem dX3_needPlace_5 : decode cX3_needPlace 5 = .ok (.iconst 1, 1) := by decide +kernel
theorem dX3_needPlace_6 : decode cX3_needPlace 6 = .ok (.if_icmp .eq 18, 3) := by decide +kernel
theorem dX3_needPlace_9 : decode cX3_needPlace 9 = .ok (.iload_n 1, 1) := by decide +kernel
theorem dX3_needPlace_10 : decode cX3_needPlace 10 = .ok (.iconst 2, 1) := by decide +kernel
theorem dX3_needPlace_11 : decode cX3_needPlace 11 = .ok (.if_icmp .eq 13, 3) := by decide +kernel
theorem dX3_needPlace_14 : decode cX3_needPlace 14 = .ok (.new 49, 3) := by decide +kernel
theorem dX3_needPlace_17 : decode cX3_needPlace 17 = .ok (.dup, 1) := by decide +kernel
theorem dX3_needPlace_18 : decode cX3_needPlace 18 = .ok (.ldc 212, 2) := by decide +kernel
theorem dX3_needPlace_20 : decode cX3_needPlace 20 = .ok (.invokespecial 53, 3) := by decide +kernel
theorem dX3_needPlace_23 : decode cX3_needPlace 23 = .ok (.athrow, 1) := by decide +kernel
theorem dX3_needPlace_24 : decode cX3_needPlace 24 = .ok (.iload_n 0, 1) := by decide +kernel
theorem dX3_needPlace_25 : decode cX3_needPlace 25 = .ok (.iload_n 1, 1) := by decide +kernel
theorem dX3_needPlace_26 : decode cX3_needPlace 26 = .ok (.invokestatic 214, 3) := by decide +kernel
theorem dX3_needPlace_29 : decode cX3_needPlace 29 = .ok (.ireturn, 1) := by decide +kernel
theorem dX3_needUnit_0 : decode cX3_needUnit 0 = .ok (.iload_n 0, 1) := by decide +kernel
theorem dX3_needUnit_1 : decode cX3_needUnit 1 = .ok (.ifCond .lt 9, 3) := by decide +kernel
theorem dX3_needUnit_4 : decode cX3_needUnit 4 = .ok (.iload_n 0, 1) := by decide +kernel
theorem dX3_needUnit_5 : decode cX3_needUnit 5 = .ok (.bipush 10, 2) := by decide +kernel
theorem dX3_needUnit_7 : decode cX3_needUnit 7 = .ok (.if_icmp .lt 13, 3) := by decide +kernel
theorem dX3_needUnit_10 : decode cX3_needUnit 10 = .ok (.new 119, 3) := by decide +kernel
theorem dX3_needUnit_13 : decode cX3_needUnit 13 = .ok (.dup, 1) := by decide +kernel
theorem dX3_needUnit_14 : decode cX3_needUnit 14 = .ok (.ldc 217, 2) := by decide +kernel
theorem dX3_needUnit_16 : decode cX3_needUnit 16 = .ok (.invokespecial 123, 3) := by decide +kernel
theorem dX3_needUnit_19 : decode cX3_needUnit 19 = .ok (.athrow, 1) := by decide +kernel
theorem dX3_needUnit_20 : decode cX3_needUnit 20 = .ok (.return_, 1) := by decide +kernel
theorem dX3_needMinute_0 : decode cX3_needMinute 0 = .ok (.iload_n 0, 1) := by decide +kernel
theorem dX3_needMinute_1 : decode cX3_needMinute 1 = .ok (.ifCond .lt 9, 3) := by decide +kernel
theorem dX3_needMinute_4 : decode cX3_needMinute 4 = .ok (.iload_n 0, 1) := by decide +kernel
theorem dX3_needMinute_5 : decode cX3_needMinute 5 = .ok (.ldc 143, 2) := by decide +kernel
theorem dX3_needMinute_7 : decode cX3_needMinute 7 = .ok (.if_icmp .le 13, 3) := by decide +kernel
theorem dX3_needMinute_10 : decode cX3_needMinute 10 = .ok (.new 49, 3) := by decide +kernel
theorem dX3_needMinute_13 : decode cX3_needMinute 13 = .ok (.dup, 1) := by decide +kernel
theorem dX3_needMinute_14 : decode cX3_needMinute 14 = .ok (.ldc 219, 2) := by decide +kernel
theorem dX3_needMinute_16 : decode cX3_needMinute 16 = .ok (.invokespecial 53, 3) := by decide +kernel
theorem dX3_needMinute_19 : decode cX3_needMinute 19 = .ok (.athrow, 1) := by decide +kernel
theorem dX3_needMinute_20 : decode cX3_needMinute 20 = .ok (.return_, 1) := by decide +kernel
theorem dX3_needEnd_0 : decode cX3_needEnd 0 = .ok (.iload_n 0, 1) := by decide +kernel
theorem dX3_needEnd_1 : decode cX3_needEnd 1 = .ok (.invokestatic 75, 3) := by decide +kernel
theorem dX3_needEnd_4 : decode cX3_needEnd 4 = .ok (.ifCond .eq 24, 3) := by decide +kernel
theorem dX3_needEnd_7 : decode cX3_needEnd 7 = .ok (.iload_n 2, 1) := by decide +kernel
theorem dX3_needEnd_8 : decode cX3_needEnd 8 = .ok (.iload_n 1, 1) := by decide +kernel
theorem dX3_needEnd_9 : decode cX3_needEnd 9 = .ok (.if_icmp .le 9, 3) := by decide +kernel
theorem dX3_needEnd_12 : decode cX3_needEnd 12 = .ok (.iload_n 2, 1) := by decide +kernel
theorem dX3_needEnd_13 : decode cX3_needEnd 13 = .ok (.ldc 143, 2) := by decide +kernel
theorem dX3_needEnd_15 : decode cX3_needEnd 15 = .ok (.if_icmp .le 13, 3) := by decide +kernel
theorem dX3_needEnd_18 : decode cX3_needEnd 18 = .ok (.new 49, 3) := by decide +kernel
theorem dX3_needEnd_21 : decode cX3_needEnd 21 = .ok (.dup, 1) := by decide +kernel
theorem dX3_needEnd_22 : decode cX3_needEnd 22 = .ok (.ldc 221, 2) := by decide +kernel
theorem dX3_needEnd_24 : decode cX3_needEnd 24 = .ok (.invokespecial 53, 3) := by decide +kernel
theorem dX3_needEnd_27 : decode cX3_needEnd 27 = .ok (.athrow, 1) := by decide +kernel
theorem dX3_needEnd_28 : decode cX3_needEnd 28 = .ok (.return_, 1) := by decide +kernel
