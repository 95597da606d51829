theorem dJ9_min_0 : decode cJ9_min 0 = .ok (.iload_n 0, 1) := by decide +kernel
theorem dJ9_min_1 : decode cJ9_min 1 = .ok (.iload_n 1, 1) := by decide +kernel
theorem dJ9_min_2 : decode cJ9_min 2 = .ok (.if_icmp .gt 7, 3) := by decide +kernel
theorem dJ9_min_5 : decode cJ9_min 5 = .ok (.iload_n 0, 1) := by decide +kernel
theorem dJ9_min_6 : decode cJ9_min 6 = .ok (.goto 4, 3) := by decide +kernel
theorem dJ9_min_9 : decode cJ9_min 9 = .ok (.iload_n 1, 1) := by decide +kernel
theorem dJ9_min_10 : decode cJ9_min 10 = .ok (.ireturn, 1) := by decide +kernel
theorem dL_close_0 : decode cL_close 0 = .ok (.aload 7, 2) := by decide +kernel
theorem dL_close_2 : decode cL_close 2 = .ok (.iconst 0, 1) := by decide +kernel
theorem dL_close_3 : decode cL_close 3 = .ok (.aload_n 0, 1) := by decide +kernel
theorem dL_close_4 : decode cL_close 4 = .ok (.iload_n 1, 1) := by decide +kernel
theorem dL_close_5 : decode cL_close 5 = .ok (.iload_n 2, 1) := by decide +kernel
theorem dL_close_6 : decode cL_close 6 = .ok (.iload_n 3, 1) := by decide +kernel
theorem dL_close_7 : decode cL_close 7 = .ok (.iload 4, 2) := by decide +kernel
theorem dL_close_9 : decode cL_close 9 = .ok (.iload 5, 2) := by decide +kernel
theorem dL_close_11 : decode cL_close 11 = .ok (.iload 6, 2) := by decide +kernel
theorem dL_close_13 : decode cL_close 13 = .ok (.invokevirtual 7, 3) := by decide +kernel
theorem dL_close_16 : decode cL_close 16 = .ok (.i2l, 1) := by decide +kernel
theorem dL_close_17 : decode cL_close 17 = .ok (.lastore, 1) := by decide +kernel
theorem dL_close_18 : decode cL_close 18 = .ok (.goto 15, 3) := by decide +kernel
theorem dL_close_21 : decode cL_close 21 = .ok (.astore 8, 2) := by decide +kernel
theorem dL_close_23 : decode cL_close 23 = .ok (.iconst 1, 1) := by decide +kernel
theorem dL_close_24 : decode cL_close 24 = .ok (.ireturn, 1) := by decide +kernel
theorem dL_close_25 : decode cL_close 25 = .ok (.astore 8, 2) := by decide +kernel
theorem dL_close_27 : decode cL_close 27 = .ok (.iconst 2, 1) := by decide +kernel
theorem dL_close_28 : decode cL_close 28 = .ok (.ireturn, 1) := by decide +kernel
theorem dL_close_29 : decode cL_close 29 = .ok (.astore 8, 2) := by decide +kernel
theorem dL_close_31 : decode cL_close 31 = .ok (.iconst 3, 1) := by decide +kernel
theorem dL_close_32 : decode cL_close 32 = .ok (.ireturn, 1) := by decide +kernel
theorem dL_close_33 : decode cL_close 33 = .ok (.iconst 0, 1) := by decide +kernel
theorem dL_close_34 : decode cL_close 34 = .ok (.ireturn, 1) := by decide +kernel
theorem dL_answer_0 : decode cL_answer 0 = .ok (.aload_n 0, 1) := by decide +kernel
theorem dL_answer_1 : decode cL_answer 1 = .ok (.iload_n 1, 1) := by decide +kernel
theorem dL_answer_2 : decode cL_answer 2 = .ok (.iload_n 2, 1) := by decide +kernel
theorem dL_answer_3 : decode cL_answer 3 = .ok (.invokevirtual 19, 3) := by decide +kernel
theorem dL_answer_6 : decode cL_answer 6 = .ok (.goto 9, 3) := by decide +kernel
theorem dL_answer_9 : decode cL_answer 9 = .ok (.astore_n 3, 1) := by decide +kernel
theorem dL_answer_10 : decode cL_answer 10 = .ok (.iconst 1, 1) := by decide +kernel
theorem dL_answer_11 : decode cL_answer 11 = .ok (.ireturn, 1) := by decide +kernel
theorem dL_answer_12 : decode cL_answer 12 = .ok (.astore_n 3, 1) := by decide +kernel
theorem dL_answer_13 : decode cL_answer 13 = .ok (.iconst 2, 1) := by decide +kernel
theorem dL_answer_14 : decode cL_answer 14 = .ok (.ireturn, 1) := by decide +kernel
theorem dL_answer_15 : decode cL_answer 15 = .ok (.iconst 0, 1) := by decide +kernel
theorem dL_answer_16 : decode cL_answer 16 = .ok (.ireturn, 1) := by decide +kernel
theorem dL_lift_0 : decode cL_lift 0 = .ok (.aload_n 3, 1) := by decide +kernel
theorem dL_lift_1 : decode cL_lift 1 = .ok (.iconst 0, 1) := by decide +kernel
theorem dL_lift_2 : decode cL_lift 2 = .ok (.aload_n 0, 1) := by decide +kernel
theorem dL_lift_3 : decode cL_lift 3 = .ok (.iload_n 1, 1) := by decide +kernel
theorem dL_lift_4 : decode cL_lift 4 = .ok (.iload_n 2, 1) := by decide +kernel
theorem dL_lift_5 : decode cL_lift 5 = .ok (.invokevirtual 25, 3) := by decide +kernel
theorem dL_lift_8 : decode cL_lift 8 = .ok (.ifCond .eq 7, 3) := by decide +kernel
theorem dL_lift_11 : decode cL_lift 11 = .ok (.lconst 1, 1) := by decide +kernel
theorem dL_lift_12 : decode cL_lift 12 = .ok (.goto 4, 3) := by decide +kernel
theorem dL_lift_15 : decode cL_lift 15 = .ok (.lconst 0, 1) := by decide +kernel
theorem dL_lift_16 : decode cL_lift 16 = .ok (.lastore, 1) := by decide +kernel
theorem dL_lift_17 : decode cL_lift 17 = .ok (.goto 15, 3) := by decide +kernel
theorem dL_lift_20 : decode cL_lift 20 = .ok (.astore 4, 2) := by decide +kernel
theorem dL_lift_22 : decode cL_lift 22 = .ok (.iconst 1, 1) := by decide +kernel
theorem dL_lift_23 : decode cL_lift 23 = .ok (.ireturn, 1) := by decide +kernel
theorem dL_lift_24 : decode cL_lift 24 = .ok (.astore 4, 2) := by decide +kernel
theorem dL_lift_26 : decode cL_lift 26 = .ok (.iconst 2, 1) := by decide +kernel
theorem dL_lift_27 : decode cL_lift 27 = .ok (.ireturn, 1) := by decide +kernel
theorem dL_lift_28 : decode cL_lift 28 = .ok (.astore 4, 2) := by decide +kernel
theorem dL_lift_30 : decode cL_lift 30 = .ok (.iconst 3, 1) := by decide +kernel
theorem dL_lift_31 : decode cL_lift 31 = .ok (.ireturn, 1) := by decide +kernel
theorem dL_lift_32 : decode cL_lift 32 = .ok (.iconst 0, 1) := by decide +kernel
theorem dL_lift_33 : decode cL_lift 33 = .ok (.ireturn, 1) := by decide +kernel
theorem dL_incident_0 : decode cL_incident 0 = .ok (.aload_n 0, 1) := by decide +kernel
theorem dL_incident_1 : decode cL_incident 1 = .ok (.iload_n 1, 1) := by decide +kernel
theorem dL_incident_2 : decode cL_incident 2 = .ok (.iload_n 2, 1) := by decide +kernel
theorem dL_incident_3 : decode cL_incident 3 = .ok (.invokevirtual 29, 3) := by decide +kernel
theorem dL_incident_6 : decode cL_incident 6 = .ok (.goto 6, 3) := by decide +kernel
theorem dL_incident_9 : decode cL_incident 9 = .ok (.astore_n 3, 1) := by decide +kernel
theorem dL_incident_10 : decode cL_incident 10 = .ok (.iconst 1, 1) := by decide +kernel
theorem dL_incident_11 : decode cL_incident 11 = .ok (.ireturn, 1) := by decide +kernel
theorem dL_incident_12 : decode cL_incident 12 = .ok (.iconst 0, 1) := by decide +kernel
theorem dL_incident_13 : decode cL_incident 13 = .ok (.ireturn, 1) := by decide +kernel
theorem dL_step_0 : decode cL_step 0 = .ok (.aload 4, 2) := by decide +kernel
theorem dL_step_2 : decode cL_step 2 = .ok (.iconst 0, 1) := by decide +kernel
theorem dL_step_3 : decode cL_step 3 = .ok (.aload_n 0, 1) := by decide +kernel
theorem dL_step_4 : decode cL_step 4 = .ok (.iload_n 1, 1) := by decide +kernel
theorem dL_step_5 : decode cL_step 5 = .ok (.iload_n 2, 1) := by decide +kernel
theorem dL_step_6 : decode cL_step 6 = .ok (.iload_n 3, 1) := by decide +kernel
theorem dL_step_7 : decode cL_step 7 = .ok (.invokevirtual 32, 3) := by decide +kernel
theorem dL_step_10 : decode cL_step 10 = .ok (.i2l, 1) := by decide +kernel
theorem dL_step_11 : decode cL_step 11 = .ok (.lastore, 1) := by decide +kernel
theorem dL_step_12 : decode cL_step 12 = .ok (.goto 15, 3) := by decide +kernel
theorem dL_step_15 : decode cL_step 15 = .ok (.astore 5, 2) := by decide +kernel
theorem dL_step_17 : decode cL_step 17 = .ok (.iconst 1, 1) := by decide +kernel
theorem dL_step_18 : decode cL_step 18 = .ok (.ireturn, 1) := by decide +kernel
theorem dL_step_19 : decode cL_step 19 = .ok (.astore 5, 2) := by decide +kernel
theorem dL_step_21 : decode cL_step 21 = .ok (.iconst 2, 1) := by decide +kernel
theorem dL_step_22 : decode cL_step 22 = .ok (.ireturn, 1) := by decide +kernel
theorem dL_step_23 : decode cL_step 23 = .ok (.astore 5, 2) := by decide +kernel
theorem dL_step_25 : decode cL_step 25 = .ok (.iconst 3, 1) := by decide +kernel
theorem dL_step_26 : decode cL_step 26 = .ok (.ireturn, 1) := by decide +kernel
theorem dL_step_27 : decode cL_step 27 = .ok (.iconst 0, 1) := by decide +kernel
theorem dL_step_28 : decode cL_step 28 = .ok (.ireturn, 1) := by decide +kernel
theorem dL_tick_0 : decode cL_tick 0 = .ok (.aload_n 2, 1) := by decide +kernel
theorem dL_tick_1 : decode cL_tick 1 = .ok (.iconst 0, 1) := by decide +kernel
theorem dL_tick_2 : decode cL_tick 2 = .ok (.aload_n 0, 1) := by decide +kernel
theorem dL_tick_3 : decode cL_tick 3 = .ok (.iload_n 1, 1) := by decide +kernel
theorem dL_tick_4 : decode cL_tick 4 = .ok (.invokevirtual 36, 3) := by decide +kernel
theorem dL_tick_7 : decode cL_tick 7 = .ok (.i2l, 1) := by decide +kernel
theorem dL_tick_8 : decode cL_tick 8 = .ok (.lastore, 1) := by decide +kernel
theorem dL_tick_9 : decode cL_tick 9 = .ok (.goto 6, 3) := by decide +kernel
theorem dL_tick_12 : decode cL_tick 12 = .ok (.astore_n 3, 1) := by decide +kernel
theorem dL_tick_13 : decode cL_tick 13 = .ok (.iconst 1, 1) := by decide +kernel
theorem dL_tick_14 : decode cL_tick 14 = .ok (.ireturn, 1) := by decide +kernel
theorem dL_tick_15 : decode cL_tick 15 = .ok (.iconst 0, 1) := by decide +kernel
theorem dL_tick_16 : decode cL_tick 16 = .ok (.ireturn, 1) := by decide +kernel
theorem dL_closed_0 : decode cL_closed 0 = .ok (.aload 4, 2) := by decide +kernel
theorem dL_closed_2 : decode cL_closed 2 = .ok (.iconst 0, 1) := by decide +kernel
theorem dL_closed_3 : decode cL_closed 3 = .ok (.aload_n 0, 1) := by decide +kernel
theorem dL_closed_4 : decode cL_closed 4 = .ok (.iload_n 1, 1) := by decide +kernel
theorem dL_closed_5 : decode cL_closed 5 = .ok (.iload_n 2, 1) := by decide +kernel
theorem dL_closed_6 : decode cL_closed 6 = .ok (.iload_n 3, 1) := by decide +kernel
theorem dL_closed_7 : decode cL_closed 7 = .ok (.invokevirtual 40, 3) := by decide +kernel
theorem dL_closed_10 : decode cL_closed 10 = .ok (.ifCond .eq 7, 3) := by decide +kernel
theorem dL_closed_13 : decode cL_closed 13 = .ok (.lconst 1, 1) := by decide +kernel
theorem dL_closed_14 : decode cL_closed 14 = .ok (.goto 4, 3) := by decide +kernel
theorem dL_closed_17 : decode cL_closed 17 = .ok (.lconst 0, 1) := by decide +kernel
theorem dL_closed_18 : decode cL_closed 18 = .ok (.lastore, 1) := by decide +kernel
theorem dL_closed_19 : decode cL_closed 19 = .ok (.goto 11, 3) := by decide +kernel
theorem dL_closed_22 : decode cL_closed 22 = .ok (.astore 5, 2) := by decide +kernel
theorem dL_closed_24 : decode cL_closed 24 = .ok (.iconst 1, 1) := by decide +kernel
theorem dL_closed_25 : decode cL_closed 25 = .ok (.ireturn, 1) := by decide +kernel
theorem dL_closed_26 : decode cL_closed 26 = .ok (.astore 5, 2) := by decide +kernel
theorem dL_closed_28 : decode cL_closed 28 = .ok (.iconst 2, 1) := by decide +kernel
theorem dL_closed_29 : decode cL_closed 29 = .ok (.ireturn, 1) := by decide +kernel
theorem dL_closed_30 : decode cL_closed 30 = .ok (.iconst 0, 1) := by decide +kernel
theorem dL_closed_31 : decode cL_closed 31 = .ok (.ireturn, 1) := by decide +kernel
theorem dL_minutes_0 : decode cL_minutes 0 = .ok (.aload 5, 2) := by decide +kernel
theorem dL_minutes_2 : decode cL_minutes 2 = .ok (.iconst 0, 1) := by decide +kernel
theorem dL_minutes_3 : decode cL_minutes 3 = .ok (.aload_n 0, 1) := by decide +kernel
theorem dL_minutes_4 : decode cL_minutes 4 = .ok (.iload_n 1, 1) := by decide +kernel
theorem dL_minutes_5 : decode cL_minutes 5 = .ok (.iload_n 2, 1) := by decide +kernel
theorem dL_minutes_6 : decode cL_minutes 6 = .ok (.iload_n 3, 1) := by decide +kernel
theorem dL_minutes_7 : decode cL_minutes 7 = .ok (.iload 4, 2) := by decide +kernel
theorem dL_minutes_9 : decode cL_minutes 9 = .ok (.invokevirtual 44, 3) := by decide +kernel
theorem dL_minutes_12 : decode cL_minutes 12 = .ok (.i2l, 1) := by decide +kernel
theorem dL_minutes_13 : decode cL_minutes 13 = .ok (.lastore, 1) := by decide +kernel
theorem dL_minutes_14 : decode cL_minutes 14 = .ok (.goto 11, 3) := by decide +kernel
theorem dL_minutes_17 : decode cL_minutes 17 = .ok (.astore 6, 2) := by decide +kernel
theorem dL_minutes_19 : decode cL_minutes 19 = .ok (.iconst 1, 1) := by decide +kernel
theorem dL_minutes_20 : decode cL_minutes 20 = .ok (.ireturn, 1) := by decide +kernel
theorem dL_minutes_21 : decode cL_minutes 21 = .ok (.astore 6, 2) := by decide +kernel
theorem dL_minutes_23 : decode cL_minutes 23 = .ok (.iconst 2, 1) := by decide +kernel
theorem dL_minutes_24 : decode cL_minutes 24 = .ok (.ireturn, 1) := by decide +kernel
theorem dL_minutes_25 : decode cL_minutes 25 = .ok (.iconst 0, 1) := by decide +kernel
theorem dL_minutes_26 : decode cL_minutes 26 = .ok (.ireturn, 1) := by decide +kernel
theorem dL_opens_0 : decode cL_opens 0 = .ok (.aload 4, 2) := by decide +kernel
theorem dL_opens_2 : decode cL_opens 2 = .ok (.iconst 0, 1) := by decide +kernel
theorem dL_opens_3 : decode cL_opens 3 = .ok (.aload_n 0, 1) := by decide +kernel
theorem dL_opens_4 : decode cL_opens 4 = .ok (.iload_n 1, 1) := by decide +kernel
theorem dL_opens_5 : decode cL_opens 5 = .ok (.iload_n 2, 1) := by decide +kernel
theorem dL_opens_6 : decode cL_opens 6 = .ok (.iload_n 3, 1) := by decide +kernel
theorem dL_opens_7 : decode cL_opens 7 = .ok (.invokevirtual 48, 3) := by decide +kernel
theorem dL_opens_10 : decode cL_opens 10 = .ok (.i2l, 1) := by decide +kernel
theorem dL_opens_11 : decode cL_opens 11 = .ok (.lastore, 1) := by decide +kernel
theorem dL_opens_12 : decode cL_opens 12 = .ok (.goto 11, 3) := by decide +kernel
theorem dL_opens_15 : decode cL_opens 15 = .ok (.astore 5, 2) := by decide +kernel
theorem dL_opens_17 : decode cL_opens 17 = .ok (.iconst 1, 1) := by decide +kernel
theorem dL_opens_18 : decode cL_opens 18 = .ok (.ireturn, 1) := by decide +kernel
theorem dL_opens_19 : decode cL_opens 19 = .ok (.astore 5, 2) := by decide +kernel
theorem dL_opens_21 : decode cL_opens 21 = .ok (.iconst 2, 1) := by decide +kernel
theorem dL_opens_22 : decode cL_opens 22 = .ok (.ireturn, 1) := by decide +kernel
theorem dL_opens_23 : decode cL_opens 23 = .ok (.iconst 0, 1) := by decide +kernel
theorem dL_opens_24 : decode cL_opens 24 = .ok (.ireturn, 1) := by decide +kernel
theorem dL_reason_0 : decode cL_reason 0 = .ok (.aload 5, 2) := by decide +kernel
theorem dL_reason_2 : decode cL_reason 2 = .ok (.iconst 0, 1) := by decide +kernel
theorem dL_reason_3 : decode cL_reason 3 = .ok (.aload_n 0, 1) := by decide +kernel
theorem dL_reason_4 : decode cL_reason 4 = .ok (.iload_n 1, 1) := by decide +kernel
theorem dL_reason_5 : decode cL_reason 5 = .ok (.iload_n 2, 1) := by decide +kernel
theorem dL_reason_6 : decode cL_reason 6 = .ok (.iload_n 3, 1) := by decide +kernel
theorem dL_reason_7 : decode cL_reason 7 = .ok (.iload 4, 2) := by decide +kernel
theorem dL_reason_9 : decode cL_reason 9 = .ok (.invokevirtual 51, 3) := by decide +kernel
theorem dL_reason_12 : decode cL_reason 12 = .ok (.i2l, 1) := by decide +kernel
theorem dL_reason_13 : decode cL_reason 13 = .ok (.lastore, 1) := by decide +kernel
theorem dL_reason_14 : decode cL_reason 14 = .ok (.goto 11, 3) := by decide +kernel
theorem dL_reason_17 : decode cL_reason 17 = .ok (.astore 6, 2) := by decide +kernel
theorem dL_reason_19 : decode cL_reason 19 = .ok (.iconst 1, 1) := by decide +kernel
theorem dL_reason_20 : decode cL_reason 20 = .ok (.ireturn, 1) := by decide +kernel
theorem dL_reason_21 : decode cL_reason 21 = .ok (.astore 6, 2) := by decide +kernel
theorem dL_reason_23 : decode cL_reason 23 = .ok (.iconst 2, 1) := by decide +kernel
theorem dL_reason_24 : decode cL_reason 24 = .ok (.ireturn, 1) := by decide +kernel
theorem dL_reason_25 : decode cL_reason 25 = .ok (.iconst 0, 1) := by decide +kernel
theorem dL_reason_26 : decode cL_reason 26 = .ok (.ireturn, 1) := by decide +kernel
theorem dL_speed_0 : decode cL_speed 0 = .ok (.aload 4, 2) := by decide +kernel
theorem dL_speed_2 : decode cL_speed 2 = .ok (.iconst 0, 1) := by decide +kernel
theorem dL_speed_3 : decode cL_speed 3 = .ok (.aload_n 0, 1) := by decide +kernel
theorem dL_speed_4 : decode cL_speed 4 = .ok (.iload_n 1, 1) := by decide +kernel
theorem dL_speed_5 : decode cL_speed 5 = .ok (.iload_n 2, 1) := by decide +kernel
theorem dL_speed_6 : decode cL_speed 6 = .ok (.iload_n 3, 1) := by decide +kernel
theorem dL_speed_7 : decode cL_speed 7 = .ok (.invokevirtual 54, 3) := by decide +kernel
theorem dL_speed_10 : decode cL_speed 10 = .ok (.i2l, 1) := by decide +kernel
theorem dL_speed_11 : decode cL_speed 11 = .ok (.lastore, 1) := by decide +kernel
theorem dL_speed_12 : decode cL_speed 12 = .ok (.goto 11, 3) := by decide +kernel
theorem dL_speed_15 : decode cL_speed 15 = .ok (.astore 5, 2) := by decide +kernel
theorem dL_speed_17 : decode cL_speed 17 = .ok (.iconst 1, 1) := by decide +kernel
theorem dL_speed_18 : decode cL_speed 18 = .ok (.ireturn, 1) := by decide +kernel
theorem dL_speed_19 : decode cL_speed 19 = .ok (.astore 5, 2) := by decide +kernel
theorem dL_speed_21 : decode cL_speed 21 = .ok (.iconst 2, 1) := by decide +kernel
theorem dL_speed_22 : decode cL_speed 22 = .ok (.ireturn, 1) := by decide +kernel
theorem dL_speed_23 : decode cL_speed 23 = .ok (.iconst 0, 1) := by decide +kernel
theorem dL_speed_24 : decode cL_speed 24 = .ok (.ireturn, 1) := by decide +kernel
theorem dL_notice_0 : decode cL_notice 0 = .ok (.aload_n 3, 1) := by decide +kernel
theorem dL_notice_1 : decode cL_notice 1 = .ok (.iconst 0, 1) := by decide +kernel
theorem dL_notice_2 : decode cL_notice 2 = .ok (.aload_n 0, 1) := by decide +kernel
theorem dL_notice_3 : decode cL_notice 3 = .ok (.iload_n 1, 1) := by decide +kernel
theorem dL_notice_4 : decode cL_notice 4 = .ok (.iload_n 2, 1) := by decide +kernel
theorem dL_notice_5 : decode cL_notice 5 = .ok (.invokevirtual 57, 3) := by decide +kernel
theorem dL_notice_8 : decode cL_notice 8 = .ok (.i2l, 1) := by decide +kernel
theorem dL_notice_9 : decode cL_notice 9 = .ok (.lastore, 1) := by decide +kernel
theorem dL_notice_10 : decode cL_notice 10 = .ok (.goto 7, 3) := by decide +kernel
theorem dL_notice_13 : decode cL_notice 13 = .ok (.astore 4, 2) := by decide +kernel
theorem dL_notice_15 : decode cL_notice 15 = .ok (.iconst 1, 1) := by decide +kernel
theorem dL_notice_16 : decode cL_notice 16 = .ok (.ireturn, 1) := by decide +kernel
theorem dL_notice_17 : decode cL_notice 17 = .ok (.iconst 0, 1) := by decide +kernel
theorem dL_notice_18 : decode cL_notice 18 = .ok (.ireturn, 1) := by decide +kernel
theorem dL_blocked_0 : decode cL_blocked 0 = .ok (.aload_n 2, 1) := by decide +kernel
theorem dL_blocked_1 : decode cL_blocked 1 = .ok (.iconst 0, 1) := by decide +kernel
theorem dL_blocked_2 : decode cL_blocked 2 = .ok (.aload_n 0, 1) := by decide +kernel
theorem dL_blocked_3 : decode cL_blocked 3 = .ok (.iload_n 1, 1) := by decide +kernel
theorem dL_blocked_4 : decode cL_blocked 4 = .ok (.invokevirtual 61, 3) := by decide +kernel
theorem dL_blocked_7 : decode cL_blocked 7 = .ok (.i2l, 1) := by decide +kernel
theorem dL_blocked_8 : decode cL_blocked 8 = .ok (.lastore, 1) := by decide +kernel
theorem dL_blocked_9 : decode cL_blocked 9 = .ok (.goto 6, 3) := by decide +kernel
theorem dL_blocked_12 : decode cL_blocked 12 = .ok (.astore_n 3, 1) := by decide +kernel
theorem dL_blocked_13 : decode cL_blocked 13 = .ok (.iconst 1, 1) := by decide +kernel
theorem dL_blocked_14 : decode cL_blocked 14 = .ok (.ireturn, 1) := by decide +kernel
theorem dL_blocked_15 : decode cL_blocked 15 = .ok (.iconst 0, 1) := by decide +kernel
theorem dL_blocked_16 : decode cL_blocked 16 = .ok (.ireturn, 1) := by decide +kernel
