theorem dX4_lift_0 : decode cX4_lift 0 = .ok (.aload_n 0, 1) := by decide +kernel
theorem dX4_lift_1 : decode cX4_lift 1 = .ok (.iload_n 1, 1) := by decide +kernel
theorem dX4_lift_2 : decode cX4_lift 2 = .ok (.invokevirtual 101, 3) := by decide +kernel
theorem dX4_lift_5 : decode cX4_lift 5 = .ok (.ifCond .ne 7, 3) := by decide +kernel
theorem dX4_lift_8 : decode cX4_lift 8 = .ok (.iconst 1, 1) := by decide +kernel
theorem dX4_lift_9 : decode cX4_lift 9 = .ok (.goto 4, 3) := by decide +kernel
theorem dX4_lift_12 : decode cX4_lift 12 = .ok (.iconst 0, 1) := by decide +kernel
theorem dX4_lift_13 : decode cX4_lift 13 = .ok (.istore_n 3, 1) := by decide +kernel
theorem dX4_lift_14 : decode cX4_lift 14 = .ok (.iload_n 3, 1) := by decide +kernel
theorem dX4_lift_15 : decode cX4_lift 15 = .ok (.ifCond .ne 60, 3) := by decide +kernel
theorem dX4_lift_18 : decode cX4_lift 18 = .ok (.aload_n 0, 1) := by decide +kernel
theorem dX4_lift_19 : decode cX4_lift 19 = .ok (.getfield 31, 3) := by decide +kernel
theorem dX4_lift_22 : decode cX4_lift 22 = .ok (.iload_n 1, 1) := by decide +kernel
theorem dX4_lift_23 : decode cX4_lift 23 = .ok (.iaload, 1) := by decide +kernel
theorem dX4_lift_24 : decode cX4_lift 24 = .ok (.iconst (-1), 1) := by decide +kernel
theorem dX4_lift_25 : decode cX4_lift 25 = .ok (.if_icmp .ne 46, 3) := by decide +kernel
theorem dX4_lift_28 : decode cX4_lift 28 = .ok (.aload_n 0, 1) := by decide +kernel
theorem dX4_lift_29 : decode cX4_lift 29 = .ok (.getfield 7, 3) := by decide +kernel
theorem dX4_lift_32 : decode cX4_lift 32 = .ok (.iload_n 1, 1) := by decide +kernel
theorem dX4_lift_33 : decode cX4_lift 33 = .ok (.iaload, 1) := by decide +kernel
theorem dX4_lift_34 : decode cX4_lift 34 = .ok (.iconst 4, 1) := by decide +kernel
theorem dX4_lift_35 : decode cX4_lift 35 = .ok (.if_icmp .eq 36, 3) := by decide +kernel
theorem dX4_lift_38 : decode cX4_lift 38 = .ok (.aload_n 0, 1) := by decide +kernel
theorem dX4_lift_39 : decode cX4_lift 39 = .ok (.getfield 7, 3) := by decide +kernel
theorem dX4_lift_42 : decode cX4_lift 42 = .ok (.iload_n 1, 1) := by decide +kernel
theorem dX4_lift_43 : decode cX4_lift 43 = .ok (.iaload, 1) := by decide +kernel
theorem dX4_lift_44 : decode cX4_lift 44 = .ok (.iconst 2, 1) := by decide +kernel
theorem dX4_lift_45 : decode cX4_lift 45 = .ok (.if_icmp .eq 30, 3) := by decide +kernel
theorem dX4_lift_48 : decode cX4_lift 48 = .ok (.aload_n 0, 1) := by decide +kernel
theorem dX4_lift_49 : decode cX4_lift 49 = .ok (.getfield 7, 3) := by decide +kernel
theorem dX4_lift_52 : decode cX4_lift 52 = .ok (.iload_n 1, 1) := by decide +kernel
theorem dX4_lift_53 : decode cX4_lift 53 = .ok (.iaload, 1) := by decide +kernel
theorem dX4_lift_54 : decode cX4_lift 54 = .ok (.iconst 3, 1) := by decide +kernel
theorem dX4_lift_55 : decode cX4_lift 55 = .ok (.if_icmp .eq 20, 3) := by decide +kernel
theorem dX4_lift_58 : decode cX4_lift 58 = .ok (.aload_n 0, 1) := by decide +kernel
theorem dX4_lift_59 : decode cX4_lift 59 = .ok (.getfield 22, 3) := by decide +kernel
theorem dX4_lift_62 : decode cX4_lift 62 = .ok (.iload_n 1, 1) := by decide +kernel
theorem dX4_lift_63 : decode cX4_lift 63 = .ok (.iaload, 1) := by decide +kernel
theorem dX4_lift_64 : decode cX4_lift 64 = .ok (.aload_n 0, 1) := by decide +kernel
theorem dX4_lift_65 : decode cX4_lift 65 = .ok (.getfield 72, 3) := by decide +kernel
theorem dX4_lift_68 : decode cX4_lift 68 = .ok (.if_icmp .gt 7, 3) := by decide +kernel
theorem dX4_lift_71 : decode cX4_lift 71 = .ok (.iconst 1, 1) := by decide +kernel
theorem dX4_lift_72 : decode cX4_lift 72 = .ok (.goto 4, 3) := by decide +kernel
theorem dX4_lift_75 : decode cX4_lift 75 = .ok (.iconst 0, 1) := by decide +kernel
theorem dX4_lift_76 : decode cX4_lift 76 = .ok (.istore 4, 2) := by decide +kernel
theorem dX4_lift_78 : decode cX4_lift 78 = .ok (.aload_n 0, 1) := by decide +kernel
theorem dX4_lift_79 : decode cX4_lift 79 = .ok (.iload_n 3, 1) := by decide +kernel
theorem dX4_lift_80 : decode cX4_lift 80 = .ok (.iload_n 2, 1) := by decide +kernel
theorem dX4_lift_81 : decode cX4_lift 81 = .ok (.iconst 0, 1) := by decide +kernel
theorem dX4_lift_82 : decode cX4_lift 82 = .ok (.sipush 999, 3) := by decide +kernel
theorem dX4_lift_85 : decode cX4_lift 85 = .ok (.invokestatic 57, 3) := by decide +kernel
theorem dX4_lift_88 : decode cX4_lift 88 = .ok (.ifCond .ne 7, 3) := by decide +kernel
theorem dX4_lift_91 : decode cX4_lift 91 = .ok (.iconst 1, 1) := by decide +kernel
theorem dX4_lift_92 : decode cX4_lift 92 = .ok (.goto 4, 3) := by decide +kernel
theorem dX4_lift_95 : decode cX4_lift 95 = .ok (.iconst 0, 1) := by decide +kernel
theorem dX4_lift_96 : decode cX4_lift 96 = .ok (.iload 4, 2) := by decide +kernel
theorem dX4_lift_98 : decode cX4_lift 98 = .ok (.invokevirtual 94, 3) := by decide +kernel
theorem dX4_lift_101 : decode cX4_lift 101 = .ok (.ifCond .eq 5, 3) := by decide +kernel
theorem dX4_lift_104 : decode cX4_lift 104 = .ok (.iconst 0, 1) := by decide +kernel
theorem dX4_lift_105 : decode cX4_lift 105 = .ok (.ireturn, 1) := by decide +kernel
theorem dX4_lift_106 : decode cX4_lift 106 = .ok (.aload_n 0, 1) := by decide +kernel
theorem dX4_lift_107 : decode cX4_lift 107 = .ok (.getfield 7, 3) := by decide +kernel
theorem dX4_lift_110 : decode cX4_lift 110 = .ok (.iload_n 1, 1) := by decide +kernel
theorem dX4_lift_111 : decode cX4_lift 111 = .ok (.iaload, 1) := by decide +kernel
theorem dX4_lift_112 : decode cX4_lift 112 = .ok (.iconst 3, 1) := by decide +kernel
theorem dX4_lift_113 : decode cX4_lift 113 = .ok (.if_icmp .ne 32, 3) := by decide +kernel
theorem dX4_lift_116 : decode cX4_lift 116 = .ok (.aload_n 0, 1) := by decide +kernel
theorem dX4_lift_117 : decode cX4_lift 117 = .ok (.getfield 34, 3) := by decide +kernel
theorem dX4_lift_120 : decode cX4_lift 120 = .ok (.iload_n 1, 1) := by decide +kernel
theorem dX4_lift_121 : decode cX4_lift 121 = .ok (.iaload, 1) := by decide +kernel
theorem dX4_lift_122 : decode cX4_lift 122 = .ok (.iconst (-1), 1) := by decide +kernel
theorem dX4_lift_123 : decode cX4_lift 123 = .ok (.if_icmp .eq 13, 3) := by decide +kernel
theorem dX4_lift_126 : decode cX4_lift 126 = .ok (.aload_n 0, 1) := by decide +kernel
theorem dX4_lift_127 : decode cX4_lift 127 = .ok (.getfield 34, 3) := by decide +kernel
theorem dX4_lift_130 : decode cX4_lift 130 = .ok (.iload_n 1, 1) := by decide +kernel
theorem dX4_lift_131 : decode cX4_lift 131 = .ok (.iaload, 1) := by decide +kernel
theorem dX4_lift_132 : decode cX4_lift 132 = .ok (.iload_n 2, 1) := by decide +kernel
theorem dX4_lift_133 : decode cX4_lift 133 = .ok (.if_icmp .ne 12, 3) := by decide +kernel
theorem dX4_lift_136 : decode cX4_lift 136 = .ok (.aload_n 0, 1) := by decide +kernel
theorem dX4_lift_137 : decode cX4_lift 137 = .ok (.getfield 34, 3) := by decide +kernel
theorem dX4_lift_140 : decode cX4_lift 140 = .ok (.iload_n 1, 1) := by decide +kernel
theorem dX4_lift_141 : decode cX4_lift 141 = .ok (.iload_n 2, 1) := by decide +kernel
theorem dX4_lift_142 : decode cX4_lift 142 = .ok (.iastore, 1) := by decide +kernel
theorem dX4_lift_143 : decode cX4_lift 143 = .ok (.iconst 0, 1) := by decide +kernel
theorem dX4_lift_144 : decode cX4_lift 144 = .ok (.ireturn, 1) := by decide +kernel
theorem dX4_lift_145 : decode cX4_lift 145 = .ok (.aload_n 0, 1) := by decide +kernel
theorem dX4_lift_146 : decode cX4_lift 146 = .ok (.getfield 31, 3) := by decide +kernel
theorem dX4_lift_149 : decode cX4_lift 149 = .ok (.iload_n 1, 1) := by decide +kernel
theorem dX4_lift_150 : decode cX4_lift 150 = .ok (.aload_n 0, 1) := by decide +kernel
theorem dX4_lift_151 : decode cX4_lift 151 = .ok (.getfield 72, 3) := by decide +kernel
theorem dX4_lift_154 : decode cX4_lift 154 = .ok (.iastore, 1) := by decide +kernel
theorem dX4_lift_155 : decode cX4_lift 155 = .ok (.aload_n 0, 1) := by decide +kernel
theorem dX4_lift_156 : decode cX4_lift 156 = .ok (.invokevirtual 98, 3) := by decide +kernel
theorem dX4_lift_159 : decode cX4_lift 159 = .ok (.iconst 1, 1) := by decide +kernel
theorem dX4_lift_160 : decode cX4_lift 160 = .ok (.ireturn, 1) := by decide +kernel
theorem dX4_incident_0 : decode cX4_incident 0 = .ok (.aload_n 0, 1) := by decide +kernel
theorem dX4_incident_1 : decode cX4_incident 1 = .ok (.iload_n 1, 1) := by decide +kernel
theorem dX4_incident_2 : decode cX4_incident 2 = .ok (.iconst 0, 1) := by decide +kernel
theorem dX4_incident_3 : decode cX4_incident 3 = .ok (.bipush 19, 2) := by decide +kernel
theorem dX4_incident_5 : decode cX4_incident 5 = .ok (.invokestatic 57, 3) := by decide +kernel
theorem dX4_incident_8 : decode cX4_incident 8 = .ok (.ifCond .ne 7, 3) := by decide +kernel
theorem dX4_incident_11 : decode cX4_incident 11 = .ok (.iconst 1, 1) := by decide +kernel
theorem dX4_incident_12 : decode cX4_incident 12 = .ok (.goto 4, 3) := by decide +kernel
theorem dX4_incident_15 : decode cX4_incident 15 = .ok (.iconst 0, 1) := by decide +kernel
theorem dX4_incident_16 : decode cX4_incident 16 = .ok (.iconst 0, 1) := by decide +kernel
theorem dX4_incident_17 : decode cX4_incident 17 = .ok (.iconst 0, 1) := by decide +kernel
theorem dX4_incident_18 : decode cX4_incident 18 = .ok (.invokevirtual 94, 3) := by decide +kernel
theorem dX4_incident_21 : decode cX4_incident 21 = .ok (.ifCond .eq 4, 3) := by decide +kernel
theorem dX4_incident_24 : decode cX4_incident 24 = .ok (.return_, 1) := by decide +kernel
theorem dX4_incident_25 : decode cX4_incident 25 = .ok (.aload_n 0, 1) := by decide +kernel
theorem dX4_incident_26 : decode cX4_incident 26 = .ok (.getfield 37, 3) := by decide +kernel
theorem dX4_incident_29 : decode cX4_incident 29 = .ok (.iload_n 1, 1) := by decide +kernel
theorem dX4_incident_30 : decode cX4_incident 30 = .ok (.iload_n 2, 1) := by decide +kernel
theorem dX4_incident_31 : decode cX4_incident 31 = .ok (.bastore, 1) := by decide +kernel
theorem dX4_incident_32 : decode cX4_incident 32 = .ok (.aload_n 0, 1) := by decide +kernel
theorem dX4_incident_33 : decode cX4_incident 33 = .ok (.invokevirtual 98, 3) := by decide +kernel
theorem dX4_incident_36 : decode cX4_incident 36 = .ok (.return_, 1) := by decide +kernel
theorem dX4_step_0 : decode cX4_step 0 = .ok (.iload_n 1, 1) := by decide +kernel
theorem dX4_step_1 : decode cX4_step 1 = .ok (.iconst 0, 1) := by decide +kernel
theorem dX4_step_2 : decode cX4_step 2 = .ok (.bipush 9, 2) := by decide +kernel
theorem dX4_step_4 : decode cX4_step 4 = .ok (.invokestatic 57, 3) := by decide +kernel
theorem dX4_step_7 : decode cX4_step 7 = .ok (.ifCond .eq 15, 3) := by decide +kernel
theorem dX4_step_10 : decode cX4_step 10 = .ok (.iload_n 2, 1) := by decide +kernel
theorem dX4_step_11 : decode cX4_step 11 = .ok (.iconst (-1), 1) := by decide +kernel
theorem dX4_step_12 : decode cX4_step 12 = .ok (.if_icmp .eq 14, 3) := by decide +kernel
theorem dX4_step_15 : decode cX4_step 15 = .ok (.iload_n 2, 1) := by decide +kernel
theorem dX4_step_16 : decode cX4_step 16 = .ok (.invokestatic 84, 3) := by decide +kernel
theorem dX4_step_19 : decode cX4_step 19 = .ok (.ifCond .ne 7, 3) := by decide +kernel
theorem dX4_step_22 : decode cX4_step 22 = .ok (.iconst 1, 1) := by decide +kernel
theorem dX4_step_23 : decode cX4_step 23 = .ok (.goto 4, 3) := by decide +kernel
theorem dX4_step_26 : decode cX4_step 26 = .ok (.iconst 0, 1) := by decide +kernel
theorem dX4_step_27 : decode cX4_step 27 = .ok (.istore 4, 2) := by decide +kernel
theorem dX4_step_29 : decode cX4_step 29 = .ok (.iload_n 2, 1) := by decide +kernel
theorem dX4_step_30 : decode cX4_step 30 = .ok (.iconst (-1), 1) := by decide +kernel
theorem dX4_step_31 : decode cX4_step 31 = .ok (.if_icmp .eq 14, 3) := by decide +kernel
theorem dX4_step_34 : decode cX4_step 34 = .ok (.iload_n 3, 1) := by decide +kernel
theorem dX4_step_35 : decode cX4_step 35 = .ok (.invokestatic 104, 3) := by decide +kernel
theorem dX4_step_38 : decode cX4_step 38 = .ok (.ifCond .ne 7, 3) := by decide +kernel
theorem dX4_step_41 : decode cX4_step 41 = .ok (.iconst 1, 1) := by decide +kernel
theorem dX4_step_42 : decode cX4_step 42 = .ok (.goto 4, 3) := by decide +kernel
theorem dX4_step_45 : decode cX4_step 45 = .ok (.iconst 0, 1) := by decide +kernel
theorem dX4_step_46 : decode cX4_step 46 = .ok (.istore 5, 2) := by decide +kernel
theorem dX4_step_48 : decode cX4_step 48 = .ok (.aload_n 0, 1) := by decide +kernel
theorem dX4_step_49 : decode cX4_step 49 = .ok (.iload 4, 2) := by decide +kernel
theorem dX4_step_51 : decode cX4_step 51 = .ok (.iload 5, 2) := by decide +kernel
theorem dX4_step_53 : decode cX4_step 53 = .ok (.iload 4, 2) := by decide +kernel
theorem dX4_step_55 : decode cX4_step 55 = .ok (.ifCond .ne 23, 3) := by decide +kernel
theorem dX4_step_58 : decode cX4_step 58 = .ok (.iload_n 2, 1) := by decide +kernel
theorem dX4_step_59 : decode cX4_step 59 = .ok (.iconst (-1), 1) := by decide +kernel
theorem dX4_step_60 : decode cX4_step 60 = .ok (.if_icmp .eq 18, 3) := by decide +kernel
theorem dX4_step_63 : decode cX4_step 63 = .ok (.aload_n 0, 1) := by decide +kernel
theorem dX4_step_64 : decode cX4_step 64 = .ok (.getfield 41, 3) := by decide +kernel
theorem dX4_step_67 : decode cX4_step 67 = .ok (.iload_n 1, 1) := by decide +kernel
theorem dX4_step_68 : decode cX4_step 68 = .ok (.iaload, 1) := by decide +kernel
theorem dX4_step_69 : decode cX4_step 69 = .ok (.bipush 12, 2) := by decide +kernel
theorem dX4_step_71 : decode cX4_step 71 = .ok (.if_icmp .ne 7, 3) := by decide +kernel
theorem dX4_step_74 : decode cX4_step 74 = .ok (.iconst 1, 1) := by decide +kernel
theorem dX4_step_75 : decode cX4_step 75 = .ok (.goto 4, 3) := by decide +kernel
theorem dX4_step_78 : decode cX4_step 78 = .ok (.iconst 0, 1) := by decide +kernel
theorem dX4_step_79 : decode cX4_step 79 = .ok (.invokevirtual 94, 3) := by decide +kernel
theorem dX4_step_82 : decode cX4_step 82 = .ok (.ifCond .eq 5, 3) := by decide +kernel
theorem dX4_step_85 : decode cX4_step 85 = .ok (.iconst 0, 1) := by decide +kernel
theorem dX4_step_86 : decode cX4_step 86 = .ok (.ireturn, 1) := by decide +kernel
theorem dX4_step_87 : decode cX4_step 87 = .ok (.iload_n 2, 1) := by decide +kernel
theorem dX4_step_88 : decode cX4_step 88 = .ok (.iconst (-1), 1) := by decide +kernel
theorem dX4_step_89 : decode cX4_step 89 = .ok (.if_icmp .ne 12, 3) := by decide +kernel
theorem dX4_step_92 : decode cX4_step 92 = .ok (.aload_n 0, 1) := by decide +kernel
theorem dX4_step_93 : decode cX4_step 93 = .ok (.getfield 41, 3) := by decide +kernel
theorem dX4_step_96 : decode cX4_step 96 = .ok (.iload_n 1, 1) := by decide +kernel
theorem dX4_step_97 : decode cX4_step 97 = .ok (.iconst 0, 1) := by decide +kernel
theorem dX4_step_98 : decode cX4_step 98 = .ok (.iastore, 1) := by decide +kernel
theorem dX4_step_99 : decode cX4_step 99 = .ok (.iconst 0, 1) := by decide +kernel
theorem dX4_step_100 : decode cX4_step 100 = .ok (.ireturn, 1) := by decide +kernel
theorem dX4_step_101 : decode cX4_step 101 = .ok (.aload_n 0, 1) := by decide +kernel
theorem dX4_step_102 : decode cX4_step 102 = .ok (.getfield 44, 3) := by decide +kernel
theorem dX4_step_105 : decode cX4_step 105 = .ok (.bipush 12, 2) := by decide +kernel
theorem dX4_step_107 : decode cX4_step 107 = .ok (.iload_n 1, 1) := by decide +kernel
theorem dX4_step_108 : decode cX4_step 108 = .ok (.imul, 1) := by decide +kernel
theorem dX4_step_109 : decode cX4_step 109 = .ok (.aload_n 0, 1) := by decide +kernel
theorem dX4_step_110 : decode cX4_step 110 = .ok (.getfield 41, 3) := by decide +kernel
theorem dX4_step_113 : decode cX4_step 113 = .ok (.iload_n 1, 1) := by decide +kernel
theorem dX4_step_114 : decode cX4_step 114 = .ok (.iaload, 1) := by decide +kernel
theorem dX4_step_115 : decode cX4_step 115 = .ok (.iadd, 1) := by decide +kernel
theorem dX4_step_116 : decode cX4_step 116 = .ok (.iconst 2, 1) := by decide +kernel
theorem dX4_step_117 : decode cX4_step 117 = .ok (.iload_n 2, 1) := by decide +kernel
theorem dX4_step_118 : decode cX4_step 118 = .ok (.imul, 1) := by decide +kernel
theorem dX4_step_119 : decode cX4_step 119 = .ok (.iload_n 3, 1) := by decide +kernel
theorem dX4_step_120 : decode cX4_step 120 = .ok (.iadd, 1) := by decide +kernel
theorem dX4_step_121 : decode cX4_step 121 = .ok (.iconst 1, 1) := by decide +kernel
theorem dX4_step_122 : decode cX4_step 122 = .ok (.isub, 1) := by decide +kernel
theorem dX4_step_123 : decode cX4_step 123 = .ok (.iastore, 1) := by decide +kernel
theorem dX4_step_124 : decode cX4_step 124 = .ok (.aload_n 0, 1) := by decide +kernel
theorem dX4_step_125 : decode cX4_step 125 = .ok (.getfield 41, 3) := by decide +kernel
theorem dX4_step_128 : decode cX4_step 128 = .ok (.iload_n 1, 1) := by decide +kernel
theorem dX4_step_129 : decode cX4_step 129 = .ok (.dup2, 1) := by decide +kernel
theorem dX4_step_130 : decode cX4_step 130 = .ok (.iaload, 1) := by decide +kernel
theorem dX4_step_131 : decode cX4_step 131 = .ok (.iconst 1, 1) := by decide +kernel
theorem dX4_step_132 : decode cX4_step 132 = .ok (.iadd, 1) := by decide +kernel
theorem dX4_step_133 : decode cX4_step 133 = .ok (.iastore, 1) := by decide +kernel
theorem dX4_step_134 : decode cX4_step 134 = .ok (.aload_n 0, 1) := by decide +kernel
theorem dX4_step_135 : decode cX4_step 135 = .ok (.getfield 41, 3) := by decide +kernel
theorem dX4_step_138 : decode cX4_step 138 = .ok (.iload_n 1, 1) := by decide +kernel
theorem dX4_step_139 : decode cX4_step 139 = .ok (.iaload, 1) := by decide +kernel
theorem dX4_step_140 : decode cX4_step 140 = .ok (.ireturn, 1) := by decide +kernel
theorem dX4_tick_0 : decode cX4_tick 0 = .ok (.aload_n 0, 1) := by decide +kernel
theorem dX4_tick_1 : decode cX4_tick 1 = .ok (.iload_n 1, 1) := by decide +kernel
theorem dX4_tick_2 : decode cX4_tick 2 = .ok (.iconst 1, 1) := by decide +kernel
theorem dX4_tick_3 : decode cX4_tick 3 = .ok (.sipush 2000, 3) := by decide +kernel
theorem dX4_tick_6 : decode cX4_tick 6 = .ok (.invokestatic 57, 3) := by decide +kernel
theorem dX4_tick_9 : decode cX4_tick 9 = .ok (.ifCond .eq 14, 3) := by decide +kernel
theorem dX4_tick_12 : decode cX4_tick 12 = .ok (.aload_n 0, 1) := by decide +kernel
theorem dX4_tick_13 : decode cX4_tick 13 = .ok (.getfield 72, 3) := by decide +kernel
theorem dX4_tick_16 : decode cX4_tick 16 = .ok (.iload_n 1, 1) := by decide +kernel
theorem dX4_tick_17 : decode cX4_tick 17 = .ok (.iadd, 1) := by decide +kernel
theorem dX4_tick_18 : decode cX4_tick 18 = .ok (.ldc 61, 2) := by decide +kernel
theorem dX4_tick_20 : decode cX4_tick 20 = .ok (.if_icmp .le 7, 3) := by decide +kernel
theorem dX4_tick_23 : decode cX4_tick 23 = .ok (.iconst 1, 1) := by decide +kernel
theorem dX4_tick_24 : decode cX4_tick 24 = .ok (.goto 4, 3) := by decide +kernel
theorem dX4_tick_27 : decode cX4_tick 27 = .ok (.iconst 0, 1) := by decide +kernel
theorem dX4_tick_28 : decode cX4_tick 28 = .ok (.iconst 0, 1) := by decide +kernel
theorem dX4_tick_29 : decode cX4_tick 29 = .ok (.iconst 0, 1) := by decide +kernel
theorem dX4_tick_30 : decode cX4_tick 30 = .ok (.invokevirtual 94, 3) := by decide +kernel
theorem dX4_tick_33 : decode cX4_tick 33 = .ok (.ifCond .eq 5, 3) := by decide +kernel
theorem dX4_tick_36 : decode cX4_tick 36 = .ok (.iconst 0, 1) := by decide +kernel
theorem dX4_tick_37 : decode cX4_tick 37 = .ok (.ireturn, 1) := by decide +kernel
theorem dX4_tick_38 : decode cX4_tick 38 = .ok (.aload_n 0, 1) := by decide +kernel
theorem dX4_tick_39 : decode cX4_tick 39 = .ok (.getfield 81, 3) := by decide +kernel
theorem dX4_tick_42 : decode cX4_tick 42 = .ok (.istore_n 2, 1) := by decide +kernel
theorem dX4_tick_43 : decode cX4_tick 43 = .ok (.iconst 0, 1) := by decide +kernel
theorem dX4_tick_44 : decode cX4_tick 44 = .ok (.istore_n 3, 1) := by decide +kernel
theorem dX4_tick_45 : decode cX4_tick 45 = .ok (.iload_n 3, 1) := by decide +kernel
theorem dX4_tick_46 : decode cX4_tick 46 = .ok (.iload_n 1, 1) := by decide +kernel
theorem dX4_tick_47 : decode cX4_tick 47 = .ok (.if_icmp .ge 23, 3) := by decide +kernel
theorem dX4_tick_50 : decode cX4_tick 50 = .ok (.aload_n 0, 1) := by decide +kernel
theorem dX4_tick_51 : decode cX4_tick 51 = .ok (.dup, 1) := by decide +kernel
theorem dX4_tick_52 : decode cX4_tick 52 = .ok (.getfield 72, 3) := by decide +kernel
theorem dX4_tick_55 : decode cX4_tick 55 = .ok (.iconst 1, 1) := by decide +kernel
theorem dX4_tick_56 : decode cX4_tick 56 = .ok (.iadd, 1) := by decide +kernel
theorem dX4_tick_57 : decode cX4_tick 57 = .ok (.putfield 72, 3) := by decide +kernel
theorem dX4_tick_60 : decode cX4_tick 60 = .ok (.aload_n 0, 1) := by decide +kernel
theorem dX4_tick_61 : decode cX4_tick 61 = .ok (.invokevirtual 98, 3) := by decide +kernel
theorem dX4_tick_64 : decode cX4_tick 64 = .ok (.iinc 3 1, 3) := by decide +kernel
theorem dX4_tick_67 : decode cX4_tick 67 = .ok (.goto (-22), 3) := by decide +kernel
theorem dX4_tick_70 : decode cX4_tick 70 = .ok (.aload_n 0, 1) := by decide +kernel
theorem dX4_tick_71 : decode cX4_tick 71 = .ok (.getfield 81, 3) := by decide +kernel
theorem dX4_tick_74 : decode cX4_tick 74 = .ok (.iload_n 2, 1) := by decide +kernel
theorem dX4_tick_75 : decode cX4_tick 75 = .ok (.isub, 1) := by decide +kernel
theorem dX4_tick_76 : decode cX4_tick 76 = .ok (.ireturn, 1) := by decide +kernel
theorem dX4_clock_0 : decode cX4_clock 0 = .ok (.aload_n 0, 1) := by decide +kernel
theorem dX4_clock_1 : decode cX4_clock 1 = .ok (.iconst 0, 1) := by decide +kernel
theorem dX4_clock_2 : decode cX4_clock 2 = .ok (.putfield 53, 3) := by decide +kernel
theorem dX4_clock_5 : decode cX4_clock 5 = .ok (.aload_n 0, 1) := by decide +kernel
theorem dX4_clock_6 : decode cX4_clock 6 = .ok (.getfield 72, 3) := by decide +kernel
theorem dX4_clock_9 : decode cX4_clock 9 = .ok (.ireturn, 1) := by decide +kernel
theorem dX4_closed_0 : decode cX4_closed 0 = .ok (.aload_n 0, 1) := by decide +kernel
theorem dX4_closed_1 : decode cX4_closed 1 = .ok (.iload_n 1, 1) := by decide +kernel
theorem dX4_closed_2 : decode cX4_closed 2 = .ok (.invokestatic 84, 3) := by decide +kernel
theorem dX4_closed_5 : decode cX4_closed 5 = .ok (.ifCond .ne 7, 3) := by decide +kernel
theorem dX4_closed_8 : decode cX4_closed 8 = .ok (.iconst 1, 1) := by decide +kernel
theorem dX4_closed_9 : decode cX4_closed 9 = .ok (.goto 4, 3) := by decide +kernel
theorem dX4_closed_12 : decode cX4_closed 12 = .ok (.iconst 0, 1) := by decide +kernel
theorem dX4_closed_13 : decode cX4_closed 13 = .ok (.iload_n 2, 1) := by decide +kernel
theorem dX4_closed_14 : decode cX4_closed 14 = .ok (.invokestatic 104, 3) := by decide +kernel
theorem dX4_closed_17 : decode cX4_closed 17 = .ok (.ifCond .eq 10, 3) := by decide +kernel
theorem dX4_closed_20 : decode cX4_closed 20 = .ok (.iload_n 3, 1) := by decide +kernel
theorem dX4_closed_21 : decode cX4_closed 21 = .ok (.invokestatic 88, 3) := by decide +kernel
theorem dX4_closed_24 : decode cX4_closed 24 = .ok (.ifCond .ne 7, 3) := by decide +kernel
theorem dX4_closed_27 : decode cX4_closed 27 = .ok (.iconst 1, 1) := by decide +kernel
theorem dX4_closed_28 : decode cX4_closed 28 = .ok (.goto 4, 3) := by decide +kernel
theorem dX4_closed_31 : decode cX4_closed 31 = .ok (.iconst 0, 1) := by decide +kernel
theorem dX4_closed_32 : decode cX4_closed 32 = .ok (.iconst 0, 1) := by decide +kernel
theorem dX4_closed_33 : decode cX4_closed 33 = .ok (.invokevirtual 94, 3) := by decide +kernel
theorem dX4_closed_36 : decode cX4_closed 36 = .ok (.ifCond .eq 5, 3) := by decide +kernel
theorem dX4_closed_39 : decode cX4_closed 39 = .ok (.iconst 0, 1) := by decide +kernel
theorem dX4_closed_40 : decode cX4_closed 40 = .ok (.ireturn, 1) := by decide +kernel
theorem dX4_closed_41 : decode cX4_closed 41 = .ok (.aload_n 0, 1) := by decide +kernel
theorem dX4_closed_42 : decode cX4_closed 42 = .ok (.iload_n 1, 1) := by decide +kernel
theorem dX4_closed_43 : decode cX4_closed 43 = .ok (.iload_n 2, 1) := by decide +kernel
theorem dX4_closed_44 : decode cX4_closed 44 = .ok (.iload_n 3, 1) := by decide +kernel
theorem dX4_closed_45 : decode cX4_closed 45 = .ok (.invokevirtual 75, 3) := by decide +kernel
theorem dX4_closed_48 : decode cX4_closed 48 = .ok (.ireturn, 1) := by decide +kernel
theorem dX4_minutes_0 : decode cX4_minutes 0 = .ok (.aload_n 0, 1) := by decide +kernel
theorem dX4_minutes_1 : decode cX4_minutes 1 = .ok (.iload_n 1, 1) := by decide +kernel
theorem dX4_minutes_2 : decode cX4_minutes 2 = .ok (.invokestatic 84, 3) := by decide +kernel
theorem dX4_minutes_5 : decode cX4_minutes 5 = .ok (.ifCond .ne 7, 3) := by decide +kernel
theorem dX4_minutes_8 : decode cX4_minutes 8 = .ok (.iconst 1, 1) := by decide +kernel
theorem dX4_minutes_9 : decode cX4_minutes 9 = .ok (.goto 4, 3) := by decide +kernel
theorem dX4_minutes_12 : decode cX4_minutes 12 = .ok (.iconst 0, 1) := by decide +kernel
theorem dX4_minutes_13 : decode cX4_minutes 13 = .ok (.iload_n 2, 1) := by decide +kernel
theorem dX4_minutes_14 : decode cX4_minutes 14 = .ok (.invokestatic 104, 3) := by decide +kernel
theorem dX4_minutes_17 : decode cX4_minutes 17 = .ok (.ifCond .eq 34, 3) := by decide +kernel
theorem dX4_minutes_20 : decode cX4_minutes 20 = .ok (.iload_n 3, 1) := by decide +kernel
theorem dX4_minutes_21 : decode cX4_minutes 21 = .ok (.invokestatic 88, 3) := by decide +kernel
theorem dX4_minutes_24 : decode cX4_minutes 24 = .ok (.ifCond .eq 27, 3) := by decide +kernel
theorem dX4_minutes_27 : decode cX4_minutes 27 = .ok (.iload 4, 2) := by decide +kernel
theorem dX4_minutes_29 : decode cX4_minutes 29 = .ok (.invokestatic 88, 3) := by decide +kernel
theorem dX4_minutes_32 : decode cX4_minutes 32 = .ok (.ifCond .eq 19, 3) := by decide +kernel
theorem dX4_minutes_35 : decode cX4_minutes 35 = .ok (.iload 4, 2) := by decide +kernel
theorem dX4_minutes_37 : decode cX4_minutes 37 = .ok (.iload_n 3, 1) := by decide +kernel
theorem dX4_minutes_38 : decode cX4_minutes 38 = .ok (.if_icmp .lt 13, 3) := by decide +kernel
theorem dX4_minutes_41 : decode cX4_minutes 41 = .ok (.iload 4, 2) := by decide +kernel
theorem dX4_minutes_43 : decode cX4_minutes 43 = .ok (.iload_n 3, 1) := by decide +kernel
theorem dX4_minutes_44 : decode cX4_minutes 44 = .ok (.isub, 1) := by decide +kernel
theorem dX4_minutes_45 : decode cX4_minutes 45 = .ok (.sipush 2000, 3) := by decide +kernel
theorem dX4_minutes_48 : decode cX4_minutes 48 = .ok (.if_icmp .le 7, 3) := by decide +kernel
theorem dX4_minutes_51 : decode cX4_minutes 51 = .ok (.iconst 1, 1) := by decide +kernel
theorem dX4_minutes_52 : decode cX4_minutes 52 = .ok (.goto 4, 3) := by decide +kernel
theorem dX4_minutes_55 : decode cX4_minutes 55 = .ok (.iconst 0, 1) := by decide +kernel
theorem dX4_minutes_56 : decode cX4_minutes 56 = .ok (.iconst 0, 1) := by decide +kernel
theorem dX4_minutes_57 : decode cX4_minutes 57 = .ok (.invokevirtual 94, 3) := by decide +kernel
theorem dX4_minutes_60 : decode cX4_minutes 60 = .ok (.ifCond .eq 5, 3) := by decide +kernel
theorem dX4_minutes_63 : decode cX4_minutes 63 = .ok (.iconst 0, 1) := by decide +kernel
theorem dX4_minutes_64 : decode cX4_minutes 64 = .ok (.ireturn, 1) := by decide +kernel
theorem dX4_minutes_65 : decode cX4_minutes 65 = .ok (.iconst 0, 1) := by decide +kernel
theorem dX4_minutes_66 : decode cX4_minutes 66 = .ok (.istore 5, 2) := by decide +kernel
theorem dX4_minutes_68 : decode cX4_minutes 68 = .ok (.iload_n 3, 1) := by decide +kernel
theorem dX4_minutes_69 : decode cX4_minutes 69 = .ok (.istore 6, 2) := by decide +kernel
theorem dX4_minutes_71 : decode cX4_minutes 71 = .ok (.iload 6, 2) := by decide +kernel
theorem dX4_minutes_73 : decode cX4_minutes 73 = .ok (.iload 4, 2) := by decide +kernel
theorem dX4_minutes_75 : decode cX4_minutes 75 = .ok (.if_icmp .ge 30, 3) := by decide +kernel
theorem dX4_minutes_78 : decode cX4_minutes 78 = .ok (.iload 5, 2) := by decide +kernel
theorem dX4_minutes_80 : decode cX4_minutes 80 = .ok (.aload_n 0, 1) := by decide +kernel
theorem dX4_minutes_81 : decode cX4_minutes 81 = .ok (.iload_n 1, 1) := by decide +kernel
theorem dX4_minutes_82 : decode cX4_minutes 82 = .ok (.iload_n 2, 1) := by decide +kernel
theorem dX4_minutes_83 : decode cX4_minutes 83 = .ok (.iload 6, 2) := by decide +kernel
theorem dX4_minutes_85 : decode cX4_minutes 85 = .ok (.invokevirtual 75, 3) := by decide +kernel
theorem dX4_minutes_88 : decode cX4_minutes 88 = .ok (.ifCond .eq 7, 3) := by decide +kernel
theorem dX4_minutes_91 : decode cX4_minutes 91 = .ok (.iconst 1, 1) := by decide +kernel
theorem dX4_minutes_92 : decode cX4_minutes 92 = .ok (.goto 4, 3) := by decide +kernel
theorem dX4_minutes_95 : decode cX4_minutes 95 = .ok (.iconst 0, 1) := by decide +kernel
theorem dX4_minutes_96 : decode cX4_minutes 96 = .ok (.iadd, 1) := by decide +kernel
theorem dX4_minutes_97 : decode cX4_minutes 97 = .ok (.istore 5, 2) := by decide +kernel
theorem dX4_minutes_99 : decode cX4_minutes 99 = .ok (.iinc 6 1, 3) := by decide +kernel
theorem dX4_minutes_102 : decode cX4_minutes 102 = .ok (.goto (-31), 3) := by decide +kernel
theorem dX4_minutes_105 : decode cX4_minutes 105 = .ok (.iload 5, 2) := by decide +kernel
theorem dX4_minutes_107 : decode cX4_minutes 107 = .ok (.ireturn, 1) := by decide +kernel
theorem dX4_opens_0 : decode cX4_opens 0 = .ok (.aload_n 0, 1) := by decide +kernel
theorem dX4_opens_1 : decode cX4_opens 1 = .ok (.iload_n 1, 1) := by decide +kernel
theorem dX4_opens_2 : decode cX4_opens 2 = .ok (.invokestatic 84, 3) := by decide +kernel
theorem dX4_opens_5 : decode cX4_opens 5 = .ok (.ifCond .ne 7, 3) := by decide +kernel
theorem dX4_opens_8 : decode cX4_opens 8 = .ok (.iconst 1, 1) := by decide +kernel
theorem dX4_opens_9 : decode cX4_opens 9 = .ok (.goto 4, 3) := by decide +kernel
theorem dX4_opens_12 : decode cX4_opens 12 = .ok (.iconst 0, 1) := by decide +kernel
theorem dX4_opens_13 : decode cX4_opens 13 = .ok (.iload_n 2, 1) := by decide +kernel
theorem dX4_opens_14 : decode cX4_opens 14 = .ok (.invokestatic 104, 3) := by decide +kernel
theorem dX4_opens_17 : decode cX4_opens 17 = .ok (.ifCond .eq 10, 3) := by decide +kernel
theorem dX4_opens_20 : decode cX4_opens 20 = .ok (.iload_n 3, 1) := by decide +kernel
theorem dX4_opens_21 : decode cX4_opens 21 = .ok (.invokestatic 88, 3) := by decide +kernel
theorem dX4_opens_24 : decode cX4_opens 24 = .ok (.ifCond .ne 7, 3) := by decide +kernel
theorem dX4_opens_27 : decode cX4_opens 27 = .ok (.iconst 1, 1) := by decide +kernel
theorem dX4_opens_28 : decode cX4_opens 28 = .ok (.goto 4, 3) := by decide +kernel
theorem dX4_opens_31 : decode cX4_opens 31 = .ok (.iconst 0, 1) := by decide +kernel
theorem dX4_opens_32 : decode cX4_opens 32 = .ok (.iconst 0, 1) := by decide +kernel
theorem dX4_opens_33 : decode cX4_opens 33 = .ok (.invokevirtual 94, 3) := by decide +kernel
theorem dX4_opens_36 : decode cX4_opens 36 = .ok (.ifCond .eq 5, 3) := by decide +kernel
theorem dX4_opens_39 : decode cX4_opens 39 = .ok (.iconst 0, 1) := by decide +kernel
theorem dX4_opens_40 : decode cX4_opens 40 = .ok (.ireturn, 1) := by decide +kernel
theorem dX4_opens_41 : decode cX4_opens 41 = .ok (.iload_n 3, 1) := by decide +kernel
theorem dX4_opens_42 : decode cX4_opens 42 = .ok (.istore 4, 2) := by decide +kernel
theorem dX4_opens_44 : decode cX4_opens 44 = .ok (.iload 4, 2) := by decide +kernel
theorem dX4_opens_46 : decode cX4_opens 46 = .ok (.iload_n 3, 1) := by decide +kernel
theorem dX4_opens_47 : decode cX4_opens 47 = .ok (.sipush 2000, 3) := by decide +kernel
theorem dX4_opens_50 : decode cX4_opens 50 = .ok (.iadd, 1) := by decide +kernel
theorem dX4_opens_51 : decode cX4_opens 51 = .ok (.if_icmp .ge 30, 3) := by decide +kernel
theorem dX4_opens_54 : decode cX4_opens 54 = .ok (.iload 4, 2) := by decide +kernel
theorem dX4_opens_56 : decode cX4_opens 56 = .ok (.ldc 61, 2) := by decide +kernel
theorem dX4_opens_58 : decode cX4_opens 58 = .ok (.if_icmp .gt 23, 3) := by decide +kernel
theorem dX4_opens_61 : decode cX4_opens 61 = .ok (.aload_n 0, 1) := by decide +kernel
theorem dX4_opens_62 : decode cX4_opens 62 = .ok (.iload_n 1, 1) := by decide +kernel
theorem dX4_opens_63 : decode cX4_opens 63 = .ok (.iload_n 2, 1) := by decide +kernel
theorem dX4_opens_64 : decode cX4_opens 64 = .ok (.iload 4, 2) := by decide +kernel
theorem dX4_opens_66 : decode cX4_opens 66 = .ok (.invokevirtual 75, 3) := by decide +kernel
theorem dX4_opens_69 : decode cX4_opens 69 = .ok (.ifCond .ne 6, 3) := by decide +kernel
theorem dX4_opens_72 : decode cX4_opens 72 = .ok (.iload 4, 2) := by decide +kernel
theorem dX4_opens_74 : decode cX4_opens 74 = .ok (.ireturn, 1) := by decide +kernel
theorem dX4_opens_75 : decode cX4_opens 75 = .ok (.iinc 4 1, 3) := by decide +kernel
theorem dX4_opens_78 : decode cX4_opens 78 = .ok (.goto (-34), 3) := by decide +kernel
theorem dX4_opens_81 : decode cX4_opens 81 = .ok (.iconst (-1), 1) := by decide +kernel
theorem dX4_opens_82 : decode cX4_opens 82 = .ok (.ireturn, 1) := by decide +kernel
theorem dX4_endOf_0 : decode cX4_endOf 0 = .ok (.aload_n 0, 1) := by decide +kernel
theorem dX4_endOf_1 : decode cX4_endOf 1 = .ok (.getfield 31, 3) := by decide +kernel
theorem dX4_endOf_4 : decode cX4_endOf 4 = .ok (.iload_n 1, 1) := by decide +kernel
theorem dX4_endOf_5 : decode cX4_endOf 5 = .ok (.iaload, 1) := by decide +kernel
theorem dX4_endOf_6 : decode cX4_endOf 6 = .ok (.iconst (-1), 1) := by decide +kernel
theorem dX4_endOf_7 : decode cX4_endOf 7 = .ok (.if_icmp .eq 10, 3) := by decide +kernel
theorem dX4_endOf_10 : decode cX4_endOf 10 = .ok (.aload_n 0, 1) := by decide +kernel
theorem dX4_endOf_11 : decode cX4_endOf 11 = .ok (.getfield 31, 3) := by decide +kernel
theorem dX4_endOf_14 : decode cX4_endOf 14 = .ok (.iload_n 1, 1) := by decide +kernel
theorem dX4_endOf_15 : decode cX4_endOf 15 = .ok (.iaload, 1) := by decide +kernel
theorem dX4_endOf_16 : decode cX4_endOf 16 = .ok (.ireturn, 1) := by decide +kernel
theorem dX4_endOf_17 : decode cX4_endOf 17 = .ok (.aload_n 0, 1) := by decide +kernel
theorem dX4_endOf_18 : decode cX4_endOf 18 = .ok (.getfield 7, 3) := by decide +kernel
theorem dX4_endOf_21 : decode cX4_endOf 21 = .ok (.iload_n 1, 1) := by decide +kernel
theorem dX4_endOf_22 : decode cX4_endOf 22 = .ok (.iaload, 1) := by decide +kernel
theorem dX4_endOf_23 : decode cX4_endOf 23 = .ok (.iconst 2, 1) := by decide +kernel
theorem dX4_endOf_24 : decode cX4_endOf 24 = .ok (.if_icmp .eq 13, 3) := by decide +kernel
theorem dX4_endOf_27 : decode cX4_endOf 27 = .ok (.aload_n 0, 1) := by decide +kernel
theorem dX4_endOf_28 : decode cX4_endOf 28 = .ok (.getfield 7, 3) := by decide +kernel
theorem dX4_endOf_31 : decode cX4_endOf 31 = .ok (.iload_n 1, 1) := by decide +kernel
theorem dX4_endOf_32 : decode cX4_endOf 32 = .ok (.iaload, 1) := by decide +kernel
theorem dX4_endOf_33 : decode cX4_endOf 33 = .ok (.iconst 3, 1) := by decide +kernel
theorem dX4_endOf_34 : decode cX4_endOf 34 = .ok (.if_icmp .ne 8, 3) := by decide +kernel
theorem dX4_endOf_37 : decode cX4_endOf 37 = .ok (.ldc 107, 2) := by decide +kernel
theorem dX4_endOf_39 : decode cX4_endOf 39 = .ok (.goto 9, 3) := by decide +kernel
theorem dX4_endOf_42 : decode cX4_endOf 42 = .ok (.aload_n 0, 1) := by decide +kernel
theorem dX4_endOf_43 : decode cX4_endOf 43 = .ok (.getfield 22, 3) := by decide +kernel
theorem dX4_endOf_46 : decode cX4_endOf 46 = .ok (.iload_n 1, 1) := by decide +kernel
theorem dX4_endOf_47 : decode cX4_endOf 47 = .ok (.iaload, 1) := by decide +kernel
theorem dX4_endOf_48 : decode cX4_endOf 48 = .ok (.ireturn, 1) := by decide +kernel
theorem dX4_reason_0 : decode cX4_reason 0 = .ok (.aload_n 0, 1) := by decide +kernel
theorem dX4_reason_1 : decode cX4_reason 1 = .ok (.iload_n 1, 1) := by decide +kernel
theorem dX4_reason_2 : decode cX4_reason 2 = .ok (.invokestatic 84, 3) := by decide +kernel
theorem dX4_reason_5 : decode cX4_reason 5 = .ok (.ifCond .ne 7, 3) := by decide +kernel
theorem dX4_reason_8 : decode cX4_reason 8 = .ok (.iconst 1, 1) := by decide +kernel
theorem dX4_reason_9 : decode cX4_reason 9 = .ok (.goto 4, 3) := by decide +kernel
theorem dX4_reason_12 : decode cX4_reason 12 = .ok (.iconst 0, 1) := by decide +kernel
theorem dX4_reason_13 : decode cX4_reason 13 = .ok (.iload_n 2, 1) := by decide +kernel
theorem dX4_reason_14 : decode cX4_reason 14 = .ok (.invokestatic 104, 3) := by decide +kernel
theorem dX4_reason_17 : decode cX4_reason 17 = .ok (.ifCond .eq 15, 3) := by decide +kernel
theorem dX4_reason_20 : decode cX4_reason 20 = .ok (.iload_n 3, 1) := by decide +kernel
theorem dX4_reason_21 : decode cX4_reason 21 = .ok (.invokestatic 88, 3) := by decide +kernel
theorem dX4_reason_24 : decode cX4_reason 24 = .ok (.ifCond .eq 8, 3) := by decide +kernel
theorem dX4_reason_27 : decode cX4_reason 27 = .ok (.iload 4, 2) := by decide +kernel
theorem dX4_reason_29 : decode cX4_reason 29 = .ok (.ifCond .ge 7, 3) := by decide +kernel
theorem dX4_reason_32 : decode cX4_reason 32 = .ok (.iconst 1, 1) := by decide +kernel
theorem dX4_reason_33 : decode cX4_reason 33 = .ok (.goto 4, 3) := by decide +kernel
theorem dX4_reason_36 : decode cX4_reason 36 = .ok (.iconst 0, 1) := by decide +kernel
theorem dX4_reason_37 : decode cX4_reason 37 = .ok (.iconst 0, 1) := by decide +kernel
theorem dX4_reason_38 : decode cX4_reason 38 = .ok (.invokevirtual 94, 3) := by decide +kernel
theorem dX4_reason_41 : decode cX4_reason 41 = .ok (.ifCond .eq 5, 3) := by decide +kernel
theorem dX4_reason_44 : decode cX4_reason 44 = .ok (.iconst 0, 1) := by decide +kernel
theorem dX4_reason_45 : decode cX4_reason 45 = .ok (.ireturn, 1) := by decide +kernel
theorem dX4_reason_46 : decode cX4_reason 46 = .ok (.iconst 0, 1) := by decide +kernel
theorem dX4_reason_47 : decode cX4_reason 47 = .ok (.istore 5, 2) := by decide +kernel
theorem dX4_reason_49 : decode cX4_reason 49 = .ok (.iload 5, 2) := by decide +kernel
theorem dX4_reason_51 : decode cX4_reason 51 = .ok (.aload_n 0, 1) := by decide +kernel
theorem dX4_reason_52 : decode cX4_reason 52 = .ok (.getfield 62, 3) := by decide +kernel
theorem dX4_reason_55 : decode cX4_reason 55 = .ok (.if_icmp .ge 141, 3) := by decide +kernel
theorem dX4_reason_58 : decode cX4_reason 58 = .ok (.iconst 0, 1) := by decide +kernel
theorem dX4_reason_59 : decode cX4_reason 59 = .ok (.istore 6, 2) := by decide +kernel
theorem dX4_reason_61 : decode cX4_reason 61 = .ok (.iconst 0, 1) := by decide +kernel
theorem dX4_reason_62 : decode cX4_reason 62 = .ok (.istore 7, 2) := by decide +kernel
theorem dX4_reason_64 : decode cX4_reason 64 = .ok (.iload 7, 2) := by decide +kernel
theorem dX4_reason_66 : decode cX4_reason 66 = .ok (.aload_n 0, 1) := by decide +kernel
theorem dX4_reason_67 : decode cX4_reason 67 = .ok (.getfield 62, 3) := by decide +kernel
theorem dX4_reason_70 : decode cX4_reason 70 = .ok (.if_icmp .ge 89, 3) := by decide +kernel
theorem dX4_reason_73 : decode cX4_reason 73 = .ok (.aload_n 0, 1) := by decide +kernel
theorem dX4_reason_74 : decode cX4_reason 74 = .ok (.iload 7, 2) := by decide +kernel
theorem dX4_reason_76 : decode cX4_reason 76 = .ok (.invokevirtual 108, 3) := by decide +kernel
theorem dX4_reason_79 : decode cX4_reason 79 = .ok (.aload_n 0, 1) := by decide +kernel
theorem dX4_reason_80 : decode cX4_reason 80 = .ok (.iload 5, 2) := by decide +kernel
theorem dX4_reason_82 : decode cX4_reason 82 = .ok (.invokevirtual 108, 3) := by decide +kernel
theorem dX4_reason_85 : decode cX4_reason 85 = .ok (.if_icmp .lt 25, 3) := by decide +kernel
theorem dX4_reason_88 : decode cX4_reason 88 = .ok (.aload_n 0, 1) := by decide +kernel
theorem dX4_reason_89 : decode cX4_reason 89 = .ok (.iload 7, 2) := by decide +kernel
theorem dX4_reason_91 : decode cX4_reason 91 = .ok (.invokevirtual 108, 3) := by decide +kernel
theorem dX4_reason_94 : decode cX4_reason 94 = .ok (.aload_n 0, 1) := by decide +kernel
theorem dX4_reason_95 : decode cX4_reason 95 = .ok (.iload 5, 2) := by decide +kernel
theorem dX4_reason_97 : decode cX4_reason 97 = .ok (.invokevirtual 108, 3) := by decide +kernel
theorem dX4_reason_100 : decode cX4_reason 100 = .ok (.if_icmp .ne 14, 3) := by decide +kernel
theorem dX4_reason_103 : decode cX4_reason 103 = .ok (.iload 7, 2) := by decide +kernel
theorem dX4_reason_105 : decode cX4_reason 105 = .ok (.iload 5, 2) := by decide +kernel
theorem dX4_reason_107 : decode cX4_reason 107 = .ok (.if_icmp .ge 7, 3) := by decide +kernel
theorem dX4_reason_110 : decode cX4_reason 110 = .ok (.iconst 1, 1) := by decide +kernel
theorem dX4_reason_111 : decode cX4_reason 111 = .ok (.goto 4, 3) := by decide +kernel
theorem dX4_reason_114 : decode cX4_reason 114 = .ok (.iconst 0, 1) := by decide +kernel
theorem dX4_reason_115 : decode cX4_reason 115 = .ok (.istore 8, 2) := by decide +kernel
theorem dX4_reason_117 : decode cX4_reason 117 = .ok (.iload 6, 2) := by decide +kernel
theorem dX4_reason_119 : decode cX4_reason 119 = .ok (.aload_n 0, 1) := by decide +kernel
theorem dX4_reason_120 : decode cX4_reason 120 = .ok (.iload 7, 2) := by decide +kernel
theorem dX4_reason_122 : decode cX4_reason 122 = .ok (.iload_n 1, 1) := by decide +kernel
theorem dX4_reason_123 : decode cX4_reason 123 = .ok (.iload_n 2, 1) := by decide +kernel
theorem dX4_reason_124 : decode cX4_reason 124 = .ok (.invokevirtual 65, 3) := by decide +kernel
theorem dX4_reason_127 : decode cX4_reason 127 = .ok (.ifCond .eq 22, 3) := by decide +kernel
theorem dX4_reason_130 : decode cX4_reason 130 = .ok (.aload_n 0, 1) := by decide +kernel
theorem dX4_reason_131 : decode cX4_reason 131 = .ok (.iload 7, 2) := by decide +kernel
theorem dX4_reason_133 : decode cX4_reason 133 = .ok (.iload_n 3, 1) := by decide +kernel
theorem dX4_reason_134 : decode cX4_reason 134 = .ok (.invokevirtual 68, 3) := by decide +kernel
theorem dX4_reason_137 : decode cX4_reason 137 = .ok (.ifCond .eq 12, 3) := by decide +kernel
theorem dX4_reason_140 : decode cX4_reason 140 = .ok (.iload 8, 2) := by decide +kernel
theorem dX4_reason_142 : decode cX4_reason 142 = .ok (.ifCond .eq 7, 3) := by decide +kernel
theorem dX4_reason_145 : decode cX4_reason 145 = .ok (.iconst 1, 1) := by decide +kernel
theorem dX4_reason_146 : decode cX4_reason 146 = .ok (.goto 4, 3) := by decide +kernel
theorem dX4_reason_149 : decode cX4_reason 149 = .ok (.iconst 0, 1) := by decide +kernel
theorem dX4_reason_150 : decode cX4_reason 150 = .ok (.iadd, 1) := by decide +kernel
theorem dX4_reason_151 : decode cX4_reason 151 = .ok (.istore 6, 2) := by decide +kernel
theorem dX4_reason_153 : decode cX4_reason 153 = .ok (.iinc 7 1, 3) := by decide +kernel
theorem dX4_reason_156 : decode cX4_reason 156 = .ok (.goto (-92), 3) := by decide +kernel
theorem dX4_reason_159 : decode cX4_reason 159 = .ok (.aload_n 0, 1) := by decide +kernel
theorem dX4_reason_160 : decode cX4_reason 160 = .ok (.iload 5, 2) := by decide +kernel
theorem dX4_reason_162 : decode cX4_reason 162 = .ok (.iload_n 1, 1) := by decide +kernel
theorem dX4_reason_163 : decode cX4_reason 163 = .ok (.iload_n 2, 1) := by decide +kernel
theorem dX4_reason_164 : decode cX4_reason 164 = .ok (.invokevirtual 65, 3) := by decide +kernel
theorem dX4_reason_167 : decode cX4_reason 167 = .ok (.ifCond .eq 23, 3) := by decide +kernel
theorem dX4_reason_170 : decode cX4_reason 170 = .ok (.aload_n 0, 1) := by decide +kernel
theorem dX4_reason_171 : decode cX4_reason 171 = .ok (.iload 5, 2) := by decide +kernel
theorem dX4_reason_173 : decode cX4_reason 173 = .ok (.iload_n 3, 1) := by decide +kernel
theorem dX4_reason_174 : decode cX4_reason 174 = .ok (.invokevirtual 68, 3) := by decide +kernel
theorem dX4_reason_177 : decode cX4_reason 177 = .ok (.ifCond .eq 13, 3) := by decide +kernel
theorem dX4_reason_180 : decode cX4_reason 180 = .ok (.iload 6, 2) := by decide +kernel
theorem dX4_reason_182 : decode cX4_reason 182 = .ok (.iload 4, 2) := by decide +kernel
theorem dX4_reason_184 : decode cX4_reason 184 = .ok (.if_icmp .ne 6, 3) := by decide +kernel
theorem dX4_reason_187 : decode cX4_reason 187 = .ok (.iload 5, 2) := by decide +kernel
theorem dX4_reason_189 : decode cX4_reason 189 = .ok (.ireturn, 1) := by decide +kernel
theorem dX4_reason_190 : decode cX4_reason 190 = .ok (.iinc 5 1, 3) := by decide +kernel
theorem dX4_reason_193 : decode cX4_reason 193 = .ok (.goto (-144), 3) := by decide +kernel
theorem dX4_reason_196 : decode cX4_reason 196 = .ok (.iconst (-1), 1) := by decide +kernel
theorem dX4_reason_197 : decode cX4_reason 197 = .ok (.ireturn, 1) := by decide +kernel
theorem dX4_speed_0 : decode cX4_speed 0 = .ok (.aload_n 0, 1) := by decide +kernel
theorem dX4_speed_1 : decode cX4_speed 1 = .ok (.iload_n 1, 1) := by decide +kernel
theorem dX4_speed_2 : decode cX4_speed 2 = .ok (.invokestatic 84, 3) := by decide +kernel
theorem dX4_speed_5 : decode cX4_speed 5 = .ok (.ifCond .ne 7, 3) := by decide +kernel
theorem dX4_speed_8 : decode cX4_speed 8 = .ok (.iconst 1, 1) := by decide +kernel
theorem dX4_speed_9 : decode cX4_speed 9 = .ok (.goto 4, 3) := by decide +kernel
theorem dX4_speed_12 : decode cX4_speed 12 = .ok (.iconst 0, 1) := by decide +kernel
theorem dX4_speed_13 : decode cX4_speed 13 = .ok (.iload_n 2, 1) := by decide +kernel
theorem dX4_speed_14 : decode cX4_speed 14 = .ok (.invokestatic 104, 3) := by decide +kernel
theorem dX4_speed_17 : decode cX4_speed 17 = .ok (.ifCond .eq 10, 3) := by decide +kernel
theorem dX4_speed_20 : decode cX4_speed 20 = .ok (.iload_n 3, 1) := by decide +kernel
theorem dX4_speed_21 : decode cX4_speed 21 = .ok (.invokestatic 88, 3) := by decide +kernel
theorem dX4_speed_24 : decode cX4_speed 24 = .ok (.ifCond .ne 7, 3) := by decide +kernel
theorem dX4_speed_27 : decode cX4_speed 27 = .ok (.iconst 1, 1) := by decide +kernel
theorem dX4_speed_28 : decode cX4_speed 28 = .ok (.goto 4, 3) := by decide +kernel
theorem dX4_speed_31 : decode cX4_speed 31 = .ok (.iconst 0, 1) := by decide +kernel
theorem dX4_speed_32 : decode cX4_speed 32 = .ok (.iconst 0, 1) := by decide +kernel
theorem dX4_speed_33 : decode cX4_speed 33 = .ok (.invokevirtual 94, 3) := by decide +kernel
theorem dX4_speed_36 : decode cX4_speed 36 = .ok (.ifCond .eq 5, 3) := by decide +kernel
theorem dX4_speed_39 : decode cX4_speed 39 = .ok (.iconst 0, 1) := by decide +kernel
theorem dX4_speed_40 : decode cX4_speed 40 = .ok (.ireturn, 1) := by decide +kernel
theorem dX4_speed_41 : decode cX4_speed 41 = .ok (.bipush 100, 2) := by decide +kernel
theorem dX4_speed_43 : decode cX4_speed 43 = .ok (.istore 4, 2) := by decide +kernel
theorem dX4_speed_45 : decode cX4_speed 45 = .ok (.iconst 0, 1) := by decide +kernel
theorem dX4_speed_46 : decode cX4_speed 46 = .ok (.istore 5, 2) := by decide +kernel
theorem dX4_speed_48 : decode cX4_speed 48 = .ok (.iload 5, 2) := by decide +kernel
theorem dX4_speed_50 : decode cX4_speed 50 = .ok (.aload_n 0, 1) := by decide +kernel
theorem dX4_speed_51 : decode cX4_speed 51 = .ok (.getfield 62, 3) := by decide +kernel
theorem dX4_speed_54 : decode cX4_speed 54 = .ok (.if_icmp .ge 79, 3) := by decide +kernel
theorem dX4_speed_57 : decode cX4_speed 57 = .ok (.aload_n 0, 1) := by decide +kernel
theorem dX4_speed_58 : decode cX4_speed 58 = .ok (.getfield 7, 3) := by decide +kernel
theorem dX4_speed_61 : decode cX4_speed 61 = .ok (.iload 5, 2) := by decide +kernel
theorem dX4_speed_63 : decode cX4_speed 63 = .ok (.iaload, 1) := by decide +kernel
theorem dX4_speed_64 : decode cX4_speed 64 = .ok (.iconst 5, 1) := by decide +kernel
theorem dX4_speed_65 : decode cX4_speed 65 = .ok (.if_icmp .ne 28, 3) := by decide +kernel
theorem dX4_speed_68 : decode cX4_speed 68 = .ok (.aload_n 0, 1) := by decide +kernel
theorem dX4_speed_69 : decode cX4_speed 69 = .ok (.iload 5, 2) := by decide +kernel
theorem dX4_speed_71 : decode cX4_speed 71 = .ok (.iload_n 1, 1) := by decide +kernel
theorem dX4_speed_72 : decode cX4_speed 72 = .ok (.iload_n 2, 1) := by decide +kernel
theorem dX4_speed_73 : decode cX4_speed 73 = .ok (.invokevirtual 65, 3) := by decide +kernel
theorem dX4_speed_76 : decode cX4_speed 76 = .ok (.ifCond .eq 17, 3) := by decide +kernel
theorem dX4_speed_79 : decode cX4_speed 79 = .ok (.aload_n 0, 1) := by decide +kernel
theorem dX4_speed_80 : decode cX4_speed 80 = .ok (.iload 5, 2) := by decide +kernel
theorem dX4_speed_82 : decode cX4_speed 82 = .ok (.iload_n 3, 1) := by decide +kernel
theorem dX4_speed_83 : decode cX4_speed 83 = .ok (.invokevirtual 68, 3) := by decide +kernel
theorem dX4_speed_86 : decode cX4_speed 86 = .ok (.ifCond .eq 7, 3) := by decide +kernel
theorem dX4_speed_89 : decode cX4_speed 89 = .ok (.iconst 1, 1) := by decide +kernel
theorem dX4_speed_90 : decode cX4_speed 90 = .ok (.goto 4, 3) := by decide +kernel
theorem dX4_speed_93 : decode cX4_speed 93 = .ok (.iconst 0, 1) := by decide +kernel
theorem dX4_speed_94 : decode cX4_speed 94 = .ok (.istore 6, 2) := by decide +kernel
theorem dX4_speed_96 : decode cX4_speed 96 = .ok (.iload 6, 2) := by decide +kernel
theorem dX4_speed_98 : decode cX4_speed 98 = .ok (.ifCond .eq 25, 3) := by decide +kernel
theorem dX4_speed_101 : decode cX4_speed 101 = .ok (.aload_n 0, 1) := by decide +kernel
theorem dX4_speed_102 : decode cX4_speed 102 = .ok (.getfield 25, 3) := by decide +kernel
theorem dX4_speed_105 : decode cX4_speed 105 = .ok (.iload 5, 2) := by decide +kernel
theorem dX4_speed_107 : decode cX4_speed 107 = .ok (.iaload, 1) := by decide +kernel
theorem dX4_speed_108 : decode cX4_speed 108 = .ok (.iload 4, 2) := by decide +kernel
theorem dX4_speed_110 : decode cX4_speed 110 = .ok (.if_icmp .ge 13, 3) := by decide +kernel
theorem dX4_speed_113 : decode cX4_speed 113 = .ok (.aload_n 0, 1) := by decide +kernel
theorem dX4_speed_114 : decode cX4_speed 114 = .ok (.getfield 25, 3) := by decide +kernel
theorem dX4_speed_117 : decode cX4_speed 117 = .ok (.iload 5, 2) := by decide +kernel
theorem dX4_speed_119 : decode cX4_speed 119 = .ok (.iaload, 1) := by decide +kernel
theorem dX4_speed_120 : decode cX4_speed 120 = .ok (.goto 5, 3) := by decide +kernel
theorem dX4_speed_123 : decode cX4_speed 123 = .ok (.iload 4, 2) := by decide +kernel
theorem dX4_speed_125 : decode cX4_speed 125 = .ok (.istore 4, 2) := by decide +kernel
theorem dX4_speed_127 : decode cX4_speed 127 = .ok (.iinc 5 1, 3) := by decide +kernel
theorem dX4_speed_130 : decode cX4_speed 130 = .ok (.goto (-82), 3) := by decide +kernel
theorem dX4_speed_133 : decode cX4_speed 133 = .ok (.iload 4, 2) := by decide +kernel
theorem dX4_speed_135 : decode cX4_speed 135 = .ok (.ireturn, 1) := by decide +kernel
theorem dX4_notice_0 : decode cX4_notice 0 = .ok (.aload_n 0, 1) := by decide +kernel
theorem dX4_notice_1 : decode cX4_notice 1 = .ok (.iload_n 1, 1) := by decide +kernel
theorem dX4_notice_2 : decode cX4_notice 2 = .ok (.aload_n 0, 1) := by decide +kernel
theorem dX4_notice_3 : decode cX4_notice 3 = .ok (.getfield 81, 3) := by decide +kernel
theorem dX4_notice_6 : decode cX4_notice 6 = .ok (.bipush 100, 2) := by decide +kernel
theorem dX4_notice_8 : decode cX4_notice 8 = .ok (.if_icmp .le 13, 3) := by decide +kernel
theorem dX4_notice_11 : decode cX4_notice 11 = .ok (.aload_n 0, 1) := by decide +kernel
theorem dX4_notice_12 : decode cX4_notice 12 = .ok (.getfield 81, 3) := by decide +kernel
theorem dX4_notice_15 : decode cX4_notice 15 = .ok (.bipush 100, 2) := by decide +kernel
theorem dX4_notice_17 : decode cX4_notice 17 = .ok (.isub, 1) := by decide +kernel
theorem dX4_notice_18 : decode cX4_notice 18 = .ok (.goto 4, 3) := by decide +kernel
theorem dX4_notice_21 : decode cX4_notice 21 = .ok (.iconst 0, 1) := by decide +kernel
theorem dX4_notice_22 : decode cX4_notice 22 = .ok (.aload_n 0, 1) := by decide +kernel
theorem dX4_notice_23 : decode cX4_notice 23 = .ok (.getfield 81, 3) := by decide +kernel
theorem dX4_notice_26 : decode cX4_notice 26 = .ok (.iconst 1, 1) := by decide +kernel
theorem dX4_notice_27 : decode cX4_notice 27 = .ok (.isub, 1) := by decide +kernel
theorem dX4_notice_28 : decode cX4_notice 28 = .ok (.invokestatic 57, 3) := by decide +kernel
theorem dX4_notice_31 : decode cX4_notice 31 = .ok (.ifCond .eq 12, 3) := by decide +kernel
theorem dX4_notice_34 : decode cX4_notice 34 = .ok (.iload_n 2, 1) := by decide +kernel
theorem dX4_notice_35 : decode cX4_notice 35 = .ok (.iconst 0, 1) := by decide +kernel
theorem dX4_notice_36 : decode cX4_notice 36 = .ok (.iconst 4, 1) := by decide +kernel
theorem dX4_notice_37 : decode cX4_notice 37 = .ok (.invokestatic 57, 3) := by decide +kernel
theorem dX4_notice_40 : decode cX4_notice 40 = .ok (.ifCond .ne 7, 3) := by decide +kernel
theorem dX4_notice_43 : decode cX4_notice 43 = .ok (.iconst 1, 1) := by decide +kernel
theorem dX4_notice_44 : decode cX4_notice 44 = .ok (.goto 4, 3) := by decide +kernel
theorem dX4_notice_47 : decode cX4_notice 47 = .ok (.iconst 0, 1) := by decide +kernel
theorem dX4_notice_48 : decode cX4_notice 48 = .ok (.iconst 0, 1) := by decide +kernel
theorem dX4_notice_49 : decode cX4_notice 49 = .ok (.iconst 0, 1) := by decide +kernel
theorem dX4_notice_50 : decode cX4_notice 50 = .ok (.invokevirtual 94, 3) := by decide +kernel
theorem dX4_notice_53 : decode cX4_notice 53 = .ok (.ifCond .eq 5, 3) := by decide +kernel
theorem dX4_notice_56 : decode cX4_notice 56 = .ok (.iconst 0, 1) := by decide +kernel
theorem dX4_notice_57 : decode cX4_notice 57 = .ok (.ireturn, 1) := by decide +kernel
theorem dX4_notice_58 : decode cX4_notice 58 = .ok (.aload_n 0, 1) := by decide +kernel
theorem dX4_notice_59 : decode cX4_notice 59 = .ok (.getfield 50, 3) := by decide +kernel
theorem dX4_notice_62 : decode cX4_notice 62 = .ok (.iconst 5, 1) := by decide +kernel
theorem dX4_notice_63 : decode cX4_notice 63 = .ok (.iload_n 1, 1) := by decide +kernel
theorem dX4_notice_64 : decode cX4_notice 64 = .ok (.bipush 100, 2) := by decide +kernel
theorem dX4_notice_66 : decode cX4_notice 66 = .ok (.irem, 1) := by decide +kernel
theorem dX4_notice_67 : decode cX4_notice 67 = .ok (.imul, 1) := by decide +kernel
theorem dX4_notice_68 : decode cX4_notice 68 = .ok (.iload_n 2, 1) := by decide +kernel
theorem dX4_notice_69 : decode cX4_notice 69 = .ok (.iadd, 1) := by decide +kernel
theorem dX4_notice_70 : decode cX4_notice 70 = .ok (.iaload, 1) := by decide +kernel
theorem dX4_notice_71 : decode cX4_notice 71 = .ok (.ireturn, 1) := by decide +kernel
theorem dX4_blocked_0 : decode cX4_blocked 0 = .ok (.aload_n 0, 1) := by decide +kernel
theorem dX4_blocked_1 : decode cX4_blocked 1 = .ok (.iload_n 1, 1) := by decide +kernel
theorem dX4_blocked_2 : decode cX4_blocked 2 = .ok (.iconst 0, 1) := by decide +kernel
theorem dX4_blocked_3 : decode cX4_blocked 3 = .ok (.bipush 9, 2) := by decide +kernel
theorem dX4_blocked_5 : decode cX4_blocked 5 = .ok (.invokestatic 57, 3) := by decide +kernel
theorem dX4_blocked_8 : decode cX4_blocked 8 = .ok (.ifCond .ne 7, 3) := by decide +kernel
theorem dX4_blocked_11 : decode cX4_blocked 11 = .ok (.iconst 1, 1) := by decide +kernel
theorem dX4_blocked_12 : decode cX4_blocked 12 = .ok (.goto 4, 3) := by decide +kernel
theorem dX4_blocked_15 : decode cX4_blocked 15 = .ok (.iconst 0, 1) := by decide +kernel
theorem dX4_blocked_16 : decode cX4_blocked 16 = .ok (.iconst 0, 1) := by decide +kernel
theorem dX4_blocked_17 : decode cX4_blocked 17 = .ok (.iconst 0, 1) := by decide +kernel
theorem dX4_blocked_18 : decode cX4_blocked 18 = .ok (.invokevirtual 94, 3) := by decide +kernel
theorem dX4_blocked_21 : decode cX4_blocked 21 = .ok (.ifCond .eq 5, 3) := by decide +kernel
theorem dX4_blocked_24 : decode cX4_blocked 24 = .ok (.iconst 0, 1) := by decide +kernel
theorem dX4_blocked_25 : decode cX4_blocked 25 = .ok (.ireturn, 1) := by decide +kernel
theorem dX4_blocked_26 : decode cX4_blocked 26 = .ok (.iconst 0, 1) := by decide +kernel
theorem dX4_blocked_27 : decode cX4_blocked 27 = .ok (.istore_n 2, 1) := by decide +kernel
theorem dX4_blocked_28 : decode cX4_blocked 28 = .ok (.iconst 0, 1) := by decide +kernel
theorem dX4_blocked_29 : decode cX4_blocked 29 = .ok (.istore_n 3, 1) := by decide +kernel
theorem dX4_blocked_30 : decode cX4_blocked 30 = .ok (.iload_n 3, 1) := by decide +kernel
theorem dX4_blocked_31 : decode cX4_blocked 31 = .ok (.aload_n 0, 1) := by decide +kernel
theorem dX4_blocked_32 : decode cX4_blocked 32 = .ok (.getfield 41, 3) := by decide +kernel
theorem dX4_blocked_35 : decode cX4_blocked 35 = .ok (.iload_n 1, 1) := by decide +kernel
theorem dX4_blocked_36 : decode cX4_blocked 36 = .ok (.iaload, 1) := by decide +kernel
theorem dX4_blocked_37 : decode cX4_blocked 37 = .ok (.if_icmp .ge 56, 3) := by decide +kernel
theorem dX4_blocked_40 : decode cX4_blocked 40 = .ok (.iload_n 2, 1) := by decide +kernel
theorem dX4_blocked_41 : decode cX4_blocked 41 = .ok (.aload_n 0, 1) := by decide +kernel
theorem dX4_blocked_42 : decode cX4_blocked 42 = .ok (.aload_n 0, 1) := by decide +kernel
theorem dX4_blocked_43 : decode cX4_blocked 43 = .ok (.getfield 44, 3) := by decide +kernel
theorem dX4_blocked_46 : decode cX4_blocked 46 = .ok (.bipush 12, 2) := by decide +kernel
theorem dX4_blocked_48 : decode cX4_blocked 48 = .ok (.iload_n 1, 1) := by decide +kernel
theorem dX4_blocked_49 : decode cX4_blocked 49 = .ok (.imul, 1) := by decide +kernel
theorem dX4_blocked_50 : decode cX4_blocked 50 = .ok (.iload_n 3, 1) := by decide +kernel
theorem dX4_blocked_51 : decode cX4_blocked 51 = .ok (.iadd, 1) := by decide +kernel
theorem dX4_blocked_52 : decode cX4_blocked 52 = .ok (.iaload, 1) := by decide +kernel
theorem dX4_blocked_53 : decode cX4_blocked 53 = .ok (.iconst 2, 1) := by decide +kernel
theorem dX4_blocked_54 : decode cX4_blocked 54 = .ok (.idiv, 1) := by decide +kernel
theorem dX4_blocked_55 : decode cX4_blocked 55 = .ok (.aload_n 0, 1) := by decide +kernel
theorem dX4_blocked_56 : decode cX4_blocked 56 = .ok (.getfield 44, 3) := by decide +kernel
theorem dX4_blocked_59 : decode cX4_blocked 59 = .ok (.bipush 12, 2) := by decide +kernel
theorem dX4_blocked_61 : decode cX4_blocked 61 = .ok (.iload_n 1, 1) := by decide +kernel
theorem dX4_blocked_62 : decode cX4_blocked 62 = .ok (.imul, 1) := by decide +kernel
theorem dX4_blocked_63 : decode cX4_blocked 63 = .ok (.iload_n 3, 1) := by decide +kernel
theorem dX4_blocked_64 : decode cX4_blocked 64 = .ok (.iadd, 1) := by decide +kernel
theorem dX4_blocked_65 : decode cX4_blocked 65 = .ok (.iaload, 1) := by decide +kernel
theorem dX4_blocked_66 : decode cX4_blocked 66 = .ok (.iconst 2, 1) := by decide +kernel
theorem dX4_blocked_67 : decode cX4_blocked 67 = .ok (.irem, 1) := by decide +kernel
theorem dX4_blocked_68 : decode cX4_blocked 68 = .ok (.iconst 1, 1) := by decide +kernel
theorem dX4_blocked_69 : decode cX4_blocked 69 = .ok (.iadd, 1) := by decide +kernel
theorem dX4_blocked_70 : decode cX4_blocked 70 = .ok (.aload_n 0, 1) := by decide +kernel
theorem dX4_blocked_71 : decode cX4_blocked 71 = .ok (.getfield 72, 3) := by decide +kernel
theorem dX4_blocked_74 : decode cX4_blocked 74 = .ok (.invokevirtual 75, 3) := by decide +kernel
theorem dX4_blocked_77 : decode cX4_blocked 77 = .ok (.ifCond .eq 7, 3) := by decide +kernel
theorem dX4_blocked_80 : decode cX4_blocked 80 = .ok (.iconst 1, 1) := by decide +kernel
theorem dX4_blocked_81 : decode cX4_blocked 81 = .ok (.goto 4, 3) := by decide +kernel
theorem dX4_blocked_84 : decode cX4_blocked 84 = .ok (.iconst 0, 1) := by decide +kernel
theorem dX4_blocked_85 : decode cX4_blocked 85 = .ok (.iadd, 1) := by decide +kernel
theorem dX4_blocked_86 : decode cX4_blocked 86 = .ok (.istore_n 2, 1) := by decide +kernel
theorem dX4_blocked_87 : decode cX4_blocked 87 = .ok (.iinc 3 1, 3) := by decide +kernel
theorem dX4_blocked_90 : decode cX4_blocked 90 = .ok (.goto (-60), 3) := by decide +kernel
theorem dX4_blocked_93 : decode cX4_blocked 93 = .ok (.iload_n 2, 1) := by decide +kernel
theorem dX4_blocked_94 : decode cX4_blocked 94 = .ok (.ireturn, 1) := by decide +kernel
theorem dJ9_floorMod_0 : decode cJ9_floorMod 0 = .ok (.iload_n 0, 1) := by decide +kernel
theorem dJ9_floorMod_1 : decode cJ9_floorMod 1 = .ok (.iload_n 1, 1) := by decide +kernel
theorem dJ9_floorMod_2 : decode cJ9_floorMod 2 = .ok (.irem, 1) := by decide +kernel
theorem dJ9_floorMod_3 : decode cJ9_floorMod 3 = .ok (.istore_n 2, 1) := by decide +kernel
theorem dJ9_floorMod_4 : decode cJ9_floorMod 4 = .ok (.iload_n 0, 1) := by decide +kernel
theorem dJ9_floorMod_5 : decode cJ9_floorMod 5 = .ok (.iload_n 1, 1) := by decide +kernel
theorem dJ9_floorMod_6 : decode cJ9_floorMod 6 = .ok (.ixor, 1) := by decide +kernel
theorem dJ9_floorMod_7 : decode cJ9_floorMod 7 = .ok (.ifCond .ge 11, 3) := by decide +kernel
theorem dJ9_floorMod_10 : decode cJ9_floorMod 10 = .ok (.iload_n 2, 1) := by decide +kernel
theorem dJ9_floorMod_11 : decode cJ9_floorMod 11 = .ok (.ifCond .eq 7, 3) := by decide +kernel
theorem dJ9_floorMod_14 : decode cJ9_floorMod 14 = .ok (.iload_n 2, 1) := by decide +kernel
theorem dJ9_floorMod_15 : decode cJ9_floorMod 15 = .ok (.iload_n 1, 1) := by decide +kernel
theorem dJ9_floorMod_16 : decode cJ9_floorMod 16 = .ok (.iadd, 1) := by decide +kernel
theorem dJ9_floorMod_17 : decode cJ9_floorMod 17 = .ok (.ireturn, 1) := by decide +kernel
theorem dJ9_floorMod_18 : decode cJ9_floorMod 18 = .ok (.iload_n 2, 1) := by decide +kernel
theorem dJ9_floorMod_19 : decode cJ9_floorMod 19 = .ok (.ireturn, 1) := by decide +kernel
