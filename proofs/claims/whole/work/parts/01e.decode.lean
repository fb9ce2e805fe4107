theorem dX7_receive_71 : decode cX7_receive 71 = .ok (.invokevirtual 219, 3) := by decide +kernel
theorem dX7_receive_74 : decode cX7_receive 74 = .ok (.iload_n 3, 1) := by decide +kernel
theorem dX7_receive_75 : decode cX7_receive 75 = .ok (.if_icmp .ne 36, 3) := by decide +kernel
theorem dX7_receive_78 : decode cX7_receive 78 = .ok (.aload_n 0, 1) := by decide +kernel
theorem dX7_receive_79 : decode cX7_receive 79 = .ok (.iload_n 1, 1) := by decide +kernel
theorem dX7_receive_80 : decode cX7_receive 80 = .ok (.iload_n 2, 1) := by decide +kernel
theorem dX7_receive_81 : decode cX7_receive 81 = .ok (.aload_n 0, 1) := by decide +kernel
theorem dX7_receive_82 : decode cX7_receive 82 = .ok (.getfield 19, 3) := by decide +kernel
theorem dX7_receive_85 : decode cX7_receive 85 = .ok (.iload 4, 2) := by decide +kernel
theorem dX7_receive_87 : decode cX7_receive 87 = .ok (.iconst 0, 1) := by decide +kernel
theorem dX7_receive_88 : decode cX7_receive 88 = .ok (.iadd, 1) := by decide +kernel
theorem dX7_receive_89 : decode cX7_receive 89 = .ok (.iaload, 1) := by decide +kernel
theorem dX7_receive_90 : decode cX7_receive 90 = .ok (.aload_n 0, 1) := by decide +kernel
theorem dX7_receive_91 : decode cX7_receive 91 = .ok (.getfield 19, 3) := by decide +kernel
theorem dX7_receive_94 : decode cX7_receive 94 = .ok (.iload 4, 2) := by decide +kernel
theorem dX7_receive_96 : decode cX7_receive 96 = .ok (.iconst 1, 1) := by decide +kernel
theorem dX7_receive_97 : decode cX7_receive 97 = .ok (.iadd, 1) := by decide +kernel
theorem dX7_receive_98 : decode cX7_receive 98 = .ok (.iaload, 1) := by decide +kernel
theorem dX7_receive_99 : decode cX7_receive 99 = .ok (.aload_n 0, 1) := by decide +kernel
theorem dX7_receive_100 : decode cX7_receive 100 = .ok (.getfield 19, 3) := by decide +kernel
theorem dX7_receive_103 : decode cX7_receive 103 = .ok (.iload 4, 2) := by decide +kernel
theorem dX7_receive_105 : decode cX7_receive 105 = .ok (.iconst 2, 1) := by decide +kernel
theorem dX7_receive_106 : decode cX7_receive 106 = .ok (.iadd, 1) := by decide +kernel
theorem dX7_receive_107 : decode cX7_receive 107 = .ok (.iaload, 1) := by decide +kernel
theorem dX7_receive_108 : decode cX7_receive 108 = .ok (.invokevirtual 94, 3) := by decide +kernel
theorem dX7_receive_111 : decode cX7_receive 111 = .ok (.iinc 5 1, 3) := by decide +kernel
theorem dX7_receive_114 : decode cX7_receive 114 = .ok (.goto (-92), 3) := by decide +kernel
theorem dX7_receive_117 : decode cX7_receive 117 = .ok (.iinc 3 1, 3) := by decide +kernel
theorem dX7_receive_120 : decode cX7_receive 120 = .ok (.goto (-118), 3) := by decide +kernel
theorem dX7_receive_123 : decode cX7_receive 123 = .ok (.return_, 1) := by decide +kernel
theorem dX7_round_0 : decode cX7_round 0 = .ok (.aload_n 0, 1) := by decide +kernel
theorem dX7_round_1 : decode cX7_round 1 = .ok (.aload_n 0, 1) := by decide +kernel
theorem dX7_round_2 : decode cX7_round 2 = .ok (.getfield 19, 3) := by decide +kernel
theorem dX7_round_5 : decode cX7_round 5 = .ok (.aload_n 0, 1) := by decide +kernel
theorem dX7_round_6 : decode cX7_round 6 = .ok (.getfield 7, 3) := by decide +kernel
theorem dX7_round_9 : decode cX7_round 9 = .ok (.invokevirtual 51, 3) := by decide +kernel
theorem dX7_round_12 : decode cX7_round 12 = .ok (.iconst 0, 1) := by decide +kernel
theorem dX7_round_13 : decode cX7_round 13 = .ok (.istore_n 1, 1) := by decide +kernel
theorem dX7_round_14 : decode cX7_round 14 = .ok (.iload_n 1, 1) := by decide +kernel
theorem dX7_round_15 : decode cX7_round 15 = .ok (.aload_n 0, 1) := by decide +kernel
theorem dX7_round_16 : decode cX7_round 16 = .ok (.getfield 7, 3) := by decide +kernel
theorem dX7_round_19 : decode cX7_round 19 = .ok (.iconst 1, 1) := by decide +kernel
theorem dX7_round_20 : decode cX7_round 20 = .ok (.iaload, 1) := by decide +kernel
theorem dX7_round_21 : decode cX7_round 21 = .ok (.if_icmp .ge 52, 3) := by decide +kernel
theorem dX7_round_24 : decode cX7_round 24 = .ok (.aload_n 0, 1) := by decide +kernel
theorem dX7_round_25 : decode cX7_round 25 = .ok (.getfield 7, 3) := by decide +kernel
theorem dX7_round_28 : decode cX7_round 28 = .ok (.iconst 3, 1) := by decide +kernel
theorem dX7_round_29 : decode cX7_round 29 = .ok (.dup2, 1) := by decide +kernel
theorem dX7_round_30 : decode cX7_round 30 = .ok (.iaload, 1) := by decide +kernel
theorem dX7_round_31 : decode cX7_round 31 = .ok (.aload_n 0, 1) := by decide +kernel
theorem dX7_round_32 : decode cX7_round 32 = .ok (.iload_n 1, 1) := by decide +kernel
theorem dX7_round_33 : decode cX7_round 33 = .ok (.iconst 3, 1) := by decide +kernel
theorem dX7_round_34 : decode cX7_round 34 = .ok (.invokevirtual 62, 3) := by decide +kernel
theorem dX7_round_37 : decode cX7_round 37 = .ok (.ifCond .ne 7, 3) := by decide +kernel
theorem dX7_round_40 : decode cX7_round 40 = .ok (.iconst 0, 1) := by decide +kernel
theorem dX7_round_41 : decode cX7_round 41 = .ok (.goto 24, 3) := by decide +kernel
theorem dX7_round_44 : decode cX7_round 44 = .ok (.aload_n 0, 1) := by decide +kernel
theorem dX7_round_45 : decode cX7_round 45 = .ok (.aload_n 0, 1) := by decide +kernel
theorem dX7_round_46 : decode cX7_round 46 = .ok (.iload_n 1, 1) := by decide +kernel
theorem dX7_round_47 : decode cX7_round 47 = .ok (.iconst 0, 1) := by decide +kernel
theorem dX7_round_48 : decode cX7_round 48 = .ok (.invokevirtual 62, 3) := by decide +kernel
theorem dX7_round_51 : decode cX7_round 51 = .ok (.invokevirtual 216, 3) := by decide +kernel
theorem dX7_round_54 : decode cX7_round 54 = .ok (.aload_n 0, 1) := by decide +kernel
theorem dX7_round_55 : decode cX7_round 55 = .ok (.aload_n 0, 1) := by decide +kernel
theorem dX7_round_56 : decode cX7_round 56 = .ok (.iload_n 1, 1) := by decide +kernel
theorem dX7_round_57 : decode cX7_round 57 = .ok (.iconst 1, 1) := by decide +kernel
theorem dX7_round_58 : decode cX7_round 58 = .ok (.invokevirtual 62, 3) := by decide +kernel
theorem dX7_round_61 : decode cX7_round 61 = .ok (.invokevirtual 216, 3) := by decide +kernel
theorem dX7_round_64 : decode cX7_round 64 = .ok (.iadd, 1) := by decide +kernel
theorem dX7_round_65 : decode cX7_round 65 = .ok (.iadd, 1) := by decide +kernel
theorem dX7_round_66 : decode cX7_round 66 = .ok (.iastore, 1) := by decide +kernel
theorem dX7_round_67 : decode cX7_round 67 = .ok (.iinc 1 1, 3) := by decide +kernel
theorem dX7_round_70 : decode cX7_round 70 = .ok (.goto (-56), 3) := by decide +kernel
theorem dX7_round_73 : decode cX7_round 73 = .ok (.iconst 0, 1) := by decide +kernel
theorem dX7_round_74 : decode cX7_round 74 = .ok (.istore_n 1, 1) := by decide +kernel
theorem dX7_round_75 : decode cX7_round 75 = .ok (.iload_n 1, 1) := by decide +kernel
theorem dX7_round_76 : decode cX7_round 76 = .ok (.aload_n 0, 1) := by decide +kernel
theorem dX7_round_77 : decode cX7_round 77 = .ok (.getfield 7, 3) := by decide +kernel
theorem dX7_round_80 : decode cX7_round 80 = .ok (.iconst 0, 1) := by decide +kernel
theorem dX7_round_81 : decode cX7_round 81 = .ok (.iaload, 1) := by decide +kernel
theorem dX7_round_82 : decode cX7_round 82 = .ok (.if_icmp .ge 36, 3) := by decide +kernel
theorem dX7_round_85 : decode cX7_round 85 = .ok (.iconst 0, 1) := by decide +kernel
theorem dX7_round_86 : decode cX7_round 86 = .ok (.istore_n 2, 1) := by decide +kernel
theorem dX7_round_87 : decode cX7_round 87 = .ok (.iload_n 2, 1) := by decide +kernel
theorem dX7_round_88 : decode cX7_round 88 = .ok (.bipush 35, 2) := by decide +kernel
theorem dX7_round_90 : decode cX7_round 90 = .ok (.if_icmp .ge 22, 3) := by decide +kernel
theorem dX7_round_93 : decode cX7_round 93 = .ok (.aload_n 0, 1) := by decide +kernel
theorem dX7_round_94 : decode cX7_round 94 = .ok (.getfield 7, 3) := by decide +kernel
theorem dX7_round_97 : decode cX7_round 97 = .ok (.iload_n 1, 1) := by decide +kernel
theorem dX7_round_98 : decode cX7_round 98 = .ok (.iload_n 2, 1) := by decide +kernel
theorem dX7_round_99 : decode cX7_round 99 = .ok (.invokestatic 70, 3) := by decide +kernel
theorem dX7_round_102 : decode cX7_round 102 = .ok (.iconst 3, 1) := by decide +kernel
theorem dX7_round_103 : decode cX7_round 103 = .ok (.iadd, 1) := by decide +kernel
theorem dX7_round_104 : decode cX7_round 104 = .ok (.iconst 0, 1) := by decide +kernel
theorem dX7_round_105 : decode cX7_round 105 = .ok (.iastore, 1) := by decide +kernel
theorem dX7_round_106 : decode cX7_round 106 = .ok (.iinc 2 1, 3) := by decide +kernel
theorem dX7_round_109 : decode cX7_round 109 = .ok (.goto (-22), 3) := by decide +kernel
theorem dX7_round_112 : decode cX7_round 112 = .ok (.iinc 1 1, 3) := by decide +kernel
theorem dX7_round_115 : decode cX7_round 115 = .ok (.goto (-40), 3) := by decide +kernel
theorem dX7_round_118 : decode cX7_round 118 = .ok (.iconst 0, 1) := by decide +kernel
theorem dX7_round_119 : decode cX7_round 119 = .ok (.istore_n 1, 1) := by decide +kernel
theorem dX7_round_120 : decode cX7_round 120 = .ok (.iload_n 1, 1) := by decide +kernel
theorem dX7_round_121 : decode cX7_round 121 = .ok (.aload_n 0, 1) := by decide +kernel
theorem dX7_round_122 : decode cX7_round 122 = .ok (.getfield 7, 3) := by decide +kernel
theorem dX7_round_125 : decode cX7_round 125 = .ok (.iconst 0, 1) := by decide +kernel
theorem dX7_round_126 : decode cX7_round 126 = .ok (.iaload, 1) := by decide +kernel
theorem dX7_round_127 : decode cX7_round 127 = .ok (.if_icmp .ge 29, 3) := by decide +kernel
theorem dX7_round_130 : decode cX7_round 130 = .ok (.iconst 0, 1) := by decide +kernel
theorem dX7_round_131 : decode cX7_round 131 = .ok (.istore_n 2, 1) := by decide +kernel
theorem dX7_round_132 : decode cX7_round 132 = .ok (.iload_n 2, 1) := by decide +kernel
theorem dX7_round_133 : decode cX7_round 133 = .ok (.bipush 35, 2) := by decide +kernel
theorem dX7_round_135 : decode cX7_round 135 = .ok (.if_icmp .ge 15, 3) := by decide +kernel
theorem dX7_round_138 : decode cX7_round 138 = .ok (.aload_n 0, 1) := by decide +kernel
theorem dX7_round_139 : decode cX7_round 139 = .ok (.iload_n 1, 1) := by decide +kernel
theorem dX7_round_140 : decode cX7_round 140 = .ok (.iload_n 2, 1) := by decide +kernel
theorem dX7_round_141 : decode cX7_round 141 = .ok (.invokevirtual 222, 3) := by decide +kernel
theorem dX7_round_144 : decode cX7_round 144 = .ok (.iinc 2 1, 3) := by decide +kernel
theorem dX7_round_147 : decode cX7_round 147 = .ok (.goto (-15), 3) := by decide +kernel
theorem dX7_round_150 : decode cX7_round 150 = .ok (.iinc 1 1, 3) := by decide +kernel
theorem dX7_round_153 : decode cX7_round 153 = .ok (.goto (-33), 3) := by decide +kernel
theorem dX7_round_156 : decode cX7_round 156 = .ok (.return_, 1) := by decide +kernel
theorem dX7_step_0 : decode cX7_step 0 = .ok (.aload_n 0, 1) := by decide +kernel
theorem dX7_step_1 : decode cX7_step 1 = .ok (.iconst 0, 1) := by decide +kernel
theorem dX7_step_2 : decode cX7_step 2 = .ok (.putfield 40, 3) := by decide +kernel
theorem dX7_step_5 : decode cX7_step 5 = .ok (.iload_n 1, 1) := by decide +kernel
theorem dX7_step_6 : decode cX7_step 6 = .ok (.iconst 1, 1) := by decide +kernel
theorem dX7_step_7 : decode cX7_step 7 = .ok (.bipush 40, 2) := by decide +kernel
theorem dX7_step_9 : decode cX7_step 9 = .ok (.invokestatic 58, 3) := by decide +kernel
theorem dX7_step_12 : decode cX7_step 12 = .ok (.ifCond .ne 5, 3) := by decide +kernel
theorem dX7_step_15 : decode cX7_step 15 = .ok (.iconst (-1), 1) := by decide +kernel
theorem dX7_step_16 : decode cX7_step 16 = .ok (.ireturn, 1) := by decide +kernel
theorem dX7_step_17 : decode cX7_step 17 = .ok (.aload_n 0, 1) := by decide +kernel
theorem dX7_step_18 : decode cX7_step 18 = .ok (.invokevirtual 225, 3) := by decide +kernel
theorem dX7_step_21 : decode cX7_step 21 = .ok (.ifCond .eq 6, 3) := by decide +kernel
theorem dX7_step_24 : decode cX7_step 24 = .ok (.bipush (-2), 2) := by decide +kernel
theorem dX7_step_26 : decode cX7_step 26 = .ok (.ireturn, 1) := by decide +kernel
theorem dX7_step_27 : decode cX7_step 27 = .ok (.aload_n 0, 1) := by decide +kernel
theorem dX7_step_28 : decode cX7_step 28 = .ok (.invokevirtual 119, 3) := by decide +kernel
theorem dX7_step_31 : decode cX7_step 31 = .ok (.aload_n 0, 1) := by decide +kernel
theorem dX7_step_32 : decode cX7_step 32 = .ok (.getfield 7, 3) := by decide +kernel
theorem dX7_step_35 : decode cX7_step 35 = .ok (.iconst 3, 1) := by decide +kernel
theorem dX7_step_36 : decode cX7_step 36 = .ok (.iaload, 1) := by decide +kernel
theorem dX7_step_37 : decode cX7_step 37 = .ok (.istore_n 2, 1) := by decide +kernel
theorem dX7_step_38 : decode cX7_step 38 = .ok (.iconst 0, 1) := by decide +kernel
theorem dX7_step_39 : decode cX7_step 39 = .ok (.istore_n 3, 1) := by decide +kernel
theorem dX7_step_40 : decode cX7_step 40 = .ok (.iload_n 3, 1) := by decide +kernel
theorem dX7_step_41 : decode cX7_step 41 = .ok (.iload_n 1, 1) := by decide +kernel
theorem dX7_step_42 : decode cX7_step 42 = .ok (.if_icmp .ge 13, 3) := by decide +kernel
theorem dX7_step_45 : decode cX7_step 45 = .ok (.aload_n 0, 1) := by decide +kernel
theorem dX7_step_46 : decode cX7_step 46 = .ok (.invokevirtual 229, 3) := by decide +kernel
theorem dX7_step_49 : decode cX7_step 49 = .ok (.iinc 3 1, 3) := by decide +kernel
theorem dX7_step_52 : decode cX7_step 52 = .ok (.goto (-12), 3) := by decide +kernel
theorem dX7_step_55 : decode cX7_step 55 = .ok (.aload_n 0, 1) := by decide +kernel
theorem dX7_step_56 : decode cX7_step 56 = .ok (.getfield 7, 3) := by decide +kernel
theorem dX7_step_59 : decode cX7_step 59 = .ok (.iconst 3, 1) := by decide +kernel
theorem dX7_step_60 : decode cX7_step 60 = .ok (.iaload, 1) := by decide +kernel
theorem dX7_step_61 : decode cX7_step 61 = .ok (.iload_n 2, 1) := by decide +kernel
theorem dX7_step_62 : decode cX7_step 62 = .ok (.isub, 1) := by decide +kernel
theorem dX7_step_63 : decode cX7_step 63 = .ok (.ireturn, 1) := by decide +kernel
theorem dX7_settleAll_0 : decode cX7_settleAll 0 = .ok (.iconst 0, 1) := by decide +kernel
theorem dX7_settleAll_1 : decode cX7_settleAll 1 = .ok (.istore_n 1, 1) := by decide +kernel
theorem dX7_settleAll_2 : decode cX7_settleAll 2 = .ok (.aload_n 0, 1) := by decide +kernel
theorem dX7_settleAll_3 : decode cX7_settleAll 3 = .ok (.invokevirtual 225, 3) := by decide +kernel
theorem dX7_settleAll_6 : decode cX7_settleAll 6 = .ok (.ifCond .ne 13, 3) := by decide +kernel
theorem dX7_settleAll_9 : decode cX7_settleAll 9 = .ok (.aload_n 0, 1) := by decide +kernel
theorem dX7_settleAll_10 : decode cX7_settleAll 10 = .ok (.invokevirtual 229, 3) := by decide +kernel
theorem dX7_settleAll_13 : decode cX7_settleAll 13 = .ok (.iinc 1 1, 3) := by decide +kernel
theorem dX7_settleAll_16 : decode cX7_settleAll 16 = .ok (.goto (-14), 3) := by decide +kernel
theorem dX7_settleAll_19 : decode cX7_settleAll 19 = .ok (.iload_n 1, 1) := by decide +kernel
theorem dX7_settleAll_20 : decode cX7_settleAll 20 = .ok (.ireturn, 1) := by decide +kernel
theorem dX7_settle_0 : decode cX7_settle 0 = .ok (.aload_n 0, 1) := by decide +kernel
theorem dX7_settle_1 : decode cX7_settle 1 = .ok (.iconst 0, 1) := by decide +kernel
theorem dX7_settle_2 : decode cX7_settle 2 = .ok (.putfield 40, 3) := by decide +kernel
theorem dX7_settle_5 : decode cX7_settle 5 = .ok (.aload_n 0, 1) := by decide +kernel
theorem dX7_settle_6 : decode cX7_settle 6 = .ok (.invokevirtual 225, 3) := by decide +kernel
theorem dX7_settle_9 : decode cX7_settle 9 = .ok (.ifCond .eq 6, 3) := by decide +kernel
theorem dX7_settle_12 : decode cX7_settle 12 = .ok (.bipush (-2), 2) := by decide +kernel
theorem dX7_settle_14 : decode cX7_settle 14 = .ok (.ireturn, 1) := by decide +kernel
theorem dX7_settle_15 : decode cX7_settle 15 = .ok (.aload_n 0, 1) := by decide +kernel
theorem dX7_settle_16 : decode cX7_settle 16 = .ok (.invokevirtual 119, 3) := by decide +kernel
theorem dX7_settle_19 : decode cX7_settle 19 = .ok (.aload_n 0, 1) := by decide +kernel
theorem dX7_settle_20 : decode cX7_settle 20 = .ok (.invokevirtual 232, 3) := by decide +kernel
theorem dX7_settle_23 : decode cX7_settle 23 = .ok (.ireturn, 1) := by decide +kernel
theorem dX7_roundsToQuiet_0 : decode cX7_roundsToQuiet 0 = .ok (.aload_n 0, 1) := by decide +kernel
theorem dX7_roundsToQuiet_1 : decode cX7_roundsToQuiet 1 = .ok (.iconst 0, 1) := by decide +kernel
theorem dX7_roundsToQuiet_2 : decode cX7_roundsToQuiet 2 = .ok (.putfield 40, 3) := by decide +kernel
theorem dX7_roundsToQuiet_5 : decode cX7_roundsToQuiet 5 = .ok (.aload_n 0, 1) := by decide +kernel
theorem dX7_roundsToQuiet_6 : decode cX7_roundsToQuiet 6 = .ok (.aload_n 0, 1) := by decide +kernel
theorem dX7_roundsToQuiet_7 : decode cX7_roundsToQuiet 7 = .ok (.getfield 16, 3) := by decide +kernel
theorem dX7_roundsToQuiet_10 : decode cX7_roundsToQuiet 10 = .ok (.aload_n 0, 1) := by decide +kernel
theorem dX7_roundsToQuiet_11 : decode cX7_roundsToQuiet 11 = .ok (.getfield 7, 3) := by decide +kernel
theorem dX7_roundsToQuiet_14 : decode cX7_roundsToQuiet 14 = .ok (.invokevirtual 51, 3) := by decide +kernel
theorem dX7_roundsToQuiet_17 : decode cX7_roundsToQuiet 17 = .ok (.aload_n 0, 1) := by decide +kernel
theorem dX7_roundsToQuiet_18 : decode cX7_roundsToQuiet 18 = .ok (.invokevirtual 232, 3) := by decide +kernel
theorem dX7_roundsToQuiet_21 : decode cX7_roundsToQuiet 21 = .ok (.istore_n 1, 1) := by decide +kernel
theorem dX7_roundsToQuiet_22 : decode cX7_roundsToQuiet 22 = .ok (.aload_n 0, 1) := by decide +kernel
theorem dX7_roundsToQuiet_23 : decode cX7_roundsToQuiet 23 = .ok (.aload_n 0, 1) := by decide +kernel
theorem dX7_roundsToQuiet_24 : decode cX7_roundsToQuiet 24 = .ok (.getfield 7, 3) := by decide +kernel
theorem dX7_roundsToQuiet_27 : decode cX7_roundsToQuiet 27 = .ok (.aload_n 0, 1) := by decide +kernel
theorem dX7_roundsToQuiet_28 : decode cX7_roundsToQuiet 28 = .ok (.getfield 16, 3) := by decide +kernel
theorem dX7_roundsToQuiet_31 : decode cX7_roundsToQuiet 31 = .ok (.invokevirtual 51, 3) := by decide +kernel
theorem dX7_roundsToQuiet_34 : decode cX7_roundsToQuiet 34 = .ok (.iload_n 1, 1) := by decide +kernel
theorem dX7_roundsToQuiet_35 : decode cX7_roundsToQuiet 35 = .ok (.ireturn, 1) := by decide +kernel
theorem dX7_undo_0 : decode cX7_undo 0 = .ok (.aload_n 0, 1) := by decide +kernel
theorem dX7_undo_1 : decode cX7_undo 1 = .ok (.iconst 0, 1) := by decide +kernel
theorem dX7_undo_2 : decode cX7_undo 2 = .ok (.putfield 40, 3) := by decide +kernel
theorem dX7_undo_5 : decode cX7_undo 5 = .ok (.aload_n 0, 1) := by decide +kernel
theorem dX7_undo_6 : decode cX7_undo 6 = .ok (.getfield 44, 3) := by decide +kernel
theorem dX7_undo_9 : decode cX7_undo 9 = .ok (.ifCond .ne 6, 3) := by decide +kernel
theorem dX7_undo_12 : decode cX7_undo 12 = .ok (.bipush (-2), 2) := by decide +kernel
theorem dX7_undo_14 : decode cX7_undo 14 = .ok (.ireturn, 1) := by decide +kernel
theorem dX7_undo_15 : decode cX7_undo 15 = .ok (.aload_n 0, 1) := by decide +kernel
theorem dX7_undo_16 : decode cX7_undo 16 = .ok (.dup, 1) := by decide +kernel
theorem dX7_undo_17 : decode cX7_undo 17 = .ok (.getfield 44, 3) := by decide +kernel
theorem dX7_undo_20 : decode cX7_undo 20 = .ok (.iconst 1, 1) := by decide +kernel
theorem dX7_undo_21 : decode cX7_undo 21 = .ok (.isub, 1) := by decide +kernel
theorem dX7_undo_22 : decode cX7_undo 22 = .ok (.putfield 44, 3) := by decide +kernel
theorem dX7_undo_25 : decode cX7_undo 25 = .ok (.iconst 0, 1) := by decide +kernel
theorem dX7_undo_26 : decode cX7_undo 26 = .ok (.istore_n 1, 1) := by decide +kernel
theorem dX7_undo_27 : decode cX7_undo 27 = .ok (.iload_n 1, 1) := by decide +kernel
theorem dX7_undo_28 : decode cX7_undo 28 = .ok (.sipush 1557, 3) := by decide +kernel
theorem dX7_undo_31 : decode cX7_undo 31 = .ok (.if_icmp .ge 30, 3) := by decide +kernel
theorem dX7_undo_34 : decode cX7_undo 34 = .ok (.aload_n 0, 1) := by decide +kernel
theorem dX7_undo_35 : decode cX7_undo 35 = .ok (.getfield 7, 3) := by decide +kernel
theorem dX7_undo_38 : decode cX7_undo 38 = .ok (.iload_n 1, 1) := by decide +kernel
theorem dX7_undo_39 : decode cX7_undo 39 = .ok (.aload_n 0, 1) := by decide +kernel
theorem dX7_undo_40 : decode cX7_undo 40 = .ok (.getfield 13, 3) := by decide +kernel
theorem dX7_undo_43 : decode cX7_undo 43 = .ok (.sipush 1557, 3) := by decide +kernel
theorem dX7_undo_46 : decode cX7_undo 46 = .ok (.aload_n 0, 1) := by decide +kernel
theorem dX7_undo_47 : decode cX7_undo 47 = .ok (.getfield 44, 3) := by decide +kernel
theorem dX7_undo_50 : decode cX7_undo 50 = .ok (.imul, 1) := by decide +kernel
theorem dX7_undo_51 : decode cX7_undo 51 = .ok (.iload_n 1, 1) := by decide +kernel
theorem dX7_undo_52 : decode cX7_undo 52 = .ok (.iadd, 1) := by decide +kernel
theorem dX7_undo_53 : decode cX7_undo 53 = .ok (.iaload, 1) := by decide +kernel
theorem dX7_undo_54 : decode cX7_undo 54 = .ok (.iastore, 1) := by decide +kernel
theorem dX7_undo_55 : decode cX7_undo 55 = .ok (.iinc 1 1, 3) := by decide +kernel
theorem dX7_undo_58 : decode cX7_undo 58 = .ok (.goto (-31), 3) := by decide +kernel
theorem dX7_undo_61 : decode cX7_undo 61 = .ok (.aload_n 0, 1) := by decide +kernel
theorem dX7_undo_62 : decode cX7_undo 62 = .ok (.iconst 0, 1) := by decide +kernel
theorem dX7_undo_63 : decode cX7_undo 63 = .ok (.putfield 47, 3) := by decide +kernel
theorem dX7_undo_66 : decode cX7_undo 66 = .ok (.aload_n 0, 1) := by decide +kernel
theorem dX7_undo_67 : decode cX7_undo 67 = .ok (.getfield 44, 3) := by decide +kernel
theorem dX7_undo_70 : decode cX7_undo 70 = .ok (.ireturn, 1) := by decide +kernel
theorem dX7_count_0 : decode cX7_count 0 = .ok (.aload_n 0, 1) := by decide +kernel
theorem dX7_count_1 : decode cX7_count 1 = .ok (.iconst 0, 1) := by decide +kernel
theorem dX7_count_2 : decode cX7_count 2 = .ok (.putfield 40, 3) := by decide +kernel
theorem dX7_count_5 : decode cX7_count 5 = .ok (.iconst 0, 1) := by decide +kernel
theorem dX7_count_6 : decode cX7_count 6 = .ok (.istore_n 2, 1) := by decide +kernel
theorem dX7_count_7 : decode cX7_count 7 = .ok (.iload_n 1, 1) := by decide +kernel
theorem dX7_count_8 : decode cX7_count 8 = .ok (.tableswitch 110 0 6 #[44, 51, 58, 65, 93, 100, 105], 44) := by decide +kernel
theorem dX7_count_52 : decode cX7_count 52 = .ok (.aload_n 0, 1) := by decide +kernel
theorem dX7_count_53 : decode cX7_count 53 = .ok (.getfield 7, 3) := by decide +kernel
theorem dX7_count_56 : decode cX7_count 56 = .ok (.iconst 0, 1) := by decide +kernel
theorem dX7_count_57 : decode cX7_count 57 = .ok (.iaload, 1) := by decide +kernel
theorem dX7_count_58 : decode cX7_count 58 = .ok (.ireturn, 1) := by decide +kernel
theorem dX7_count_59 : decode cX7_count 59 = .ok (.aload_n 0, 1) := by decide +kernel
theorem dX7_count_60 : decode cX7_count 60 = .ok (.getfield 7, 3) := by decide +kernel
theorem dX7_count_63 : decode cX7_count 63 = .ok (.iconst 1, 1) := by decide +kernel
theorem dX7_count_64 : decode cX7_count 64 = .ok (.iaload, 1) := by decide +kernel
theorem dX7_count_65 : decode cX7_count 65 = .ok (.ireturn, 1) := by decide +kernel
theorem dX7_count_66 : decode cX7_count 66 = .ok (.aload_n 0, 1) := by decide +kernel
theorem dX7_count_67 : decode cX7_count 67 = .ok (.getfield 7, 3) := by decide +kernel
theorem dX7_count_70 : decode cX7_count 70 = .ok (.iconst 2, 1) := by decide +kernel
theorem dX7_count_71 : decode cX7_count 71 = .ok (.iaload, 1) := by decide +kernel
theorem dX7_count_72 : decode cX7_count 72 = .ok (.ireturn, 1) := by decide +kernel
theorem dX7_count_73 : decode cX7_count 73 = .ok (.iconst 0, 1) := by decide +kernel
theorem dX7_count_74 : decode cX7_count 74 = .ok (.istore_n 3, 1) := by decide +kernel
theorem dX7_count_75 : decode cX7_count 75 = .ok (.iload_n 3, 1) := by decide +kernel
theorem dX7_count_76 : decode cX7_count 76 = .ok (.bipush 16, 2) := by decide +kernel
theorem dX7_count_78 : decode cX7_count 78 = .ok (.if_icmp .ge 21, 3) := by decide +kernel
theorem dX7_count_81 : decode cX7_count 81 = .ok (.iload_n 2, 1) := by decide +kernel
theorem dX7_count_82 : decode cX7_count 82 = .ok (.aload_n 0, 1) := by decide +kernel
theorem dX7_count_83 : decode cX7_count 83 = .ok (.getfield 7, 3) := by decide +kernel
theorem dX7_count_86 : decode cX7_count 86 = .ok (.bipush 14, 2) := by decide +kernel
theorem dX7_count_88 : decode cX7_count 88 = .ok (.iload_n 3, 1) := by decide +kernel
theorem dX7_count_89 : decode cX7_count 89 = .ok (.iadd, 1) := by decide +kernel
theorem dX7_count_90 : decode cX7_count 90 = .ok (.iaload, 1) := by decide +kernel
theorem dX7_count_91 : decode cX7_count 91 = .ok (.iadd, 1) := by decide +kernel
theorem dX7_count_92 : decode cX7_count 92 = .ok (.istore_n 2, 1) := by decide +kernel
theorem dX7_count_93 : decode cX7_count 93 = .ok (.iinc 3 1, 3) := by decide +kernel
theorem dX7_count_96 : decode cX7_count 96 = .ok (.goto (-21), 3) := by decide +kernel
theorem dX7_count_99 : decode cX7_count 99 = .ok (.iload_n 2, 1) := by decide +kernel
theorem dX7_count_100 : decode cX7_count 100 = .ok (.ireturn, 1) := by decide +kernel
theorem dX7_count_101 : decode cX7_count 101 = .ok (.aload_n 0, 1) := by decide +kernel
theorem dX7_count_102 : decode cX7_count 102 = .ok (.getfield 7, 3) := by decide +kernel
theorem dX7_count_105 : decode cX7_count 105 = .ok (.iconst 3, 1) := by decide +kernel
theorem dX7_count_106 : decode cX7_count 106 = .ok (.iaload, 1) := by decide +kernel
theorem dX7_count_107 : decode cX7_count 107 = .ok (.ireturn, 1) := by decide +kernel
theorem dX7_count_108 : decode cX7_count 108 = .ok (.aload_n 0, 1) := by decide +kernel
theorem dX7_count_109 : decode cX7_count 109 = .ok (.getfield 44, 3) := by decide +kernel
theorem dX7_count_112 : decode cX7_count 112 = .ok (.ireturn, 1) := by decide +kernel
theorem dX7_count_113 : decode cX7_count 113 = .ok (.aload_n 0, 1) := by decide +kernel
theorem dX7_count_114 : decode cX7_count 114 = .ok (.getfield 151, 3) := by decide +kernel
theorem dX7_count_117 : decode cX7_count 117 = .ok (.ireturn, 1) := by decide +kernel
theorem dX7_count_118 : decode cX7_count 118 = .ok (.iconst (-1), 1) := by decide +kernel
theorem dX7_count_119 : decode cX7_count 119 = .ok (.ireturn, 1) := by decide +kernel
theorem dX7_isEntitled_0 : decode cX7_isEntitled 0 = .ok (.aload_n 0, 1) := by decide +kernel
theorem dX7_isEntitled_1 : decode cX7_isEntitled 1 = .ok (.iload_n 2, 1) := by decide +kernel
theorem dX7_isEntitled_2 : decode cX7_isEntitled 2 = .ok (.iconst 4, 1) := by decide +kernel
theorem dX7_isEntitled_3 : decode cX7_isEntitled 3 = .ok (.invokevirtual 62, 3) := by decide +kernel
theorem dX7_isEntitled_6 : decode cX7_isEntitled 6 = .ok (.ifCond .eq 33, 3) := by decide +kernel
theorem dX7_isEntitled_9 : decode cX7_isEntitled 9 = .ok (.aload_n 0, 1) := by decide +kernel
theorem dX7_isEntitled_10 : decode cX7_isEntitled 10 = .ok (.iload_n 2, 1) := by decide +kernel
theorem dX7_isEntitled_11 : decode cX7_isEntitled 11 = .ok (.invokevirtual 81, 3) := by decide +kernel
theorem dX7_isEntitled_14 : decode cX7_isEntitled 14 = .ok (.iload_n 1, 1) := by decide +kernel
theorem dX7_isEntitled_15 : decode cX7_isEntitled 15 = .ok (.if_icmp .eq 24, 3) := by decide +kernel
theorem dX7_isEntitled_18 : decode cX7_isEntitled 18 = .ok (.aload_n 0, 1) := by decide +kernel
theorem dX7_isEntitled_19 : decode cX7_isEntitled 19 = .ok (.getfield 7, 3) := by decide +kernel
theorem dX7_isEntitled_22 : decode cX7_isEntitled 22 = .ok (.bipush 14, 2) := by decide +kernel
theorem dX7_isEntitled_24 : decode cX7_isEntitled 24 = .ok (.iconst 4, 1) := by decide +kernel
theorem dX7_isEntitled_25 : decode cX7_isEntitled 25 = .ok (.aload_n 0, 1) := by decide +kernel
theorem dX7_isEntitled_26 : decode cX7_isEntitled 26 = .ok (.iload_n 2, 1) := by decide +kernel
theorem dX7_isEntitled_27 : decode cX7_isEntitled 27 = .ok (.invokevirtual 81, 3) := by decide +kernel
theorem dX7_isEntitled_30 : decode cX7_isEntitled 30 = .ok (.imul, 1) := by decide +kernel
theorem dX7_isEntitled_31 : decode cX7_isEntitled 31 = .ok (.iadd, 1) := by decide +kernel
theorem dX7_isEntitled_32 : decode cX7_isEntitled 32 = .ok (.iload_n 1, 1) := by decide +kernel
theorem dX7_isEntitled_33 : decode cX7_isEntitled 33 = .ok (.iadd, 1) := by decide +kernel
theorem dX7_isEntitled_34 : decode cX7_isEntitled 34 = .ok (.iaload, 1) := by decide +kernel
theorem dX7_isEntitled_35 : decode cX7_isEntitled 35 = .ok (.iconst 1, 1) := by decide +kernel
theorem dX7_isEntitled_36 : decode cX7_isEntitled 36 = .ok (.if_icmp .ne 7, 3) := by decide +kernel
theorem dX7_isEntitled_39 : decode cX7_isEntitled 39 = .ok (.iconst 1, 1) := by decide +kernel
theorem dX7_isEntitled_40 : decode cX7_isEntitled 40 = .ok (.goto 4, 3) := by decide +kernel
theorem dX7_isEntitled_43 : decode cX7_isEntitled 43 = .ok (.iconst 0, 1) := by decide +kernel
theorem dX7_isEntitled_44 : decode cX7_isEntitled 44 = .ok (.ireturn, 1) := by decide +kernel
theorem dX7_isItem_0 : decode cX7_isItem 0 = .ok (.iload_n 1, 1) := by decide +kernel
theorem dX7_isItem_1 : decode cX7_isItem 1 = .ok (.iconst 0, 1) := by decide +kernel
theorem dX7_isItem_2 : decode cX7_isItem 2 = .ok (.bipush 15, 2) := by decide +kernel
theorem dX7_isItem_4 : decode cX7_isItem 4 = .ok (.invokestatic 58, 3) := by decide +kernel
theorem dX7_isItem_7 : decode cX7_isItem 7 = .ok (.ifCond .eq 12, 3) := by decide +kernel
theorem dX7_isItem_10 : decode cX7_isItem 10 = .ok (.iload_n 1, 1) := by decide +kernel
theorem dX7_isItem_11 : decode cX7_isItem 11 = .ok (.iconst 4, 1) := by decide +kernel
theorem dX7_isItem_12 : decode cX7_isItem 12 = .ok (.idiv, 1) := by decide +kernel
theorem dX7_isItem_13 : decode cX7_isItem 13 = .ok (.iload_n 1, 1) := by decide +kernel
theorem dX7_isItem_14 : decode cX7_isItem 14 = .ok (.iconst 4, 1) := by decide +kernel
theorem dX7_isItem_15 : decode cX7_isItem 15 = .ok (.irem, 1) := by decide +kernel
theorem dX7_isItem_16 : decode cX7_isItem 16 = .ok (.if_icmp .ne 41, 3) := by decide +kernel
theorem dX7_isItem_19 : decode cX7_isItem 19 = .ok (.iload_n 1, 1) := by decide +kernel
theorem dX7_isItem_20 : decode cX7_isItem 20 = .ok (.bipush 16, 2) := by decide +kernel
theorem dX7_isItem_22 : decode cX7_isItem 22 = .ok (.if_icmp .lt 16, 3) := by decide +kernel
theorem dX7_isItem_25 : decode cX7_isItem 25 = .ok (.iload_n 1, 1) := by decide +kernel
theorem dX7_isItem_26 : decode cX7_isItem 26 = .ok (.bipush 16, 2) := by decide +kernel
theorem dX7_isItem_28 : decode cX7_isItem 28 = .ok (.aload_n 0, 1) := by decide +kernel
theorem dX7_isItem_29 : decode cX7_isItem 29 = .ok (.getfield 7, 3) := by decide +kernel
theorem dX7_isItem_32 : decode cX7_isItem 32 = .ok (.iconst 1, 1) := by decide +kernel
theorem dX7_isItem_33 : decode cX7_isItem 33 = .ok (.iaload, 1) := by decide +kernel
theorem dX7_isItem_34 : decode cX7_isItem 34 = .ok (.iadd, 1) := by decide +kernel
theorem dX7_isItem_35 : decode cX7_isItem 35 = .ok (.if_icmp .lt 22, 3) := by decide +kernel
theorem dX7_isItem_38 : decode cX7_isItem 38 = .ok (.iload_n 1, 1) := by decide +kernel
theorem dX7_isItem_39 : decode cX7_isItem 39 = .ok (.bipush 32, 2) := by decide +kernel
theorem dX7_isItem_41 : decode cX7_isItem 41 = .ok (.if_icmp .lt 20, 3) := by decide +kernel
theorem dX7_isItem_44 : decode cX7_isItem 44 = .ok (.iload_n 1, 1) := by decide +kernel
theorem dX7_isItem_45 : decode cX7_isItem 45 = .ok (.bipush 32, 2) := by decide +kernel
theorem dX7_isItem_47 : decode cX7_isItem 47 = .ok (.aload_n 0, 1) := by decide +kernel
theorem dX7_isItem_48 : decode cX7_isItem 48 = .ok (.getfield 7, 3) := by decide +kernel
theorem dX7_isItem_51 : decode cX7_isItem 51 = .ok (.iconst 2, 1) := by decide +kernel
theorem dX7_isItem_52 : decode cX7_isItem 52 = .ok (.iaload, 1) := by decide +kernel
theorem dX7_isItem_53 : decode cX7_isItem 53 = .ok (.iadd, 1) := by decide +kernel
theorem dX7_isItem_54 : decode cX7_isItem 54 = .ok (.if_icmp .ge 7, 3) := by decide +kernel
theorem dX7_isItem_57 : decode cX7_isItem 57 = .ok (.iconst 1, 1) := by decide +kernel
theorem dX7_isItem_58 : decode cX7_isItem 58 = .ok (.goto 4, 3) := by decide +kernel
theorem dX7_isItem_61 : decode cX7_isItem 61 = .ok (.iconst 0, 1) := by decide +kernel
theorem dX7_isItem_62 : decode cX7_isItem 62 = .ok (.ireturn, 1) := by decide +kernel
theorem dX7_versionOf_0 : decode cX7_versionOf 0 = .ok (.iload_n 1, 1) := by decide +kernel
theorem dX7_versionOf_1 : decode cX7_versionOf 1 = .ok (.bipush 16, 2) := by decide +kernel
theorem dX7_versionOf_3 : decode cX7_versionOf 3 = .ok (.if_icmp .ge 15, 3) := by decide +kernel
theorem dX7_versionOf_6 : decode cX7_versionOf 6 = .ok (.aload_n 0, 1) := by decide +kernel
theorem dX7_versionOf_7 : decode cX7_versionOf 7 = .ok (.getfield 7, 3) := by decide +kernel
theorem dX7_versionOf_10 : decode cX7_versionOf 10 = .ok (.bipush 30, 2) := by decide +kernel
theorem dX7_versionOf_12 : decode cX7_versionOf 12 = .ok (.iload_n 1, 1) := by decide +kernel
theorem dX7_versionOf_13 : decode cX7_versionOf 13 = .ok (.iadd, 1) := by decide +kernel
theorem dX7_versionOf_14 : decode cX7_versionOf 14 = .ok (.iaload, 1) := by decide +kernel
theorem dX7_versionOf_15 : decode cX7_versionOf 15 = .ok (.goto 30, 3) := by decide +kernel
theorem dX7_versionOf_18 : decode cX7_versionOf 18 = .ok (.iload_n 1, 1) := by decide +kernel
theorem dX7_versionOf_19 : decode cX7_versionOf 19 = .ok (.bipush 32, 2) := by decide +kernel
theorem dX7_versionOf_21 : decode cX7_versionOf 21 = .ok (.if_icmp .ge 15, 3) := by decide +kernel
theorem dX7_versionOf_24 : decode cX7_versionOf 24 = .ok (.aload_n 0, 1) := by decide +kernel
theorem dX7_versionOf_25 : decode cX7_versionOf 25 = .ok (.iload_n 1, 1) := by decide +kernel
theorem dX7_versionOf_26 : decode cX7_versionOf 26 = .ok (.bipush 16, 2) := by decide +kernel
theorem dX7_versionOf_28 : decode cX7_versionOf 28 = .ok (.isub, 1) := by decide +kernel
theorem dX7_versionOf_29 : decode cX7_versionOf 29 = .ok (.iconst 5, 1) := by decide +kernel
theorem dX7_versionOf_30 : decode cX7_versionOf 30 = .ok (.invokevirtual 62, 3) := by decide +kernel
theorem dX7_versionOf_33 : decode cX7_versionOf 33 = .ok (.goto 12, 3) := by decide +kernel
theorem dX7_versionOf_36 : decode cX7_versionOf 36 = .ok (.aload_n 0, 1) := by decide +kernel
theorem dX7_versionOf_37 : decode cX7_versionOf 37 = .ok (.iload_n 1, 1) := by decide +kernel
theorem dX7_versionOf_38 : decode cX7_versionOf 38 = .ok (.bipush 32, 2) := by decide +kernel
theorem dX7_versionOf_40 : decode cX7_versionOf 40 = .ok (.isub, 1) := by decide +kernel
theorem dX7_versionOf_41 : decode cX7_versionOf 41 = .ok (.iconst 4, 1) := by decide +kernel
theorem dX7_versionOf_42 : decode cX7_versionOf 42 = .ok (.invokevirtual 106, 3) := by decide +kernel
theorem dX7_versionOf_45 : decode cX7_versionOf 45 = .ok (.ireturn, 1) := by decide +kernel
theorem dX7_facts_0 : decode cX7_facts 0 = .ok (.iconst 0, 1) := by decide +kernel
theorem dX7_facts_1 : decode cX7_facts 1 = .ok (.istore_n 2, 1) := by decide +kernel
theorem dX7_facts_2 : decode cX7_facts 2 = .ok (.iconst 0, 1) := by decide +kernel
theorem dX7_facts_3 : decode cX7_facts 3 = .ok (.istore_n 3, 1) := by decide +kernel
theorem dX7_facts_4 : decode cX7_facts 4 = .ok (.iload_n 3, 1) := by decide +kernel
theorem dX7_facts_5 : decode cX7_facts 5 = .ok (.bipush 35, 2) := by decide +kernel
theorem dX7_facts_7 : decode cX7_facts 7 = .ok (.if_icmp .ge 27, 3) := by decide +kernel
theorem dX7_facts_10 : decode cX7_facts 10 = .ok (.iload_n 2, 1) := by decide +kernel
theorem dX7_facts_11 : decode cX7_facts 11 = .ok (.aload_n 0, 1) := by decide +kernel
theorem dX7_facts_12 : decode cX7_facts 12 = .ok (.iload_n 1, 1) := by decide +kernel
theorem dX7_facts_13 : decode cX7_facts 13 = .ok (.iload_n 3, 1) := by decide +kernel
theorem dX7_facts_14 : decode cX7_facts 14 = .ok (.iconst 0, 1) := by decide +kernel
theorem dX7_facts_15 : decode cX7_facts 15 = .ok (.invokevirtual 73, 3) := by decide +kernel
theorem dX7_facts_18 : decode cX7_facts 18 = .ok (.ifCond .le 7, 3) := by decide +kernel
theorem dX7_facts_21 : decode cX7_facts 21 = .ok (.iconst 1, 1) := by decide +kernel
theorem dX7_facts_22 : decode cX7_facts 22 = .ok (.goto 4, 3) := by decide +kernel
theorem dX7_facts_25 : decode cX7_facts 25 = .ok (.iconst 0, 1) := by decide +kernel
theorem dX7_facts_26 : decode cX7_facts 26 = .ok (.iadd, 1) := by decide +kernel
theorem dX7_facts_27 : decode cX7_facts 27 = .ok (.istore_n 2, 1) := by decide +kernel
theorem dX7_facts_28 : decode cX7_facts 28 = .ok (.iinc 3 1, 3) := by decide +kernel
theorem dX7_facts_31 : decode cX7_facts 31 = .ok (.goto (-27), 3) := by decide +kernel
theorem dX7_facts_34 : decode cX7_facts 34 = .ok (.iload_n 2, 1) := by decide +kernel
theorem dX7_facts_35 : decode cX7_facts 35 = .ok (.ireturn, 1) := by decide +kernel
theorem dX7_behind_0 : decode cX7_behind 0 = .ok (.iconst 0, 1) := by decide +kernel
theorem dX7_behind_1 : decode cX7_behind 1 = .ok (.istore_n 2, 1) := by decide +kernel
theorem dX7_behind_2 : decode cX7_behind 2 = .ok (.iconst 0, 1) := by decide +kernel
theorem dX7_behind_3 : decode cX7_behind 3 = .ok (.istore_n 3, 1) := by decide +kernel
theorem dX7_behind_4 : decode cX7_behind 4 = .ok (.iload_n 3, 1) := by decide +kernel
theorem dX7_behind_5 : decode cX7_behind 5 = .ok (.bipush 35, 2) := by decide +kernel
theorem dX7_behind_7 : decode cX7_behind 7 = .ok (.if_icmp .ge 100, 3) := by decide +kernel
theorem dX7_behind_10 : decode cX7_behind 10 = .ok (.aload_n 0, 1) := by decide +kernel
theorem dX7_behind_11 : decode cX7_behind 11 = .ok (.iload_n 3, 1) := by decide +kernel
theorem dX7_behind_12 : decode cX7_behind 12 = .ok (.invokevirtual 235, 3) := by decide +kernel
theorem dX7_behind_15 : decode cX7_behind 15 = .ok (.ifCond .eq 22, 3) := by decide +kernel
theorem dX7_behind_18 : decode cX7_behind 18 = .ok (.aload_n 0, 1) := by decide +kernel
theorem dX7_behind_19 : decode cX7_behind 19 = .ok (.iload_n 3, 1) := by decide +kernel
theorem dX7_behind_20 : decode cX7_behind 20 = .ok (.invokevirtual 238, 3) := by decide +kernel
theorem dX7_behind_23 : decode cX7_behind 23 = .ok (.aload_n 0, 1) := by decide +kernel
theorem dX7_behind_24 : decode cX7_behind 24 = .ok (.iload_n 1, 1) := by decide +kernel
theorem dX7_behind_25 : decode cX7_behind 25 = .ok (.iload_n 3, 1) := by decide +kernel
theorem dX7_behind_26 : decode cX7_behind 26 = .ok (.iconst 0, 1) := by decide +kernel
theorem dX7_behind_27 : decode cX7_behind 27 = .ok (.invokevirtual 73, 3) := by decide +kernel
theorem dX7_behind_30 : decode cX7_behind 30 = .ok (.if_icmp .le 7, 3) := by decide +kernel
theorem dX7_behind_33 : decode cX7_behind 33 = .ok (.iconst 1, 1) := by decide +kernel
theorem dX7_behind_34 : decode cX7_behind 34 = .ok (.goto 4, 3) := by decide +kernel
theorem dX7_behind_37 : decode cX7_behind 37 = .ok (.iconst 0, 1) := by decide +kernel
theorem dX7_behind_38 : decode cX7_behind 38 = .ok (.istore 4, 2) := by decide +kernel
theorem dX7_behind_40 : decode cX7_behind 40 = .ok (.iload 4, 2) := by decide +kernel
theorem dX7_behind_42 : decode cX7_behind 42 = .ok (.ifCond .eq 43, 3) := by decide +kernel
theorem dX7_behind_45 : decode cX7_behind 45 = .ok (.aload_n 0, 1) := by decide +kernel
theorem dX7_behind_46 : decode cX7_behind 46 = .ok (.iload_n 3, 1) := by decide +kernel
theorem dX7_behind_47 : decode cX7_behind 47 = .ok (.invokevirtual 77, 3) := by decide +kernel
theorem dX7_behind_50 : decode cX7_behind 50 = .ok (.ifCond .eq 31, 3) := by decide +kernel
theorem dX7_behind_53 : decode cX7_behind 53 = .ok (.aload_n 0, 1) := by decide +kernel
theorem dX7_behind_54 : decode cX7_behind 54 = .ok (.iload_n 1, 1) := by decide +kernel
theorem dX7_behind_55 : decode cX7_behind 55 = .ok (.iload_n 3, 1) := by decide +kernel
theorem dX7_behind_56 : decode cX7_behind 56 = .ok (.bipush 16, 2) := by decide +kernel
theorem dX7_behind_58 : decode cX7_behind 58 = .ok (.isub, 1) := by decide +kernel
theorem dX7_behind_59 : decode cX7_behind 59 = .ok (.invokevirtual 84, 3) := by decide +kernel
theorem dX7_behind_62 : decode cX7_behind 62 = .ok (.ifCond .ne 19, 3) := by decide +kernel
theorem dX7_behind_65 : decode cX7_behind 65 = .ok (.aload_n 0, 1) := by decide +kernel
theorem dX7_behind_66 : decode cX7_behind 66 = .ok (.aload_n 0, 1) := by decide +kernel
theorem dX7_behind_67 : decode cX7_behind 67 = .ok (.iload_n 1, 1) := by decide +kernel
theorem dX7_behind_68 : decode cX7_behind 68 = .ok (.invokevirtual 66, 3) := by decide +kernel
theorem dX7_behind_71 : decode cX7_behind 71 = .ok (.iload_n 3, 1) := by decide +kernel
theorem dX7_behind_72 : decode cX7_behind 72 = .ok (.bipush 16, 2) := by decide +kernel
theorem dX7_behind_74 : decode cX7_behind 74 = .ok (.isub, 1) := by decide +kernel
theorem dX7_behind_75 : decode cX7_behind 75 = .ok (.invokevirtual 241, 3) := by decide +kernel
theorem dX7_behind_78 : decode cX7_behind 78 = .ok (.ifCond .eq 7, 3) := by decide +kernel
theorem dX7_behind_81 : decode cX7_behind 81 = .ok (.iconst 1, 1) := by decide +kernel
theorem dX7_behind_82 : decode cX7_behind 82 = .ok (.goto 4, 3) := by decide +kernel
theorem dX7_behind_85 : decode cX7_behind 85 = .ok (.iconst 0, 1) := by decide +kernel
theorem dX7_behind_86 : decode cX7_behind 86 = .ok (.istore 5, 2) := by decide +kernel
theorem dX7_behind_88 : decode cX7_behind 88 = .ok (.iload_n 2, 1) := by decide +kernel
theorem dX7_behind_89 : decode cX7_behind 89 = .ok (.iload 5, 2) := by decide +kernel
theorem dX7_behind_91 : decode cX7_behind 91 = .ok (.ifCond .eq 7, 3) := by decide +kernel
theorem dX7_behind_94 : decode cX7_behind 94 = .ok (.iconst 1, 1) := by decide +kernel
theorem dX7_behind_95 : decode cX7_behind 95 = .ok (.goto 4, 3) := by decide +kernel
theorem dX7_behind_98 : decode cX7_behind 98 = .ok (.iconst 0, 1) := by decide +kernel
theorem dX7_behind_99 : decode cX7_behind 99 = .ok (.iadd, 1) := by decide +kernel
theorem dX7_behind_100 : decode cX7_behind 100 = .ok (.istore_n 2, 1) := by decide +kernel
theorem dX7_behind_101 : decode cX7_behind 101 = .ok (.iinc 3 1, 3) := by decide +kernel
theorem dX7_behind_104 : decode cX7_behind 104 = .ok (.goto (-100), 3) := by decide +kernel
theorem dX7_behind_107 : decode cX7_behind 107 = .ok (.iload_n 2, 1) := by decide +kernel
theorem dX7_behind_108 : decode cX7_behind 108 = .ok (.ireturn, 1) := by decide +kernel
theorem dX7_secrets_0 : decode cX7_secrets 0 = .ok (.iconst 0, 1) := by decide +kernel
theorem dX7_secrets_1 : decode cX7_secrets 1 = .ok (.istore_n 2, 1) := by decide +kernel
theorem dX7_secrets_2 : decode cX7_secrets 2 = .ok (.iconst 0, 1) := by decide +kernel
theorem dX7_secrets_3 : decode cX7_secrets 3 = .ok (.istore_n 3, 1) := by decide +kernel
theorem dX7_secrets_4 : decode cX7_secrets 4 = .ok (.iload_n 3, 1) := by decide +kernel
theorem dX7_secrets_5 : decode cX7_secrets 5 = .ok (.aload_n 0, 1) := by decide +kernel
theorem dX7_secrets_6 : decode cX7_secrets 6 = .ok (.getfield 7, 3) := by decide +kernel
theorem dX7_secrets_9 : decode cX7_secrets 9 = .ok (.iconst 1, 1) := by decide +kernel
theorem dX7_secrets_10 : decode cX7_secrets 10 = .ok (.iaload, 1) := by decide +kernel
theorem dX7_secrets_11 : decode cX7_secrets 11 = .ok (.if_icmp .ge 52, 3) := by decide +kernel
theorem dX7_secrets_14 : decode cX7_secrets 14 = .ok (.iload_n 2, 1) := by decide +kernel
theorem dX7_secrets_15 : decode cX7_secrets 15 = .ok (.aload_n 0, 1) := by decide +kernel
theorem dX7_secrets_16 : decode cX7_secrets 16 = .ok (.iload_n 1, 1) := by decide +kernel
theorem dX7_secrets_17 : decode cX7_secrets 17 = .ok (.bipush 16, 2) := by decide +kernel
theorem dX7_secrets_19 : decode cX7_secrets 19 = .ok (.iload_n 3, 1) := by decide +kernel
theorem dX7_secrets_20 : decode cX7_secrets 20 = .ok (.iadd, 1) := by decide +kernel
theorem dX7_secrets_21 : decode cX7_secrets 21 = .ok (.iconst 0, 1) := by decide +kernel
theorem dX7_secrets_22 : decode cX7_secrets 22 = .ok (.invokevirtual 73, 3) := by decide +kernel
theorem dX7_secrets_25 : decode cX7_secrets 25 = .ok (.ifCond .le 29, 3) := by decide +kernel
theorem dX7_secrets_28 : decode cX7_secrets 28 = .ok (.aload_n 0, 1) := by decide +kernel
theorem dX7_secrets_29 : decode cX7_secrets 29 = .ok (.iload_n 1, 1) := by decide +kernel
theorem dX7_secrets_30 : decode cX7_secrets 30 = .ok (.iload_n 3, 1) := by decide +kernel
theorem dX7_secrets_31 : decode cX7_secrets 31 = .ok (.invokevirtual 84, 3) := by decide +kernel
theorem dX7_secrets_34 : decode cX7_secrets 34 = .ok (.ifCond .ne 20, 3) := by decide +kernel
theorem dX7_secrets_37 : decode cX7_secrets 37 = .ok (.aload_n 0, 1) := by decide +kernel
theorem dX7_secrets_38 : decode cX7_secrets 38 = .ok (.aload_n 0, 1) := by decide +kernel
theorem dX7_secrets_39 : decode cX7_secrets 39 = .ok (.iload_n 1, 1) := by decide +kernel
theorem dX7_secrets_40 : decode cX7_secrets 40 = .ok (.invokevirtual 66, 3) := by decide +kernel
theorem dX7_secrets_43 : decode cX7_secrets 43 = .ok (.iload_n 3, 1) := by decide +kernel
theorem dX7_secrets_44 : decode cX7_secrets 44 = .ok (.invokevirtual 241, 3) := by decide +kernel
theorem dX7_secrets_47 : decode cX7_secrets 47 = .ok (.ifCond .ne 7, 3) := by decide +kernel
theorem dX7_secrets_50 : decode cX7_secrets 50 = .ok (.iconst 1, 1) := by decide +kernel
theorem dX7_secrets_51 : decode cX7_secrets 51 = .ok (.goto 4, 3) := by decide +kernel
theorem dX7_secrets_54 : decode cX7_secrets 54 = .ok (.iconst 0, 1) := by decide +kernel
theorem dX7_secrets_55 : decode cX7_secrets 55 = .ok (.iadd, 1) := by decide +kernel
theorem dX7_secrets_56 : decode cX7_secrets 56 = .ok (.istore_n 2, 1) := by decide +kernel
theorem dX7_secrets_57 : decode cX7_secrets 57 = .ok (.iinc 3 1, 3) := by decide +kernel
theorem dX7_secrets_60 : decode cX7_secrets 60 = .ok (.goto (-56), 3) := by decide +kernel
theorem dX7_secrets_63 : decode cX7_secrets 63 = .ok (.iload_n 2, 1) := by decide +kernel
theorem dX7_secrets_64 : decode cX7_secrets 64 = .ok (.ireturn, 1) := by decide +kernel
theorem dX7_node_0 : decode cX7_node 0 = .ok (.aload_n 0, 1) := by decide +kernel
theorem dX7_node_1 : decode cX7_node 1 = .ok (.iconst 0, 1) := by decide +kernel
theorem dX7_node_2 : decode cX7_node 2 = .ok (.putfield 40, 3) := by decide +kernel
theorem dX7_node_5 : decode cX7_node 5 = .ok (.aload_n 0, 1) := by decide +kernel
theorem dX7_node_6 : decode cX7_node 6 = .ok (.iload_n 1, 1) := by decide +kernel
theorem dX7_node_7 : decode cX7_node 7 = .ok (.invokevirtual 125, 3) := by decide +kernel
theorem dX7_node_10 : decode cX7_node 10 = .ok (.ifCond .eq 12, 3) := by decide +kernel
theorem dX7_node_13 : decode cX7_node 13 = .ok (.iload_n 2, 1) := by decide +kernel
theorem dX7_node_14 : decode cX7_node 14 = .ok (.iconst 0, 1) := by decide +kernel
theorem dX7_node_15 : decode cX7_node 15 = .ok (.iconst 4, 1) := by decide +kernel
theorem dX7_node_16 : decode cX7_node 16 = .ok (.invokestatic 58, 3) := by decide +kernel
theorem dX7_node_19 : decode cX7_node 19 = .ok (.ifCond .ne 5, 3) := by decide +kernel
theorem dX7_node_22 : decode cX7_node 22 = .ok (.iconst (-1), 1) := by decide +kernel
theorem dX7_node_23 : decode cX7_node 23 = .ok (.ireturn, 1) := by decide +kernel
theorem dX7_node_24 : decode cX7_node 24 = .ok (.iload_n 2, 1) := by decide +kernel
theorem dX7_node_25 : decode cX7_node 25 = .ok (.tableswitch 55 0 3 #[31, 37, 43, 49], 31) := by decide +kernel
theorem dX7_node_56 : decode cX7_node 56 = .ok (.aload_n 0, 1) := by decide +kernel
theorem dX7_node_57 : decode cX7_node 57 = .ok (.iload_n 1, 1) := by decide +kernel
theorem dX7_node_58 : decode cX7_node 58 = .ok (.invokevirtual 66, 3) := by decide +kernel
theorem dX7_node_61 : decode cX7_node 61 = .ok (.ireturn, 1) := by decide +kernel
theorem dX7_node_62 : decode cX7_node 62 = .ok (.aload_n 0, 1) := by decide +kernel
theorem dX7_node_63 : decode cX7_node 63 = .ok (.iload_n 1, 1) := by decide +kernel
theorem dX7_node_64 : decode cX7_node 64 = .ok (.invokevirtual 244, 3) := by decide +kernel
theorem dX7_node_67 : decode cX7_node 67 = .ok (.ireturn, 1) := by decide +kernel
theorem dX7_node_68 : decode cX7_node 68 = .ok (.aload_n 0, 1) := by decide +kernel
theorem dX7_node_69 : decode cX7_node 69 = .ok (.iload_n 1, 1) := by decide +kernel
theorem dX7_node_70 : decode cX7_node 70 = .ok (.invokevirtual 216, 3) := by decide +kernel
theorem dX7_node_73 : decode cX7_node 73 = .ok (.ireturn, 1) := by decide +kernel
theorem dX7_node_74 : decode cX7_node 74 = .ok (.aload_n 0, 1) := by decide +kernel
theorem dX7_node_75 : decode cX7_node 75 = .ok (.iload_n 1, 1) := by decide +kernel
theorem dX7_node_76 : decode cX7_node 76 = .ok (.invokevirtual 247, 3) := by decide +kernel
theorem dX7_node_79 : decode cX7_node 79 = .ok (.ireturn, 1) := by decide +kernel
theorem dX7_node_80 : decode cX7_node 80 = .ok (.aload_n 0, 1) := by decide +kernel
theorem dX7_node_81 : decode cX7_node 81 = .ok (.iload_n 1, 1) := by decide +kernel
theorem dX7_node_82 : decode cX7_node 82 = .ok (.invokevirtual 250, 3) := by decide +kernel
theorem dX7_node_85 : decode cX7_node 85 = .ok (.ireturn, 1) := by decide +kernel
theorem dX7_link_0 : decode cX7_link 0 = .ok (.aload_n 0, 1) := by decide +kernel
theorem dX7_link_1 : decode cX7_link 1 = .ok (.iconst 0, 1) := by decide +kernel
theorem dX7_link_2 : decode cX7_link 2 = .ok (.putfield 40, 3) := by decide +kernel
theorem dX7_link_5 : decode cX7_link 5 = .ok (.aload_n 0, 1) := by decide +kernel
theorem dX7_link_6 : decode cX7_link 6 = .ok (.iload_n 1, 1) := by decide +kernel
theorem dX7_link_7 : decode cX7_link 7 = .ok (.invokevirtual 135, 3) := by decide +kernel
theorem dX7_link_10 : decode cX7_link 10 = .ok (.ifCond .eq 21, 3) := by decide +kernel
theorem dX7_link_13 : decode cX7_link 13 = .ok (.iload_n 2, 1) := by decide +kernel
theorem dX7_link_14 : decode cX7_link 14 = .ok (.iconst 0, 1) := by decide +kernel
theorem dX7_link_15 : decode cX7_link 15 = .ok (.iconst 5, 1) := by decide +kernel
theorem dX7_link_16 : decode cX7_link 16 = .ok (.invokestatic 58, 3) := by decide +kernel
theorem dX7_link_19 : decode cX7_link 19 = .ok (.ifCond .eq 12, 3) := by decide +kernel
theorem dX7_link_22 : decode cX7_link 22 = .ok (.aload_n 0, 1) := by decide +kernel
theorem dX7_link_23 : decode cX7_link 23 = .ok (.iload_n 1, 1) := by decide +kernel
theorem dX7_link_24 : decode cX7_link 24 = .ok (.iload_n 2, 1) := by decide +kernel
theorem dX7_link_25 : decode cX7_link 25 = .ok (.invokevirtual 62, 3) := by decide +kernel
theorem dX7_link_28 : decode cX7_link 28 = .ok (.goto 4, 3) := by decide +kernel
theorem dX7_link_31 : decode cX7_link 31 = .ok (.iconst (-1), 1) := by decide +kernel
theorem dX7_link_32 : decode cX7_link 32 = .ok (.ireturn, 1) := by decide +kernel
theorem dX7_tunnel_0 : decode cX7_tunnel 0 = .ok (.aload_n 0, 1) := by decide +kernel
theorem dX7_tunnel_1 : decode cX7_tunnel 1 = .ok (.iconst 0, 1) := by decide +kernel
theorem dX7_tunnel_2 : decode cX7_tunnel 2 = .ok (.putfield 40, 3) := by decide +kernel
theorem dX7_tunnel_5 : decode cX7_tunnel 5 = .ok (.aload_n 0, 1) := by decide +kernel
theorem dX7_tunnel_6 : decode cX7_tunnel 6 = .ok (.iload_n 1, 1) := by decide +kernel
theorem dX7_tunnel_7 : decode cX7_tunnel 7 = .ok (.invokevirtual 148, 3) := by decide +kernel
theorem dX7_tunnel_10 : decode cX7_tunnel 10 = .ok (.ifCond .eq 21, 3) := by decide +kernel
theorem dX7_tunnel_13 : decode cX7_tunnel 13 = .ok (.iload_n 2, 1) := by decide +kernel
theorem dX7_tunnel_14 : decode cX7_tunnel 14 = .ok (.iconst 0, 1) := by decide +kernel
theorem dX7_tunnel_15 : decode cX7_tunnel 15 = .ok (.iconst 4, 1) := by decide +kernel
theorem dX7_tunnel_16 : decode cX7_tunnel 16 = .ok (.invokestatic 58, 3) := by decide +kernel
theorem dX7_tunnel_19 : decode cX7_tunnel 19 = .ok (.ifCond .eq 12, 3) := by decide +kernel
theorem dX7_tunnel_22 : decode cX7_tunnel 22 = .ok (.aload_n 0, 1) := by decide +kernel
theorem dX7_tunnel_23 : decode cX7_tunnel 23 = .ok (.iload_n 1, 1) := by decide +kernel
theorem dX7_tunnel_24 : decode cX7_tunnel 24 = .ok (.iload_n 2, 1) := by decide +kernel
theorem dX7_tunnel_25 : decode cX7_tunnel 25 = .ok (.invokevirtual 106, 3) := by decide +kernel
theorem dX7_tunnel_28 : decode cX7_tunnel 28 = .ok (.goto 4, 3) := by decide +kernel
theorem dX7_tunnel_31 : decode cX7_tunnel 31 = .ok (.iconst (-1), 1) := by decide +kernel
theorem dX7_tunnel_32 : decode cX7_tunnel 32 = .ok (.ireturn, 1) := by decide +kernel
theorem dX7_grant_0 : decode cX7_grant 0 = .ok (.aload_n 0, 1) := by decide +kernel
theorem dX7_grant_1 : decode cX7_grant 1 = .ok (.iconst 0, 1) := by decide +kernel
theorem dX7_grant_2 : decode cX7_grant 2 = .ok (.putfield 40, 3) := by decide +kernel
theorem dX7_grant_5 : decode cX7_grant 5 = .ok (.iload_n 1, 1) := by decide +kernel
theorem dX7_grant_6 : decode cX7_grant 6 = .ok (.iload_n 2, 1) := by decide +kernel
theorem dX7_grant_7 : decode cX7_grant 7 = .ok (.invokestatic 138, 3) := by decide +kernel
theorem dX7_grant_10 : decode cX7_grant 10 = .ok (.ifCond .eq 12, 3) := by decide +kernel
theorem dX7_grant_13 : decode cX7_grant 13 = .ok (.iload_n 3, 1) := by decide +kernel
theorem dX7_grant_14 : decode cX7_grant 14 = .ok (.iconst 0, 1) := by decide +kernel
theorem dX7_grant_15 : decode cX7_grant 15 = .ok (.iconst 1, 1) := by decide +kernel
theorem dX7_grant_16 : decode cX7_grant 16 = .ok (.invokestatic 58, 3) := by decide +kernel
theorem dX7_grant_19 : decode cX7_grant 19 = .ok (.ifCond .ne 5, 3) := by decide +kernel
theorem dX7_grant_22 : decode cX7_grant 22 = .ok (.iconst (-1), 1) := by decide +kernel
theorem dX7_grant_23 : decode cX7_grant 23 = .ok (.ireturn, 1) := by decide +kernel
theorem dX7_grant_24 : decode cX7_grant 24 = .ok (.aload_n 0, 1) := by decide +kernel
theorem dX7_grant_25 : decode cX7_grant 25 = .ok (.getfield 7, 3) := by decide +kernel
theorem dX7_grant_28 : decode cX7_grant 28 = .ok (.iload_n 3, 1) := by decide +kernel
theorem dX7_grant_29 : decode cX7_grant 29 = .ok (.ifCond .ne 8, 3) := by decide +kernel
theorem dX7_grant_32 : decode cX7_grant 32 = .ok (.bipush 14, 2) := by decide +kernel
theorem dX7_grant_34 : decode cX7_grant 34 = .ok (.goto 5, 3) := by decide +kernel
theorem dX7_grant_37 : decode cX7_grant 37 = .ok (.bipush 30, 2) := by decide +kernel
theorem dX7_grant_39 : decode cX7_grant 39 = .ok (.iconst 4, 1) := by decide +kernel
theorem dX7_grant_40 : decode cX7_grant 40 = .ok (.iload_n 1, 1) := by decide +kernel
theorem dX7_grant_41 : decode cX7_grant 41 = .ok (.imul, 1) := by decide +kernel
theorem dX7_grant_42 : decode cX7_grant 42 = .ok (.iadd, 1) := by decide +kernel
theorem dX7_grant_43 : decode cX7_grant 43 = .ok (.iload_n 2, 1) := by decide +kernel
theorem dX7_grant_44 : decode cX7_grant 44 = .ok (.iadd, 1) := by decide +kernel
theorem dX7_grant_45 : decode cX7_grant 45 = .ok (.iaload, 1) := by decide +kernel
theorem dX7_grant_46 : decode cX7_grant 46 = .ok (.ireturn, 1) := by decide +kernel
theorem dX7_known_0 : decode cX7_known 0 = .ok (.aload_n 0, 1) := by decide +kernel
theorem dX7_known_1 : decode cX7_known 1 = .ok (.iconst 0, 1) := by decide +kernel
theorem dX7_known_2 : decode cX7_known 2 = .ok (.putfield 40, 3) := by decide +kernel
theorem dX7_known_5 : decode cX7_known 5 = .ok (.aload_n 0, 1) := by decide +kernel
theorem dX7_known_6 : decode cX7_known 6 = .ok (.iload_n 1, 1) := by decide +kernel
theorem dX7_known_7 : decode cX7_known 7 = .ok (.invokevirtual 125, 3) := by decide +kernel
theorem dX7_known_10 : decode cX7_known 10 = .ok (.ifCond .eq 20, 3) := by decide +kernel
theorem dX7_known_13 : decode cX7_known 13 = .ok (.aload_n 0, 1) := by decide +kernel
theorem dX7_known_14 : decode cX7_known 14 = .ok (.iload_n 2, 1) := by decide +kernel
theorem dX7_known_15 : decode cX7_known 15 = .ok (.invokevirtual 235, 3) := by decide +kernel
theorem dX7_known_18 : decode cX7_known 18 = .ok (.ifCond .eq 12, 3) := by decide +kernel
theorem dX7_known_21 : decode cX7_known 21 = .ok (.iload_n 3, 1) := by decide +kernel
theorem dX7_known_22 : decode cX7_known 22 = .ok (.iconst 0, 1) := by decide +kernel
theorem dX7_known_23 : decode cX7_known 23 = .ok (.iconst 3, 1) := by decide +kernel
theorem dX7_known_24 : decode cX7_known 24 = .ok (.invokestatic 58, 3) := by decide +kernel
theorem dX7_known_27 : decode cX7_known 27 = .ok (.ifCond .ne 5, 3) := by decide +kernel
theorem dX7_known_30 : decode cX7_known 30 = .ok (.iconst (-1), 1) := by decide +kernel
theorem dX7_known_31 : decode cX7_known 31 = .ok (.ireturn, 1) := by decide +kernel
theorem dX7_known_32 : decode cX7_known 32 = .ok (.aload_n 0, 1) := by decide +kernel
theorem dX7_known_33 : decode cX7_known 33 = .ok (.iload_n 1, 1) := by decide +kernel
theorem dX7_known_34 : decode cX7_known 34 = .ok (.iload_n 2, 1) := by decide +kernel
theorem dX7_known_35 : decode cX7_known 35 = .ok (.iconst 0, 1) := by decide +kernel
theorem dX7_known_36 : decode cX7_known 36 = .ok (.invokevirtual 73, 3) := by decide +kernel
theorem dX7_known_39 : decode cX7_known 39 = .ok (.ifCond .le 7, 3) := by decide +kernel
theorem dX7_known_42 : decode cX7_known 42 = .ok (.iconst 1, 1) := by decide +kernel
theorem dX7_known_43 : decode cX7_known 43 = .ok (.goto 4, 3) := by decide +kernel
theorem dX7_known_46 : decode cX7_known 46 = .ok (.iconst 0, 1) := by decide +kernel
theorem dX7_known_47 : decode cX7_known 47 = .ok (.istore 4, 2) := by decide +kernel
theorem dX7_known_49 : decode cX7_known 49 = .ok (.iload 4, 2) := by decide +kernel
theorem dX7_known_51 : decode cX7_known 51 = .ok (.ifCond .ne 12, 3) := by decide +kernel
theorem dX7_known_54 : decode cX7_known 54 = .ok (.iload_n 3, 1) := by decide +kernel
theorem dX7_known_55 : decode cX7_known 55 = .ok (.ifCond .eq 8, 3) := by decide +kernel
theorem dX7_known_58 : decode cX7_known 58 = .ok (.iload_n 3, 1) := by decide +kernel
theorem dX7_known_59 : decode cX7_known 59 = .ok (.iconst 3, 1) := by decide +kernel
theorem dX7_known_60 : decode cX7_known 60 = .ok (.if_icmp .ne 13, 3) := by decide +kernel
theorem dX7_known_63 : decode cX7_known 63 = .ok (.aload_n 0, 1) := by decide +kernel
theorem dX7_known_64 : decode cX7_known 64 = .ok (.iload_n 1, 1) := by decide +kernel
theorem dX7_known_65 : decode cX7_known 65 = .ok (.iload_n 2, 1) := by decide +kernel
theorem dX7_known_66 : decode cX7_known 66 = .ok (.iload_n 3, 1) := by decide +kernel
theorem dX7_known_67 : decode cX7_known 67 = .ok (.invokevirtual 73, 3) := by decide +kernel
theorem dX7_known_70 : decode cX7_known 70 = .ok (.goto 5, 3) := by decide +kernel
theorem dX7_known_73 : decode cX7_known 73 = .ok (.bipush (-9), 2) := by decide +kernel
theorem dX7_known_75 : decode cX7_known 75 = .ok (.ireturn, 1) := by decide +kernel
theorem dX7_leads_0 : decode cX7_leads 0 = .ok (.aload_n 0, 1) := by decide +kernel
theorem dX7_leads_1 : decode cX7_leads 1 = .ok (.iload_n 1, 1) := by decide +kernel
theorem dX7_leads_2 : decode cX7_leads 2 = .ok (.iload_n 2, 1) := by decide +kernel
theorem dX7_leads_3 : decode cX7_leads 3 = .ok (.iconst 0, 1) := by decide +kernel
theorem dX7_leads_4 : decode cX7_leads 4 = .ok (.invokevirtual 73, 3) := by decide +kernel
theorem dX7_leads_7 : decode cX7_leads 7 = .ok (.ifCond .eq 13, 3) := by decide +kernel
theorem dX7_leads_10 : decode cX7_leads 10 = .ok (.aload_n 0, 1) := by decide +kernel
theorem dX7_leads_11 : decode cX7_leads 11 = .ok (.iload_n 1, 1) := by decide +kernel
theorem dX7_leads_12 : decode cX7_leads 12 = .ok (.iload_n 2, 1) := by decide +kernel
theorem dX7_leads_13 : decode cX7_leads 13 = .ok (.iconst 1, 1) := by decide +kernel
theorem dX7_leads_14 : decode cX7_leads 14 = .ok (.invokevirtual 73, 3) := by decide +kernel
theorem dX7_leads_17 : decode cX7_leads 17 = .ok (.ifCond .ne 5, 3) := by decide +kernel
theorem dX7_leads_20 : decode cX7_leads 20 = .ok (.iconst 0, 1) := by decide +kernel
theorem dX7_leads_21 : decode cX7_leads 21 = .ok (.ireturn, 1) := by decide +kernel
theorem dX7_leads_22 : decode cX7_leads 22 = .ok (.iload_n 2, 1) := by decide +kernel
theorem dX7_leads_23 : decode cX7_leads 23 = .ok (.bipush 32, 2) := by decide +kernel
theorem dX7_leads_25 : decode cX7_leads 25 = .ok (.if_icmp .lt 42, 3) := by decide +kernel
theorem dX7_leads_28 : decode cX7_leads 28 = .ok (.iload 4, 2) := by decide +kernel
theorem dX7_leads_30 : decode cX7_leads 30 = .ok (.ifCond .eq 35, 3) := by decide +kernel
theorem dX7_leads_33 : decode cX7_leads 33 = .ok (.aload_n 0, 1) := by decide +kernel
theorem dX7_leads_34 : decode cX7_leads 34 = .ok (.iload_n 2, 1) := by decide +kernel
theorem dX7_leads_35 : decode cX7_leads 35 = .ok (.bipush 32, 2) := by decide +kernel
theorem dX7_leads_37 : decode cX7_leads 37 = .ok (.isub, 1) := by decide +kernel
theorem dX7_leads_38 : decode cX7_leads 38 = .ok (.iconst 0, 1) := by decide +kernel
theorem dX7_leads_39 : decode cX7_leads 39 = .ok (.invokevirtual 106, 3) := by decide +kernel
theorem dX7_leads_42 : decode cX7_leads 42 = .ok (.iload 5, 2) := by decide +kernel
theorem dX7_leads_44 : decode cX7_leads 44 = .ok (.if_icmp .ne 21, 3) := by decide +kernel
theorem dX7_leads_47 : decode cX7_leads 47 = .ok (.aload_n 0, 1) := by decide +kernel
theorem dX7_leads_48 : decode cX7_leads 48 = .ok (.iload_n 2, 1) := by decide +kernel
theorem dX7_leads_49 : decode cX7_leads 49 = .ok (.bipush 32, 2) := by decide +kernel
theorem dX7_leads_51 : decode cX7_leads 51 = .ok (.isub, 1) := by decide +kernel
theorem dX7_leads_52 : decode cX7_leads 52 = .ok (.iconst 1, 1) := by decide +kernel
theorem dX7_leads_53 : decode cX7_leads 53 = .ok (.invokevirtual 106, 3) := by decide +kernel
theorem dX7_leads_56 : decode cX7_leads 56 = .ok (.iload 6, 2) := by decide +kernel
theorem dX7_leads_58 : decode cX7_leads 58 = .ok (.if_icmp .ne 7, 3) := by decide +kernel
theorem dX7_leads_61 : decode cX7_leads 61 = .ok (.iconst 1, 1) := by decide +kernel
theorem dX7_leads_62 : decode cX7_leads 62 = .ok (.goto 4, 3) := by decide +kernel
theorem dX7_leads_65 : decode cX7_leads 65 = .ok (.iconst 0, 1) := by decide +kernel
theorem dX7_leads_66 : decode cX7_leads 66 = .ok (.ireturn, 1) := by decide +kernel
theorem dX7_leads_67 : decode cX7_leads 67 = .ok (.iload_n 2, 1) := by decide +kernel
theorem dX7_leads_68 : decode cX7_leads 68 = .ok (.bipush 16, 2) := by decide +kernel
theorem dX7_leads_70 : decode cX7_leads 70 = .ok (.isub, 1) := by decide +kernel
theorem dX7_leads_71 : decode cX7_leads 71 = .ok (.istore 7, 2) := by decide +kernel
theorem dX7_leads_73 : decode cX7_leads 73 = .ok (.aload_n 0, 1) := by decide +kernel
theorem dX7_leads_74 : decode cX7_leads 74 = .ok (.iload 7, 2) := by decide +kernel
theorem dX7_leads_76 : decode cX7_leads 76 = .ok (.iconst 4, 1) := by decide +kernel
theorem dX7_leads_77 : decode cX7_leads 77 = .ok (.invokevirtual 62, 3) := by decide +kernel
theorem dX7_leads_80 : decode cX7_leads 80 = .ok (.ifCond .eq 28, 3) := by decide +kernel
theorem dX7_leads_83 : decode cX7_leads 83 = .ok (.aload_n 0, 1) := by decide +kernel
theorem dX7_leads_84 : decode cX7_leads 84 = .ok (.iload 7, 2) := by decide +kernel
theorem dX7_leads_86 : decode cX7_leads 86 = .ok (.invokevirtual 81, 3) := by decide +kernel
theorem dX7_leads_89 : decode cX7_leads 89 = .ok (.iload_n 3, 1) := by decide +kernel
theorem dX7_leads_90 : decode cX7_leads 90 = .ok (.if_icmp .eq 18, 3) := by decide +kernel
theorem dX7_leads_93 : decode cX7_leads 93 = .ok (.aload_n 0, 1) := by decide +kernel
theorem dX7_leads_94 : decode cX7_leads 94 = .ok (.iload_n 1, 1) := by decide +kernel
theorem dX7_leads_95 : decode cX7_leads 95 = .ok (.aload_n 0, 1) := by decide +kernel
theorem dX7_leads_96 : decode cX7_leads 96 = .ok (.iload 7, 2) := by decide +kernel
theorem dX7_leads_98 : decode cX7_leads 98 = .ok (.invokevirtual 81, 3) := by decide +kernel
theorem dX7_leads_101 : decode cX7_leads 101 = .ok (.iload_n 3, 1) := by decide +kernel
theorem dX7_leads_102 : decode cX7_leads 102 = .ok (.invokevirtual 88, 3) := by decide +kernel
theorem dX7_leads_105 : decode cX7_leads 105 = .ok (.ifCond .eq 7, 3) := by decide +kernel
theorem dX7_leads_108 : decode cX7_leads 108 = .ok (.iconst 1, 1) := by decide +kernel
theorem dX7_leads_109 : decode cX7_leads 109 = .ok (.goto 4, 3) := by decide +kernel
theorem dX7_leads_112 : decode cX7_leads 112 = .ok (.iconst 0, 1) := by decide +kernel
theorem dX7_leads_113 : decode cX7_leads 113 = .ok (.istore 8, 2) := by decide +kernel
theorem dX7_leads_115 : decode cX7_leads 115 = .ok (.iload 8, 2) := by decide +kernel
theorem dX7_leads_117 : decode cX7_leads 117 = .ok (.ifCond .eq 31, 3) := by decide +kernel
theorem dX7_leads_120 : decode cX7_leads 120 = .ok (.aload_n 0, 1) := by decide +kernel
theorem dX7_leads_121 : decode cX7_leads 121 = .ok (.iload 5, 2) := by decide +kernel
theorem dX7_leads_123 : decode cX7_leads 123 = .ok (.iload 7, 2) := by decide +kernel
theorem dX7_leads_125 : decode cX7_leads 125 = .ok (.invokevirtual 84, 3) := by decide +kernel
theorem dX7_leads_128 : decode cX7_leads 128 = .ok (.ifCond .eq 20, 3) := by decide +kernel
theorem dX7_leads_131 : decode cX7_leads 131 = .ok (.aload_n 0, 1) := by decide +kernel
theorem dX7_leads_132 : decode cX7_leads 132 = .ok (.iload 7, 2) := by decide +kernel
theorem dX7_leads_134 : decode cX7_leads 134 = .ok (.iload 5, 2) := by decide +kernel
theorem dX7_leads_136 : decode cX7_leads 136 = .ok (.invokevirtual 219, 3) := by decide +kernel
theorem dX7_leads_139 : decode cX7_leads 139 = .ok (.iload 6, 2) := by decide +kernel
theorem dX7_leads_141 : decode cX7_leads 141 = .ok (.if_icmp .ne 7, 3) := by decide +kernel
theorem dX7_leads_144 : decode cX7_leads 144 = .ok (.iconst 1, 1) := by decide +kernel
theorem dX7_leads_145 : decode cX7_leads 145 = .ok (.goto 4, 3) := by decide +kernel
theorem dX7_leads_148 : decode cX7_leads 148 = .ok (.iconst 0, 1) := by decide +kernel
theorem dX7_leads_149 : decode cX7_leads 149 = .ok (.ireturn, 1) := by decide +kernel
theorem dX7_isBetter_0 : decode cX7_isBetter 0 = .ok (.iload_n 1, 1) := by decide +kernel
theorem dX7_isBetter_1 : decode cX7_isBetter 1 = .ok (.aload_n 0, 1) := by decide +kernel
theorem dX7_isBetter_2 : decode cX7_isBetter 2 = .ok (.getfield 28, 3) := by decide +kernel
theorem dX7_isBetter_5 : decode cX7_isBetter 5 = .ok (.iload_n 3, 1) := by decide +kernel
theorem dX7_isBetter_6 : decode cX7_isBetter 6 = .ok (.iaload, 1) := by decide +kernel
theorem dX7_isBetter_7 : decode cX7_isBetter 7 = .ok (.if_icmp .lt 23, 3) := by decide +kernel
theorem dX7_isBetter_10 : decode cX7_isBetter 10 = .ok (.iload_n 1, 1) := by decide +kernel
theorem dX7_isBetter_11 : decode cX7_isBetter 11 = .ok (.aload_n 0, 1) := by decide +kernel
theorem dX7_isBetter_12 : decode cX7_isBetter 12 = .ok (.getfield 28, 3) := by decide +kernel
theorem dX7_isBetter_15 : decode cX7_isBetter 15 = .ok (.iload_n 3, 1) := by decide +kernel
theorem dX7_isBetter_16 : decode cX7_isBetter 16 = .ok (.iaload, 1) := by decide +kernel
theorem dX7_isBetter_17 : decode cX7_isBetter 17 = .ok (.if_icmp .ne 17, 3) := by decide +kernel
theorem dX7_isBetter_20 : decode cX7_isBetter 20 = .ok (.iload_n 2, 1) := by decide +kernel
theorem dX7_isBetter_21 : decode cX7_isBetter 21 = .ok (.aload_n 0, 1) := by decide +kernel
theorem dX7_isBetter_22 : decode cX7_isBetter 22 = .ok (.getfield 31, 3) := by decide +kernel
theorem dX7_isBetter_25 : decode cX7_isBetter 25 = .ok (.iload_n 3, 1) := by decide +kernel
theorem dX7_isBetter_26 : decode cX7_isBetter 26 = .ok (.iaload, 1) := by decide +kernel
theorem dX7_isBetter_27 : decode cX7_isBetter 27 = .ok (.if_icmp .ge 7, 3) := by decide +kernel
theorem dX7_isBetter_30 : decode cX7_isBetter 30 = .ok (.iconst 1, 1) := by decide +kernel
theorem dX7_isBetter_31 : decode cX7_isBetter 31 = .ok (.goto 4, 3) := by decide +kernel
theorem dX7_isBetter_34 : decode cX7_isBetter 34 = .ok (.iconst 0, 1) := by decide +kernel
theorem dX7_isBetter_35 : decode cX7_isBetter 35 = .ok (.ireturn, 1) := by decide +kernel
theorem dX7_find_0 : decode cX7_find 0 = .ok (.iconst 0, 1) := by decide +kernel
theorem dX7_find_1 : decode cX7_find 1 = .ok (.istore 5, 2) := by decide +kernel
theorem dX7_find_3 : decode cX7_find 3 = .ok (.iload 5, 2) := by decide +kernel
theorem dX7_find_5 : decode cX7_find 5 = .ok (.bipush 10, 2) := by decide +kernel
theorem dX7_find_7 : decode cX7_find 7 = .ok (.if_icmp .ge 36, 3) := by decide +kernel
theorem dX7_find_10 : decode cX7_find 10 = .ok (.aload_n 0, 1) := by decide +kernel
theorem dX7_find_11 : decode cX7_find 11 = .ok (.getfield 28, 3) := by decide +kernel
theorem dX7_find_14 : decode cX7_find 14 = .ok (.iload 5, 2) := by decide +kernel
theorem dX7_find_16 : decode cX7_find 16 = .ok (.iload 5, 2) := by decide +kernel
theorem dX7_find_18 : decode cX7_find 18 = .ok (.iload_n 2, 1) := by decide +kernel
theorem dX7_find_19 : decode cX7_find 19 = .ok (.if_icmp .ne 7, 3) := by decide +kernel
theorem dX7_find_22 : decode cX7_find 22 = .ok (.iconst 0, 1) := by decide +kernel
theorem dX7_find_23 : decode cX7_find 23 = .ok (.goto 5, 3) := by decide +kernel
theorem dX7_find_26 : decode cX7_find 26 = .ok (.ldc 253, 2) := by decide +kernel
theorem dX7_find_28 : decode cX7_find 28 = .ok (.iastore, 1) := by decide +kernel
theorem dX7_find_29 : decode cX7_find 29 = .ok (.aload_n 0, 1) := by decide +kernel
theorem dX7_find_30 : decode cX7_find 30 = .ok (.getfield 31, 3) := by decide +kernel
theorem dX7_find_33 : decode cX7_find 33 = .ok (.iload 5, 2) := by decide +kernel
theorem dX7_find_35 : decode cX7_find 35 = .ok (.iconst 0, 1) := by decide +kernel
theorem dX7_find_36 : decode cX7_find 36 = .ok (.iastore, 1) := by decide +kernel
theorem dX7_find_37 : decode cX7_find 37 = .ok (.iinc 5 1, 3) := by decide +kernel
theorem dX7_find_40 : decode cX7_find 40 = .ok (.goto (-37), 3) := by decide +kernel
theorem dX7_find_43 : decode cX7_find 43 = .ok (.iconst 0, 1) := by decide +kernel
theorem dX7_find_44 : decode cX7_find 44 = .ok (.istore 5, 2) := by decide +kernel
theorem dX7_find_46 : decode cX7_find 46 = .ok (.iload 5, 2) := by decide +kernel
theorem dX7_find_48 : decode cX7_find 48 = .ok (.aload_n 0, 1) := by decide +kernel
theorem dX7_find_49 : decode cX7_find 49 = .ok (.getfield 7, 3) := by decide +kernel
theorem dX7_find_52 : decode cX7_find 52 = .ok (.iconst 0, 1) := by decide +kernel
theorem dX7_find_53 : decode cX7_find 53 = .ok (.iaload, 1) := by decide +kernel
theorem dX7_find_54 : decode cX7_find 54 = .ok (.if_icmp .ge 67, 3) := by decide +kernel
theorem dX7_find_57 : decode cX7_find 57 = .ok (.bipush 16, 2) := by decide +kernel
theorem dX7_find_59 : decode cX7_find 59 = .ok (.istore 6, 2) := by decide +kernel
theorem dX7_find_61 : decode cX7_find 61 = .ok (.iload 6, 2) := by decide +kernel
theorem dX7_find_63 : decode cX7_find 63 = .ok (.bipush 35, 2) := by decide +kernel
theorem dX7_find_65 : decode cX7_find 65 = .ok (.if_icmp .ge 50, 3) := by decide +kernel
theorem dX7_find_68 : decode cX7_find 68 = .ok (.iconst 0, 1) := by decide +kernel
theorem dX7_find_69 : decode cX7_find 69 = .ok (.istore 7, 2) := by decide +kernel
theorem dX7_find_71 : decode cX7_find 71 = .ok (.iload 7, 2) := by decide +kernel
theorem dX7_find_73 : decode cX7_find 73 = .ok (.aload_n 0, 1) := by decide +kernel
theorem dX7_find_74 : decode cX7_find 74 = .ok (.getfield 7, 3) := by decide +kernel
theorem dX7_find_77 : decode cX7_find 77 = .ok (.iconst 0, 1) := by decide +kernel
theorem dX7_find_78 : decode cX7_find 78 = .ok (.iaload, 1) := by decide +kernel
theorem dX7_find_79 : decode cX7_find 79 = .ok (.if_icmp .ge 30, 3) := by decide +kernel
theorem dX7_find_82 : decode cX7_find 82 = .ok (.aload_n 0, 1) := by decide +kernel
theorem dX7_find_83 : decode cX7_find 83 = .ok (.iload 6, 2) := by decide +kernel
theorem dX7_find_85 : decode cX7_find 85 = .ok (.invokevirtual 235, 3) := by decide +kernel
theorem dX7_find_88 : decode cX7_find 88 = .ok (.ifCond .eq 21, 3) := by decide +kernel
theorem dX7_find_91 : decode cX7_find 91 = .ok (.aload_n 0, 1) := by decide +kernel
theorem dX7_find_92 : decode cX7_find 92 = .ok (.iload_n 1, 1) := by decide +kernel
theorem dX7_find_93 : decode cX7_find 93 = .ok (.iload 6, 2) := by decide +kernel
theorem dX7_find_95 : decode cX7_find 95 = .ok (.iload_n 3, 1) := by decide +kernel
theorem dX7_find_96 : decode cX7_find 96 = .ok (.iload 4, 2) := by decide +kernel
theorem dX7_find_98 : decode cX7_find 98 = .ok (.iload 7, 2) := by decide +kernel
theorem dX7_find_100 : decode cX7_find 100 = .ok (.invokevirtual 254, 3) := by decide +kernel
theorem dX7_find_103 : decode cX7_find 103 = .ok (.iinc 7 1, 3) := by decide +kernel
theorem dX7_find_106 : decode cX7_find 106 = .ok (.goto (-35), 3) := by decide +kernel
theorem dX7_find_109 : decode cX7_find 109 = .ok (.iinc 6 1, 3) := by decide +kernel
theorem dX7_find_112 : decode cX7_find 112 = .ok (.goto (-51), 3) := by decide +kernel
theorem dX7_find_115 : decode cX7_find 115 = .ok (.iinc 5 1, 3) := by decide +kernel
theorem dX7_find_118 : decode cX7_find 118 = .ok (.goto (-72), 3) := by decide +kernel
theorem dX7_find_121 : decode cX7_find 121 = .ok (.return_, 1) := by decide +kernel
theorem dX7_relax_0 : decode cX7_relax 0 = .ok (.iload_n 2, 1) := by decide +kernel
theorem dX7_relax_1 : decode cX7_relax 1 = .ok (.bipush 32, 2) := by decide +kernel
theorem dX7_relax_3 : decode cX7_relax 3 = .ok (.if_icmp .lt 15, 3) := by decide +kernel
theorem dX7_relax_6 : decode cX7_relax 6 = .ok (.aload_n 0, 1) := by decide +kernel
theorem dX7_relax_7 : decode cX7_relax 7 = .ok (.iload_n 2, 1) := by decide +kernel
theorem dX7_relax_8 : decode cX7_relax 8 = .ok (.bipush 32, 2) := by decide +kernel
theorem dX7_relax_10 : decode cX7_relax 10 = .ok (.isub, 1) := by decide +kernel
theorem dX7_relax_11 : decode cX7_relax 11 = .ok (.iconst 1, 1) := by decide +kernel
theorem dX7_relax_12 : decode cX7_relax 12 = .ok (.invokevirtual 106, 3) := by decide +kernel
theorem dX7_relax_15 : decode cX7_relax 15 = .ok (.goto 31, 3) := by decide +kernel
theorem dX7_relax_18 : decode cX7_relax 18 = .ok (.aload_n 0, 1) := by decide +kernel
theorem dX7_relax_19 : decode cX7_relax 19 = .ok (.iload 5, 2) := by decide +kernel
theorem dX7_relax_21 : decode cX7_relax 21 = .ok (.iload_n 2, 1) := by decide +kernel
theorem dX7_relax_22 : decode cX7_relax 22 = .ok (.bipush 16, 2) := by decide +kernel
theorem dX7_relax_24 : decode cX7_relax 24 = .ok (.isub, 1) := by decide +kernel
theorem dX7_relax_25 : decode cX7_relax 25 = .ok (.invokevirtual 84, 3) := by decide +kernel
theorem dX7_relax_28 : decode cX7_relax 28 = .ok (.ifCond .eq 16, 3) := by decide +kernel
theorem dX7_relax_31 : decode cX7_relax 31 = .ok (.aload_n 0, 1) := by decide +kernel
theorem dX7_relax_32 : decode cX7_relax 32 = .ok (.iload_n 2, 1) := by decide +kernel
theorem dX7_relax_33 : decode cX7_relax 33 = .ok (.bipush 16, 2) := by decide +kernel
theorem dX7_relax_35 : decode cX7_relax 35 = .ok (.isub, 1) := by decide +kernel
theorem dX7_relax_36 : decode cX7_relax 36 = .ok (.iload 5, 2) := by decide +kernel
theorem dX7_relax_38 : decode cX7_relax 38 = .ok (.invokevirtual 219, 3) := by decide +kernel
theorem dX7_relax_41 : decode cX7_relax 41 = .ok (.goto 5, 3) := by decide +kernel
theorem dX7_relax_44 : decode cX7_relax 44 = .ok (.iload 5, 2) := by decide +kernel
theorem dX7_relax_46 : decode cX7_relax 46 = .ok (.istore 6, 2) := by decide +kernel
theorem dX7_relax_48 : decode cX7_relax 48 = .ok (.iload 6, 2) := by decide +kernel
theorem dX7_relax_50 : decode cX7_relax 50 = .ok (.iload 5, 2) := by decide +kernel
theorem dX7_relax_52 : decode cX7_relax 52 = .ok (.if_icmp .eq 93, 3) := by decide +kernel
theorem dX7_relax_55 : decode cX7_relax 55 = .ok (.aload_n 0, 1) := by decide +kernel
theorem dX7_relax_56 : decode cX7_relax 56 = .ok (.getfield 28, 3) := by decide +kernel
theorem dX7_relax_59 : decode cX7_relax 59 = .ok (.iload 6, 2) := by decide +kernel
theorem dX7_relax_61 : decode cX7_relax 61 = .ok (.iaload, 1) := by decide +kernel
theorem dX7_relax_62 : decode cX7_relax 62 = .ok (.ldc 253, 2) := by decide +kernel
theorem dX7_relax_64 : decode cX7_relax 64 = .ok (.if_icmp .ge 81, 3) := by decide +kernel
theorem dX7_relax_67 : decode cX7_relax 67 = .ok (.aload_n 0, 1) := by decide +kernel
theorem dX7_relax_68 : decode cX7_relax 68 = .ok (.iload_n 1, 1) := by decide +kernel
theorem dX7_relax_69 : decode cX7_relax 69 = .ok (.iload_n 2, 1) := by decide +kernel
theorem dX7_relax_70 : decode cX7_relax 70 = .ok (.iload_n 3, 1) := by decide +kernel
theorem dX7_relax_71 : decode cX7_relax 71 = .ok (.iload 4, 2) := by decide +kernel
theorem dX7_relax_73 : decode cX7_relax 73 = .ok (.iload 5, 2) := by decide +kernel
theorem dX7_relax_75 : decode cX7_relax 75 = .ok (.iload 6, 2) := by decide +kernel
theorem dX7_relax_77 : decode cX7_relax 77 = .ok (.invokevirtual 258, 3) := by decide +kernel
theorem dX7_relax_80 : decode cX7_relax 80 = .ok (.ifCond .eq 65, 3) := by decide +kernel
theorem dX7_relax_83 : decode cX7_relax 83 = .ok (.aload_n 0, 1) := by decide +kernel
theorem dX7_relax_84 : decode cX7_relax 84 = .ok (.getfield 28, 3) := by decide +kernel
theorem dX7_relax_87 : decode cX7_relax 87 = .ok (.iload 6, 2) := by decide +kernel
theorem dX7_relax_89 : decode cX7_relax 89 = .ok (.iaload, 1) := by decide +kernel
theorem dX7_relax_90 : decode cX7_relax 90 = .ok (.aload_n 0, 1) := by decide +kernel
theorem dX7_relax_91 : decode cX7_relax 91 = .ok (.iload_n 1, 1) := by decide +kernel
theorem dX7_relax_92 : decode cX7_relax 92 = .ok (.iload_n 2, 1) := by decide +kernel
theorem dX7_relax_93 : decode cX7_relax 93 = .ok (.iconst 2, 1) := by decide +kernel
theorem dX7_relax_94 : decode cX7_relax 94 = .ok (.invokevirtual 73, 3) := by decide +kernel
theorem dX7_relax_97 : decode cX7_relax 97 = .ok (.iadd, 1) := by decide +kernel
theorem dX7_relax_98 : decode cX7_relax 98 = .ok (.istore 7, 2) := by decide +kernel
theorem dX7_relax_100 : decode cX7_relax 100 = .ok (.aload_n 0, 1) := by decide +kernel
theorem dX7_relax_101 : decode cX7_relax 101 = .ok (.iload 7, 2) := by decide +kernel
theorem dX7_relax_103 : decode cX7_relax 103 = .ok (.aload_n 0, 1) := by decide +kernel
theorem dX7_relax_104 : decode cX7_relax 104 = .ok (.getfield 31, 3) := by decide +kernel
theorem dX7_relax_107 : decode cX7_relax 107 = .ok (.iload 6, 2) := by decide +kernel
theorem dX7_relax_109 : decode cX7_relax 109 = .ok (.iaload, 1) := by decide +kernel
theorem dX7_relax_110 : decode cX7_relax 110 = .ok (.iconst 1, 1) := by decide +kernel
theorem dX7_relax_111 : decode cX7_relax 111 = .ok (.iadd, 1) := by decide +kernel
theorem dX7_relax_112 : decode cX7_relax 112 = .ok (.iload 5, 2) := by decide +kernel
theorem dX7_relax_114 : decode cX7_relax 114 = .ok (.invokevirtual 262, 3) := by decide +kernel
theorem dX7_relax_117 : decode cX7_relax 117 = .ok (.ifCond .eq 28, 3) := by decide +kernel
theorem dX7_relax_120 : decode cX7_relax 120 = .ok (.aload_n 0, 1) := by decide +kernel
theorem dX7_relax_121 : decode cX7_relax 121 = .ok (.getfield 28, 3) := by decide +kernel
theorem dX7_relax_124 : decode cX7_relax 124 = .ok (.iload 5, 2) := by decide +kernel
theorem dX7_relax_126 : decode cX7_relax 126 = .ok (.iload 7, 2) := by decide +kernel
theorem dX7_relax_128 : decode cX7_relax 128 = .ok (.iastore, 1) := by decide +kernel
theorem dX7_relax_129 : decode cX7_relax 129 = .ok (.aload_n 0, 1) := by decide +kernel
theorem dX7_relax_130 : decode cX7_relax 130 = .ok (.getfield 31, 3) := by decide +kernel
theorem dX7_relax_133 : decode cX7_relax 133 = .ok (.iload 5, 2) := by decide +kernel
theorem dX7_relax_135 : decode cX7_relax 135 = .ok (.aload_n 0, 1) := by decide +kernel
theorem dX7_relax_136 : decode cX7_relax 136 = .ok (.getfield 31, 3) := by decide +kernel
theorem dX7_relax_139 : decode cX7_relax 139 = .ok (.iload 6, 2) := by decide +kernel
theorem dX7_relax_141 : decode cX7_relax 141 = .ok (.iaload, 1) := by decide +kernel
theorem dX7_relax_142 : decode cX7_relax 142 = .ok (.iconst 1, 1) := by decide +kernel
theorem dX7_relax_143 : decode cX7_relax 143 = .ok (.iadd, 1) := by decide +kernel
theorem dX7_relax_144 : decode cX7_relax 144 = .ok (.iastore, 1) := by decide +kernel
theorem dX7_relax_145 : decode cX7_relax 145 = .ok (.return_, 1) := by decide +kernel
theorem dX7_choose_0 : decode cX7_choose 0 = .ok (.aload_n 0, 1) := by decide +kernel
theorem dX7_choose_1 : decode cX7_choose 1 = .ok (.getfield 28, 3) := by decide +kernel
theorem dX7_choose_4 : decode cX7_choose 4 = .ok (.iload_n 2, 1) := by decide +kernel
theorem dX7_choose_5 : decode cX7_choose 5 = .ok (.iaload, 1) := by decide +kernel
theorem dX7_choose_6 : decode cX7_choose 6 = .ok (.ldc 253, 2) := by decide +kernel
theorem dX7_choose_8 : decode cX7_choose 8 = .ok (.if_icmp .lt 6, 3) := by decide +kernel
theorem dX7_choose_11 : decode cX7_choose 11 = .ok (.bipush (-9), 2) := by decide +kernel
theorem dX7_choose_13 : decode cX7_choose 13 = .ok (.ireturn, 1) := by decide +kernel
theorem dX7_choose_14 : decode cX7_choose 14 = .ok (.iconst 0, 1) := by decide +kernel
theorem dX7_choose_15 : decode cX7_choose 15 = .ok (.istore 5, 2) := by decide +kernel
theorem dX7_choose_17 : decode cX7_choose 17 = .ok (.iload 5, 2) := by decide +kernel
theorem dX7_choose_19 : decode cX7_choose 19 = .ok (.aload_n 0, 1) := by decide +kernel
theorem dX7_choose_20 : decode cX7_choose 20 = .ok (.getfield 7, 3) := by decide +kernel
theorem dX7_choose_23 : decode cX7_choose 23 = .ok (.iconst 0, 1) := by decide +kernel
theorem dX7_choose_24 : decode cX7_choose 24 = .ok (.iaload, 1) := by decide +kernel
theorem dX7_choose_25 : decode cX7_choose 25 = .ok (.if_icmp .ge 133, 3) := by decide +kernel
theorem dX7_choose_28 : decode cX7_choose 28 = .ok (.bipush 16, 2) := by decide +kernel
theorem dX7_choose_30 : decode cX7_choose 30 = .ok (.istore 6, 2) := by decide +kernel
theorem dX7_choose_32 : decode cX7_choose 32 = .ok (.iload 6, 2) := by decide +kernel
theorem dX7_choose_34 : decode cX7_choose 34 = .ok (.bipush 35, 2) := by decide +kernel
theorem dX7_choose_36 : decode cX7_choose 36 = .ok (.if_icmp .ge 116, 3) := by decide +kernel
theorem dX7_choose_39 : decode cX7_choose 39 = .ok (.iload 5, 2) := by decide +kernel
theorem dX7_choose_41 : decode cX7_choose 41 = .ok (.iload_n 2, 1) := by decide +kernel
theorem dX7_choose_42 : decode cX7_choose 42 = .ok (.if_icmp .eq 32, 3) := by decide +kernel
theorem dX7_choose_45 : decode cX7_choose 45 = .ok (.aload_n 0, 1) := by decide +kernel
theorem dX7_choose_46 : decode cX7_choose 46 = .ok (.iload 6, 2) := by decide +kernel
theorem dX7_choose_48 : decode cX7_choose 48 = .ok (.invokevirtual 235, 3) := by decide +kernel
theorem dX7_choose_51 : decode cX7_choose 51 = .ok (.ifCond .eq 23, 3) := by decide +kernel
theorem dX7_choose_54 : decode cX7_choose 54 = .ok (.aload_n 0, 1) := by decide +kernel
theorem dX7_choose_55 : decode cX7_choose 55 = .ok (.iload_n 1, 1) := by decide +kernel
theorem dX7_choose_56 : decode cX7_choose 56 = .ok (.iload 6, 2) := by decide +kernel
theorem dX7_choose_58 : decode cX7_choose 58 = .ok (.iload_n 3, 1) := by decide +kernel
theorem dX7_choose_59 : decode cX7_choose 59 = .ok (.iload 4, 2) := by decide +kernel
theorem dX7_choose_61 : decode cX7_choose 61 = .ok (.iload_n 2, 1) := by decide +kernel
theorem dX7_choose_62 : decode cX7_choose 62 = .ok (.iload 5, 2) := by decide +kernel
theorem dX7_choose_64 : decode cX7_choose 64 = .ok (.invokevirtual 258, 3) := by decide +kernel
theorem dX7_choose_67 : decode cX7_choose 67 = .ok (.ifCond .eq 7, 3) := by decide +kernel
theorem dX7_choose_70 : decode cX7_choose 70 = .ok (.iconst 1, 1) := by decide +kernel
theorem dX7_choose_71 : decode cX7_choose 71 = .ok (.goto 4, 3) := by decide +kernel
theorem dX7_choose_74 : decode cX7_choose 74 = .ok (.iconst 0, 1) := by decide +kernel
theorem dX7_choose_75 : decode cX7_choose 75 = .ok (.istore 7, 2) := by decide +kernel
theorem dX7_choose_77 : decode cX7_choose 77 = .ok (.iload 7, 2) := by decide +kernel
theorem dX7_choose_79 : decode cX7_choose 79 = .ok (.ifCond .eq 67, 3) := by decide +kernel
theorem dX7_choose_82 : decode cX7_choose 82 = .ok (.aload_n 0, 1) := by decide +kernel
theorem dX7_choose_83 : decode cX7_choose 83 = .ok (.getfield 28, 3) := by decide +kernel
theorem dX7_choose_86 : decode cX7_choose 86 = .ok (.iload 5, 2) := by decide +kernel
theorem dX7_choose_88 : decode cX7_choose 88 = .ok (.iaload, 1) := by decide +kernel
theorem dX7_choose_89 : decode cX7_choose 89 = .ok (.ldc 253, 2) := by decide +kernel
theorem dX7_choose_91 : decode cX7_choose 91 = .ok (.if_icmp .ge 55, 3) := by decide +kernel
theorem dX7_choose_94 : decode cX7_choose 94 = .ok (.aload_n 0, 1) := by decide +kernel
theorem dX7_choose_95 : decode cX7_choose 95 = .ok (.getfield 28, 3) := by decide +kernel
theorem dX7_choose_98 : decode cX7_choose 98 = .ok (.iload 5, 2) := by decide +kernel
theorem dX7_choose_100 : decode cX7_choose 100 = .ok (.iaload, 1) := by decide +kernel
theorem dX7_choose_101 : decode cX7_choose 101 = .ok (.aload_n 0, 1) := by decide +kernel
theorem dX7_choose_102 : decode cX7_choose 102 = .ok (.iload_n 1, 1) := by decide +kernel
theorem dX7_choose_103 : decode cX7_choose 103 = .ok (.iload 6, 2) := by decide +kernel
theorem dX7_choose_105 : decode cX7_choose 105 = .ok (.iconst 2, 1) := by decide +kernel
theorem dX7_choose_106 : decode cX7_choose 106 = .ok (.invokevirtual 73, 3) := by decide +kernel
theorem dX7_choose_109 : decode cX7_choose 109 = .ok (.iadd, 1) := by decide +kernel
theorem dX7_choose_110 : decode cX7_choose 110 = .ok (.aload_n 0, 1) := by decide +kernel
theorem dX7_choose_111 : decode cX7_choose 111 = .ok (.getfield 28, 3) := by decide +kernel
theorem dX7_choose_114 : decode cX7_choose 114 = .ok (.iload_n 2, 1) := by decide +kernel
theorem dX7_choose_115 : decode cX7_choose 115 = .ok (.iaload, 1) := by decide +kernel
theorem dX7_choose_116 : decode cX7_choose 116 = .ok (.if_icmp .ne 30, 3) := by decide +kernel
theorem dX7_choose_119 : decode cX7_choose 119 = .ok (.aload_n 0, 1) := by decide +kernel
theorem dX7_choose_120 : decode cX7_choose 120 = .ok (.getfield 31, 3) := by decide +kernel
theorem dX7_choose_123 : decode cX7_choose 123 = .ok (.iload 5, 2) := by decide +kernel
theorem dX7_choose_125 : decode cX7_choose 125 = .ok (.iaload, 1) := by decide +kernel
theorem dX7_choose_126 : decode cX7_choose 126 = .ok (.iconst 1, 1) := by decide +kernel
theorem dX7_choose_127 : decode cX7_choose 127 = .ok (.iadd, 1) := by decide +kernel
theorem dX7_choose_128 : decode cX7_choose 128 = .ok (.aload_n 0, 1) := by decide +kernel
theorem dX7_choose_129 : decode cX7_choose 129 = .ok (.getfield 31, 3) := by decide +kernel
theorem dX7_choose_132 : decode cX7_choose 132 = .ok (.iload_n 2, 1) := by decide +kernel
theorem dX7_choose_133 : decode cX7_choose 133 = .ok (.iaload, 1) := by decide +kernel
theorem dX7_choose_134 : decode cX7_choose 134 = .ok (.if_icmp .ne 12, 3) := by decide +kernel
theorem dX7_choose_137 : decode cX7_choose 137 = .ok (.aload_n 0, 1) := by decide +kernel
theorem dX7_choose_138 : decode cX7_choose 138 = .ok (.iload 5, 2) := by decide +kernel
theorem dX7_choose_140 : decode cX7_choose 140 = .ok (.putfield 265, 3) := by decide +kernel
theorem dX7_choose_143 : decode cX7_choose 143 = .ok (.iload 6, 2) := by decide +kernel
theorem dX7_choose_145 : decode cX7_choose 145 = .ok (.ireturn, 1) := by decide +kernel
theorem dX7_choose_146 : decode cX7_choose 146 = .ok (.iinc 6 1, 3) := by decide +kernel
theorem dX7_choose_149 : decode cX7_choose 149 = .ok (.goto (-117), 3) := by decide +kernel
theorem dX7_choose_152 : decode cX7_choose 152 = .ok (.iinc 5 1, 3) := by decide +kernel
theorem dX7_choose_155 : decode cX7_choose 155 = .ok (.goto (-138), 3) := by decide +kernel
theorem dX7_choose_158 : decode cX7_choose 158 = .ok (.bipush (-9), 2) := by decide +kernel
theorem dX7_choose_160 : decode cX7_choose 160 = .ok (.ireturn, 1) := by decide +kernel
theorem dX7_distance_0 : decode cX7_distance 0 = .ok (.aload_n 0, 1) := by decide +kernel
theorem dX7_distance_1 : decode cX7_distance 1 = .ok (.iconst 0, 1) := by decide +kernel
theorem dX7_distance_2 : decode cX7_distance 2 = .ok (.putfield 40, 3) := by decide +kernel
theorem dX7_distance_5 : decode cX7_distance 5 = .ok (.aload_n 0, 1) := by decide +kernel
theorem dX7_distance_6 : decode cX7_distance 6 = .ok (.iload_n 1, 1) := by decide +kernel
theorem dX7_distance_7 : decode cX7_distance 7 = .ok (.invokevirtual 125, 3) := by decide +kernel
theorem dX7_distance_10 : decode cX7_distance 10 = .ok (.ifCond .eq 18, 3) := by decide +kernel
theorem dX7_distance_13 : decode cX7_distance 13 = .ok (.aload_n 0, 1) := by decide +kernel
theorem dX7_distance_14 : decode cX7_distance 14 = .ok (.iload_n 2, 1) := by decide +kernel
theorem dX7_distance_15 : decode cX7_distance 15 = .ok (.invokevirtual 125, 3) := by decide +kernel
theorem dX7_distance_18 : decode cX7_distance 18 = .ok (.ifCond .eq 10, 3) := by decide +kernel
theorem dX7_distance_21 : decode cX7_distance 21 = .ok (.iload_n 3, 1) := by decide +kernel
theorem dX7_distance_22 : decode cX7_distance 22 = .ok (.invokestatic 116, 3) := by decide +kernel
theorem dX7_distance_25 : decode cX7_distance 25 = .ok (.ifCond .ne 5, 3) := by decide +kernel
theorem dX7_distance_28 : decode cX7_distance 28 = .ok (.iconst (-1), 1) := by decide +kernel
theorem dX7_distance_29 : decode cX7_distance 29 = .ok (.ireturn, 1) := by decide +kernel
theorem dX7_distance_30 : decode cX7_distance 30 = .ok (.aload_n 0, 1) := by decide +kernel
theorem dX7_distance_31 : decode cX7_distance 31 = .ok (.iload_n 1, 1) := by decide +kernel
theorem dX7_distance_32 : decode cX7_distance 32 = .ok (.iload_n 2, 1) := by decide +kernel
theorem dX7_distance_33 : decode cX7_distance 33 = .ok (.iload_n 3, 1) := by decide +kernel
theorem dX7_distance_34 : decode cX7_distance 34 = .ok (.iconst 1, 1) := by decide +kernel
theorem dX7_distance_35 : decode cX7_distance 35 = .ok (.invokevirtual 268, 3) := by decide +kernel
theorem dX7_distance_38 : decode cX7_distance 38 = .ok (.aload_n 0, 1) := by decide +kernel
theorem dX7_distance_39 : decode cX7_distance 39 = .ok (.getfield 28, 3) := by decide +kernel
theorem dX7_distance_42 : decode cX7_distance 42 = .ok (.iload_n 1, 1) := by decide +kernel
theorem dX7_distance_43 : decode cX7_distance 43 = .ok (.iaload, 1) := by decide +kernel
theorem dX7_distance_44 : decode cX7_distance 44 = .ok (.ldc 253, 2) := by decide +kernel
theorem dX7_distance_46 : decode cX7_distance 46 = .ok (.if_icmp .ge 12, 3) := by decide +kernel
theorem dX7_distance_49 : decode cX7_distance 49 = .ok (.aload_n 0, 1) := by decide +kernel
theorem dX7_distance_50 : decode cX7_distance 50 = .ok (.getfield 28, 3) := by decide +kernel
theorem dX7_distance_53 : decode cX7_distance 53 = .ok (.iload_n 1, 1) := by decide +kernel
theorem dX7_distance_54 : decode cX7_distance 54 = .ok (.iaload, 1) := by decide +kernel
theorem dX7_distance_55 : decode cX7_distance 55 = .ok (.goto 5, 3) := by decide +kernel
theorem dX7_distance_58 : decode cX7_distance 58 = .ok (.bipush (-9), 2) := by decide +kernel
theorem dX7_distance_60 : decode cX7_distance 60 = .ok (.ireturn, 1) := by decide +kernel
theorem dX7_next_0 : decode cX7_next 0 = .ok (.aload_n 0, 1) := by decide +kernel
theorem dX7_next_1 : decode cX7_next 1 = .ok (.iconst 0, 1) := by decide +kernel
theorem dX7_next_2 : decode cX7_next 2 = .ok (.putfield 40, 3) := by decide +kernel
theorem dX7_next_5 : decode cX7_next 5 = .ok (.aload_n 0, 1) := by decide +kernel
theorem dX7_next_6 : decode cX7_next 6 = .ok (.iload_n 1, 1) := by decide +kernel
theorem dX7_next_7 : decode cX7_next 7 = .ok (.iload_n 2, 1) := by decide +kernel
theorem dX7_next_8 : decode cX7_next 8 = .ok (.invokevirtual 128, 3) := by decide +kernel
theorem dX7_next_11 : decode cX7_next 11 = .ok (.ifCond .eq 20, 3) := by decide +kernel
theorem dX7_next_14 : decode cX7_next 14 = .ok (.iload_n 3, 1) := by decide +kernel
theorem dX7_next_15 : decode cX7_next 15 = .ok (.invokestatic 116, 3) := by decide +kernel
theorem dX7_next_18 : decode cX7_next 18 = .ok (.ifCond .eq 13, 3) := by decide +kernel
theorem dX7_next_21 : decode cX7_next 21 = .ok (.iload 4, 2) := by decide +kernel
theorem dX7_next_23 : decode cX7_next 23 = .ok (.iconst 0, 1) := by decide +kernel
theorem dX7_next_24 : decode cX7_next 24 = .ok (.iconst 1, 1) := by decide +kernel
theorem dX7_next_25 : decode cX7_next 25 = .ok (.invokestatic 58, 3) := by decide +kernel
theorem dX7_next_28 : decode cX7_next 28 = .ok (.ifCond .ne 5, 3) := by decide +kernel
theorem dX7_next_31 : decode cX7_next 31 = .ok (.iconst (-1), 1) := by decide +kernel
theorem dX7_next_32 : decode cX7_next 32 = .ok (.ireturn, 1) := by decide +kernel
theorem dX7_next_33 : decode cX7_next 33 = .ok (.aload_n 0, 1) := by decide +kernel
theorem dX7_next_34 : decode cX7_next 34 = .ok (.iload_n 1, 1) := by decide +kernel
theorem dX7_next_35 : decode cX7_next 35 = .ok (.iload_n 2, 1) := by decide +kernel
theorem dX7_next_36 : decode cX7_next 36 = .ok (.iload_n 3, 1) := by decide +kernel
theorem dX7_next_37 : decode cX7_next 37 = .ok (.iconst 1, 1) := by decide +kernel
theorem dX7_next_38 : decode cX7_next 38 = .ok (.invokevirtual 268, 3) := by decide +kernel
theorem dX7_next_41 : decode cX7_next 41 = .ok (.aload_n 0, 1) := by decide +kernel
theorem dX7_next_42 : decode cX7_next 42 = .ok (.iload_n 1, 1) := by decide +kernel
theorem dX7_next_43 : decode cX7_next 43 = .ok (.iload_n 1, 1) := by decide +kernel
theorem dX7_next_44 : decode cX7_next 44 = .ok (.iload_n 3, 1) := by decide +kernel
theorem dX7_next_45 : decode cX7_next 45 = .ok (.iconst 1, 1) := by decide +kernel
theorem dX7_next_46 : decode cX7_next 46 = .ok (.invokevirtual 272, 3) := by decide +kernel
theorem dX7_next_49 : decode cX7_next 49 = .ok (.istore 5, 2) := by decide +kernel
theorem dX7_next_51 : decode cX7_next 51 = .ok (.iload 5, 2) := by decide +kernel
theorem dX7_next_53 : decode cX7_next 53 = .ok (.bipush (-9), 2) := by decide +kernel
theorem dX7_next_55 : decode cX7_next 55 = .ok (.if_icmp .ne 8, 3) := by decide +kernel
theorem dX7_next_58 : decode cX7_next 58 = .ok (.bipush (-9), 2) := by decide +kernel
theorem dX7_next_60 : decode cX7_next 60 = .ok (.goto 17, 3) := by decide +kernel
theorem dX7_next_63 : decode cX7_next 63 = .ok (.iload 4, 2) := by decide +kernel
theorem dX7_next_65 : decode cX7_next 65 = .ok (.ifCond .ne 10, 3) := by decide +kernel
theorem dX7_next_68 : decode cX7_next 68 = .ok (.aload_n 0, 1) := by decide +kernel
theorem dX7_next_69 : decode cX7_next 69 = .ok (.getfield 265, 3) := by decide +kernel
theorem dX7_next_72 : decode cX7_next 72 = .ok (.goto 5, 3) := by decide +kernel
theorem dX7_next_75 : decode cX7_next 75 = .ok (.iload 5, 2) := by decide +kernel
theorem dX7_next_77 : decode cX7_next 77 = .ok (.ireturn, 1) := by decide +kernel
theorem dX7_refusal_0 : decode cX7_refusal 0 = .ok (.iload_n 1, 1) := by decide +kernel
theorem dX7_refusal_1 : decode cX7_refusal 1 = .ok (.bipush (-9), 2) := by decide +kernel
theorem dX7_refusal_3 : decode cX7_refusal 3 = .ok (.if_icmp .ne 5, 3) := by decide +kernel
theorem dX7_refusal_6 : decode cX7_refusal 6 = .ok (.iconst 1, 1) := by decide +kernel
theorem dX7_refusal_7 : decode cX7_refusal 7 = .ok (.ireturn, 1) := by decide +kernel
theorem dX7_refusal_8 : decode cX7_refusal 8 = .ok (.iload_n 1, 1) := by decide +kernel
theorem dX7_refusal_9 : decode cX7_refusal 9 = .ok (.bipush 32, 2) := by decide +kernel
theorem dX7_refusal_11 : decode cX7_refusal 11 = .ok (.if_icmp .lt 7, 3) := by decide +kernel
theorem dX7_refusal_14 : decode cX7_refusal 14 = .ok (.iconst 1, 1) := by decide +kernel
theorem dX7_refusal_15 : decode cX7_refusal 15 = .ok (.goto 4, 3) := by decide +kernel
theorem dX7_refusal_18 : decode cX7_refusal 18 = .ok (.iconst 0, 1) := by decide +kernel
theorem dX7_refusal_19 : decode cX7_refusal 19 = .ok (.istore_n 3, 1) := by decide +kernel
theorem dX7_refusal_20 : decode cX7_refusal 20 = .ok (.iload_n 3, 1) := by decide +kernel
theorem dX7_refusal_21 : decode cX7_refusal 21 = .ok (.ifCond .eq 15, 3) := by decide +kernel
theorem dX7_refusal_24 : decode cX7_refusal 24 = .ok (.aload_n 0, 1) := by decide +kernel
theorem dX7_refusal_25 : decode cX7_refusal 25 = .ok (.iload_n 1, 1) := by decide +kernel
theorem dX7_refusal_26 : decode cX7_refusal 26 = .ok (.bipush 32, 2) := by decide +kernel
theorem dX7_refusal_28 : decode cX7_refusal 28 = .ok (.isub, 1) := by decide +kernel
theorem dX7_refusal_29 : decode cX7_refusal 29 = .ok (.iconst 3, 1) := by decide +kernel
theorem dX7_refusal_30 : decode cX7_refusal 30 = .ok (.invokevirtual 106, 3) := by decide +kernel
theorem dX7_refusal_33 : decode cX7_refusal 33 = .ok (.goto 12, 3) := by decide +kernel
theorem dX7_refusal_36 : decode cX7_refusal 36 = .ok (.aload_n 0, 1) := by decide +kernel
theorem dX7_refusal_37 : decode cX7_refusal 37 = .ok (.iload_n 1, 1) := by decide +kernel
theorem dX7_refusal_38 : decode cX7_refusal 38 = .ok (.bipush 16, 2) := by decide +kernel
theorem dX7_refusal_40 : decode cX7_refusal 40 = .ok (.isub, 1) := by decide +kernel
theorem dX7_refusal_41 : decode cX7_refusal 41 = .ok (.iconst 3, 1) := by decide +kernel
theorem dX7_refusal_42 : decode cX7_refusal 42 = .ok (.invokevirtual 62, 3) := by decide +kernel
theorem dX7_refusal_45 : decode cX7_refusal 45 = .ok (.ifCond .ne 5, 3) := by decide +kernel
theorem dX7_refusal_48 : decode cX7_refusal 48 = .ok (.iconst 2, 1) := by decide +kernel
theorem dX7_refusal_49 : decode cX7_refusal 49 = .ok (.ireturn, 1) := by decide +kernel
theorem dX7_refusal_50 : decode cX7_refusal 50 = .ok (.iload_n 3, 1) := by decide +kernel
theorem dX7_refusal_51 : decode cX7_refusal 51 = .ok (.ifCond .eq 7, 3) := by decide +kernel
theorem dX7_refusal_54 : decode cX7_refusal 54 = .ok (.iconst 0, 1) := by decide +kernel
theorem dX7_refusal_55 : decode cX7_refusal 55 = .ok (.goto 33, 3) := by decide +kernel
theorem dX7_refusal_58 : decode cX7_refusal 58 = .ok (.aload_n 0, 1) := by decide +kernel
theorem dX7_refusal_59 : decode cX7_refusal 59 = .ok (.iload_n 2, 1) := by decide +kernel
theorem dX7_refusal_60 : decode cX7_refusal 60 = .ok (.iload_n 1, 1) := by decide +kernel
theorem dX7_refusal_61 : decode cX7_refusal 61 = .ok (.bipush 16, 2) := by decide +kernel
theorem dX7_refusal_63 : decode cX7_refusal 63 = .ok (.isub, 1) := by decide +kernel
theorem dX7_refusal_64 : decode cX7_refusal 64 = .ok (.invokevirtual 241, 3) := by decide +kernel
theorem dX7_refusal_67 : decode cX7_refusal 67 = .ok (.ifCond .ne 7, 3) := by decide +kernel
theorem dX7_refusal_70 : decode cX7_refusal 70 = .ok (.iconst 3, 1) := by decide +kernel
theorem dX7_refusal_71 : decode cX7_refusal 71 = .ok (.goto 17, 3) := by decide +kernel
theorem dX7_refusal_74 : decode cX7_refusal 74 = .ok (.aload_n 0, 1) := by decide +kernel
theorem dX7_refusal_75 : decode cX7_refusal 75 = .ok (.getfield 276, 3) := by decide +kernel
theorem dX7_refusal_78 : decode cX7_refusal 78 = .ok (.bipush 20, 2) := by decide +kernel
theorem dX7_refusal_80 : decode cX7_refusal 80 = .ok (.if_icmp .ne 7, 3) := by decide +kernel
theorem dX7_refusal_83 : decode cX7_refusal 83 = .ok (.iconst 4, 1) := by decide +kernel
theorem dX7_refusal_84 : decode cX7_refusal 84 = .ok (.goto 4, 3) := by decide +kernel
theorem dX7_refusal_87 : decode cX7_refusal 87 = .ok (.iconst 0, 1) := by decide +kernel
theorem dX7_refusal_88 : decode cX7_refusal 88 = .ok (.ireturn, 1) := by decide +kernel
theorem dX7_carry_0 : decode cX7_carry 0 = .ok (.aload_n 0, 1) := by decide +kernel
theorem dX7_carry_1 : decode cX7_carry 1 = .ok (.getfield 34, 3) := by decide +kernel
theorem dX7_carry_4 : decode cX7_carry 4 = .ok (.iconst 0, 1) := by decide +kernel
theorem dX7_carry_5 : decode cX7_carry 5 = .ok (.iload_n 1, 1) := by decide +kernel
theorem dX7_carry_6 : decode cX7_carry 6 = .ok (.iastore, 1) := by decide +kernel
theorem dX7_carry_7 : decode cX7_carry 7 = .ok (.aload_n 0, 1) := by decide +kernel
theorem dX7_carry_8 : decode cX7_carry 8 = .ok (.iconst 0, 1) := by decide +kernel
theorem dX7_carry_9 : decode cX7_carry 9 = .ok (.putfield 276, 3) := by decide +kernel
theorem dX7_carry_12 : decode cX7_carry 12 = .ok (.aload_n 0, 1) := by decide +kernel
theorem dX7_carry_13 : decode cX7_carry 13 = .ok (.iconst 0, 1) := by decide +kernel
theorem dX7_carry_14 : decode cX7_carry 14 = .ok (.putfield 279, 3) := by decide +kernel
theorem dX7_carry_17 : decode cX7_carry 17 = .ok (.iload_n 1, 1) := by decide +kernel
theorem dX7_carry_18 : decode cX7_carry 18 = .ok (.istore_n 3, 1) := by decide +kernel
theorem dX7_carry_19 : decode cX7_carry 19 = .ok (.bipush (-9), 2) := by decide +kernel
theorem dX7_carry_21 : decode cX7_carry 21 = .ok (.istore 4, 2) := by decide +kernel
theorem dX7_carry_23 : decode cX7_carry 23 = .ok (.iload_n 3, 1) := by decide +kernel
theorem dX7_carry_24 : decode cX7_carry 24 = .ok (.iload_n 2, 1) := by decide +kernel
theorem dX7_carry_25 : decode cX7_carry 25 = .ok (.if_icmp .ne 10, 3) := by decide +kernel
theorem dX7_carry_28 : decode cX7_carry 28 = .ok (.iload 4, 2) := by decide +kernel
theorem dX7_carry_30 : decode cX7_carry 30 = .ok (.bipush (-9), 2) := by decide +kernel
theorem dX7_carry_32 : decode cX7_carry 32 = .ok (.if_icmp .eq 205, 3) := by decide +kernel
theorem dX7_carry_35 : decode cX7_carry 35 = .ok (.iload 4, 2) := by decide +kernel
theorem dX7_carry_37 : decode cX7_carry 37 = .ok (.bipush (-9), 2) := by decide +kernel
theorem dX7_carry_39 : decode cX7_carry 39 = .ok (.if_icmp .ne 7, 3) := by decide +kernel
theorem dX7_carry_42 : decode cX7_carry 42 = .ok (.iload_n 2, 1) := by decide +kernel
theorem dX7_carry_43 : decode cX7_carry 43 = .ok (.goto 10, 3) := by decide +kernel
theorem dX7_carry_46 : decode cX7_carry 46 = .ok (.aload_n 0, 1) := by decide +kernel
theorem dX7_carry_47 : decode cX7_carry 47 = .ok (.iload 4, 2) := by decide +kernel
theorem dX7_carry_49 : decode cX7_carry 49 = .ok (.iconst 1, 1) := by decide +kernel
theorem dX7_carry_50 : decode cX7_carry 50 = .ok (.invokevirtual 106, 3) := by decide +kernel
theorem dX7_carry_53 : decode cX7_carry 53 = .ok (.istore 5, 2) := by decide +kernel
theorem dX7_carry_55 : decode cX7_carry 55 = .ok (.aload_n 0, 1) := by decide +kernel
theorem dX7_carry_56 : decode cX7_carry 56 = .ok (.iload 4, 2) := by decide +kernel
theorem dX7_carry_58 : decode cX7_carry 58 = .ok (.bipush (-9), 2) := by decide +kernel
theorem dX7_carry_60 : decode cX7_carry 60 = .ok (.if_icmp .ne 7, 3) := by decide +kernel
theorem dX7_carry_63 : decode cX7_carry 63 = .ok (.iload_n 1, 1) := by decide +kernel
theorem dX7_carry_64 : decode cX7_carry 64 = .ok (.goto 10, 3) := by decide +kernel
theorem dX7_carry_67 : decode cX7_carry 67 = .ok (.aload_n 0, 1) := by decide +kernel
theorem dX7_carry_68 : decode cX7_carry 68 = .ok (.iload 4, 2) := by decide +kernel
theorem dX7_carry_70 : decode cX7_carry 70 = .ok (.iconst 0, 1) := by decide +kernel
theorem dX7_carry_71 : decode cX7_carry 71 = .ok (.invokevirtual 106, 3) := by decide +kernel
theorem dX7_carry_74 : decode cX7_carry 74 = .ok (.invokevirtual 66, 3) := by decide +kernel
theorem dX7_carry_77 : decode cX7_carry 77 = .ok (.istore 6, 2) := by decide +kernel
theorem dX7_carry_79 : decode cX7_carry 79 = .ok (.aload_n 0, 1) := by decide +kernel
theorem dX7_carry_80 : decode cX7_carry 80 = .ok (.iload_n 3, 1) := by decide +kernel
theorem dX7_carry_81 : decode cX7_carry 81 = .ok (.iload 5, 2) := by decide +kernel
theorem dX7_carry_83 : decode cX7_carry 83 = .ok (.iload 6, 2) := by decide +kernel
theorem dX7_carry_85 : decode cX7_carry 85 = .ok (.iload 4, 2) := by decide +kernel
theorem dX7_carry_87 : decode cX7_carry 87 = .ok (.bipush (-9), 2) := by decide +kernel
theorem dX7_carry_89 : decode cX7_carry 89 = .ok (.if_icmp .ne 7, 3) := by decide +kernel
theorem dX7_carry_92 : decode cX7_carry 92 = .ok (.iconst 1, 1) := by decide +kernel
theorem dX7_carry_93 : decode cX7_carry 93 = .ok (.goto 4, 3) := by decide +kernel
theorem dX7_carry_96 : decode cX7_carry 96 = .ok (.iconst 0, 1) := by decide +kernel
theorem dX7_carry_97 : decode cX7_carry 97 = .ok (.invokevirtual 268, 3) := by decide +kernel
theorem dX7_carry_100 : decode cX7_carry 100 = .ok (.aload_n 0, 1) := by decide +kernel
theorem dX7_carry_101 : decode cX7_carry 101 = .ok (.iload_n 3, 1) := by decide +kernel
theorem dX7_carry_102 : decode cX7_carry 102 = .ok (.iload_n 3, 1) := by decide +kernel
theorem dX7_carry_103 : decode cX7_carry 103 = .ok (.iload 6, 2) := by decide +kernel
theorem dX7_carry_105 : decode cX7_carry 105 = .ok (.iload 4, 2) := by decide +kernel
theorem dX7_carry_107 : decode cX7_carry 107 = .ok (.bipush (-9), 2) := by decide +kernel
theorem dX7_carry_109 : decode cX7_carry 109 = .ok (.if_icmp .ne 7, 3) := by decide +kernel
theorem dX7_carry_112 : decode cX7_carry 112 = .ok (.iconst 1, 1) := by decide +kernel
theorem dX7_carry_113 : decode cX7_carry 113 = .ok (.goto 4, 3) := by decide +kernel
theorem dX7_carry_116 : decode cX7_carry 116 = .ok (.iconst 0, 1) := by decide +kernel
theorem dX7_carry_117 : decode cX7_carry 117 = .ok (.invokevirtual 272, 3) := by decide +kernel
theorem dX7_carry_120 : decode cX7_carry 120 = .ok (.istore 7, 2) := by decide +kernel
theorem dX7_carry_122 : decode cX7_carry 122 = .ok (.aload_n 0, 1) := by decide +kernel
theorem dX7_carry_123 : decode cX7_carry 123 = .ok (.iload 7, 2) := by decide +kernel
theorem dX7_carry_125 : decode cX7_carry 125 = .ok (.iload 6, 2) := by decide +kernel
theorem dX7_carry_127 : decode cX7_carry 127 = .ok (.invokevirtual 282, 3) := by decide +kernel
theorem dX7_carry_130 : decode cX7_carry 130 = .ok (.istore 8, 2) := by decide +kernel
theorem dX7_carry_132 : decode cX7_carry 132 = .ok (.iload 8, 2) := by decide +kernel
theorem dX7_carry_134 : decode cX7_carry 134 = .ok (.ifCond .le 6, 3) := by decide +kernel
theorem dX7_carry_137 : decode cX7_carry 137 = .ok (.iload 8, 2) := by decide +kernel
theorem dX7_carry_139 : decode cX7_carry 139 = .ok (.ireturn, 1) := by decide +kernel
theorem dX7_carry_140 : decode cX7_carry 140 = .ok (.iload 7, 2) := by decide +kernel
theorem dX7_carry_142 : decode cX7_carry 142 = .ok (.bipush 32, 2) := by decide +kernel
theorem dX7_carry_144 : decode cX7_carry 144 = .ok (.if_icmp .lt 13, 3) := by decide +kernel
theorem dX7_carry_147 : decode cX7_carry 147 = .ok (.iload 7, 2) := by decide +kernel
theorem dX7_carry_149 : decode cX7_carry 149 = .ok (.bipush 32, 2) := by decide +kernel
theorem dX7_carry_151 : decode cX7_carry 151 = .ok (.isub, 1) := by decide +kernel
theorem dX7_carry_152 : decode cX7_carry 152 = .ok (.istore 4, 2) := by decide +kernel
theorem dX7_carry_154 : decode cX7_carry 154 = .ok (.goto 53, 3) := by decide +kernel
theorem dX7_carry_157 : decode cX7_carry 157 = .ok (.aload_n 0, 1) := by decide +kernel
theorem dX7_carry_158 : decode cX7_carry 158 = .ok (.iload 7, 2) := by decide +kernel
theorem dX7_carry_160 : decode cX7_carry 160 = .ok (.bipush 16, 2) := by decide +kernel
theorem dX7_carry_162 : decode cX7_carry 162 = .ok (.isub, 1) := by decide +kernel
theorem dX7_carry_163 : decode cX7_carry 163 = .ok (.iload_n 3, 1) := by decide +kernel
theorem dX7_carry_164 : decode cX7_carry 164 = .ok (.invokevirtual 219, 3) := by decide +kernel
theorem dX7_carry_167 : decode cX7_carry 167 = .ok (.istore_n 3, 1) := by decide +kernel
theorem dX7_carry_168 : decode cX7_carry 168 = .ok (.aload_n 0, 1) := by decide +kernel
theorem dX7_carry_169 : decode cX7_carry 169 = .ok (.dup, 1) := by decide +kernel
theorem dX7_carry_170 : decode cX7_carry 170 = .ok (.getfield 276, 3) := by decide +kernel
theorem dX7_carry_173 : decode cX7_carry 173 = .ok (.iconst 1, 1) := by decide +kernel
theorem dX7_carry_174 : decode cX7_carry 174 = .ok (.iadd, 1) := by decide +kernel
theorem dX7_carry_175 : decode cX7_carry 175 = .ok (.putfield 276, 3) := by decide +kernel
theorem dX7_carry_178 : decode cX7_carry 178 = .ok (.aload_n 0, 1) := by decide +kernel
theorem dX7_carry_179 : decode cX7_carry 179 = .ok (.getfield 34, 3) := by decide +kernel
theorem dX7_carry_182 : decode cX7_carry 182 = .ok (.aload_n 0, 1) := by decide +kernel
theorem dX7_carry_183 : decode cX7_carry 183 = .ok (.getfield 276, 3) := by decide +kernel
theorem dX7_carry_186 : decode cX7_carry 186 = .ok (.iload_n 3, 1) := by decide +kernel
theorem dX7_carry_187 : decode cX7_carry 187 = .ok (.iastore, 1) := by decide +kernel
theorem dX7_carry_188 : decode cX7_carry 188 = .ok (.aload_n 0, 1) := by decide +kernel
theorem dX7_carry_189 : decode cX7_carry 189 = .ok (.dup, 1) := by decide +kernel
theorem dX7_carry_190 : decode cX7_carry 190 = .ok (.getfield 279, 3) := by decide +kernel
theorem dX7_carry_193 : decode cX7_carry 193 = .ok (.aload_n 0, 1) := by decide +kernel
theorem dX7_carry_194 : decode cX7_carry 194 = .ok (.iload 7, 2) := by decide +kernel
theorem dX7_carry_196 : decode cX7_carry 196 = .ok (.bipush 16, 2) := by decide +kernel
theorem dX7_carry_198 : decode cX7_carry 198 = .ok (.isub, 1) := by decide +kernel
theorem dX7_carry_199 : decode cX7_carry 199 = .ok (.iconst 2, 1) := by decide +kernel
theorem dX7_carry_200 : decode cX7_carry 200 = .ok (.invokevirtual 62, 3) := by decide +kernel
theorem dX7_carry_203 : decode cX7_carry 203 = .ok (.iadd, 1) := by decide +kernel
theorem dX7_carry_204 : decode cX7_carry 204 = .ok (.putfield 279, 3) := by decide +kernel
theorem dX7_carry_207 : decode cX7_carry 207 = .ok (.iload 4, 2) := by decide +kernel
theorem dX7_carry_209 : decode cX7_carry 209 = .ok (.bipush (-9), 2) := by decide +kernel
theorem dX7_carry_211 : decode cX7_carry 211 = .ok (.if_icmp .eq 19, 3) := by decide +kernel
theorem dX7_carry_214 : decode cX7_carry 214 = .ok (.iload_n 3, 1) := by decide +kernel
theorem dX7_carry_215 : decode cX7_carry 215 = .ok (.aload_n 0, 1) := by decide +kernel
theorem dX7_carry_216 : decode cX7_carry 216 = .ok (.iload 4, 2) := by decide +kernel
theorem dX7_carry_218 : decode cX7_carry 218 = .ok (.iconst 1, 1) := by decide +kernel
theorem dX7_carry_219 : decode cX7_carry 219 = .ok (.invokevirtual 106, 3) := by decide +kernel
theorem dX7_carry_222 : decode cX7_carry 222 = .ok (.if_icmp .ne 8, 3) := by decide +kernel
theorem dX7_carry_225 : decode cX7_carry 225 = .ok (.bipush (-9), 2) := by decide +kernel
theorem dX7_carry_227 : decode cX7_carry 227 = .ok (.goto 5, 3) := by decide +kernel
theorem dX7_carry_230 : decode cX7_carry 230 = .ok (.iload 4, 2) := by decide +kernel
theorem dX7_carry_232 : decode cX7_carry 232 = .ok (.istore 4, 2) := by decide +kernel
theorem dX7_carry_234 : decode cX7_carry 234 = .ok (.goto (-211), 3) := by decide +kernel
theorem dX7_carry_237 : decode cX7_carry 237 = .ok (.iconst 0, 1) := by decide +kernel
theorem dX7_carry_238 : decode cX7_carry 238 = .ok (.ireturn, 1) := by decide +kernel
theorem dX7_send_0 : decode cX7_send 0 = .ok (.aload_n 0, 1) := by decide +kernel
theorem dX7_send_1 : decode cX7_send 1 = .ok (.iconst 0, 1) := by decide +kernel
theorem dX7_send_2 : decode cX7_send 2 = .ok (.putfield 40, 3) := by decide +kernel
theorem dX7_send_5 : decode cX7_send 5 = .ok (.aload_n 0, 1) := by decide +kernel
theorem dX7_send_6 : decode cX7_send 6 = .ok (.iload_n 1, 1) := by decide +kernel
theorem dX7_send_7 : decode cX7_send 7 = .ok (.iload_n 2, 1) := by decide +kernel
theorem dX7_send_8 : decode cX7_send 8 = .ok (.invokevirtual 128, 3) := by decide +kernel
theorem dX7_send_11 : decode cX7_send 11 = .ok (.ifCond .ne 5, 3) := by decide +kernel
theorem dX7_send_14 : decode cX7_send 14 = .ok (.iconst (-1), 1) := by decide +kernel
theorem dX7_send_15 : decode cX7_send 15 = .ok (.ireturn, 1) := by decide +kernel
theorem dX7_send_16 : decode cX7_send 16 = .ok (.aload_n 0, 1) := by decide +kernel
theorem dX7_send_17 : decode cX7_send 17 = .ok (.iload_n 1, 1) := by decide +kernel
theorem dX7_send_18 : decode cX7_send 18 = .ok (.iload_n 2, 1) := by decide +kernel
theorem dX7_send_19 : decode cX7_send 19 = .ok (.invokevirtual 285, 3) := by decide +kernel
theorem dX7_send_22 : decode cX7_send 22 = .ok (.istore_n 3, 1) := by decide +kernel
theorem dX7_send_23 : decode cX7_send 23 = .ok (.iconst 0, 1) := by decide +kernel
theorem dX7_send_24 : decode cX7_send 24 = .ok (.istore 4, 2) := by decide +kernel
theorem dX7_send_26 : decode cX7_send 26 = .ok (.iload 4, 2) := by decide +kernel
theorem dX7_send_28 : decode cX7_send 28 = .ok (.aload_n 0, 1) := by decide +kernel
theorem dX7_send_29 : decode cX7_send 29 = .ok (.getfield 276, 3) := by decide +kernel
theorem dX7_send_32 : decode cX7_send 32 = .ok (.if_icmp .gt 23, 3) := by decide +kernel
theorem dX7_send_35 : decode cX7_send 35 = .ok (.aload_n 0, 1) := by decide +kernel
theorem dX7_send_36 : decode cX7_send 36 = .ok (.getfield 25, 3) := by decide +kernel
theorem dX7_send_39 : decode cX7_send 39 = .ok (.iload 4, 2) := by decide +kernel
theorem dX7_send_41 : decode cX7_send 41 = .ok (.aload_n 0, 1) := by decide +kernel
theorem dX7_send_42 : decode cX7_send 42 = .ok (.getfield 34, 3) := by decide +kernel
theorem dX7_send_45 : decode cX7_send 45 = .ok (.iload 4, 2) := by decide +kernel
theorem dX7_send_47 : decode cX7_send 47 = .ok (.iaload, 1) := by decide +kernel
theorem dX7_send_48 : decode cX7_send 48 = .ok (.iastore, 1) := by decide +kernel
theorem dX7_send_49 : decode cX7_send 49 = .ok (.iinc 4 1, 3) := by decide +kernel
theorem dX7_send_52 : decode cX7_send 52 = .ok (.goto (-26), 3) := by decide +kernel
theorem dX7_send_55 : decode cX7_send 55 = .ok (.aload_n 0, 1) := by decide +kernel
theorem dX7_send_56 : decode cX7_send 56 = .ok (.aload_n 0, 1) := by decide +kernel
theorem dX7_send_57 : decode cX7_send 57 = .ok (.getfield 276, 3) := by decide +kernel
theorem dX7_send_60 : decode cX7_send 60 = .ok (.putfield 288, 3) := by decide +kernel
theorem dX7_send_63 : decode cX7_send 63 = .ok (.aload_n 0, 1) := by decide +kernel
theorem dX7_send_64 : decode cX7_send 64 = .ok (.aload_n 0, 1) := by decide +kernel
theorem dX7_send_65 : decode cX7_send 65 = .ok (.getfield 279, 3) := by decide +kernel
theorem dX7_send_68 : decode cX7_send 68 = .ok (.putfield 291, 3) := by decide +kernel
theorem dX7_send_71 : decode cX7_send 71 = .ok (.aload_n 0, 1) := by decide +kernel
theorem dX7_send_72 : decode cX7_send 72 = .ok (.iconst 1, 1) := by decide +kernel
theorem dX7_send_73 : decode cX7_send 73 = .ok (.putfield 47, 3) := by decide +kernel
theorem dX7_send_76 : decode cX7_send 76 = .ok (.iload_n 3, 1) := by decide +kernel
theorem dX7_send_77 : decode cX7_send 77 = .ok (.ireturn, 1) := by decide +kernel
theorem dX7_way_0 : decode cX7_way 0 = .ok (.aload_n 0, 1) := by decide +kernel
theorem dX7_way_1 : decode cX7_way 1 = .ok (.iconst 0, 1) := by decide +kernel
theorem dX7_way_2 : decode cX7_way 2 = .ok (.putfield 40, 3) := by decide +kernel
theorem dX7_way_5 : decode cX7_way 5 = .ok (.iload_n 1, 1) := by decide +kernel
theorem dX7_way_6 : decode cX7_way 6 = .ok (.bipush (-2), 2) := by decide +kernel
theorem dX7_way_8 : decode cX7_way 8 = .ok (.if_icmp .ge 5, 3) := by decide +kernel
theorem dX7_way_11 : decode cX7_way 11 = .ok (.iconst (-1), 1) := by decide +kernel
theorem dX7_way_12 : decode cX7_way 12 = .ok (.ireturn, 1) := by decide +kernel
theorem dX7_way_13 : decode cX7_way 13 = .ok (.aload_n 0, 1) := by decide +kernel
theorem dX7_way_14 : decode cX7_way 14 = .ok (.getfield 47, 3) := by decide +kernel
theorem dX7_way_17 : decode cX7_way 17 = .ok (.ifCond .ne 6, 3) := by decide +kernel
theorem dX7_way_20 : decode cX7_way 20 = .ok (.bipush (-2), 2) := by decide +kernel
theorem dX7_way_22 : decode cX7_way 22 = .ok (.ireturn, 1) := by decide +kernel
theorem dX7_way_23 : decode cX7_way 23 = .ok (.iload_n 1, 1) := by decide +kernel
theorem dX7_way_24 : decode cX7_way 24 = .ok (.iconst (-1), 1) := by decide +kernel
theorem dX7_way_25 : decode cX7_way 25 = .ok (.if_icmp .ne 10, 3) := by decide +kernel
theorem dX7_way_28 : decode cX7_way 28 = .ok (.aload_n 0, 1) := by decide +kernel
theorem dX7_way_29 : decode cX7_way 29 = .ok (.getfield 288, 3) := by decide +kernel
theorem dX7_way_32 : decode cX7_way 32 = .ok (.goto 35, 3) := by decide +kernel
theorem dX7_way_35 : decode cX7_way 35 = .ok (.iload_n 1, 1) := by decide +kernel
theorem dX7_way_36 : decode cX7_way 36 = .ok (.bipush (-2), 2) := by decide +kernel
theorem dX7_way_38 : decode cX7_way 38 = .ok (.if_icmp .ne 10, 3) := by decide +kernel
theorem dX7_way_41 : decode cX7_way 41 = .ok (.aload_n 0, 1) := by decide +kernel
theorem dX7_way_42 : decode cX7_way 42 = .ok (.getfield 291, 3) := by decide +kernel
theorem dX7_way_45 : decode cX7_way 45 = .ok (.goto 22, 3) := by decide +kernel
theorem dX7_way_48 : decode cX7_way 48 = .ok (.iload_n 1, 1) := by decide +kernel
theorem dX7_way_49 : decode cX7_way 49 = .ok (.aload_n 0, 1) := by decide +kernel
theorem dX7_way_50 : decode cX7_way 50 = .ok (.getfield 288, 3) := by decide +kernel
theorem dX7_way_53 : decode cX7_way 53 = .ok (.if_icmp .gt 12, 3) := by decide +kernel
theorem dX7_way_56 : decode cX7_way 56 = .ok (.aload_n 0, 1) := by decide +kernel
theorem dX7_way_57 : decode cX7_way 57 = .ok (.getfield 25, 3) := by decide +kernel
theorem dX7_way_60 : decode cX7_way 60 = .ok (.iload_n 1, 1) := by decide +kernel
theorem dX7_way_61 : decode cX7_way 61 = .ok (.iaload, 1) := by decide +kernel
theorem dX7_way_62 : decode cX7_way 62 = .ok (.goto 5, 3) := by decide +kernel
theorem dX7_way_65 : decode cX7_way 65 = .ok (.bipush (-9), 2) := by decide +kernel
theorem dX7_way_67 : decode cX7_way 67 = .ok (.ireturn, 1) := by decide +kernel
theorem dX7_outcomes_0 : decode cX7_outcomes 0 = .ok (.aload_n 0, 1) := by decide +kernel
theorem dX7_outcomes_1 : decode cX7_outcomes 1 = .ok (.iconst 0, 1) := by decide +kernel
theorem dX7_outcomes_2 : decode cX7_outcomes 2 = .ok (.putfield 40, 3) := by decide +kernel
theorem dX7_outcomes_5 : decode cX7_outcomes 5 = .ok (.iload_n 1, 1) := by decide +kernel
theorem dX7_outcomes_6 : decode cX7_outcomes 6 = .ok (.iconst 0, 1) := by decide +kernel
theorem dX7_outcomes_7 : decode cX7_outcomes 7 = .ok (.iconst 4, 1) := by decide +kernel
theorem dX7_outcomes_8 : decode cX7_outcomes 8 = .ok (.invokestatic 58, 3) := by decide +kernel
theorem dX7_outcomes_11 : decode cX7_outcomes 11 = .ok (.ifCond .ne 5, 3) := by decide +kernel
theorem dX7_outcomes_14 : decode cX7_outcomes 14 = .ok (.iconst (-1), 1) := by decide +kernel
theorem dX7_outcomes_15 : decode cX7_outcomes 15 = .ok (.ireturn, 1) := by decide +kernel
theorem dX7_outcomes_16 : decode cX7_outcomes 16 = .ok (.iconst 0, 1) := by decide +kernel
theorem dX7_outcomes_17 : decode cX7_outcomes 17 = .ok (.istore_n 2, 1) := by decide +kernel
theorem dX7_outcomes_18 : decode cX7_outcomes 18 = .ok (.iconst 0, 1) := by decide +kernel
theorem dX7_outcomes_19 : decode cX7_outcomes 19 = .ok (.istore_n 3, 1) := by decide +kernel
theorem dX7_outcomes_20 : decode cX7_outcomes 20 = .ok (.iload_n 3, 1) := by decide +kernel
theorem dX7_outcomes_21 : decode cX7_outcomes 21 = .ok (.aload_n 0, 1) := by decide +kernel
theorem dX7_outcomes_22 : decode cX7_outcomes 22 = .ok (.getfield 7, 3) := by decide +kernel
theorem dX7_outcomes_25 : decode cX7_outcomes 25 = .ok (.iconst 0, 1) := by decide +kernel
theorem dX7_outcomes_26 : decode cX7_outcomes 26 = .ok (.iaload, 1) := by decide +kernel
theorem dX7_outcomes_27 : decode cX7_outcomes 27 = .ok (.if_icmp .ge 54, 3) := by decide +kernel
theorem dX7_outcomes_30 : decode cX7_outcomes 30 = .ok (.iconst 0, 1) := by decide +kernel
theorem dX7_outcomes_31 : decode cX7_outcomes 31 = .ok (.istore 4, 2) := by decide +kernel
theorem dX7_outcomes_33 : decode cX7_outcomes 33 = .ok (.iload 4, 2) := by decide +kernel
theorem dX7_outcomes_35 : decode cX7_outcomes 35 = .ok (.aload_n 0, 1) := by decide +kernel
theorem dX7_outcomes_36 : decode cX7_outcomes 36 = .ok (.getfield 7, 3) := by decide +kernel
theorem dX7_outcomes_39 : decode cX7_outcomes 39 = .ok (.iconst 0, 1) := by decide +kernel
theorem dX7_outcomes_40 : decode cX7_outcomes 40 = .ok (.iaload, 1) := by decide +kernel
theorem dX7_outcomes_41 : decode cX7_outcomes 41 = .ok (.if_icmp .ge 34, 3) := by decide +kernel
theorem dX7_outcomes_44 : decode cX7_outcomes 44 = .ok (.iload_n 2, 1) := by decide +kernel
theorem dX7_outcomes_45 : decode cX7_outcomes 45 = .ok (.iload_n 3, 1) := by decide +kernel
theorem dX7_outcomes_46 : decode cX7_outcomes 46 = .ok (.iload 4, 2) := by decide +kernel
theorem dX7_outcomes_48 : decode cX7_outcomes 48 = .ok (.if_icmp .eq 18, 3) := by decide +kernel
theorem dX7_outcomes_51 : decode cX7_outcomes 51 = .ok (.aload_n 0, 1) := by decide +kernel
theorem dX7_outcomes_52 : decode cX7_outcomes 52 = .ok (.iload_n 3, 1) := by decide +kernel
theorem dX7_outcomes_53 : decode cX7_outcomes 53 = .ok (.iload 4, 2) := by decide +kernel
theorem dX7_outcomes_55 : decode cX7_outcomes 55 = .ok (.invokevirtual 285, 3) := by decide +kernel
theorem dX7_outcomes_58 : decode cX7_outcomes 58 = .ok (.iload_n 1, 1) := by decide +kernel
theorem dX7_outcomes_59 : decode cX7_outcomes 59 = .ok (.if_icmp .ne 7, 3) := by decide +kernel
theorem dX7_outcomes_62 : decode cX7_outcomes 62 = .ok (.iconst 1, 1) := by decide +kernel
theorem dX7_outcomes_63 : decode cX7_outcomes 63 = .ok (.goto 4, 3) := by decide +kernel
theorem dX7_outcomes_66 : decode cX7_outcomes 66 = .ok (.iconst 0, 1) := by decide +kernel
theorem dX7_outcomes_67 : decode cX7_outcomes 67 = .ok (.iadd, 1) := by decide +kernel
theorem dX7_outcomes_68 : decode cX7_outcomes 68 = .ok (.istore_n 2, 1) := by decide +kernel
theorem dX7_outcomes_69 : decode cX7_outcomes 69 = .ok (.iinc 4 1, 3) := by decide +kernel
theorem dX7_outcomes_72 : decode cX7_outcomes 72 = .ok (.goto (-39), 3) := by decide +kernel
theorem dX7_outcomes_75 : decode cX7_outcomes 75 = .ok (.iinc 3 1, 3) := by decide +kernel
theorem dX7_outcomes_78 : decode cX7_outcomes 78 = .ok (.goto (-58), 3) := by decide +kernel
theorem dX7_outcomes_81 : decode cX7_outcomes 81 = .ok (.iload_n 2, 1) := by decide +kernel
theorem dX7_outcomes_82 : decode cX7_outcomes 82 = .ok (.ireturn, 1) := by decide +kernel
theorem dX7_findIdeal_0 : decode cX7_findIdeal 0 = .ok (.iconst 0, 1) := by decide +kernel
theorem dX7_findIdeal_1 : decode cX7_findIdeal 1 = .ok (.istore_n 2, 1) := by decide +kernel
theorem dX7_findIdeal_2 : decode cX7_findIdeal 2 = .ok (.iload_n 2, 1) := by decide +kernel
theorem dX7_findIdeal_3 : decode cX7_findIdeal 3 = .ok (.bipush 10, 2) := by decide +kernel
theorem dX7_findIdeal_5 : decode cX7_findIdeal 5 = .ok (.if_icmp .ge 26, 3) := by decide +kernel
theorem dX7_findIdeal_8 : decode cX7_findIdeal 8 = .ok (.aload_n 0, 1) := by decide +kernel
theorem dX7_findIdeal_9 : decode cX7_findIdeal 9 = .ok (.getfield 37, 3) := by decide +kernel
theorem dX7_findIdeal_12 : decode cX7_findIdeal 12 = .ok (.iload_n 2, 1) := by decide +kernel
theorem dX7_findIdeal_13 : decode cX7_findIdeal 13 = .ok (.iload_n 2, 1) := by decide +kernel
theorem dX7_findIdeal_14 : decode cX7_findIdeal 14 = .ok (.iload_n 1, 1) := by decide +kernel
theorem dX7_findIdeal_15 : decode cX7_findIdeal 15 = .ok (.if_icmp .ne 7, 3) := by decide +kernel
theorem dX7_findIdeal_18 : decode cX7_findIdeal 18 = .ok (.iconst 0, 1) := by decide +kernel
theorem dX7_findIdeal_19 : decode cX7_findIdeal 19 = .ok (.goto 5, 3) := by decide +kernel
theorem dX7_findIdeal_22 : decode cX7_findIdeal 22 = .ok (.ldc 253, 2) := by decide +kernel
theorem dX7_findIdeal_24 : decode cX7_findIdeal 24 = .ok (.iastore, 1) := by decide +kernel
theorem dX7_findIdeal_25 : decode cX7_findIdeal 25 = .ok (.iinc 2 1, 3) := by decide +kernel
theorem dX7_findIdeal_28 : decode cX7_findIdeal 28 = .ok (.goto (-26), 3) := by decide +kernel
theorem dX7_findIdeal_31 : decode cX7_findIdeal 31 = .ok (.iconst 0, 1) := by decide +kernel
theorem dX7_findIdeal_32 : decode cX7_findIdeal 32 = .ok (.istore_n 2, 1) := by decide +kernel
theorem dX7_findIdeal_33 : decode cX7_findIdeal 33 = .ok (.iload_n 2, 1) := by decide +kernel
theorem dX7_findIdeal_34 : decode cX7_findIdeal 34 = .ok (.aload_n 0, 1) := by decide +kernel
theorem dX7_findIdeal_35 : decode cX7_findIdeal 35 = .ok (.getfield 7, 3) := by decide +kernel
theorem dX7_findIdeal_38 : decode cX7_findIdeal 38 = .ok (.iconst 0, 1) := by decide +kernel
theorem dX7_findIdeal_39 : decode cX7_findIdeal 39 = .ok (.iaload, 1) := by decide +kernel
theorem dX7_findIdeal_40 : decode cX7_findIdeal 40 = .ok (.if_icmp .ge 185, 3) := by decide +kernel
theorem dX7_findIdeal_43 : decode cX7_findIdeal 43 = .ok (.iconst 0, 1) := by decide +kernel
theorem dX7_findIdeal_44 : decode cX7_findIdeal 44 = .ok (.istore_n 3, 1) := by decide +kernel
theorem dX7_findIdeal_45 : decode cX7_findIdeal 45 = .ok (.iload_n 3, 1) := by decide +kernel
theorem dX7_findIdeal_46 : decode cX7_findIdeal 46 = .ok (.aload_n 0, 1) := by decide +kernel
theorem dX7_findIdeal_47 : decode cX7_findIdeal 47 = .ok (.getfield 7, 3) := by decide +kernel
theorem dX7_findIdeal_50 : decode cX7_findIdeal 50 = .ok (.iconst 1, 1) := by decide +kernel
theorem dX7_findIdeal_51 : decode cX7_findIdeal 51 = .ok (.iaload, 1) := by decide +kernel
theorem dX7_findIdeal_52 : decode cX7_findIdeal 52 = .ok (.if_icmp .ge 167, 3) := by decide +kernel
theorem dX7_findIdeal_55 : decode cX7_findIdeal 55 = .ok (.aload_n 0, 1) := by decide +kernel
theorem dX7_findIdeal_56 : decode cX7_findIdeal 56 = .ok (.iload_n 3, 1) := by decide +kernel
theorem dX7_findIdeal_57 : decode cX7_findIdeal 57 = .ok (.iconst 0, 1) := by decide +kernel
theorem dX7_findIdeal_58 : decode cX7_findIdeal 58 = .ok (.invokevirtual 62, 3) := by decide +kernel
theorem dX7_findIdeal_61 : decode cX7_findIdeal 61 = .ok (.istore 4, 2) := by decide +kernel
theorem dX7_findIdeal_63 : decode cX7_findIdeal 63 = .ok (.aload_n 0, 1) := by decide +kernel
theorem dX7_findIdeal_64 : decode cX7_findIdeal 64 = .ok (.iload_n 3, 1) := by decide +kernel
theorem dX7_findIdeal_65 : decode cX7_findIdeal 65 = .ok (.iconst 1, 1) := by decide +kernel
theorem dX7_findIdeal_66 : decode cX7_findIdeal 66 = .ok (.invokevirtual 62, 3) := by decide +kernel
theorem dX7_findIdeal_69 : decode cX7_findIdeal 69 = .ok (.istore 5, 2) := by decide +kernel
theorem dX7_findIdeal_71 : decode cX7_findIdeal 71 = .ok (.aload_n 0, 1) := by decide +kernel
theorem dX7_findIdeal_72 : decode cX7_findIdeal 72 = .ok (.iload_n 3, 1) := by decide +kernel
theorem dX7_findIdeal_73 : decode cX7_findIdeal 73 = .ok (.iconst 3, 1) := by decide +kernel
theorem dX7_findIdeal_74 : decode cX7_findIdeal 74 = .ok (.invokevirtual 62, 3) := by decide +kernel
theorem dX7_findIdeal_77 : decode cX7_findIdeal 77 = .ok (.iconst 1, 1) := by decide +kernel
theorem dX7_findIdeal_78 : decode cX7_findIdeal 78 = .ok (.if_icmp .ne 20, 3) := by decide +kernel
theorem dX7_findIdeal_81 : decode cX7_findIdeal 81 = .ok (.aload_n 0, 1) := by decide +kernel
theorem dX7_findIdeal_82 : decode cX7_findIdeal 82 = .ok (.aload_n 0, 1) := by decide +kernel
theorem dX7_findIdeal_83 : decode cX7_findIdeal 83 = .ok (.iload_n 1, 1) := by decide +kernel
theorem dX7_findIdeal_84 : decode cX7_findIdeal 84 = .ok (.invokevirtual 66, 3) := by decide +kernel
theorem dX7_findIdeal_87 : decode cX7_findIdeal 87 = .ok (.iload_n 3, 1) := by decide +kernel
theorem dX7_findIdeal_88 : decode cX7_findIdeal 88 = .ok (.invokevirtual 241, 3) := by decide +kernel
theorem dX7_findIdeal_91 : decode cX7_findIdeal 91 = .ok (.ifCond .eq 7, 3) := by decide +kernel
theorem dX7_findIdeal_94 : decode cX7_findIdeal 94 = .ok (.iconst 1, 1) := by decide +kernel
theorem dX7_findIdeal_95 : decode cX7_findIdeal 95 = .ok (.goto 4, 3) := by decide +kernel
theorem dX7_findIdeal_98 : decode cX7_findIdeal 98 = .ok (.iconst 0, 1) := by decide +kernel
theorem dX7_findIdeal_99 : decode cX7_findIdeal 99 = .ok (.istore 6, 2) := by decide +kernel
theorem dX7_findIdeal_101 : decode cX7_findIdeal 101 = .ok (.iload 6, 2) := by decide +kernel
theorem dX7_findIdeal_103 : decode cX7_findIdeal 103 = .ok (.ifCond .eq 12, 3) := by decide +kernel
theorem dX7_findIdeal_106 : decode cX7_findIdeal 106 = .ok (.aload_n 0, 1) := by decide +kernel
theorem dX7_findIdeal_107 : decode cX7_findIdeal 107 = .ok (.iload_n 3, 1) := by decide +kernel
theorem dX7_findIdeal_108 : decode cX7_findIdeal 108 = .ok (.iconst 2, 1) := by decide +kernel
theorem dX7_findIdeal_109 : decode cX7_findIdeal 109 = .ok (.invokevirtual 62, 3) := by decide +kernel
theorem dX7_findIdeal_112 : decode cX7_findIdeal 112 = .ok (.goto 5, 3) := by decide +kernel
theorem dX7_findIdeal_115 : decode cX7_findIdeal 115 = .ok (.ldc 253, 2) := by decide +kernel
theorem dX7_findIdeal_117 : decode cX7_findIdeal 117 = .ok (.istore 7, 2) := by decide +kernel
theorem dX7_findIdeal_119 : decode cX7_findIdeal 119 = .ok (.aload_n 0, 1) := by decide +kernel
theorem dX7_findIdeal_120 : decode cX7_findIdeal 120 = .ok (.getfield 37, 3) := by decide +kernel
theorem dX7_findIdeal_123 : decode cX7_findIdeal 123 = .ok (.iload 4, 2) := by decide +kernel
theorem dX7_findIdeal_125 : decode cX7_findIdeal 125 = .ok (.aload_n 0, 1) := by decide +kernel
theorem dX7_findIdeal_126 : decode cX7_findIdeal 126 = .ok (.getfield 37, 3) := by decide +kernel
theorem dX7_findIdeal_129 : decode cX7_findIdeal 129 = .ok (.iload 5, 2) := by decide +kernel
theorem dX7_findIdeal_131 : decode cX7_findIdeal 131 = .ok (.iaload, 1) := by decide +kernel
theorem dX7_findIdeal_132 : decode cX7_findIdeal 132 = .ok (.iload 7, 2) := by decide +kernel
theorem dX7_findIdeal_134 : decode cX7_findIdeal 134 = .ok (.iadd, 1) := by decide +kernel
theorem dX7_findIdeal_135 : decode cX7_findIdeal 135 = .ok (.aload_n 0, 1) := by decide +kernel
theorem dX7_findIdeal_136 : decode cX7_findIdeal 136 = .ok (.getfield 37, 3) := by decide +kernel
theorem dX7_findIdeal_139 : decode cX7_findIdeal 139 = .ok (.iload 4, 2) := by decide +kernel
theorem dX7_findIdeal_141 : decode cX7_findIdeal 141 = .ok (.iaload, 1) := by decide +kernel
theorem dX7_findIdeal_142 : decode cX7_findIdeal 142 = .ok (.if_icmp .ge 16, 3) := by decide +kernel
theorem dX7_findIdeal_145 : decode cX7_findIdeal 145 = .ok (.aload_n 0, 1) := by decide +kernel
theorem dX7_findIdeal_146 : decode cX7_findIdeal 146 = .ok (.getfield 37, 3) := by decide +kernel
theorem dX7_findIdeal_149 : decode cX7_findIdeal 149 = .ok (.iload 5, 2) := by decide +kernel
theorem dX7_findIdeal_151 : decode cX7_findIdeal 151 = .ok (.iaload, 1) := by decide +kernel
theorem dX7_findIdeal_152 : decode cX7_findIdeal 152 = .ok (.iload 7, 2) := by decide +kernel
theorem dX7_findIdeal_154 : decode cX7_findIdeal 154 = .ok (.iadd, 1) := by decide +kernel
theorem dX7_findIdeal_155 : decode cX7_findIdeal 155 = .ok (.goto 10, 3) := by decide +kernel
theorem dX7_findIdeal_158 : decode cX7_findIdeal 158 = .ok (.aload_n 0, 1) := by decide +kernel
theorem dX7_findIdeal_159 : decode cX7_findIdeal 159 = .ok (.getfield 37, 3) := by decide +kernel
theorem dX7_findIdeal_162 : decode cX7_findIdeal 162 = .ok (.iload 4, 2) := by decide +kernel
theorem dX7_findIdeal_164 : decode cX7_findIdeal 164 = .ok (.iaload, 1) := by decide +kernel
theorem dX7_findIdeal_165 : decode cX7_findIdeal 165 = .ok (.iastore, 1) := by decide +kernel
theorem dX7_findIdeal_166 : decode cX7_findIdeal 166 = .ok (.aload_n 0, 1) := by decide +kernel
theorem dX7_findIdeal_167 : decode cX7_findIdeal 167 = .ok (.getfield 37, 3) := by decide +kernel
theorem dX7_findIdeal_170 : decode cX7_findIdeal 170 = .ok (.iload 5, 2) := by decide +kernel
theorem dX7_findIdeal_172 : decode cX7_findIdeal 172 = .ok (.aload_n 0, 1) := by decide +kernel
theorem dX7_findIdeal_173 : decode cX7_findIdeal 173 = .ok (.getfield 37, 3) := by decide +kernel
theorem dX7_findIdeal_176 : decode cX7_findIdeal 176 = .ok (.iload 4, 2) := by decide +kernel
theorem dX7_findIdeal_178 : decode cX7_findIdeal 178 = .ok (.iaload, 1) := by decide +kernel
theorem dX7_findIdeal_179 : decode cX7_findIdeal 179 = .ok (.iload 7, 2) := by decide +kernel
theorem dX7_findIdeal_181 : decode cX7_findIdeal 181 = .ok (.iadd, 1) := by decide +kernel
theorem dX7_findIdeal_182 : decode cX7_findIdeal 182 = .ok (.aload_n 0, 1) := by decide +kernel
theorem dX7_findIdeal_183 : decode cX7_findIdeal 183 = .ok (.getfield 37, 3) := by decide +kernel
theorem dX7_findIdeal_186 : decode cX7_findIdeal 186 = .ok (.iload 5, 2) := by decide +kernel
theorem dX7_findIdeal_188 : decode cX7_findIdeal 188 = .ok (.iaload, 1) := by decide +kernel
theorem dX7_findIdeal_189 : decode cX7_findIdeal 189 = .ok (.if_icmp .ge 16, 3) := by decide +kernel
theorem dX7_findIdeal_192 : decode cX7_findIdeal 192 = .ok (.aload_n 0, 1) := by decide +kernel
theorem dX7_findIdeal_193 : decode cX7_findIdeal 193 = .ok (.getfield 37, 3) := by decide +kernel
theorem dX7_findIdeal_196 : decode cX7_findIdeal 196 = .ok (.iload 4, 2) := by decide +kernel
theorem dX7_findIdeal_198 : decode cX7_findIdeal 198 = .ok (.iaload, 1) := by decide +kernel
theorem dX7_findIdeal_199 : decode cX7_findIdeal 199 = .ok (.iload 7, 2) := by decide +kernel
theorem dX7_findIdeal_201 : decode cX7_findIdeal 201 = .ok (.iadd, 1) := by decide +kernel
theorem dX7_findIdeal_202 : decode cX7_findIdeal 202 = .ok (.goto 10, 3) := by decide +kernel
theorem dX7_findIdeal_205 : decode cX7_findIdeal 205 = .ok (.aload_n 0, 1) := by decide +kernel
theorem dX7_findIdeal_206 : decode cX7_findIdeal 206 = .ok (.getfield 37, 3) := by decide +kernel
theorem dX7_findIdeal_209 : decode cX7_findIdeal 209 = .ok (.iload 5, 2) := by decide +kernel
theorem dX7_findIdeal_211 : decode cX7_findIdeal 211 = .ok (.iaload, 1) := by decide +kernel
theorem dX7_findIdeal_212 : decode cX7_findIdeal 212 = .ok (.iastore, 1) := by decide +kernel
theorem dX7_findIdeal_213 : decode cX7_findIdeal 213 = .ok (.iinc 3 1, 3) := by decide +kernel
theorem dX7_findIdeal_216 : decode cX7_findIdeal 216 = .ok (.goto (-171), 3) := by decide +kernel
theorem dX7_findIdeal_219 : decode cX7_findIdeal 219 = .ok (.iinc 2 1, 3) := by decide +kernel
theorem dX7_findIdeal_222 : decode cX7_findIdeal 222 = .ok (.goto (-189), 3) := by decide +kernel
theorem dX7_findIdeal_225 : decode cX7_findIdeal 225 = .ok (.return_, 1) := by decide +kernel
theorem dX7_ideal_0 : decode cX7_ideal 0 = .ok (.aload_n 0, 1) := by decide +kernel
theorem dX7_ideal_1 : decode cX7_ideal 1 = .ok (.iconst 0, 1) := by decide +kernel
theorem dX7_ideal_2 : decode cX7_ideal 2 = .ok (.putfield 40, 3) := by decide +kernel
theorem dX7_ideal_5 : decode cX7_ideal 5 = .ok (.aload_n 0, 1) := by decide +kernel
theorem dX7_ideal_6 : decode cX7_ideal 6 = .ok (.iload_n 1, 1) := by decide +kernel
theorem dX7_ideal_7 : decode cX7_ideal 7 = .ok (.invokevirtual 125, 3) := by decide +kernel
theorem dX7_ideal_10 : decode cX7_ideal 10 = .ok (.ifCond .eq 11, 3) := by decide +kernel
theorem dX7_ideal_13 : decode cX7_ideal 13 = .ok (.aload_n 0, 1) := by decide +kernel
theorem dX7_ideal_14 : decode cX7_ideal 14 = .ok (.iload_n 2, 1) := by decide +kernel
theorem dX7_ideal_15 : decode cX7_ideal 15 = .ok (.invokevirtual 125, 3) := by decide +kernel
theorem dX7_ideal_18 : decode cX7_ideal 18 = .ok (.ifCond .ne 5, 3) := by decide +kernel
theorem dX7_ideal_21 : decode cX7_ideal 21 = .ok (.iconst (-1), 1) := by decide +kernel
theorem dX7_ideal_22 : decode cX7_ideal 22 = .ok (.ireturn, 1) := by decide +kernel
theorem dX7_ideal_23 : decode cX7_ideal 23 = .ok (.aload_n 0, 1) := by decide +kernel
theorem dX7_ideal_24 : decode cX7_ideal 24 = .ok (.iload_n 1, 1) := by decide +kernel
theorem dX7_ideal_25 : decode cX7_ideal 25 = .ok (.invokevirtual 294, 3) := by decide +kernel
theorem dX7_ideal_28 : decode cX7_ideal 28 = .ok (.aload_n 0, 1) := by decide +kernel
theorem dX7_ideal_29 : decode cX7_ideal 29 = .ok (.getfield 37, 3) := by decide +kernel
theorem dX7_ideal_32 : decode cX7_ideal 32 = .ok (.iload_n 2, 1) := by decide +kernel
theorem dX7_ideal_33 : decode cX7_ideal 33 = .ok (.iaload, 1) := by decide +kernel
theorem dX7_ideal_34 : decode cX7_ideal 34 = .ok (.ldc 253, 2) := by decide +kernel
theorem dX7_ideal_36 : decode cX7_ideal 36 = .ok (.if_icmp .ge 12, 3) := by decide +kernel
theorem dX7_ideal_39 : decode cX7_ideal 39 = .ok (.aload_n 0, 1) := by decide +kernel
theorem dX7_ideal_40 : decode cX7_ideal 40 = .ok (.getfield 37, 3) := by decide +kernel
theorem dX7_ideal_43 : decode cX7_ideal 43 = .ok (.iload_n 2, 1) := by decide +kernel
theorem dX7_ideal_44 : decode cX7_ideal 44 = .ok (.iaload, 1) := by decide +kernel
theorem dX7_ideal_45 : decode cX7_ideal 45 = .ok (.goto 5, 3) := by decide +kernel
theorem dX7_ideal_48 : decode cX7_ideal 48 = .ok (.bipush (-9), 2) := by decide +kernel
theorem dX7_ideal_50 : decode cX7_ideal 50 = .ok (.ireturn, 1) := by decide +kernel
theorem dX7_idealSum_0 : decode cX7_idealSum 0 = .ok (.iconst 0, 1) := by decide +kernel
theorem dX7_idealSum_1 : decode cX7_idealSum 1 = .ok (.istore_n 2, 1) := by decide +kernel
theorem dX7_idealSum_2 : decode cX7_idealSum 2 = .ok (.iconst 0, 1) := by decide +kernel
theorem dX7_idealSum_3 : decode cX7_idealSum 3 = .ok (.istore_n 3, 1) := by decide +kernel
theorem dX7_idealSum_4 : decode cX7_idealSum 4 = .ok (.iload_n 3, 1) := by decide +kernel
theorem dX7_idealSum_5 : decode cX7_idealSum 5 = .ok (.aload_n 0, 1) := by decide +kernel
theorem dX7_idealSum_6 : decode cX7_idealSum 6 = .ok (.getfield 7, 3) := by decide +kernel
theorem dX7_idealSum_9 : decode cX7_idealSum 9 = .ok (.iconst 0, 1) := by decide +kernel
theorem dX7_idealSum_10 : decode cX7_idealSum 10 = .ok (.iaload, 1) := by decide +kernel
theorem dX7_idealSum_11 : decode cX7_idealSum 11 = .ok (.if_icmp .ge 81, 3) := by decide +kernel
theorem dX7_idealSum_14 : decode cX7_idealSum 14 = .ok (.aload_n 0, 1) := by decide +kernel
theorem dX7_idealSum_15 : decode cX7_idealSum 15 = .ok (.iload_n 3, 1) := by decide +kernel
theorem dX7_idealSum_16 : decode cX7_idealSum 16 = .ok (.invokevirtual 66, 3) := by decide +kernel
theorem dX7_idealSum_19 : decode cX7_idealSum 19 = .ok (.iload_n 1, 1) := by decide +kernel
theorem dX7_idealSum_20 : decode cX7_idealSum 20 = .ok (.if_icmp .ne 66, 3) := by decide +kernel
theorem dX7_idealSum_23 : decode cX7_idealSum 23 = .ok (.aload_n 0, 1) := by decide +kernel
theorem dX7_idealSum_24 : decode cX7_idealSum 24 = .ok (.iload_n 3, 1) := by decide +kernel
theorem dX7_idealSum_25 : decode cX7_idealSum 25 = .ok (.invokevirtual 294, 3) := by decide +kernel
theorem dX7_idealSum_28 : decode cX7_idealSum 28 = .ok (.iconst 0, 1) := by decide +kernel
theorem dX7_idealSum_29 : decode cX7_idealSum 29 = .ok (.istore 4, 2) := by decide +kernel
theorem dX7_idealSum_31 : decode cX7_idealSum 31 = .ok (.iload 4, 2) := by decide +kernel
theorem dX7_idealSum_33 : decode cX7_idealSum 33 = .ok (.aload_n 0, 1) := by decide +kernel
theorem dX7_idealSum_34 : decode cX7_idealSum 34 = .ok (.getfield 7, 3) := by decide +kernel
theorem dX7_idealSum_37 : decode cX7_idealSum 37 = .ok (.iconst 0, 1) := by decide +kernel
theorem dX7_idealSum_38 : decode cX7_idealSum 38 = .ok (.iaload, 1) := by decide +kernel
theorem dX7_idealSum_39 : decode cX7_idealSum 39 = .ok (.if_icmp .ge 47, 3) := by decide +kernel
theorem dX7_idealSum_42 : decode cX7_idealSum 42 = .ok (.iload_n 2, 1) := by decide +kernel
theorem dX7_idealSum_43 : decode cX7_idealSum 43 = .ok (.iload_n 3, 1) := by decide +kernel
theorem dX7_idealSum_44 : decode cX7_idealSum 44 = .ok (.iload 4, 2) := by decide +kernel
theorem dX7_idealSum_46 : decode cX7_idealSum 46 = .ok (.if_icmp .ne 7, 3) := by decide +kernel
theorem dX7_idealSum_49 : decode cX7_idealSum 49 = .ok (.iconst 0, 1) := by decide +kernel
theorem dX7_idealSum_50 : decode cX7_idealSum 50 = .ok (.goto 28, 3) := by decide +kernel
theorem dX7_idealSum_53 : decode cX7_idealSum 53 = .ok (.aload_n 0, 1) := by decide +kernel
theorem dX7_idealSum_54 : decode cX7_idealSum 54 = .ok (.getfield 37, 3) := by decide +kernel
theorem dX7_idealSum_57 : decode cX7_idealSum 57 = .ok (.iload 4, 2) := by decide +kernel
theorem dX7_idealSum_59 : decode cX7_idealSum 59 = .ok (.iaload, 1) := by decide +kernel
theorem dX7_idealSum_60 : decode cX7_idealSum 60 = .ok (.ldc 253, 2) := by decide +kernel
theorem dX7_idealSum_62 : decode cX7_idealSum 62 = .ok (.if_icmp .ge 13, 3) := by decide +kernel
theorem dX7_idealSum_65 : decode cX7_idealSum 65 = .ok (.aload_n 0, 1) := by decide +kernel
theorem dX7_idealSum_66 : decode cX7_idealSum 66 = .ok (.getfield 37, 3) := by decide +kernel
theorem dX7_idealSum_69 : decode cX7_idealSum 69 = .ok (.iload 4, 2) := by decide +kernel
theorem dX7_idealSum_71 : decode cX7_idealSum 71 = .ok (.iaload, 1) := by decide +kernel
theorem dX7_idealSum_72 : decode cX7_idealSum 72 = .ok (.goto 6, 3) := by decide +kernel
theorem dX7_idealSum_75 : decode cX7_idealSum 75 = .ok (.sipush 200, 3) := by decide +kernel
theorem dX7_idealSum_78 : decode cX7_idealSum 78 = .ok (.iadd, 1) := by decide +kernel
theorem dX7_idealSum_79 : decode cX7_idealSum 79 = .ok (.istore_n 2, 1) := by decide +kernel
theorem dX7_idealSum_80 : decode cX7_idealSum 80 = .ok (.iinc 4 1, 3) := by decide +kernel
theorem dX7_idealSum_83 : decode cX7_idealSum 83 = .ok (.goto (-52), 3) := by decide +kernel
theorem dX7_idealSum_86 : decode cX7_idealSum 86 = .ok (.iinc 3 1, 3) := by decide +kernel
theorem dX7_idealSum_89 : decode cX7_idealSum 89 = .ok (.goto (-85), 3) := by decide +kernel
theorem dX7_idealSum_92 : decode cX7_idealSum 92 = .ok (.iload_n 2, 1) := by decide +kernel
theorem dX7_idealSum_93 : decode cX7_idealSum 93 = .ok (.ireturn, 1) := by decide +kernel
theorem dX7_worth_0 : decode cX7_worth 0 = .ok (.aload_n 0, 1) := by decide +kernel
theorem dX7_worth_1 : decode cX7_worth 1 = .ok (.iconst 0, 1) := by decide +kernel
theorem dX7_worth_2 : decode cX7_worth 2 = .ok (.putfield 40, 3) := by decide +kernel
theorem dX7_worth_5 : decode cX7_worth 5 = .ok (.iload_n 1, 1) := by decide +kernel
theorem dX7_worth_6 : decode cX7_worth 6 = .ok (.iload_n 2, 1) := by decide +kernel
theorem dX7_worth_7 : decode cX7_worth 7 = .ok (.invokestatic 138, 3) := by decide +kernel
theorem dX7_worth_10 : decode cX7_worth 10 = .ok (.ifCond .ne 5, 3) := by decide +kernel
theorem dX7_worth_13 : decode cX7_worth 13 = .ok (.iconst (-1), 1) := by decide +kernel
theorem dX7_worth_14 : decode cX7_worth 14 = .ok (.ireturn, 1) := by decide +kernel
theorem dX7_worth_15 : decode cX7_worth 15 = .ok (.bipush 14, 2) := by decide +kernel
theorem dX7_worth_17 : decode cX7_worth 17 = .ok (.iconst 4, 1) := by decide +kernel
theorem dX7_worth_18 : decode cX7_worth 18 = .ok (.iload_n 1, 1) := by decide +kernel
theorem dX7_worth_19 : decode cX7_worth 19 = .ok (.imul, 1) := by decide +kernel
theorem dX7_worth_20 : decode cX7_worth 20 = .ok (.iadd, 1) := by decide +kernel
theorem dX7_worth_21 : decode cX7_worth 21 = .ok (.iload_n 2, 1) := by decide +kernel
theorem dX7_worth_22 : decode cX7_worth 22 = .ok (.iadd, 1) := by decide +kernel
theorem dX7_worth_23 : decode cX7_worth 23 = .ok (.istore_n 3, 1) := by decide +kernel
theorem dX7_worth_24 : decode cX7_worth 24 = .ok (.aload_n 0, 1) := by decide +kernel
theorem dX7_worth_25 : decode cX7_worth 25 = .ok (.getfield 7, 3) := by decide +kernel
theorem dX7_worth_28 : decode cX7_worth 28 = .ok (.iload_n 3, 1) := by decide +kernel
theorem dX7_worth_29 : decode cX7_worth 29 = .ok (.iaload, 1) := by decide +kernel
theorem dX7_worth_30 : decode cX7_worth 30 = .ok (.istore 4, 2) := by decide +kernel
theorem dX7_worth_32 : decode cX7_worth 32 = .ok (.aload_n 0, 1) := by decide +kernel
theorem dX7_worth_33 : decode cX7_worth 33 = .ok (.getfield 7, 3) := by decide +kernel
theorem dX7_worth_36 : decode cX7_worth 36 = .ok (.iload_n 3, 1) := by decide +kernel
theorem dX7_worth_37 : decode cX7_worth 37 = .ok (.iconst 0, 1) := by decide +kernel
theorem dX7_worth_38 : decode cX7_worth 38 = .ok (.iastore, 1) := by decide +kernel
theorem dX7_worth_39 : decode cX7_worth 39 = .ok (.aload_n 0, 1) := by decide +kernel
theorem dX7_worth_40 : decode cX7_worth 40 = .ok (.iload_n 2, 1) := by decide +kernel
theorem dX7_worth_41 : decode cX7_worth 41 = .ok (.invokevirtual 297, 3) := by decide +kernel
theorem dX7_worth_44 : decode cX7_worth 44 = .ok (.istore 5, 2) := by decide +kernel
theorem dX7_worth_46 : decode cX7_worth 46 = .ok (.aload_n 0, 1) := by decide +kernel
theorem dX7_worth_47 : decode cX7_worth 47 = .ok (.getfield 7, 3) := by decide +kernel
theorem dX7_worth_50 : decode cX7_worth 50 = .ok (.iload_n 3, 1) := by decide +kernel
theorem dX7_worth_51 : decode cX7_worth 51 = .ok (.iconst 1, 1) := by decide +kernel
theorem dX7_worth_52 : decode cX7_worth 52 = .ok (.iastore, 1) := by decide +kernel
theorem dX7_worth_53 : decode cX7_worth 53 = .ok (.aload_n 0, 1) := by decide +kernel
theorem dX7_worth_54 : decode cX7_worth 54 = .ok (.iload_n 2, 1) := by decide +kernel
theorem dX7_worth_55 : decode cX7_worth 55 = .ok (.invokevirtual 297, 3) := by decide +kernel
theorem dX7_worth_58 : decode cX7_worth 58 = .ok (.istore 6, 2) := by decide +kernel
theorem dX7_worth_60 : decode cX7_worth 60 = .ok (.aload_n 0, 1) := by decide +kernel
theorem dX7_worth_61 : decode cX7_worth 61 = .ok (.getfield 7, 3) := by decide +kernel
theorem dX7_worth_64 : decode cX7_worth 64 = .ok (.iload_n 3, 1) := by decide +kernel
theorem dX7_worth_65 : decode cX7_worth 65 = .ok (.iload 4, 2) := by decide +kernel
theorem dX7_worth_67 : decode cX7_worth 67 = .ok (.iastore, 1) := by decide +kernel
theorem dX7_worth_68 : decode cX7_worth 68 = .ok (.iload 5, 2) := by decide +kernel
theorem dX7_worth_70 : decode cX7_worth 70 = .ok (.iload 6, 2) := by decide +kernel
theorem dX7_worth_72 : decode cX7_worth 72 = .ok (.isub, 1) := by decide +kernel
theorem dX7_worth_73 : decode cX7_worth 73 = .ok (.ireturn, 1) := by decide +kernel
theorem dJ13_bitCount_95d88_0 : decode cJ13_bitCount_95d88 0 = .ok (.lload_n 0, 1) := by decide +kernel
theorem dJ13_bitCount_95d88_1 : decode cJ13_bitCount_95d88 1 = .ok (.lload_n 0, 1) := by decide +kernel
theorem dJ13_bitCount_95d88_2 : decode cJ13_bitCount_95d88 2 = .ok (.iconst 1, 1) := by decide +kernel
theorem dJ13_bitCount_95d88_3 : decode cJ13_bitCount_95d88 3 = .ok (.lushr, 1) := by decide +kernel
theorem dJ13_bitCount_95d88_4 : decode cJ13_bitCount_95d88 4 = .ok (.ldc2_w 314, 3) := by decide +kernel
theorem dJ13_bitCount_95d88_7 : decode cJ13_bitCount_95d88 7 = .ok (.land, 1) := by decide +kernel
theorem dJ13_bitCount_95d88_8 : decode cJ13_bitCount_95d88 8 = .ok (.lsub, 1) := by decide +kernel
theorem dJ13_bitCount_95d88_9 : decode cJ13_bitCount_95d88 9 = .ok (.lstore_n 0, 1) := by decide +kernel
theorem dJ13_bitCount_95d88_10 : decode cJ13_bitCount_95d88 10 = .ok (.lload_n 0, 1) := by decide +kernel
theorem dJ13_bitCount_95d88_11 : decode cJ13_bitCount_95d88 11 = .ok (.ldc2_w 316, 3) := by decide +kernel
theorem dJ13_bitCount_95d88_14 : decode cJ13_bitCount_95d88 14 = .ok (.land, 1) := by decide +kernel
theorem dJ13_bitCount_95d88_15 : decode cJ13_bitCount_95d88 15 = .ok (.lload_n 0, 1) := by decide +kernel
theorem dJ13_bitCount_95d88_16 : decode cJ13_bitCount_95d88 16 = .ok (.iconst 2, 1) := by decide +kernel
theorem dJ13_bitCount_95d88_17 : decode cJ13_bitCount_95d88 17 = .ok (.lushr, 1) := by decide +kernel
theorem dJ13_bitCount_95d88_18 : decode cJ13_bitCount_95d88 18 = .ok (.ldc2_w 316, 3) := by decide +kernel
theorem dJ13_bitCount_95d88_21 : decode cJ13_bitCount_95d88 21 = .ok (.land, 1) := by decide +kernel
theorem dJ13_bitCount_95d88_22 : decode cJ13_bitCount_95d88 22 = .ok (.ladd, 1) := by decide +kernel
theorem dJ13_bitCount_95d88_23 : decode cJ13_bitCount_95d88 23 = .ok (.lstore_n 0, 1) := by decide +kernel
theorem dJ13_bitCount_95d88_24 : decode cJ13_bitCount_95d88 24 = .ok (.lload_n 0, 1) := by decide +kernel
theorem dJ13_bitCount_95d88_25 : decode cJ13_bitCount_95d88 25 = .ok (.lload_n 0, 1) := by decide +kernel
theorem dJ13_bitCount_95d88_26 : decode cJ13_bitCount_95d88 26 = .ok (.iconst 4, 1) := by decide +kernel
theorem dJ13_bitCount_95d88_27 : decode cJ13_bitCount_95d88 27 = .ok (.lushr, 1) := by decide +kernel
theorem dJ13_bitCount_95d88_28 : decode cJ13_bitCount_95d88 28 = .ok (.ladd, 1) := by decide +kernel
theorem dJ13_bitCount_95d88_29 : decode cJ13_bitCount_95d88 29 = .ok (.ldc2_w 318, 3) := by decide +kernel
theorem dJ13_bitCount_95d88_32 : decode cJ13_bitCount_95d88 32 = .ok (.land, 1) := by decide +kernel
theorem dJ13_bitCount_95d88_33 : decode cJ13_bitCount_95d88 33 = .ok (.lstore_n 0, 1) := by decide +kernel
theorem dJ13_bitCount_95d88_34 : decode cJ13_bitCount_95d88 34 = .ok (.lload_n 0, 1) := by decide +kernel
theorem dJ13_bitCount_95d88_35 : decode cJ13_bitCount_95d88 35 = .ok (.lload_n 0, 1) := by decide +kernel
theorem dJ13_bitCount_95d88_36 : decode cJ13_bitCount_95d88 36 = .ok (.bipush 8, 2) := by decide +kernel
theorem dJ13_bitCount_95d88_38 : decode cJ13_bitCount_95d88 38 = .ok (.lushr, 1) := by decide +kernel
theorem dJ13_bitCount_95d88_39 : decode cJ13_bitCount_95d88 39 = .ok (.ladd, 1) := by decide +kernel
theorem dJ13_bitCount_95d88_40 : decode cJ13_bitCount_95d88 40 = .ok (.lstore_n 0, 1) := by decide +kernel
theorem dJ13_bitCount_95d88_41 : decode cJ13_bitCount_95d88 41 = .ok (.lload_n 0, 1) := by decide +kernel
theorem dJ13_bitCount_95d88_42 : decode cJ13_bitCount_95d88 42 = .ok (.lload_n 0, 1) := by decide +kernel
theorem dJ13_bitCount_95d88_43 : decode cJ13_bitCount_95d88 43 = .ok (.bipush 16, 2) := by decide +kernel
theorem dJ13_bitCount_95d88_45 : decode cJ13_bitCount_95d88 45 = .ok (.lushr, 1) := by decide +kernel
theorem dJ13_bitCount_95d88_46 : decode cJ13_bitCount_95d88 46 = .ok (.ladd, 1) := by decide +kernel
theorem dJ13_bitCount_95d88_47 : decode cJ13_bitCount_95d88 47 = .ok (.lstore_n 0, 1) := by decide +kernel
theorem dJ13_bitCount_95d88_48 : decode cJ13_bitCount_95d88 48 = .ok (.lload_n 0, 1) := by decide +kernel
theorem dJ13_bitCount_95d88_49 : decode cJ13_bitCount_95d88 49 = .ok (.lload_n 0, 1) := by decide +kernel
theorem dJ13_bitCount_95d88_50 : decode cJ13_bitCount_95d88 50 = .ok (.bipush 32, 2) := by decide +kernel
theorem dJ13_bitCount_95d88_52 : decode cJ13_bitCount_95d88 52 = .ok (.lushr, 1) := by decide +kernel
theorem dJ13_bitCount_95d88_53 : decode cJ13_bitCount_95d88 53 = .ok (.ladd, 1) := by decide +kernel
theorem dJ13_bitCount_95d88_54 : decode cJ13_bitCount_95d88 54 = .ok (.lstore_n 0, 1) := by decide +kernel
theorem dJ13_bitCount_95d88_55 : decode cJ13_bitCount_95d88 55 = .ok (.lload_n 0, 1) := by decide +kernel
theorem dJ13_bitCount_95d88_56 : decode cJ13_bitCount_95d88 56 = .ok (.l2i, 1) := by decide +kernel
theorem dJ13_bitCount_95d88_57 : decode cJ13_bitCount_95d88 57 = .ok (.bipush 127, 2) := by decide +kernel
theorem dJ13_bitCount_95d88_59 : decode cJ13_bitCount_95d88 59 = .ok (.iand, 1) := by decide +kernel
theorem dJ13_bitCount_95d88_60 : decode cJ13_bitCount_95d88 60 = .ok (.ireturn, 1) := by decide +kernel
theorem dJ0_length_8abf5_0 : decode cJ0_length_8abf5 0 = .ok (.aload_n 0, 1) := by decide +kernel
theorem dJ0_length_8abf5_1 : decode cJ0_length_8abf5 1 = .ok (.getfield 9, 3) := by decide +kernel
theorem dJ0_length_8abf5_4 : decode cJ0_length_8abf5 4 = .ok (.arraylength, 1) := by decide +kernel
theorem dJ0_length_8abf5_5 : decode cJ0_length_8abf5 5 = .ok (.aload_n 0, 1) := by decide +kernel
theorem dJ0_length_8abf5_6 : decode cJ0_length_8abf5 6 = .ok (.invokevirtual 335, 3) := by decide +kernel
theorem dJ0_length_8abf5_9 : decode cJ0_length_8abf5 9 = .ok (.ishr, 1) := by decide +kernel
theorem dJ0_length_8abf5_10 : decode cJ0_length_8abf5 10 = .ok (.ireturn, 1) := by decide +kernel
theorem dJ0_charAt_5068e_0 : decode cJ0_charAt_5068e 0 = .ok (.aload_n 0, 1) := by decide +kernel
theorem dJ0_charAt_5068e_1 : decode cJ0_charAt_5068e 1 = .ok (.invokevirtual 492, 3) := by decide +kernel
theorem dJ0_charAt_5068e_4 : decode cJ0_charAt_5068e 4 = .ok (.ifCond .eq 12, 3) := by decide +kernel
theorem dJ0_charAt_5068e_7 : decode cJ0_charAt_5068e 7 = .ok (.aload_n 0, 1) := by decide +kernel
theorem dJ0_charAt_5068e_8 : decode cJ0_charAt_5068e 8 = .ok (.getfield 9, 3) := by decide +kernel
theorem dJ0_charAt_5068e_11 : decode cJ0_charAt_5068e 11 = .ok (.iload_n 1, 1) := by decide +kernel
theorem dJ0_charAt_5068e_12 : decode cJ0_charAt_5068e 12 = .ok (.invokestatic 495, 3) := by decide +kernel
theorem dJ0_charAt_5068e_15 : decode cJ0_charAt_5068e 15 = .ok (.ireturn, 1) := by decide +kernel
theorem dJ0_charAt_5068e_16 : decode cJ0_charAt_5068e 16 = .ok (.aload_n 0, 1) := by decide +kernel
theorem dJ0_charAt_5068e_17 : decode cJ0_charAt_5068e 17 = .ok (.getfield 9, 3) := by decide +kernel
theorem dJ0_charAt_5068e_20 : decode cJ0_charAt_5068e 20 = .ok (.iload_n 1, 1) := by decide +kernel
theorem dJ0_charAt_5068e_21 : decode cJ0_charAt_5068e 21 = .ok (.invokestatic 498, 3) := by decide +kernel
theorem dJ0_charAt_5068e_24 : decode cJ0_charAt_5068e 24 = .ok (.ireturn, 1) := by decide +kernel
theorem dJ0_coder_7d493_0 : decode cJ0_coder_7d493 0 = .ok (.getstatic 38, 3) := by decide +kernel
theorem dJ0_coder_7d493_3 : decode cJ0_coder_7d493 3 = .ok (.ifCond .eq 10, 3) := by decide +kernel
theorem dJ0_coder_7d493_6 : decode cJ0_coder_7d493 6 = .ok (.aload_n 0, 1) := by decide +kernel
theorem dJ0_coder_7d493_7 : decode cJ0_coder_7d493 7 = .ok (.getfield 15, 3) := by decide +kernel
theorem dJ0_coder_7d493_10 : decode cJ0_coder_7d493 10 = .ok (.goto 4, 3) := by decide +kernel
theorem dJ0_coder_7d493_13 : decode cJ0_coder_7d493 13 = .ok (.iconst 1, 1) := by decide +kernel
theorem dJ0_coder_7d493_14 : decode cJ0_coder_7d493 14 = .ok (.ireturn, 1) := by decide +kernel
theorem dJ0_isLatin1_aae02_0 : decode cJ0_isLatin1_aae02 0 = .ok (.getstatic 38, 3) := by decide +kernel
theorem dJ0_isLatin1_aae02_3 : decode cJ0_isLatin1_aae02 3 = .ok (.ifCond .eq 14, 3) := by decide +kernel
theorem dJ0_isLatin1_aae02_6 : decode cJ0_isLatin1_aae02 6 = .ok (.aload_n 0, 1) := by decide +kernel
theorem dJ0_isLatin1_aae02_7 : decode cJ0_isLatin1_aae02 7 = .ok (.getfield 15, 3) := by decide +kernel
theorem dJ0_isLatin1_aae02_10 : decode cJ0_isLatin1_aae02 10 = .ok (.ifCond .ne 7, 3) := by decide +kernel
theorem dJ0_isLatin1_aae02_13 : decode cJ0_isLatin1_aae02 13 = .ok (.iconst 1, 1) := by decide +kernel
theorem dJ0_isLatin1_aae02_14 : decode cJ0_isLatin1_aae02 14 = .ok (.goto 4, 3) := by decide +kernel
theorem dJ0_isLatin1_aae02_17 : decode cJ0_isLatin1_aae02 17 = .ok (.iconst 0, 1) := by decide +kernel
theorem dJ0_isLatin1_aae02_18 : decode cJ0_isLatin1_aae02 18 = .ok (.ireturn, 1) := by decide +kernel
theorem dJ0_checkIndex_df160_0 : decode cJ0_checkIndex_df160 0 = .ok (.iload_n 0, 1) := by decide +kernel
theorem dJ0_checkIndex_df160_1 : decode cJ0_checkIndex_df160 1 = .ok (.iload_n 1, 1) := by decide +kernel
theorem dJ0_checkIndex_df160_2 : decode cJ0_checkIndex_df160 2 = .ok (.getstatic 1053, 3) := by decide +kernel
theorem dJ0_checkIndex_df160_5 : decode cJ0_checkIndex_df160 5 = .ok (.invokestatic 1059, 3) := by decide +kernel
theorem dJ0_checkIndex_df160_8 : decode cJ0_checkIndex_df160 8 = .ok (.pop, 1) := by decide +kernel
theorem dJ0_checkIndex_df160_9 : decode cJ0_checkIndex_df160 9 = .ok (.return_, 1) := by decide +kernel
theorem dJ1_charAt_3b067_0 : decode cJ1_charAt_3b067 0 = .ok (.iload_n 1, 1) := by decide +kernel
theorem dJ1_charAt_3b067_1 : decode cJ1_charAt_3b067 1 = .ok (.aload_n 0, 1) := by decide +kernel
theorem dJ1_charAt_3b067_2 : decode cJ1_charAt_3b067 2 = .ok (.arraylength, 1) := by decide +kernel
theorem dJ1_charAt_3b067_3 : decode cJ1_charAt_3b067 3 = .ok (.invokestatic 9, 3) := by decide +kernel
theorem dJ1_charAt_3b067_6 : decode cJ1_charAt_3b067 6 = .ok (.aload_n 0, 1) := by decide +kernel
theorem dJ1_charAt_3b067_7 : decode cJ1_charAt_3b067 7 = .ok (.iload_n 1, 1) := by decide +kernel
theorem dJ1_charAt_3b067_8 : decode cJ1_charAt_3b067 8 = .ok (.baload, 1) := by decide +kernel
theorem dJ1_charAt_3b067_9 : decode cJ1_charAt_3b067 9 = .ok (.sipush 255, 3) := by decide +kernel
theorem dJ1_charAt_3b067_12 : decode cJ1_charAt_3b067 12 = .ok (.iand, 1) := by decide +kernel
theorem dJ1_charAt_3b067_13 : decode cJ1_charAt_3b067 13 = .ok (.i2c, 1) := by decide +kernel
theorem dJ1_charAt_3b067_14 : decode cJ1_charAt_3b067 14 = .ok (.ireturn, 1) := by decide +kernel
theorem dJ2_getChar_3b067_0 : decode cJ2_getChar_3b067 0 = .ok (.getstatic 44, 3) := by decide +kernel
theorem dJ2_getChar_3b067_3 : decode cJ2_getChar_3b067 3 = .ok (.ifCond .ne 25, 3) := by decide +kernel
theorem dJ2_getChar_3b067_6 : decode cJ2_getChar_3b067 6 = .ok (.iload_n 1, 1) := by decide +kernel
theorem dJ2_getChar_3b067_7 : decode cJ2_getChar_3b067 7 = .ok (.ifCond .lt 11, 3) := by decide +kernel
theorem dJ2_getChar_3b067_10 : decode cJ2_getChar_3b067 10 = .ok (.iload_n 1, 1) := by decide +kernel
theorem dJ2_getChar_3b067_11 : decode cJ2_getChar_3b067 11 = .ok (.aload_n 0, 1) := by decide +kernel
theorem dJ2_getChar_3b067_12 : decode cJ2_getChar_3b067 12 = .ok (.invokestatic 48, 3) := by decide +kernel
theorem dJ2_getChar_3b067_15 : decode cJ2_getChar_3b067 15 = .ok (.if_icmp .lt 13, 3) := by decide +kernel
theorem dJ2_getChar_3b067_18 : decode cJ2_getChar_3b067 18 = .ok (.new 52, 3) := by decide +kernel
theorem dJ2_getChar_3b067_21 : decode cJ2_getChar_3b067 21 = .ok (.dup, 1) := by decide +kernel
theorem dJ2_getChar_3b067_22 : decode cJ2_getChar_3b067 22 = .ok (.ldc 54, 2) := by decide +kernel
theorem dJ2_getChar_3b067_24 : decode cJ2_getChar_3b067 24 = .ok (.invokespecial 56, 3) := by decide +kernel
theorem dJ2_getChar_3b067_27 : decode cJ2_getChar_3b067 27 = .ok (.athrow, 1) := by decide +kernel
theorem dJ2_getChar_3b067_28 : decode cJ2_getChar_3b067 28 = .ok (.iload_n 1, 1) := by decide +kernel
theorem dJ2_getChar_3b067_29 : decode cJ2_getChar_3b067 29 = .ok (.iconst 1, 1) := by decide +kernel
theorem dJ2_getChar_3b067_30 : decode cJ2_getChar_3b067 30 = .ok (.ishl, 1) := by decide +kernel
theorem dJ2_getChar_3b067_31 : decode cJ2_getChar_3b067 31 = .ok (.istore_n 1, 1) := by decide +kernel
theorem dJ2_getChar_3b067_32 : decode cJ2_getChar_3b067 32 = .ok (.aload_n 0, 1) := by decide +kernel
theorem dJ2_getChar_3b067_33 : decode cJ2_getChar_3b067 33 = .ok (.iload_n 1, 1) := by decide +kernel
theorem dJ2_getChar_3b067_34 : decode cJ2_getChar_3b067 34 = .ok (.iinc 1 1, 3) := by decide +kernel
theorem dJ2_getChar_3b067_37 : decode cJ2_getChar_3b067 37 = .ok (.baload, 1) := by decide +kernel
theorem dJ2_getChar_3b067_38 : decode cJ2_getChar_3b067 38 = .ok (.sipush 255, 3) := by decide +kernel
theorem dJ2_getChar_3b067_41 : decode cJ2_getChar_3b067 41 = .ok (.iand, 1) := by decide +kernel
theorem dJ2_getChar_3b067_42 : decode cJ2_getChar_3b067 42 = .ok (.getstatic 59, 3) := by decide +kernel
theorem dJ2_getChar_3b067_45 : decode cJ2_getChar_3b067 45 = .ok (.ishl, 1) := by decide +kernel
theorem dJ2_getChar_3b067_46 : decode cJ2_getChar_3b067 46 = .ok (.aload_n 0, 1) := by decide +kernel
theorem dJ2_getChar_3b067_47 : decode cJ2_getChar_3b067 47 = .ok (.iload_n 1, 1) := by decide +kernel
theorem dJ2_getChar_3b067_48 : decode cJ2_getChar_3b067 48 = .ok (.baload, 1) := by decide +kernel
theorem dJ2_getChar_3b067_49 : decode cJ2_getChar_3b067 49 = .ok (.sipush 255, 3) := by decide +kernel
theorem dJ2_getChar_3b067_52 : decode cJ2_getChar_3b067 52 = .ok (.iand, 1) := by decide +kernel
theorem dJ2_getChar_3b067_53 : decode cJ2_getChar_3b067 53 = .ok (.getstatic 63, 3) := by decide +kernel
theorem dJ2_getChar_3b067_56 : decode cJ2_getChar_3b067 56 = .ok (.ishl, 1) := by decide +kernel
theorem dJ2_getChar_3b067_57 : decode cJ2_getChar_3b067 57 = .ok (.ior, 1) := by decide +kernel
theorem dJ2_getChar_3b067_58 : decode cJ2_getChar_3b067 58 = .ok (.i2c, 1) := by decide +kernel
theorem dJ2_getChar_3b067_59 : decode cJ2_getChar_3b067 59 = .ok (.ireturn, 1) := by decide +kernel
theorem dJ2_length_9d52b_0 : decode cJ2_length_9d52b 0 = .ok (.aload_n 0, 1) := by decide +kernel
theorem dJ2_length_9d52b_1 : decode cJ2_length_9d52b 1 = .ok (.arraylength, 1) := by decide +kernel
theorem dJ2_length_9d52b_2 : decode cJ2_length_9d52b 2 = .ok (.iconst 1, 1) := by decide +kernel
theorem dJ2_length_9d52b_3 : decode cJ2_length_9d52b 3 = .ok (.ishr, 1) := by decide +kernel
theorem dJ2_length_9d52b_4 : decode cJ2_length_9d52b 4 = .ok (.ireturn, 1) := by decide +kernel
theorem dJ2_charAt_3b067_0 : decode cJ2_charAt_3b067 0 = .ok (.iload_n 1, 1) := by decide +kernel
theorem dJ2_charAt_3b067_1 : decode cJ2_charAt_3b067 1 = .ok (.aload_n 0, 1) := by decide +kernel
theorem dJ2_charAt_3b067_2 : decode cJ2_charAt_3b067 2 = .ok (.invokestatic 67, 3) := by decide +kernel
theorem dJ2_charAt_3b067_5 : decode cJ2_charAt_3b067 5 = .ok (.aload_n 0, 1) := by decide +kernel
theorem dJ2_charAt_3b067_6 : decode cJ2_charAt_3b067 6 = .ok (.iload_n 1, 1) := by decide +kernel
theorem dJ2_charAt_3b067_7 : decode cJ2_charAt_3b067 7 = .ok (.invokestatic 71, 3) := by decide +kernel
theorem dJ2_charAt_3b067_10 : decode cJ2_charAt_3b067 10 = .ok (.ireturn, 1) := by decide +kernel
theorem dJ2_checkIndex_2214a_0 : decode cJ2_checkIndex_2214a 0 = .ok (.iload_n 0, 1) := by decide +kernel
theorem dJ2_checkIndex_2214a_1 : decode cJ2_checkIndex_2214a 1 = .ok (.aload_n 1, 1) := by decide +kernel
theorem dJ2_checkIndex_2214a_2 : decode cJ2_checkIndex_2214a 2 = .ok (.invokestatic 48, 3) := by decide +kernel
theorem dJ2_checkIndex_2214a_5 : decode cJ2_checkIndex_2214a 5 = .ok (.invokestatic 414, 3) := by decide +kernel
theorem dJ2_checkIndex_2214a_8 : decode cJ2_checkIndex_2214a 8 = .ok (.return_, 1) := by decide +kernel
theorem dJ7_fill_d0a16_0 : decode cJ7_fill_d0a16 0 = .ok (.iconst 0, 1) := by decide +kernel
theorem dJ7_fill_d0a16_1 : decode cJ7_fill_d0a16 1 = .ok (.istore_n 3, 1) := by decide +kernel
theorem dJ7_fill_d0a16_2 : decode cJ7_fill_d0a16 2 = .ok (.aload_n 0, 1) := by decide +kernel
theorem dJ7_fill_d0a16_3 : decode cJ7_fill_d0a16 3 = .ok (.arraylength, 1) := by decide +kernel
theorem dJ7_fill_d0a16_4 : decode cJ7_fill_d0a16 4 = .ok (.istore 4, 2) := by decide +kernel
theorem dJ7_fill_d0a16_6 : decode cJ7_fill_d0a16 6 = .ok (.iload_n 3, 1) := by decide +kernel
theorem dJ7_fill_d0a16_7 : decode cJ7_fill_d0a16 7 = .ok (.iload 4, 2) := by decide +kernel
theorem dJ7_fill_d0a16_9 : decode cJ7_fill_d0a16 9 = .ok (.if_icmp .ge 13, 3) := by decide +kernel
theorem dJ7_fill_d0a16_12 : decode cJ7_fill_d0a16 12 = .ok (.aload_n 0, 1) := by decide +kernel
theorem dJ7_fill_d0a16_13 : decode cJ7_fill_d0a16 13 = .ok (.iload_n 3, 1) := by decide +kernel
theorem dJ7_fill_d0a16_14 : decode cJ7_fill_d0a16 14 = .ok (.lload_n 1, 1) := by decide +kernel
theorem dJ7_fill_d0a16_15 : decode cJ7_fill_d0a16 15 = .ok (.lastore, 1) := by decide +kernel
theorem dJ7_fill_d0a16_16 : decode cJ7_fill_d0a16 16 = .ok (.iinc 3 1, 3) := by decide +kernel
theorem dJ7_fill_d0a16_19 : decode cJ7_fill_d0a16 19 = .ok (.goto (-13), 3) := by decide +kernel
theorem dJ7_fill_d0a16_22 : decode cJ7_fill_d0a16 22 = .ok (.return_, 1) := by decide +kernel
theorem dJ7_fill_53178_0 : decode cJ7_fill_53178 0 = .ok (.iconst 0, 1) := by decide +kernel
theorem dJ7_fill_53178_1 : decode cJ7_fill_53178 1 = .ok (.istore_n 2, 1) := by decide +kernel
theorem dJ7_fill_53178_2 : decode cJ7_fill_53178 2 = .ok (.aload_n 0, 1) := by decide +kernel
theorem dJ7_fill_53178_3 : decode cJ7_fill_53178 3 = .ok (.arraylength, 1) := by decide +kernel
theorem dJ7_fill_53178_4 : decode cJ7_fill_53178 4 = .ok (.istore_n 3, 1) := by decide +kernel
theorem dJ7_fill_53178_5 : decode cJ7_fill_53178 5 = .ok (.iload_n 2, 1) := by decide +kernel
theorem dJ7_fill_53178_6 : decode cJ7_fill_53178 6 = .ok (.iload_n 3, 1) := by decide +kernel
theorem dJ7_fill_53178_7 : decode cJ7_fill_53178 7 = .ok (.if_icmp .ge 13, 3) := by decide +kernel
theorem dJ7_fill_53178_10 : decode cJ7_fill_53178 10 = .ok (.aload_n 0, 1) := by decide +kernel
theorem dJ7_fill_53178_11 : decode cJ7_fill_53178 11 = .ok (.iload_n 2, 1) := by decide +kernel
theorem dJ7_fill_53178_12 : decode cJ7_fill_53178 12 = .ok (.iload_n 1, 1) := by decide +kernel
theorem dJ7_fill_53178_13 : decode cJ7_fill_53178 13 = .ok (.iastore, 1) := by decide +kernel
theorem dJ7_fill_53178_14 : decode cJ7_fill_53178 14 = .ok (.iinc 2 1, 3) := by decide +kernel
theorem dJ7_fill_53178_17 : decode cJ7_fill_53178 17 = .ok (.goto (-12), 3) := by decide +kernel
theorem dJ7_fill_53178_20 : decode cJ7_fill_53178 20 = .ok (.return_, 1) := by decide +kernel
theorem dJ3_checkIndex_8e157_0 : decode cJ3_checkIndex_8e157 0 = .ok (.iload_n 0, 1) := by decide +kernel
theorem dJ3_checkIndex_8e157_1 : decode cJ3_checkIndex_8e157 1 = .ok (.ifCond .lt 8, 3) := by decide +kernel
theorem dJ3_checkIndex_8e157_4 : decode cJ3_checkIndex_8e157 4 = .ok (.iload_n 0, 1) := by decide +kernel
theorem dJ3_checkIndex_8e157_5 : decode cJ3_checkIndex_8e157 5 = .ok (.iload_n 1, 1) := by decide +kernel
theorem dJ3_checkIndex_8e157_6 : decode cJ3_checkIndex_8e157 6 = .ok (.if_icmp .lt 10, 3) := by decide +kernel
theorem dJ3_checkIndex_8e157_9 : decode cJ3_checkIndex_8e157 9 = .ok (.aload_n 2, 1) := by decide +kernel
theorem dJ3_checkIndex_8e157_10 : decode cJ3_checkIndex_8e157 10 = .ok (.iload_n 0, 1) := by decide +kernel
theorem dJ3_checkIndex_8e157_11 : decode cJ3_checkIndex_8e157 11 = .ok (.iload_n 1, 1) := by decide +kernel
theorem dJ3_checkIndex_8e157_12 : decode cJ3_checkIndex_8e157 12 = .ok (.invokestatic 95, 3) := by decide +kernel
theorem dJ3_checkIndex_8e157_15 : decode cJ3_checkIndex_8e157 15 = .ok (.athrow, 1) := by decide +kernel
theorem dJ3_checkIndex_8e157_16 : decode cJ3_checkIndex_8e157 16 = .ok (.iload_n 0, 1) := by decide +kernel
theorem dJ3_checkIndex_8e157_17 : decode cJ3_checkIndex_8e157 17 = .ok (.ireturn, 1) := by decide +kernel
theorem dL_law_0 : decode cL_law 0 = .ok (.new 7, 3) := by decide +kernel
theorem dL_law_3 : decode cL_law 3 = .ok (.dup, 1) := by decide +kernel
theorem dL_law_4 : decode cL_law 4 = .ok (.invokespecial 9, 3) := by decide +kernel
theorem dL_law_7 : decode cL_law 7 = .ok (.astore_n 1, 1) := by decide +kernel
theorem dL_law_8 : decode cL_law 8 = .ok (.new 10, 3) := by decide +kernel
theorem dL_law_11 : decode cL_law 11 = .ok (.dup, 1) := by decide +kernel
theorem dL_law_12 : decode cL_law 12 = .ok (.invokespecial 12, 3) := by decide +kernel
theorem dL_law_15 : decode cL_law 15 = .ok (.astore_n 2, 1) := by decide +kernel
theorem dL_law_16 : decode cL_law 16 = .ok (.iconst 0, 1) := by decide +kernel
theorem dL_law_17 : decode cL_law 17 = .ok (.istore_n 3, 1) := by decide +kernel
theorem dL_law_18 : decode cL_law 18 = .ok (.iload_n 3, 1) := by decide +kernel
theorem dL_law_19 : decode cL_law 19 = .ok (.aload_n 0, 1) := by decide +kernel
theorem dL_law_20 : decode cL_law 20 = .ok (.arraylength, 1) := by decide +kernel
theorem dL_law_21 : decode cL_law 21 = .ok (.iconst 5, 1) := by decide +kernel
theorem dL_law_22 : decode cL_law 22 = .ok (.isub, 1) := by decide +kernel
theorem dL_law_23 : decode cL_law 23 = .ok (.if_icmp .gt 943, 3) := by decide +kernel
theorem dL_law_26 : decode cL_law 26 = .ok (.aload_n 0, 1) := by decide +kernel
theorem dL_law_27 : decode cL_law 27 = .ok (.iload_n 3, 1) := by decide +kernel
theorem dL_law_28 : decode cL_law 28 = .ok (.iaload, 1) := by decide +kernel
theorem dL_law_29 : decode cL_law 29 = .ok (.bipush 31, 2) := by decide +kernel
theorem dL_law_31 : decode cL_law 31 = .ok (.iand, 1) := by decide +kernel
theorem dL_law_32 : decode cL_law 32 = .ok (.tableswitch 928 0 25 #[120, 143, 196, 239, 282, 325, 368, 391, 404, 417, 440, 453, 466, 479, 502, 535, 568, 601, 644, 687, 730, 783, 816, 839, 862, 895], 120) := by decide +kernel
theorem dL_law_152 : decode cL_law 152 = .ok (.aload_n 1, 1) := by decide +kernel
theorem dL_law_153 : decode cL_law 153 = .ok (.aload_n 0, 1) := by decide +kernel
theorem dL_law_154 : decode cL_law 154 = .ok (.iload_n 3, 1) := by decide +kernel
theorem dL_law_155 : decode cL_law 155 = .ok (.iconst 1, 1) := by decide +kernel
theorem dL_law_156 : decode cL_law 156 = .ok (.iadd, 1) := by decide +kernel
theorem dL_law_157 : decode cL_law 157 = .ok (.iaload, 1) := by decide +kernel
theorem dL_law_158 : decode cL_law 158 = .ok (.invokevirtual 13, 3) := by decide +kernel
theorem dL_law_161 : decode cL_law 161 = .ok (.aload_n 2, 1) := by decide +kernel
theorem dL_law_162 : decode cL_law 162 = .ok (.aload_n 0, 1) := by decide +kernel
theorem dL_law_163 : decode cL_law 163 = .ok (.iload_n 3, 1) := by decide +kernel
theorem dL_law_164 : decode cL_law 164 = .ok (.iconst 1, 1) := by decide +kernel
theorem dL_law_165 : decode cL_law 165 = .ok (.iadd, 1) := by decide +kernel
theorem dL_law_166 : decode cL_law 166 = .ok (.iaload, 1) := by decide +kernel
theorem dL_law_167 : decode cL_law 167 = .ok (.invokevirtual 17, 3) := by decide +kernel
theorem dL_law_170 : decode cL_law 170 = .ok (.if_icmp .eq 790, 3) := by decide +kernel
theorem dL_law_173 : decode cL_law 173 = .ok (.iconst 0, 1) := by decide +kernel
theorem dL_law_174 : decode cL_law 174 = .ok (.ireturn, 1) := by decide +kernel
theorem dL_law_175 : decode cL_law 175 = .ok (.aload_n 1, 1) := by decide +kernel
theorem dL_law_176 : decode cL_law 176 = .ok (.aload_n 0, 1) := by decide +kernel
theorem dL_law_177 : decode cL_law 177 = .ok (.iload_n 3, 1) := by decide +kernel
theorem dL_law_178 : decode cL_law 178 = .ok (.iconst 1, 1) := by decide +kernel
theorem dL_law_179 : decode cL_law 179 = .ok (.iadd, 1) := by decide +kernel
theorem dL_law_180 : decode cL_law 180 = .ok (.iaload, 1) := by decide +kernel
theorem dL_law_181 : decode cL_law 181 = .ok (.aload_n 0, 1) := by decide +kernel
theorem dL_law_182 : decode cL_law 182 = .ok (.iload_n 3, 1) := by decide +kernel
theorem dL_law_183 : decode cL_law 183 = .ok (.iconst 2, 1) := by decide +kernel
theorem dL_law_184 : decode cL_law 184 = .ok (.iadd, 1) := by decide +kernel
theorem dL_law_185 : decode cL_law 185 = .ok (.iaload, 1) := by decide +kernel
theorem dL_law_186 : decode cL_law 186 = .ok (.aload_n 0, 1) := by decide +kernel
theorem dL_law_187 : decode cL_law 187 = .ok (.iload_n 3, 1) := by decide +kernel
theorem dL_law_188 : decode cL_law 188 = .ok (.iconst 3, 1) := by decide +kernel
theorem dL_law_189 : decode cL_law 189 = .ok (.iadd, 1) := by decide +kernel
theorem dL_law_190 : decode cL_law 190 = .ok (.iaload, 1) := by decide +kernel
theorem dL_law_191 : decode cL_law 191 = .ok (.aload_n 0, 1) := by decide +kernel
theorem dL_law_192 : decode cL_law 192 = .ok (.iload_n 3, 1) := by decide +kernel
theorem dL_law_193 : decode cL_law 193 = .ok (.iconst 4, 1) := by decide +kernel
theorem dL_law_194 : decode cL_law 194 = .ok (.iadd, 1) := by decide +kernel
theorem dL_law_195 : decode cL_law 195 = .ok (.iaload, 1) := by decide +kernel
theorem dL_law_196 : decode cL_law 196 = .ok (.invokevirtual 18, 3) := by decide +kernel
theorem dL_law_199 : decode cL_law 199 = .ok (.aload_n 2, 1) := by decide +kernel
theorem dL_law_200 : decode cL_law 200 = .ok (.aload_n 0, 1) := by decide +kernel
theorem dL_law_201 : decode cL_law 201 = .ok (.iload_n 3, 1) := by decide +kernel
theorem dL_law_202 : decode cL_law 202 = .ok (.iconst 1, 1) := by decide +kernel
theorem dL_law_203 : decode cL_law 203 = .ok (.iadd, 1) := by decide +kernel
theorem dL_law_204 : decode cL_law 204 = .ok (.iaload, 1) := by decide +kernel
theorem dL_law_205 : decode cL_law 205 = .ok (.aload_n 0, 1) := by decide +kernel
theorem dL_law_206 : decode cL_law 206 = .ok (.iload_n 3, 1) := by decide +kernel
theorem dL_law_207 : decode cL_law 207 = .ok (.iconst 2, 1) := by decide +kernel
theorem dL_law_208 : decode cL_law 208 = .ok (.iadd, 1) := by decide +kernel
theorem dL_law_209 : decode cL_law 209 = .ok (.iaload, 1) := by decide +kernel
theorem dL_law_210 : decode cL_law 210 = .ok (.aload_n 0, 1) := by decide +kernel
theorem dL_law_211 : decode cL_law 211 = .ok (.iload_n 3, 1) := by decide +kernel
theorem dL_law_212 : decode cL_law 212 = .ok (.iconst 3, 1) := by decide +kernel
theorem dL_law_213 : decode cL_law 213 = .ok (.iadd, 1) := by decide +kernel
theorem dL_law_214 : decode cL_law 214 = .ok (.iaload, 1) := by decide +kernel
theorem dL_law_215 : decode cL_law 215 = .ok (.aload_n 0, 1) := by decide +kernel
theorem dL_law_216 : decode cL_law 216 = .ok (.iload_n 3, 1) := by decide +kernel
theorem dL_law_217 : decode cL_law 217 = .ok (.iconst 4, 1) := by decide +kernel
theorem dL_law_218 : decode cL_law 218 = .ok (.iadd, 1) := by decide +kernel
theorem dL_law_219 : decode cL_law 219 = .ok (.iaload, 1) := by decide +kernel
theorem dL_law_220 : decode cL_law 220 = .ok (.invokevirtual 22, 3) := by decide +kernel
theorem dL_law_223 : decode cL_law 223 = .ok (.if_icmp .eq 737, 3) := by decide +kernel
theorem dL_law_226 : decode cL_law 226 = .ok (.iconst 0, 1) := by decide +kernel
theorem dL_law_227 : decode cL_law 227 = .ok (.ireturn, 1) := by decide +kernel
theorem dL_law_228 : decode cL_law 228 = .ok (.aload_n 1, 1) := by decide +kernel
theorem dL_law_229 : decode cL_law 229 = .ok (.aload_n 0, 1) := by decide +kernel
theorem dL_law_230 : decode cL_law 230 = .ok (.iload_n 3, 1) := by decide +kernel
theorem dL_law_231 : decode cL_law 231 = .ok (.iconst 1, 1) := by decide +kernel
theorem dL_law_232 : decode cL_law 232 = .ok (.iadd, 1) := by decide +kernel
theorem dL_law_233 : decode cL_law 233 = .ok (.iaload, 1) := by decide +kernel
theorem dL_law_234 : decode cL_law 234 = .ok (.aload_n 0, 1) := by decide +kernel
theorem dL_law_235 : decode cL_law 235 = .ok (.iload_n 3, 1) := by decide +kernel
theorem dL_law_236 : decode cL_law 236 = .ok (.iconst 2, 1) := by decide +kernel
theorem dL_law_237 : decode cL_law 237 = .ok (.iadd, 1) := by decide +kernel
theorem dL_law_238 : decode cL_law 238 = .ok (.iaload, 1) := by decide +kernel
theorem dL_law_239 : decode cL_law 239 = .ok (.aload_n 0, 1) := by decide +kernel
theorem dL_law_240 : decode cL_law 240 = .ok (.iload_n 3, 1) := by decide +kernel
theorem dL_law_241 : decode cL_law 241 = .ok (.iconst 3, 1) := by decide +kernel
theorem dL_law_242 : decode cL_law 242 = .ok (.iadd, 1) := by decide +kernel
theorem dL_law_243 : decode cL_law 243 = .ok (.iaload, 1) := by decide +kernel
theorem dL_law_244 : decode cL_law 244 = .ok (.invokevirtual 23, 3) := by decide +kernel
theorem dL_law_247 : decode cL_law 247 = .ok (.aload_n 2, 1) := by decide +kernel
theorem dL_law_248 : decode cL_law 248 = .ok (.aload_n 0, 1) := by decide +kernel
theorem dL_law_249 : decode cL_law 249 = .ok (.iload_n 3, 1) := by decide +kernel
theorem dL_law_250 : decode cL_law 250 = .ok (.iconst 1, 1) := by decide +kernel
theorem dL_law_251 : decode cL_law 251 = .ok (.iadd, 1) := by decide +kernel
theorem dL_law_252 : decode cL_law 252 = .ok (.iaload, 1) := by decide +kernel
theorem dL_law_253 : decode cL_law 253 = .ok (.aload_n 0, 1) := by decide +kernel
theorem dL_law_254 : decode cL_law 254 = .ok (.iload_n 3, 1) := by decide +kernel
theorem dL_law_255 : decode cL_law 255 = .ok (.iconst 2, 1) := by decide +kernel
theorem dL_law_256 : decode cL_law 256 = .ok (.iadd, 1) := by decide +kernel
theorem dL_law_257 : decode cL_law 257 = .ok (.iaload, 1) := by decide +kernel
theorem dL_law_258 : decode cL_law 258 = .ok (.aload_n 0, 1) := by decide +kernel
theorem dL_law_259 : decode cL_law 259 = .ok (.iload_n 3, 1) := by decide +kernel
theorem dL_law_260 : decode cL_law 260 = .ok (.iconst 3, 1) := by decide +kernel
theorem dL_law_261 : decode cL_law 261 = .ok (.iadd, 1) := by decide +kernel
theorem dL_law_262 : decode cL_law 262 = .ok (.iaload, 1) := by decide +kernel
theorem dL_law_263 : decode cL_law 263 = .ok (.invokevirtual 27, 3) := by decide +kernel
theorem dL_law_266 : decode cL_law 266 = .ok (.if_icmp .eq 694, 3) := by decide +kernel
theorem dL_law_269 : decode cL_law 269 = .ok (.iconst 0, 1) := by decide +kernel
theorem dL_law_270 : decode cL_law 270 = .ok (.ireturn, 1) := by decide +kernel
theorem dL_law_271 : decode cL_law 271 = .ok (.aload_n 1, 1) := by decide +kernel
theorem dL_law_272 : decode cL_law 272 = .ok (.aload_n 0, 1) := by decide +kernel
theorem dL_law_273 : decode cL_law 273 = .ok (.iload_n 3, 1) := by decide +kernel
theorem dL_law_274 : decode cL_law 274 = .ok (.iconst 1, 1) := by decide +kernel
theorem dL_law_275 : decode cL_law 275 = .ok (.iadd, 1) := by decide +kernel
theorem dL_law_276 : decode cL_law 276 = .ok (.iaload, 1) := by decide +kernel
theorem dL_law_277 : decode cL_law 277 = .ok (.aload_n 0, 1) := by decide +kernel
theorem dL_law_278 : decode cL_law 278 = .ok (.iload_n 3, 1) := by decide +kernel
theorem dL_law_279 : decode cL_law 279 = .ok (.iconst 2, 1) := by decide +kernel
theorem dL_law_280 : decode cL_law 280 = .ok (.iadd, 1) := by decide +kernel
theorem dL_law_281 : decode cL_law 281 = .ok (.iaload, 1) := by decide +kernel
theorem dL_law_282 : decode cL_law 282 = .ok (.aload_n 0, 1) := by decide +kernel
theorem dL_law_283 : decode cL_law 283 = .ok (.iload_n 3, 1) := by decide +kernel
theorem dL_law_284 : decode cL_law 284 = .ok (.iconst 3, 1) := by decide +kernel
theorem dL_law_285 : decode cL_law 285 = .ok (.iadd, 1) := by decide +kernel
theorem dL_law_286 : decode cL_law 286 = .ok (.iaload, 1) := by decide +kernel
theorem dL_law_287 : decode cL_law 287 = .ok (.invokevirtual 28, 3) := by decide +kernel
theorem dL_law_290 : decode cL_law 290 = .ok (.aload_n 2, 1) := by decide +kernel
theorem dL_law_291 : decode cL_law 291 = .ok (.aload_n 0, 1) := by decide +kernel
theorem dL_law_292 : decode cL_law 292 = .ok (.iload_n 3, 1) := by decide +kernel
theorem dL_law_293 : decode cL_law 293 = .ok (.iconst 1, 1) := by decide +kernel
theorem dL_law_294 : decode cL_law 294 = .ok (.iadd, 1) := by decide +kernel
theorem dL_law_295 : decode cL_law 295 = .ok (.iaload, 1) := by decide +kernel
theorem dL_law_296 : decode cL_law 296 = .ok (.aload_n 0, 1) := by decide +kernel
theorem dL_law_297 : decode cL_law 297 = .ok (.iload_n 3, 1) := by decide +kernel
theorem dL_law_298 : decode cL_law 298 = .ok (.iconst 2, 1) := by decide +kernel
theorem dL_law_299 : decode cL_law 299 = .ok (.iadd, 1) := by decide +kernel
theorem dL_law_300 : decode cL_law 300 = .ok (.iaload, 1) := by decide +kernel
theorem dL_law_301 : decode cL_law 301 = .ok (.aload_n 0, 1) := by decide +kernel
theorem dL_law_302 : decode cL_law 302 = .ok (.iload_n 3, 1) := by decide +kernel
theorem dL_law_303 : decode cL_law 303 = .ok (.iconst 3, 1) := by decide +kernel
theorem dL_law_304 : decode cL_law 304 = .ok (.iadd, 1) := by decide +kernel
theorem dL_law_305 : decode cL_law 305 = .ok (.iaload, 1) := by decide +kernel
theorem dL_law_306 : decode cL_law 306 = .ok (.invokevirtual 31, 3) := by decide +kernel
theorem dL_law_309 : decode cL_law 309 = .ok (.if_icmp .eq 651, 3) := by decide +kernel
theorem dL_law_312 : decode cL_law 312 = .ok (.iconst 0, 1) := by decide +kernel
theorem dL_law_313 : decode cL_law 313 = .ok (.ireturn, 1) := by decide +kernel
theorem dL_law_314 : decode cL_law 314 = .ok (.aload_n 1, 1) := by decide +kernel
theorem dL_law_315 : decode cL_law 315 = .ok (.aload_n 0, 1) := by decide +kernel
theorem dL_law_316 : decode cL_law 316 = .ok (.iload_n 3, 1) := by decide +kernel
theorem dL_law_317 : decode cL_law 317 = .ok (.iconst 1, 1) := by decide +kernel
theorem dL_law_318 : decode cL_law 318 = .ok (.iadd, 1) := by decide +kernel
theorem dL_law_319 : decode cL_law 319 = .ok (.iaload, 1) := by decide +kernel
theorem dL_law_320 : decode cL_law 320 = .ok (.aload_n 0, 1) := by decide +kernel
theorem dL_law_321 : decode cL_law 321 = .ok (.iload_n 3, 1) := by decide +kernel
theorem dL_law_322 : decode cL_law 322 = .ok (.iconst 2, 1) := by decide +kernel
theorem dL_law_323 : decode cL_law 323 = .ok (.iadd, 1) := by decide +kernel
theorem dL_law_324 : decode cL_law 324 = .ok (.iaload, 1) := by decide +kernel
theorem dL_law_325 : decode cL_law 325 = .ok (.aload_n 0, 1) := by decide +kernel
theorem dL_law_326 : decode cL_law 326 = .ok (.iload_n 3, 1) := by decide +kernel
theorem dL_law_327 : decode cL_law 327 = .ok (.iconst 3, 1) := by decide +kernel
theorem dL_law_328 : decode cL_law 328 = .ok (.iadd, 1) := by decide +kernel
theorem dL_law_329 : decode cL_law 329 = .ok (.iaload, 1) := by decide +kernel
theorem dL_law_330 : decode cL_law 330 = .ok (.invokevirtual 32, 3) := by decide +kernel
theorem dL_law_333 : decode cL_law 333 = .ok (.aload_n 2, 1) := by decide +kernel
theorem dL_law_334 : decode cL_law 334 = .ok (.aload_n 0, 1) := by decide +kernel
theorem dL_law_335 : decode cL_law 335 = .ok (.iload_n 3, 1) := by decide +kernel
theorem dL_law_336 : decode cL_law 336 = .ok (.iconst 1, 1) := by decide +kernel
theorem dL_law_337 : decode cL_law 337 = .ok (.iadd, 1) := by decide +kernel
theorem dL_law_338 : decode cL_law 338 = .ok (.iaload, 1) := by decide +kernel
theorem dL_law_339 : decode cL_law 339 = .ok (.aload_n 0, 1) := by decide +kernel
theorem dL_law_340 : decode cL_law 340 = .ok (.iload_n 3, 1) := by decide +kernel
theorem dL_law_341 : decode cL_law 341 = .ok (.iconst 2, 1) := by decide +kernel
theorem dL_law_342 : decode cL_law 342 = .ok (.iadd, 1) := by decide +kernel
theorem dL_law_343 : decode cL_law 343 = .ok (.iaload, 1) := by decide +kernel
theorem dL_law_344 : decode cL_law 344 = .ok (.aload_n 0, 1) := by decide +kernel
theorem dL_law_345 : decode cL_law 345 = .ok (.iload_n 3, 1) := by decide +kernel
theorem dL_law_346 : decode cL_law 346 = .ok (.iconst 3, 1) := by decide +kernel
theorem dL_law_347 : decode cL_law 347 = .ok (.iadd, 1) := by decide +kernel
theorem dL_law_348 : decode cL_law 348 = .ok (.iaload, 1) := by decide +kernel
theorem dL_law_349 : decode cL_law 349 = .ok (.invokevirtual 35, 3) := by decide +kernel
theorem dL_law_352 : decode cL_law 352 = .ok (.if_icmp .eq 608, 3) := by decide +kernel
theorem dL_law_355 : decode cL_law 355 = .ok (.iconst 0, 1) := by decide +kernel
theorem dL_law_356 : decode cL_law 356 = .ok (.ireturn, 1) := by decide +kernel
theorem dL_law_357 : decode cL_law 357 = .ok (.aload_n 1, 1) := by decide +kernel
theorem dL_law_358 : decode cL_law 358 = .ok (.aload_n 0, 1) := by decide +kernel
theorem dL_law_359 : decode cL_law 359 = .ok (.iload_n 3, 1) := by decide +kernel
theorem dL_law_360 : decode cL_law 360 = .ok (.iconst 1, 1) := by decide +kernel
theorem dL_law_361 : decode cL_law 361 = .ok (.iadd, 1) := by decide +kernel
theorem dL_law_362 : decode cL_law 362 = .ok (.iaload, 1) := by decide +kernel
theorem dL_law_363 : decode cL_law 363 = .ok (.aload_n 0, 1) := by decide +kernel
theorem dL_law_364 : decode cL_law 364 = .ok (.iload_n 3, 1) := by decide +kernel
theorem dL_law_365 : decode cL_law 365 = .ok (.iconst 2, 1) := by decide +kernel
theorem dL_law_366 : decode cL_law 366 = .ok (.iadd, 1) := by decide +kernel
theorem dL_law_367 : decode cL_law 367 = .ok (.iaload, 1) := by decide +kernel
theorem dL_law_368 : decode cL_law 368 = .ok (.aload_n 0, 1) := by decide +kernel
theorem dL_law_369 : decode cL_law 369 = .ok (.iload_n 3, 1) := by decide +kernel
theorem dL_law_370 : decode cL_law 370 = .ok (.iconst 3, 1) := by decide +kernel
theorem dL_law_371 : decode cL_law 371 = .ok (.iadd, 1) := by decide +kernel
theorem dL_law_372 : decode cL_law 372 = .ok (.iaload, 1) := by decide +kernel
theorem dL_law_373 : decode cL_law 373 = .ok (.invokevirtual 36, 3) := by decide +kernel
theorem dL_law_376 : decode cL_law 376 = .ok (.aload_n 2, 1) := by decide +kernel
theorem dL_law_377 : decode cL_law 377 = .ok (.aload_n 0, 1) := by decide +kernel
theorem dL_law_378 : decode cL_law 378 = .ok (.iload_n 3, 1) := by decide +kernel
theorem dL_law_379 : decode cL_law 379 = .ok (.iconst 1, 1) := by decide +kernel
theorem dL_law_380 : decode cL_law 380 = .ok (.iadd, 1) := by decide +kernel
theorem dL_law_381 : decode cL_law 381 = .ok (.iaload, 1) := by decide +kernel
theorem dL_law_382 : decode cL_law 382 = .ok (.aload_n 0, 1) := by decide +kernel
theorem dL_law_383 : decode cL_law 383 = .ok (.iload_n 3, 1) := by decide +kernel
theorem dL_law_384 : decode cL_law 384 = .ok (.iconst 2, 1) := by decide +kernel
theorem dL_law_385 : decode cL_law 385 = .ok (.iadd, 1) := by decide +kernel
theorem dL_law_386 : decode cL_law 386 = .ok (.iaload, 1) := by decide +kernel
theorem dL_law_387 : decode cL_law 387 = .ok (.aload_n 0, 1) := by decide +kernel
theorem dL_law_388 : decode cL_law 388 = .ok (.iload_n 3, 1) := by decide +kernel
theorem dL_law_389 : decode cL_law 389 = .ok (.iconst 3, 1) := by decide +kernel
theorem dL_law_390 : decode cL_law 390 = .ok (.iadd, 1) := by decide +kernel
theorem dL_law_391 : decode cL_law 391 = .ok (.iaload, 1) := by decide +kernel
theorem dL_law_392 : decode cL_law 392 = .ok (.invokevirtual 39, 3) := by decide +kernel
theorem dL_law_395 : decode cL_law 395 = .ok (.if_icmp .eq 565, 3) := by decide +kernel
theorem dL_law_398 : decode cL_law 398 = .ok (.iconst 0, 1) := by decide +kernel
theorem dL_law_399 : decode cL_law 399 = .ok (.ireturn, 1) := by decide +kernel
theorem dL_law_400 : decode cL_law 400 = .ok (.aload_n 1, 1) := by decide +kernel
theorem dL_law_401 : decode cL_law 401 = .ok (.aload_n 0, 1) := by decide +kernel
theorem dL_law_402 : decode cL_law 402 = .ok (.iload_n 3, 1) := by decide +kernel
theorem dL_law_403 : decode cL_law 403 = .ok (.iconst 1, 1) := by decide +kernel
theorem dL_law_404 : decode cL_law 404 = .ok (.iadd, 1) := by decide +kernel
theorem dL_law_405 : decode cL_law 405 = .ok (.iaload, 1) := by decide +kernel
theorem dL_law_406 : decode cL_law 406 = .ok (.invokevirtual 40, 3) := by decide +kernel
theorem dL_law_409 : decode cL_law 409 = .ok (.aload_n 2, 1) := by decide +kernel
theorem dL_law_410 : decode cL_law 410 = .ok (.aload_n 0, 1) := by decide +kernel
theorem dL_law_411 : decode cL_law 411 = .ok (.iload_n 3, 1) := by decide +kernel
theorem dL_law_412 : decode cL_law 412 = .ok (.iconst 1, 1) := by decide +kernel
theorem dL_law_413 : decode cL_law 413 = .ok (.iadd, 1) := by decide +kernel
theorem dL_law_414 : decode cL_law 414 = .ok (.iaload, 1) := by decide +kernel
theorem dL_law_415 : decode cL_law 415 = .ok (.invokevirtual 43, 3) := by decide +kernel
theorem dL_law_418 : decode cL_law 418 = .ok (.if_icmp .eq 542, 3) := by decide +kernel
theorem dL_law_421 : decode cL_law 421 = .ok (.iconst 0, 1) := by decide +kernel
theorem dL_law_422 : decode cL_law 422 = .ok (.ireturn, 1) := by decide +kernel
theorem dL_law_423 : decode cL_law 423 = .ok (.aload_n 1, 1) := by decide +kernel
theorem dL_law_424 : decode cL_law 424 = .ok (.invokevirtual 44, 3) := by decide +kernel
theorem dL_law_427 : decode cL_law 427 = .ok (.aload_n 2, 1) := by decide +kernel
theorem dL_law_428 : decode cL_law 428 = .ok (.invokevirtual 48, 3) := by decide +kernel
theorem dL_law_431 : decode cL_law 431 = .ok (.if_icmp .eq 529, 3) := by decide +kernel
theorem dL_law_434 : decode cL_law 434 = .ok (.iconst 0, 1) := by decide +kernel
theorem dL_law_435 : decode cL_law 435 = .ok (.ireturn, 1) := by decide +kernel
theorem dL_law_436 : decode cL_law 436 = .ok (.aload_n 1, 1) := by decide +kernel
theorem dL_law_437 : decode cL_law 437 = .ok (.invokevirtual 49, 3) := by decide +kernel
theorem dL_law_440 : decode cL_law 440 = .ok (.aload_n 2, 1) := by decide +kernel
theorem dL_law_441 : decode cL_law 441 = .ok (.invokevirtual 52, 3) := by decide +kernel
theorem dL_law_444 : decode cL_law 444 = .ok (.if_icmp .eq 516, 3) := by decide +kernel
theorem dL_law_447 : decode cL_law 447 = .ok (.iconst 0, 1) := by decide +kernel
theorem dL_law_448 : decode cL_law 448 = .ok (.ireturn, 1) := by decide +kernel
theorem dL_law_449 : decode cL_law 449 = .ok (.aload_n 1, 1) := by decide +kernel
theorem dL_law_450 : decode cL_law 450 = .ok (.aload_n 0, 1) := by decide +kernel
theorem dL_law_451 : decode cL_law 451 = .ok (.iload_n 3, 1) := by decide +kernel
theorem dL_law_452 : decode cL_law 452 = .ok (.iconst 1, 1) := by decide +kernel
theorem dL_law_453 : decode cL_law 453 = .ok (.iadd, 1) := by decide +kernel
theorem dL_law_454 : decode cL_law 454 = .ok (.iaload, 1) := by decide +kernel
theorem dL_law_455 : decode cL_law 455 = .ok (.invokevirtual 53, 3) := by decide +kernel
theorem dL_law_458 : decode cL_law 458 = .ok (.aload_n 2, 1) := by decide +kernel
theorem dL_law_459 : decode cL_law 459 = .ok (.aload_n 0, 1) := by decide +kernel
theorem dL_law_460 : decode cL_law 460 = .ok (.iload_n 3, 1) := by decide +kernel
theorem dL_law_461 : decode cL_law 461 = .ok (.iconst 1, 1) := by decide +kernel
theorem dL_law_462 : decode cL_law 462 = .ok (.iadd, 1) := by decide +kernel
theorem dL_law_463 : decode cL_law 463 = .ok (.iaload, 1) := by decide +kernel
theorem dL_law_464 : decode cL_law 464 = .ok (.invokevirtual 56, 3) := by decide +kernel
theorem dL_law_467 : decode cL_law 467 = .ok (.if_icmp .eq 493, 3) := by decide +kernel
theorem dL_law_470 : decode cL_law 470 = .ok (.iconst 0, 1) := by decide +kernel
theorem dL_law_471 : decode cL_law 471 = .ok (.ireturn, 1) := by decide +kernel
theorem dL_law_472 : decode cL_law 472 = .ok (.aload_n 1, 1) := by decide +kernel
theorem dL_law_473 : decode cL_law 473 = .ok (.invokevirtual 57, 3) := by decide +kernel
theorem dL_law_476 : decode cL_law 476 = .ok (.aload_n 2, 1) := by decide +kernel
theorem dL_law_477 : decode cL_law 477 = .ok (.invokevirtual 60, 3) := by decide +kernel
theorem dL_law_480 : decode cL_law 480 = .ok (.if_icmp .eq 480, 3) := by decide +kernel
theorem dL_law_483 : decode cL_law 483 = .ok (.iconst 0, 1) := by decide +kernel
theorem dL_law_484 : decode cL_law 484 = .ok (.ireturn, 1) := by decide +kernel
theorem dL_law_485 : decode cL_law 485 = .ok (.aload_n 1, 1) := by decide +kernel
theorem dL_law_486 : decode cL_law 486 = .ok (.invokevirtual 61, 3) := by decide +kernel
theorem dL_law_489 : decode cL_law 489 = .ok (.aload_n 2, 1) := by decide +kernel
theorem dL_law_490 : decode cL_law 490 = .ok (.invokevirtual 64, 3) := by decide +kernel
theorem dL_law_493 : decode cL_law 493 = .ok (.if_icmp .eq 467, 3) := by decide +kernel
theorem dL_law_496 : decode cL_law 496 = .ok (.iconst 0, 1) := by decide +kernel
theorem dL_law_497 : decode cL_law 497 = .ok (.ireturn, 1) := by decide +kernel
theorem dL_law_498 : decode cL_law 498 = .ok (.aload_n 1, 1) := by decide +kernel
theorem dL_law_499 : decode cL_law 499 = .ok (.invokevirtual 65, 3) := by decide +kernel
theorem dL_law_502 : decode cL_law 502 = .ok (.aload_n 2, 1) := by decide +kernel
theorem dL_law_503 : decode cL_law 503 = .ok (.invokevirtual 68, 3) := by decide +kernel
theorem dL_law_506 : decode cL_law 506 = .ok (.if_icmp .eq 454, 3) := by decide +kernel
theorem dL_law_509 : decode cL_law 509 = .ok (.iconst 0, 1) := by decide +kernel
theorem dL_law_510 : decode cL_law 510 = .ok (.ireturn, 1) := by decide +kernel
theorem dL_law_511 : decode cL_law 511 = .ok (.aload_n 1, 1) := by decide +kernel
theorem dL_law_512 : decode cL_law 512 = .ok (.aload_n 0, 1) := by decide +kernel
theorem dL_law_513 : decode cL_law 513 = .ok (.iload_n 3, 1) := by decide +kernel
theorem dL_law_514 : decode cL_law 514 = .ok (.iconst 1, 1) := by decide +kernel
theorem dL_law_515 : decode cL_law 515 = .ok (.iadd, 1) := by decide +kernel
theorem dL_law_516 : decode cL_law 516 = .ok (.iaload, 1) := by decide +kernel
theorem dL_law_517 : decode cL_law 517 = .ok (.invokevirtual 69, 3) := by decide +kernel
theorem dL_law_520 : decode cL_law 520 = .ok (.aload_n 2, 1) := by decide +kernel
theorem dL_law_521 : decode cL_law 521 = .ok (.aload_n 0, 1) := by decide +kernel
theorem dL_law_522 : decode cL_law 522 = .ok (.iload_n 3, 1) := by decide +kernel
theorem dL_law_523 : decode cL_law 523 = .ok (.iconst 1, 1) := by decide +kernel
theorem dL_law_524 : decode cL_law 524 = .ok (.iadd, 1) := by decide +kernel
theorem dL_law_525 : decode cL_law 525 = .ok (.iaload, 1) := by decide +kernel
theorem dL_law_526 : decode cL_law 526 = .ok (.invokevirtual 72, 3) := by decide +kernel
theorem dL_law_529 : decode cL_law 529 = .ok (.if_icmp .eq 431, 3) := by decide +kernel
theorem dL_law_532 : decode cL_law 532 = .ok (.iconst 0, 1) := by decide +kernel
theorem dL_law_533 : decode cL_law 533 = .ok (.ireturn, 1) := by decide +kernel
theorem dL_law_534 : decode cL_law 534 = .ok (.aload_n 1, 1) := by decide +kernel
theorem dL_law_535 : decode cL_law 535 = .ok (.aload_n 0, 1) := by decide +kernel
theorem dL_law_536 : decode cL_law 536 = .ok (.iload_n 3, 1) := by decide +kernel
theorem dL_law_537 : decode cL_law 537 = .ok (.iconst 1, 1) := by decide +kernel
theorem dL_law_538 : decode cL_law 538 = .ok (.iadd, 1) := by decide +kernel
theorem dL_law_539 : decode cL_law 539 = .ok (.iaload, 1) := by decide +kernel
theorem dL_law_540 : decode cL_law 540 = .ok (.aload_n 0, 1) := by decide +kernel
theorem dL_law_541 : decode cL_law 541 = .ok (.iload_n 3, 1) := by decide +kernel
theorem dL_law_542 : decode cL_law 542 = .ok (.iconst 2, 1) := by decide +kernel
theorem dL_law_543 : decode cL_law 543 = .ok (.iadd, 1) := by decide +kernel
theorem dL_law_544 : decode cL_law 544 = .ok (.iaload, 1) := by decide +kernel
theorem dL_law_545 : decode cL_law 545 = .ok (.invokevirtual 73, 3) := by decide +kernel
theorem dL_law_548 : decode cL_law 548 = .ok (.aload_n 2, 1) := by decide +kernel
theorem dL_law_549 : decode cL_law 549 = .ok (.aload_n 0, 1) := by decide +kernel
theorem dL_law_550 : decode cL_law 550 = .ok (.iload_n 3, 1) := by decide +kernel
theorem dL_law_551 : decode cL_law 551 = .ok (.iconst 1, 1) := by decide +kernel
theorem dL_law_552 : decode cL_law 552 = .ok (.iadd, 1) := by decide +kernel
theorem dL_law_553 : decode cL_law 553 = .ok (.iaload, 1) := by decide +kernel
theorem dL_law_554 : decode cL_law 554 = .ok (.aload_n 0, 1) := by decide +kernel
theorem dL_law_555 : decode cL_law 555 = .ok (.iload_n 3, 1) := by decide +kernel
theorem dL_law_556 : decode cL_law 556 = .ok (.iconst 2, 1) := by decide +kernel
theorem dL_law_557 : decode cL_law 557 = .ok (.iadd, 1) := by decide +kernel
theorem dL_law_558 : decode cL_law 558 = .ok (.iaload, 1) := by decide +kernel
theorem dL_law_559 : decode cL_law 559 = .ok (.invokevirtual 77, 3) := by decide +kernel
theorem dL_law_562 : decode cL_law 562 = .ok (.if_icmp .eq 398, 3) := by decide +kernel
theorem dL_law_565 : decode cL_law 565 = .ok (.iconst 0, 1) := by decide +kernel
theorem dL_law_566 : decode cL_law 566 = .ok (.ireturn, 1) := by decide +kernel
theorem dL_law_567 : decode cL_law 567 = .ok (.aload_n 1, 1) := by decide +kernel
theorem dL_law_568 : decode cL_law 568 = .ok (.aload_n 0, 1) := by decide +kernel
theorem dL_law_569 : decode cL_law 569 = .ok (.iload_n 3, 1) := by decide +kernel
theorem dL_law_570 : decode cL_law 570 = .ok (.iconst 1, 1) := by decide +kernel
theorem dL_law_571 : decode cL_law 571 = .ok (.iadd, 1) := by decide +kernel
theorem dL_law_572 : decode cL_law 572 = .ok (.iaload, 1) := by decide +kernel
theorem dL_law_573 : decode cL_law 573 = .ok (.aload_n 0, 1) := by decide +kernel
theorem dL_law_574 : decode cL_law 574 = .ok (.iload_n 3, 1) := by decide +kernel
theorem dL_law_575 : decode cL_law 575 = .ok (.iconst 2, 1) := by decide +kernel
theorem dL_law_576 : decode cL_law 576 = .ok (.iadd, 1) := by decide +kernel
theorem dL_law_577 : decode cL_law 577 = .ok (.iaload, 1) := by decide +kernel
theorem dL_law_578 : decode cL_law 578 = .ok (.invokevirtual 78, 3) := by decide +kernel
theorem dL_law_581 : decode cL_law 581 = .ok (.aload_n 2, 1) := by decide +kernel
theorem dL_law_582 : decode cL_law 582 = .ok (.aload_n 0, 1) := by decide +kernel
theorem dL_law_583 : decode cL_law 583 = .ok (.iload_n 3, 1) := by decide +kernel
theorem dL_law_584 : decode cL_law 584 = .ok (.iconst 1, 1) := by decide +kernel
theorem dL_law_585 : decode cL_law 585 = .ok (.iadd, 1) := by decide +kernel
theorem dL_law_586 : decode cL_law 586 = .ok (.iaload, 1) := by decide +kernel
theorem dL_law_587 : decode cL_law 587 = .ok (.aload_n 0, 1) := by decide +kernel
theorem dL_law_588 : decode cL_law 588 = .ok (.iload_n 3, 1) := by decide +kernel
theorem dL_law_589 : decode cL_law 589 = .ok (.iconst 2, 1) := by decide +kernel
theorem dL_law_590 : decode cL_law 590 = .ok (.iadd, 1) := by decide +kernel
theorem dL_law_591 : decode cL_law 591 = .ok (.iaload, 1) := by decide +kernel
theorem dL_law_592 : decode cL_law 592 = .ok (.invokevirtual 81, 3) := by decide +kernel
theorem dL_law_595 : decode cL_law 595 = .ok (.if_icmp .eq 365, 3) := by decide +kernel
theorem dL_law_598 : decode cL_law 598 = .ok (.iconst 0, 1) := by decide +kernel
theorem dL_law_599 : decode cL_law 599 = .ok (.ireturn, 1) := by decide +kernel
theorem dL_law_600 : decode cL_law 600 = .ok (.aload_n 1, 1) := by decide +kernel
theorem dL_law_601 : decode cL_law 601 = .ok (.aload_n 0, 1) := by decide +kernel
theorem dL_law_602 : decode cL_law 602 = .ok (.iload_n 3, 1) := by decide +kernel
theorem dL_law_603 : decode cL_law 603 = .ok (.iconst 1, 1) := by decide +kernel
theorem dL_law_604 : decode cL_law 604 = .ok (.iadd, 1) := by decide +kernel
theorem dL_law_605 : decode cL_law 605 = .ok (.iaload, 1) := by decide +kernel
theorem dL_law_606 : decode cL_law 606 = .ok (.aload_n 0, 1) := by decide +kernel
theorem dL_law_607 : decode cL_law 607 = .ok (.iload_n 3, 1) := by decide +kernel
theorem dL_law_608 : decode cL_law 608 = .ok (.iconst 2, 1) := by decide +kernel
theorem dL_law_609 : decode cL_law 609 = .ok (.iadd, 1) := by decide +kernel
theorem dL_law_610 : decode cL_law 610 = .ok (.iaload, 1) := by decide +kernel
theorem dL_law_611 : decode cL_law 611 = .ok (.invokevirtual 82, 3) := by decide +kernel
theorem dL_law_614 : decode cL_law 614 = .ok (.aload_n 2, 1) := by decide +kernel
theorem dL_law_615 : decode cL_law 615 = .ok (.aload_n 0, 1) := by decide +kernel
theorem dL_law_616 : decode cL_law 616 = .ok (.iload_n 3, 1) := by decide +kernel
theorem dL_law_617 : decode cL_law 617 = .ok (.iconst 1, 1) := by decide +kernel
theorem dL_law_618 : decode cL_law 618 = .ok (.iadd, 1) := by decide +kernel
theorem dL_law_619 : decode cL_law 619 = .ok (.iaload, 1) := by decide +kernel
theorem dL_law_620 : decode cL_law 620 = .ok (.aload_n 0, 1) := by decide +kernel
theorem dL_law_621 : decode cL_law 621 = .ok (.iload_n 3, 1) := by decide +kernel
theorem dL_law_622 : decode cL_law 622 = .ok (.iconst 2, 1) := by decide +kernel
theorem dL_law_623 : decode cL_law 623 = .ok (.iadd, 1) := by decide +kernel
theorem dL_law_624 : decode cL_law 624 = .ok (.iaload, 1) := by decide +kernel
theorem dL_law_625 : decode cL_law 625 = .ok (.invokevirtual 85, 3) := by decide +kernel
theorem dL_law_628 : decode cL_law 628 = .ok (.if_icmp .eq 332, 3) := by decide +kernel
theorem dL_law_631 : decode cL_law 631 = .ok (.iconst 0, 1) := by decide +kernel
theorem dL_law_632 : decode cL_law 632 = .ok (.ireturn, 1) := by decide +kernel
theorem dL_law_633 : decode cL_law 633 = .ok (.aload_n 1, 1) := by decide +kernel
theorem dL_law_634 : decode cL_law 634 = .ok (.aload_n 0, 1) := by decide +kernel
theorem dL_law_635 : decode cL_law 635 = .ok (.iload_n 3, 1) := by decide +kernel
theorem dL_law_636 : decode cL_law 636 = .ok (.iconst 1, 1) := by decide +kernel
theorem dL_law_637 : decode cL_law 637 = .ok (.iadd, 1) := by decide +kernel
theorem dL_law_638 : decode cL_law 638 = .ok (.iaload, 1) := by decide +kernel
theorem dL_law_639 : decode cL_law 639 = .ok (.aload_n 0, 1) := by decide +kernel
theorem dL_law_640 : decode cL_law 640 = .ok (.iload_n 3, 1) := by decide +kernel
theorem dL_law_641 : decode cL_law 641 = .ok (.iconst 2, 1) := by decide +kernel
theorem dL_law_642 : decode cL_law 642 = .ok (.iadd, 1) := by decide +kernel
theorem dL_law_643 : decode cL_law 643 = .ok (.iaload, 1) := by decide +kernel
theorem dL_law_644 : decode cL_law 644 = .ok (.aload_n 0, 1) := by decide +kernel
theorem dL_law_645 : decode cL_law 645 = .ok (.iload_n 3, 1) := by decide +kernel
theorem dL_law_646 : decode cL_law 646 = .ok (.iconst 3, 1) := by decide +kernel
theorem dL_law_647 : decode cL_law 647 = .ok (.iadd, 1) := by decide +kernel
theorem dL_law_648 : decode cL_law 648 = .ok (.iaload, 1) := by decide +kernel
theorem dL_law_649 : decode cL_law 649 = .ok (.invokevirtual 86, 3) := by decide +kernel
theorem dL_law_652 : decode cL_law 652 = .ok (.aload_n 2, 1) := by decide +kernel
theorem dL_law_653 : decode cL_law 653 = .ok (.aload_n 0, 1) := by decide +kernel
theorem dL_law_654 : decode cL_law 654 = .ok (.iload_n 3, 1) := by decide +kernel
theorem dL_law_655 : decode cL_law 655 = .ok (.iconst 1, 1) := by decide +kernel
theorem dL_law_656 : decode cL_law 656 = .ok (.iadd, 1) := by decide +kernel
theorem dL_law_657 : decode cL_law 657 = .ok (.iaload, 1) := by decide +kernel
theorem dL_law_658 : decode cL_law 658 = .ok (.aload_n 0, 1) := by decide +kernel
theorem dL_law_659 : decode cL_law 659 = .ok (.iload_n 3, 1) := by decide +kernel
theorem dL_law_660 : decode cL_law 660 = .ok (.iconst 2, 1) := by decide +kernel
theorem dL_law_661 : decode cL_law 661 = .ok (.iadd, 1) := by decide +kernel
theorem dL_law_662 : decode cL_law 662 = .ok (.iaload, 1) := by decide +kernel
theorem dL_law_663 : decode cL_law 663 = .ok (.aload_n 0, 1) := by decide +kernel
theorem dL_law_664 : decode cL_law 664 = .ok (.iload_n 3, 1) := by decide +kernel
theorem dL_law_665 : decode cL_law 665 = .ok (.iconst 3, 1) := by decide +kernel
theorem dL_law_666 : decode cL_law 666 = .ok (.iadd, 1) := by decide +kernel
theorem dL_law_667 : decode cL_law 667 = .ok (.iaload, 1) := by decide +kernel
theorem dL_law_668 : decode cL_law 668 = .ok (.invokevirtual 89, 3) := by decide +kernel
theorem dL_law_671 : decode cL_law 671 = .ok (.if_icmp .eq 289, 3) := by decide +kernel
theorem dL_law_674 : decode cL_law 674 = .ok (.iconst 0, 1) := by decide +kernel
theorem dL_law_675 : decode cL_law 675 = .ok (.ireturn, 1) := by decide +kernel
theorem dL_law_676 : decode cL_law 676 = .ok (.aload_n 1, 1) := by decide +kernel
theorem dL_law_677 : decode cL_law 677 = .ok (.aload_n 0, 1) := by decide +kernel
theorem dL_law_678 : decode cL_law 678 = .ok (.iload_n 3, 1) := by decide +kernel
theorem dL_law_679 : decode cL_law 679 = .ok (.iconst 1, 1) := by decide +kernel
theorem dL_law_680 : decode cL_law 680 = .ok (.iadd, 1) := by decide +kernel
theorem dL_law_681 : decode cL_law 681 = .ok (.iaload, 1) := by decide +kernel
theorem dL_law_682 : decode cL_law 682 = .ok (.aload_n 0, 1) := by decide +kernel
theorem dL_law_683 : decode cL_law 683 = .ok (.iload_n 3, 1) := by decide +kernel
theorem dL_law_684 : decode cL_law 684 = .ok (.iconst 2, 1) := by decide +kernel
theorem dL_law_685 : decode cL_law 685 = .ok (.iadd, 1) := by decide +kernel
theorem dL_law_686 : decode cL_law 686 = .ok (.iaload, 1) := by decide +kernel
theorem dL_law_687 : decode cL_law 687 = .ok (.aload_n 0, 1) := by decide +kernel
theorem dL_law_688 : decode cL_law 688 = .ok (.iload_n 3, 1) := by decide +kernel
theorem dL_law_689 : decode cL_law 689 = .ok (.iconst 3, 1) := by decide +kernel
theorem dL_law_690 : decode cL_law 690 = .ok (.iadd, 1) := by decide +kernel
theorem dL_law_691 : decode cL_law 691 = .ok (.iaload, 1) := by decide +kernel
theorem dL_law_692 : decode cL_law 692 = .ok (.invokevirtual 90, 3) := by decide +kernel
theorem dL_law_695 : decode cL_law 695 = .ok (.aload_n 2, 1) := by decide +kernel
theorem dL_law_696 : decode cL_law 696 = .ok (.aload_n 0, 1) := by decide +kernel
theorem dL_law_697 : decode cL_law 697 = .ok (.iload_n 3, 1) := by decide +kernel
theorem dL_law_698 : decode cL_law 698 = .ok (.iconst 1, 1) := by decide +kernel
theorem dL_law_699 : decode cL_law 699 = .ok (.iadd, 1) := by decide +kernel
theorem dL_law_700 : decode cL_law 700 = .ok (.iaload, 1) := by decide +kernel
theorem dL_law_701 : decode cL_law 701 = .ok (.aload_n 0, 1) := by decide +kernel
theorem dL_law_702 : decode cL_law 702 = .ok (.iload_n 3, 1) := by decide +kernel
theorem dL_law_703 : decode cL_law 703 = .ok (.iconst 2, 1) := by decide +kernel
theorem dL_law_704 : decode cL_law 704 = .ok (.iadd, 1) := by decide +kernel
theorem dL_law_705 : decode cL_law 705 = .ok (.iaload, 1) := by decide +kernel
theorem dL_law_706 : decode cL_law 706 = .ok (.aload_n 0, 1) := by decide +kernel
theorem dL_law_707 : decode cL_law 707 = .ok (.iload_n 3, 1) := by decide +kernel
theorem dL_law_708 : decode cL_law 708 = .ok (.iconst 3, 1) := by decide +kernel
theorem dL_law_709 : decode cL_law 709 = .ok (.iadd, 1) := by decide +kernel
theorem dL_law_710 : decode cL_law 710 = .ok (.iaload, 1) := by decide +kernel
theorem dL_law_711 : decode cL_law 711 = .ok (.invokevirtual 93, 3) := by decide +kernel
theorem dL_law_714 : decode cL_law 714 = .ok (.if_icmp .eq 246, 3) := by decide +kernel
theorem dL_law_717 : decode cL_law 717 = .ok (.iconst 0, 1) := by decide +kernel
theorem dL_law_718 : decode cL_law 718 = .ok (.ireturn, 1) := by decide +kernel
theorem dL_law_719 : decode cL_law 719 = .ok (.aload_n 1, 1) := by decide +kernel
theorem dL_law_720 : decode cL_law 720 = .ok (.aload_n 0, 1) := by decide +kernel
theorem dL_law_721 : decode cL_law 721 = .ok (.iload_n 3, 1) := by decide +kernel
theorem dL_law_722 : decode cL_law 722 = .ok (.iconst 1, 1) := by decide +kernel
theorem dL_law_723 : decode cL_law 723 = .ok (.iadd, 1) := by decide +kernel
theorem dL_law_724 : decode cL_law 724 = .ok (.iaload, 1) := by decide +kernel
theorem dL_law_725 : decode cL_law 725 = .ok (.aload_n 0, 1) := by decide +kernel
theorem dL_law_726 : decode cL_law 726 = .ok (.iload_n 3, 1) := by decide +kernel
theorem dL_law_727 : decode cL_law 727 = .ok (.iconst 2, 1) := by decide +kernel
theorem dL_law_728 : decode cL_law 728 = .ok (.iadd, 1) := by decide +kernel
theorem dL_law_729 : decode cL_law 729 = .ok (.iaload, 1) := by decide +kernel
theorem dL_law_730 : decode cL_law 730 = .ok (.aload_n 0, 1) := by decide +kernel
theorem dL_law_731 : decode cL_law 731 = .ok (.iload_n 3, 1) := by decide +kernel
theorem dL_law_732 : decode cL_law 732 = .ok (.iconst 3, 1) := by decide +kernel
theorem dL_law_733 : decode cL_law 733 = .ok (.iadd, 1) := by decide +kernel
theorem dL_law_734 : decode cL_law 734 = .ok (.iaload, 1) := by decide +kernel
theorem dL_law_735 : decode cL_law 735 = .ok (.invokevirtual 94, 3) := by decide +kernel
theorem dL_law_738 : decode cL_law 738 = .ok (.aload_n 2, 1) := by decide +kernel
theorem dL_law_739 : decode cL_law 739 = .ok (.aload_n 0, 1) := by decide +kernel
theorem dL_law_740 : decode cL_law 740 = .ok (.iload_n 3, 1) := by decide +kernel
theorem dL_law_741 : decode cL_law 741 = .ok (.iconst 1, 1) := by decide +kernel
theorem dL_law_742 : decode cL_law 742 = .ok (.iadd, 1) := by decide +kernel
theorem dL_law_743 : decode cL_law 743 = .ok (.iaload, 1) := by decide +kernel
theorem dL_law_744 : decode cL_law 744 = .ok (.aload_n 0, 1) := by decide +kernel
theorem dL_law_745 : decode cL_law 745 = .ok (.iload_n 3, 1) := by decide +kernel
theorem dL_law_746 : decode cL_law 746 = .ok (.iconst 2, 1) := by decide +kernel
theorem dL_law_747 : decode cL_law 747 = .ok (.iadd, 1) := by decide +kernel
theorem dL_law_748 : decode cL_law 748 = .ok (.iaload, 1) := by decide +kernel
theorem dL_law_749 : decode cL_law 749 = .ok (.aload_n 0, 1) := by decide +kernel
theorem dL_law_750 : decode cL_law 750 = .ok (.iload_n 3, 1) := by decide +kernel
theorem dL_law_751 : decode cL_law 751 = .ok (.iconst 3, 1) := by decide +kernel
theorem dL_law_752 : decode cL_law 752 = .ok (.iadd, 1) := by decide +kernel
theorem dL_law_753 : decode cL_law 753 = .ok (.iaload, 1) := by decide +kernel
theorem dL_law_754 : decode cL_law 754 = .ok (.invokevirtual 97, 3) := by decide +kernel
theorem dL_law_757 : decode cL_law 757 = .ok (.if_icmp .eq 203, 3) := by decide +kernel
theorem dL_law_760 : decode cL_law 760 = .ok (.iconst 0, 1) := by decide +kernel
theorem dL_law_761 : decode cL_law 761 = .ok (.ireturn, 1) := by decide +kernel
theorem dL_law_762 : decode cL_law 762 = .ok (.aload_n 1, 1) := by decide +kernel
theorem dL_law_763 : decode cL_law 763 = .ok (.aload_n 0, 1) := by decide +kernel
theorem dL_law_764 : decode cL_law 764 = .ok (.iload_n 3, 1) := by decide +kernel
theorem dL_law_765 : decode cL_law 765 = .ok (.iconst 1, 1) := by decide +kernel
theorem dL_law_766 : decode cL_law 766 = .ok (.iadd, 1) := by decide +kernel
theorem dL_law_767 : decode cL_law 767 = .ok (.iaload, 1) := by decide +kernel
theorem dL_law_768 : decode cL_law 768 = .ok (.aload_n 0, 1) := by decide +kernel
theorem dL_law_769 : decode cL_law 769 = .ok (.iload_n 3, 1) := by decide +kernel
theorem dL_law_770 : decode cL_law 770 = .ok (.iconst 2, 1) := by decide +kernel
theorem dL_law_771 : decode cL_law 771 = .ok (.iadd, 1) := by decide +kernel
theorem dL_law_772 : decode cL_law 772 = .ok (.iaload, 1) := by decide +kernel
theorem dL_law_773 : decode cL_law 773 = .ok (.aload_n 0, 1) := by decide +kernel
theorem dL_law_774 : decode cL_law 774 = .ok (.iload_n 3, 1) := by decide +kernel
theorem dL_law_775 : decode cL_law 775 = .ok (.iconst 3, 1) := by decide +kernel
theorem dL_law_776 : decode cL_law 776 = .ok (.iadd, 1) := by decide +kernel
theorem dL_law_777 : decode cL_law 777 = .ok (.iaload, 1) := by decide +kernel
theorem dL_law_778 : decode cL_law 778 = .ok (.aload_n 0, 1) := by decide +kernel
theorem dL_law_779 : decode cL_law 779 = .ok (.iload_n 3, 1) := by decide +kernel
theorem dL_law_780 : decode cL_law 780 = .ok (.iconst 4, 1) := by decide +kernel
theorem dL_law_781 : decode cL_law 781 = .ok (.iadd, 1) := by decide +kernel
theorem dL_law_782 : decode cL_law 782 = .ok (.iaload, 1) := by decide +kernel
theorem dL_law_783 : decode cL_law 783 = .ok (.invokevirtual 98, 3) := by decide +kernel
theorem dL_law_786 : decode cL_law 786 = .ok (.aload_n 2, 1) := by decide +kernel
theorem dL_law_787 : decode cL_law 787 = .ok (.aload_n 0, 1) := by decide +kernel
theorem dL_law_788 : decode cL_law 788 = .ok (.iload_n 3, 1) := by decide +kernel
theorem dL_law_789 : decode cL_law 789 = .ok (.iconst 1, 1) := by decide +kernel
theorem dL_law_790 : decode cL_law 790 = .ok (.iadd, 1) := by decide +kernel
theorem dL_law_791 : decode cL_law 791 = .ok (.iaload, 1) := by decide +kernel
theorem dL_law_792 : decode cL_law 792 = .ok (.aload_n 0, 1) := by decide +kernel
theorem dL_law_793 : decode cL_law 793 = .ok (.iload_n 3, 1) := by decide +kernel
theorem dL_law_794 : decode cL_law 794 = .ok (.iconst 2, 1) := by decide +kernel
theorem dL_law_795 : decode cL_law 795 = .ok (.iadd, 1) := by decide +kernel
theorem dL_law_796 : decode cL_law 796 = .ok (.iaload, 1) := by decide +kernel
theorem dL_law_797 : decode cL_law 797 = .ok (.aload_n 0, 1) := by decide +kernel
theorem dL_law_798 : decode cL_law 798 = .ok (.iload_n 3, 1) := by decide +kernel
theorem dL_law_799 : decode cL_law 799 = .ok (.iconst 3, 1) := by decide +kernel
theorem dL_law_800 : decode cL_law 800 = .ok (.iadd, 1) := by decide +kernel
theorem dL_law_801 : decode cL_law 801 = .ok (.iaload, 1) := by decide +kernel
theorem dL_law_802 : decode cL_law 802 = .ok (.aload_n 0, 1) := by decide +kernel
theorem dL_law_803 : decode cL_law 803 = .ok (.iload_n 3, 1) := by decide +kernel
theorem dL_law_804 : decode cL_law 804 = .ok (.iconst 4, 1) := by decide +kernel
theorem dL_law_805 : decode cL_law 805 = .ok (.iadd, 1) := by decide +kernel
theorem dL_law_806 : decode cL_law 806 = .ok (.iaload, 1) := by decide +kernel
theorem dL_law_807 : decode cL_law 807 = .ok (.invokevirtual 101, 3) := by decide +kernel
theorem dL_law_810 : decode cL_law 810 = .ok (.if_icmp .eq 150, 3) := by decide +kernel
theorem dL_law_813 : decode cL_law 813 = .ok (.iconst 0, 1) := by decide +kernel
theorem dL_law_814 : decode cL_law 814 = .ok (.ireturn, 1) := by decide +kernel
theorem dL_law_815 : decode cL_law 815 = .ok (.aload_n 1, 1) := by decide +kernel
theorem dL_law_816 : decode cL_law 816 = .ok (.aload_n 0, 1) := by decide +kernel
theorem dL_law_817 : decode cL_law 817 = .ok (.iload_n 3, 1) := by decide +kernel
theorem dL_law_818 : decode cL_law 818 = .ok (.iconst 1, 1) := by decide +kernel
theorem dL_law_819 : decode cL_law 819 = .ok (.iadd, 1) := by decide +kernel
theorem dL_law_820 : decode cL_law 820 = .ok (.iaload, 1) := by decide +kernel
theorem dL_law_821 : decode cL_law 821 = .ok (.aload_n 0, 1) := by decide +kernel
theorem dL_law_822 : decode cL_law 822 = .ok (.iload_n 3, 1) := by decide +kernel
theorem dL_law_823 : decode cL_law 823 = .ok (.iconst 2, 1) := by decide +kernel
theorem dL_law_824 : decode cL_law 824 = .ok (.iadd, 1) := by decide +kernel
theorem dL_law_825 : decode cL_law 825 = .ok (.iaload, 1) := by decide +kernel
theorem dL_law_826 : decode cL_law 826 = .ok (.invokevirtual 102, 3) := by decide +kernel
theorem dL_law_829 : decode cL_law 829 = .ok (.aload_n 2, 1) := by decide +kernel
theorem dL_law_830 : decode cL_law 830 = .ok (.aload_n 0, 1) := by decide +kernel
theorem dL_law_831 : decode cL_law 831 = .ok (.iload_n 3, 1) := by decide +kernel
theorem dL_law_832 : decode cL_law 832 = .ok (.iconst 1, 1) := by decide +kernel
theorem dL_law_833 : decode cL_law 833 = .ok (.iadd, 1) := by decide +kernel
theorem dL_law_834 : decode cL_law 834 = .ok (.iaload, 1) := by decide +kernel
theorem dL_law_835 : decode cL_law 835 = .ok (.aload_n 0, 1) := by decide +kernel
theorem dL_law_836 : decode cL_law 836 = .ok (.iload_n 3, 1) := by decide +kernel
theorem dL_law_837 : decode cL_law 837 = .ok (.iconst 2, 1) := by decide +kernel
theorem dL_law_838 : decode cL_law 838 = .ok (.iadd, 1) := by decide +kernel
theorem dL_law_839 : decode cL_law 839 = .ok (.iaload, 1) := by decide +kernel
theorem dL_law_840 : decode cL_law 840 = .ok (.invokevirtual 105, 3) := by decide +kernel
theorem dL_law_843 : decode cL_law 843 = .ok (.if_icmp .eq 117, 3) := by decide +kernel
theorem dL_law_846 : decode cL_law 846 = .ok (.iconst 0, 1) := by decide +kernel
theorem dL_law_847 : decode cL_law 847 = .ok (.ireturn, 1) := by decide +kernel
theorem dL_law_848 : decode cL_law 848 = .ok (.aload_n 1, 1) := by decide +kernel
theorem dL_law_849 : decode cL_law 849 = .ok (.aload_n 0, 1) := by decide +kernel
theorem dL_law_850 : decode cL_law 850 = .ok (.iload_n 3, 1) := by decide +kernel
theorem dL_law_851 : decode cL_law 851 = .ok (.iconst 1, 1) := by decide +kernel
theorem dL_law_852 : decode cL_law 852 = .ok (.iadd, 1) := by decide +kernel
theorem dL_law_853 : decode cL_law 853 = .ok (.iaload, 1) := by decide +kernel
theorem dL_law_854 : decode cL_law 854 = .ok (.invokevirtual 106, 3) := by decide +kernel
theorem dL_law_857 : decode cL_law 857 = .ok (.aload_n 2, 1) := by decide +kernel
theorem dL_law_858 : decode cL_law 858 = .ok (.aload_n 0, 1) := by decide +kernel
theorem dL_law_859 : decode cL_law 859 = .ok (.iload_n 3, 1) := by decide +kernel
theorem dL_law_860 : decode cL_law 860 = .ok (.iconst 1, 1) := by decide +kernel
theorem dL_law_861 : decode cL_law 861 = .ok (.iadd, 1) := by decide +kernel
theorem dL_law_862 : decode cL_law 862 = .ok (.iaload, 1) := by decide +kernel
theorem dL_law_863 : decode cL_law 863 = .ok (.invokevirtual 109, 3) := by decide +kernel
theorem dL_law_866 : decode cL_law 866 = .ok (.if_icmp .eq 94, 3) := by decide +kernel
theorem dL_law_869 : decode cL_law 869 = .ok (.iconst 0, 1) := by decide +kernel
theorem dL_law_870 : decode cL_law 870 = .ok (.ireturn, 1) := by decide +kernel
theorem dL_law_871 : decode cL_law 871 = .ok (.aload_n 1, 1) := by decide +kernel
theorem dL_law_872 : decode cL_law 872 = .ok (.aload_n 0, 1) := by decide +kernel
theorem dL_law_873 : decode cL_law 873 = .ok (.iload_n 3, 1) := by decide +kernel
theorem dL_law_874 : decode cL_law 874 = .ok (.iconst 1, 1) := by decide +kernel
theorem dL_law_875 : decode cL_law 875 = .ok (.iadd, 1) := by decide +kernel
theorem dL_law_876 : decode cL_law 876 = .ok (.iaload, 1) := by decide +kernel
theorem dL_law_877 : decode cL_law 877 = .ok (.invokevirtual 110, 3) := by decide +kernel
theorem dL_law_880 : decode cL_law 880 = .ok (.aload_n 2, 1) := by decide +kernel
theorem dL_law_881 : decode cL_law 881 = .ok (.aload_n 0, 1) := by decide +kernel
theorem dL_law_882 : decode cL_law 882 = .ok (.iload_n 3, 1) := by decide +kernel
theorem dL_law_883 : decode cL_law 883 = .ok (.iconst 1, 1) := by decide +kernel
theorem dL_law_884 : decode cL_law 884 = .ok (.iadd, 1) := by decide +kernel
theorem dL_law_885 : decode cL_law 885 = .ok (.iaload, 1) := by decide +kernel
theorem dL_law_886 : decode cL_law 886 = .ok (.invokevirtual 113, 3) := by decide +kernel
theorem dL_law_889 : decode cL_law 889 = .ok (.if_icmp .eq 71, 3) := by decide +kernel
theorem dL_law_892 : decode cL_law 892 = .ok (.iconst 0, 1) := by decide +kernel
theorem dL_law_893 : decode cL_law 893 = .ok (.ireturn, 1) := by decide +kernel
theorem dL_law_894 : decode cL_law 894 = .ok (.aload_n 1, 1) := by decide +kernel
theorem dL_law_895 : decode cL_law 895 = .ok (.aload_n 0, 1) := by decide +kernel
theorem dL_law_896 : decode cL_law 896 = .ok (.iload_n 3, 1) := by decide +kernel
theorem dL_law_897 : decode cL_law 897 = .ok (.iconst 1, 1) := by decide +kernel
theorem dL_law_898 : decode cL_law 898 = .ok (.iadd, 1) := by decide +kernel
theorem dL_law_899 : decode cL_law 899 = .ok (.iaload, 1) := by decide +kernel
theorem dL_law_900 : decode cL_law 900 = .ok (.aload_n 0, 1) := by decide +kernel
theorem dL_law_901 : decode cL_law 901 = .ok (.iload_n 3, 1) := by decide +kernel
theorem dL_law_902 : decode cL_law 902 = .ok (.iconst 2, 1) := by decide +kernel
theorem dL_law_903 : decode cL_law 903 = .ok (.iadd, 1) := by decide +kernel
theorem dL_law_904 : decode cL_law 904 = .ok (.iaload, 1) := by decide +kernel
theorem dL_law_905 : decode cL_law 905 = .ok (.invokevirtual 114, 3) := by decide +kernel
theorem dL_law_908 : decode cL_law 908 = .ok (.aload_n 2, 1) := by decide +kernel
theorem dL_law_909 : decode cL_law 909 = .ok (.aload_n 0, 1) := by decide +kernel
theorem dL_law_910 : decode cL_law 910 = .ok (.iload_n 3, 1) := by decide +kernel
theorem dL_law_911 : decode cL_law 911 = .ok (.iconst 1, 1) := by decide +kernel
theorem dL_law_912 : decode cL_law 912 = .ok (.iadd, 1) := by decide +kernel
theorem dL_law_913 : decode cL_law 913 = .ok (.iaload, 1) := by decide +kernel
theorem dL_law_914 : decode cL_law 914 = .ok (.aload_n 0, 1) := by decide +kernel
theorem dL_law_915 : decode cL_law 915 = .ok (.iload_n 3, 1) := by decide +kernel
theorem dL_law_916 : decode cL_law 916 = .ok (.iconst 2, 1) := by decide +kernel
theorem dL_law_917 : decode cL_law 917 = .ok (.iadd, 1) := by decide +kernel
theorem dL_law_918 : decode cL_law 918 = .ok (.iaload, 1) := by decide +kernel
theorem dL_law_919 : decode cL_law 919 = .ok (.invokevirtual 117, 3) := by decide +kernel
theorem dL_law_922 : decode cL_law 922 = .ok (.if_icmp .eq 38, 3) := by decide +kernel
theorem dL_law_925 : decode cL_law 925 = .ok (.iconst 0, 1) := by decide +kernel
theorem dL_law_926 : decode cL_law 926 = .ok (.ireturn, 1) := by decide +kernel
theorem dL_law_927 : decode cL_law 927 = .ok (.aload_n 1, 1) := by decide +kernel
theorem dL_law_928 : decode cL_law 928 = .ok (.aload_n 0, 1) := by decide +kernel
theorem dL_law_929 : decode cL_law 929 = .ok (.iload_n 3, 1) := by decide +kernel
theorem dL_law_930 : decode cL_law 930 = .ok (.iconst 1, 1) := by decide +kernel
theorem dL_law_931 : decode cL_law 931 = .ok (.iadd, 1) := by decide +kernel
theorem dL_law_932 : decode cL_law 932 = .ok (.iaload, 1) := by decide +kernel
theorem dL_law_933 : decode cL_law 933 = .ok (.aload_n 0, 1) := by decide +kernel
theorem dL_law_934 : decode cL_law 934 = .ok (.iload_n 3, 1) := by decide +kernel
theorem dL_law_935 : decode cL_law 935 = .ok (.iconst 2, 1) := by decide +kernel
theorem dL_law_936 : decode cL_law 936 = .ok (.iadd, 1) := by decide +kernel
theorem dL_law_937 : decode cL_law 937 = .ok (.iaload, 1) := by decide +kernel
theorem dL_law_938 : decode cL_law 938 = .ok (.invokevirtual 118, 3) := by decide +kernel
theorem dL_law_941 : decode cL_law 941 = .ok (.aload_n 2, 1) := by decide +kernel
theorem dL_law_942 : decode cL_law 942 = .ok (.aload_n 0, 1) := by decide +kernel
theorem dL_law_943 : decode cL_law 943 = .ok (.iload_n 3, 1) := by decide +kernel
theorem dL_law_944 : decode cL_law 944 = .ok (.iconst 1, 1) := by decide +kernel
theorem dL_law_945 : decode cL_law 945 = .ok (.iadd, 1) := by decide +kernel
theorem dL_law_946 : decode cL_law 946 = .ok (.iaload, 1) := by decide +kernel
theorem dL_law_947 : decode cL_law 947 = .ok (.aload_n 0, 1) := by decide +kernel
theorem dL_law_948 : decode cL_law 948 = .ok (.iload_n 3, 1) := by decide +kernel
theorem dL_law_949 : decode cL_law 949 = .ok (.iconst 2, 1) := by decide +kernel
theorem dL_law_950 : decode cL_law 950 = .ok (.iadd, 1) := by decide +kernel
theorem dL_law_951 : decode cL_law 951 = .ok (.iaload, 1) := by decide +kernel
theorem dL_law_952 : decode cL_law 952 = .ok (.invokevirtual 121, 3) := by decide +kernel
theorem dL_law_955 : decode cL_law 955 = .ok (.if_icmp .eq 5, 3) := by decide +kernel
theorem dL_law_958 : decode cL_law 958 = .ok (.iconst 0, 1) := by decide +kernel
theorem dL_law_959 : decode cL_law 959 = .ok (.ireturn, 1) := by decide +kernel
theorem dL_law_960 : decode cL_law 960 = .ok (.iinc 3 5, 3) := by decide +kernel
theorem dL_law_963 : decode cL_law 963 = .ok (.goto (-945), 3) := by decide +kernel
theorem dL_law_966 : decode cL_law 966 = .ok (.iconst 1, 1) := by decide +kernel
theorem dL_law_967 : decode cL_law 967 = .ok (.ireturn, 1) := by decide +kernel
