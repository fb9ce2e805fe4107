theorem dX6_step_31 : decode cX6_step 31 = .ok (.getfield 12, 3) := by decide +kernel
theorem dX6_step_34 : decode cX6_step 34 = .ok (.getfield 153, 3) := by decide +kernel
theorem dX6_step_37 : decode cX6_step 37 = .ok (.istore_n 2, 1) := by decide +kernel
theorem dX6_step_38 : decode cX6_step 38 = .ok (.aload_n 0, 1) := by decide +kernel
theorem dX6_step_39 : decode cX6_step 39 = .ok (.getfield 37, 3) := by decide +kernel
theorem dX6_step_42 : decode cX6_step 42 = .ok (.aload_n 0, 1) := by decide +kernel
theorem dX6_step_43 : decode cX6_step 43 = .ok (.getfield 12, 3) := by decide +kernel
theorem dX6_step_46 : decode cX6_step 46 = .ok (.iload_n 1, 1) := by decide +kernel
theorem dX6_step_47 : decode cX6_step 47 = .ok (.invokevirtual 156, 3) := by decide +kernel
theorem dX6_step_50 : decode cX6_step 50 = .ok (.pop, 1) := by decide +kernel
theorem dX6_step_51 : decode cX6_step 51 = .ok (.aload_n 0, 1) := by decide +kernel
theorem dX6_step_52 : decode cX6_step 52 = .ok (.getfield 12, 3) := by decide +kernel
theorem dX6_step_55 : decode cX6_step 55 = .ok (.getfield 153, 3) := by decide +kernel
theorem dX6_step_58 : decode cX6_step 58 = .ok (.iload_n 2, 1) := by decide +kernel
theorem dX6_step_59 : decode cX6_step 59 = .ok (.isub, 1) := by decide +kernel
theorem dX6_step_60 : decode cX6_step 60 = .ok (.ireturn, 1) := by decide +kernel
theorem dX6_settle_0 : decode cX6_settle 0 = .ok (.aload_n 0, 1) := by decide +kernel
theorem dX6_settle_1 : decode cX6_settle 1 = .ok (.getfield 12, 3) := by decide +kernel
theorem dX6_settle_4 : decode cX6_settle 4 = .ok (.invokevirtual 149, 3) := by decide +kernel
theorem dX6_settle_7 : decode cX6_settle 7 = .ok (.ifCond .eq 6, 3) := by decide +kernel
theorem dX6_settle_10 : decode cX6_settle 10 = .ok (.bipush (-2), 2) := by decide +kernel
theorem dX6_settle_12 : decode cX6_settle 12 = .ok (.ireturn, 1) := by decide +kernel
theorem dX6_settle_13 : decode cX6_settle 13 = .ok (.aload_n 0, 1) := by decide +kernel
theorem dX6_settle_14 : decode cX6_settle 14 = .ok (.invokevirtual 69, 3) := by decide +kernel
theorem dX6_settle_17 : decode cX6_settle 17 = .ok (.aload_n 0, 1) := by decide +kernel
theorem dX6_settle_18 : decode cX6_settle 18 = .ok (.getfield 37, 3) := by decide +kernel
theorem dX6_settle_21 : decode cX6_settle 21 = .ok (.aload_n 0, 1) := by decide +kernel
theorem dX6_settle_22 : decode cX6_settle 22 = .ok (.getfield 12, 3) := by decide +kernel
theorem dX6_settle_25 : decode cX6_settle 25 = .ok (.ldc 160, 2) := by decide +kernel
theorem dX6_settle_27 : decode cX6_settle 27 = .ok (.invokevirtual 156, 3) := by decide +kernel
theorem dX6_settle_30 : decode cX6_settle 30 = .ok (.ireturn, 1) := by decide +kernel
theorem dX6_roundsToQuiet_0 : decode cX6_roundsToQuiet 0 = .ok (.aload_n 0, 1) := by decide +kernel
theorem dX6_roundsToQuiet_1 : decode cX6_roundsToQuiet 1 = .ok (.getfield 16, 3) := by decide +kernel
theorem dX6_roundsToQuiet_4 : decode cX6_roundsToQuiet 4 = .ok (.aload_n 0, 1) := by decide +kernel
theorem dX6_roundsToQuiet_5 : decode cX6_roundsToQuiet 5 = .ok (.getfield 12, 3) := by decide +kernel
theorem dX6_roundsToQuiet_8 : decode cX6_roundsToQuiet 8 = .ok (.invokevirtual 145, 3) := by decide +kernel
theorem dX6_roundsToQuiet_11 : decode cX6_roundsToQuiet 11 = .ok (.aload_n 0, 1) := by decide +kernel
theorem dX6_roundsToQuiet_12 : decode cX6_roundsToQuiet 12 = .ok (.getfield 37, 3) := by decide +kernel
theorem dX6_roundsToQuiet_15 : decode cX6_roundsToQuiet 15 = .ok (.aload_n 0, 1) := by decide +kernel
theorem dX6_roundsToQuiet_16 : decode cX6_roundsToQuiet 16 = .ok (.getfield 16, 3) := by decide +kernel
theorem dX6_roundsToQuiet_19 : decode cX6_roundsToQuiet 19 = .ok (.ldc 160, 2) := by decide +kernel
theorem dX6_roundsToQuiet_21 : decode cX6_roundsToQuiet 21 = .ok (.invokevirtual 156, 3) := by decide +kernel
theorem dX6_roundsToQuiet_24 : decode cX6_roundsToQuiet 24 = .ok (.ireturn, 1) := by decide +kernel
theorem dX6_undo_0 : decode cX6_undo 0 = .ok (.aload_n 0, 1) := by decide +kernel
theorem dX6_undo_1 : decode cX6_undo 1 = .ok (.getfield 23, 3) := by decide +kernel
theorem dX6_undo_4 : decode cX6_undo 4 = .ok (.ifCond .ne 6, 3) := by decide +kernel
theorem dX6_undo_7 : decode cX6_undo 7 = .ok (.bipush (-2), 2) := by decide +kernel
theorem dX6_undo_9 : decode cX6_undo 9 = .ok (.ireturn, 1) := by decide +kernel
theorem dX6_undo_10 : decode cX6_undo 10 = .ok (.aload_n 0, 1) := by decide +kernel
theorem dX6_undo_11 : decode cX6_undo 11 = .ok (.dup, 1) := by decide +kernel
theorem dX6_undo_12 : decode cX6_undo 12 = .ok (.getfield 23, 3) := by decide +kernel
theorem dX6_undo_15 : decode cX6_undo 15 = .ok (.iconst 1, 1) := by decide +kernel
theorem dX6_undo_16 : decode cX6_undo 16 = .ok (.isub, 1) := by decide +kernel
theorem dX6_undo_17 : decode cX6_undo 17 = .ok (.putfield 23, 3) := by decide +kernel
theorem dX6_undo_20 : decode cX6_undo 20 = .ok (.aload_n 0, 1) := by decide +kernel
theorem dX6_undo_21 : decode cX6_undo 21 = .ok (.getfield 12, 3) := by decide +kernel
theorem dX6_undo_24 : decode cX6_undo 24 = .ok (.aload_n 0, 1) := by decide +kernel
theorem dX6_undo_25 : decode cX6_undo 25 = .ok (.getfield 19, 3) := by decide +kernel
theorem dX6_undo_28 : decode cX6_undo 28 = .ok (.aload_n 0, 1) := by decide +kernel
theorem dX6_undo_29 : decode cX6_undo 29 = .ok (.getfield 23, 3) := by decide +kernel
theorem dX6_undo_32 : decode cX6_undo 32 = .ok (.aaload, 1) := by decide +kernel
theorem dX6_undo_33 : decode cX6_undo 33 = .ok (.invokevirtual 145, 3) := by decide +kernel
theorem dX6_undo_36 : decode cX6_undo 36 = .ok (.aload_n 0, 1) := by decide +kernel
theorem dX6_undo_37 : decode cX6_undo 37 = .ok (.iconst 0, 1) := by decide +kernel
theorem dX6_undo_38 : decode cX6_undo 38 = .ok (.putfield 58, 3) := by decide +kernel
theorem dX6_undo_41 : decode cX6_undo 41 = .ok (.aload_n 0, 1) := by decide +kernel
theorem dX6_undo_42 : decode cX6_undo 42 = .ok (.getfield 23, 3) := by decide +kernel
theorem dX6_undo_45 : decode cX6_undo 45 = .ok (.ireturn, 1) := by decide +kernel
theorem dX6_count_0 : decode cX6_count 0 = .ok (.iload_n 1, 1) := by decide +kernel
theorem dX6_count_1 : decode cX6_count 1 = .ok (.tableswitch 96 0 6 #[43, 51, 59, 67, 75, 83, 88], 43) := by decide +kernel
theorem dX6_count_44 : decode cX6_count 44 = .ok (.aload_n 0, 1) := by decide +kernel
theorem dX6_count_45 : decode cX6_count 45 = .ok (.getfield 12, 3) := by decide +kernel
theorem dX6_count_48 : decode cX6_count 48 = .ok (.getfield 66, 3) := by decide +kernel
theorem dX6_count_51 : decode cX6_count 51 = .ok (.ireturn, 1) := by decide +kernel
theorem dX6_count_52 : decode cX6_count 52 = .ok (.aload_n 0, 1) := by decide +kernel
theorem dX6_count_53 : decode cX6_count 53 = .ok (.getfield 12, 3) := by decide +kernel
theorem dX6_count_56 : decode cX6_count 56 = .ok (.getfield 86, 3) := by decide +kernel
theorem dX6_count_59 : decode cX6_count 59 = .ok (.ireturn, 1) := by decide +kernel
theorem dX6_count_60 : decode cX6_count 60 = .ok (.aload_n 0, 1) := by decide +kernel
theorem dX6_count_61 : decode cX6_count 61 = .ok (.getfield 12, 3) := by decide +kernel
theorem dX6_count_64 : decode cX6_count 64 = .ok (.getfield 122, 3) := by decide +kernel
theorem dX6_count_67 : decode cX6_count 67 = .ok (.ireturn, 1) := by decide +kernel
theorem dX6_count_68 : decode cX6_count 68 = .ok (.aload_n 0, 1) := by decide +kernel
theorem dX6_count_69 : decode cX6_count 69 = .ok (.getfield 12, 3) := by decide +kernel
theorem dX6_count_72 : decode cX6_count 72 = .ok (.invokevirtual 161, 3) := by decide +kernel
theorem dX6_count_75 : decode cX6_count 75 = .ok (.ireturn, 1) := by decide +kernel
theorem dX6_count_76 : decode cX6_count 76 = .ok (.aload_n 0, 1) := by decide +kernel
theorem dX6_count_77 : decode cX6_count 77 = .ok (.getfield 12, 3) := by decide +kernel
theorem dX6_count_80 : decode cX6_count 80 = .ok (.getfield 153, 3) := by decide +kernel
theorem dX6_count_83 : decode cX6_count 83 = .ok (.ireturn, 1) := by decide +kernel
theorem dX6_count_84 : decode cX6_count 84 = .ok (.aload_n 0, 1) := by decide +kernel
theorem dX6_count_85 : decode cX6_count 85 = .ok (.getfield 23, 3) := by decide +kernel
theorem dX6_count_88 : decode cX6_count 88 = .ok (.ireturn, 1) := by decide +kernel
theorem dX6_count_89 : decode cX6_count 89 = .ok (.aload_n 0, 1) := by decide +kernel
theorem dX6_count_90 : decode cX6_count 90 = .ok (.getfield 30, 3) := by decide +kernel
theorem dX6_count_93 : decode cX6_count 93 = .ok (.getfield 134, 3) := by decide +kernel
theorem dX6_count_96 : decode cX6_count 96 = .ok (.ireturn, 1) := by decide +kernel
theorem dX6_count_97 : decode cX6_count 97 = .ok (.iconst (-1), 1) := by decide +kernel
theorem dX6_count_98 : decode cX6_count 98 = .ok (.ireturn, 1) := by decide +kernel
theorem dX6_node_0 : decode cX6_node 0 = .ok (.aload_n 0, 1) := by decide +kernel
theorem dX6_node_1 : decode cX6_node 1 = .ok (.iload_n 1, 1) := by decide +kernel
theorem dX6_node_2 : decode cX6_node 2 = .ok (.invokevirtual 165, 3) := by decide +kernel
theorem dX6_node_5 : decode cX6_node 5 = .ok (.ifCond .ne 5, 3) := by decide +kernel
theorem dX6_node_8 : decode cX6_node 8 = .ok (.iconst (-1), 1) := by decide +kernel
theorem dX6_node_9 : decode cX6_node 9 = .ok (.ireturn, 1) := by decide +kernel
theorem dX6_node_10 : decode cX6_node 10 = .ok (.iload_n 2, 1) := by decide +kernel
theorem dX6_node_11 : decode cX6_node 11 = .ok (.tableswitch 83 0 4 #[33, 43, 52, 65, 74], 33) := by decide +kernel
theorem dX6_node_44 : decode cX6_node 44 = .ok (.aload_n 0, 1) := by decide +kernel
theorem dX6_node_45 : decode cX6_node 45 = .ok (.getfield 12, 3) := by decide +kernel
theorem dX6_node_48 : decode cX6_node 48 = .ok (.getfield 168, 3) := by decide +kernel
theorem dX6_node_51 : decode cX6_node 51 = .ok (.iload_n 1, 1) := by decide +kernel
theorem dX6_node_52 : decode cX6_node 52 = .ok (.iaload, 1) := by decide +kernel
theorem dX6_node_53 : decode cX6_node 53 = .ok (.ireturn, 1) := by decide +kernel
theorem dX6_node_54 : decode cX6_node 54 = .ok (.aload_n 0, 1) := by decide +kernel
theorem dX6_node_55 : decode cX6_node 55 = .ok (.getfield 12, 3) := by decide +kernel
theorem dX6_node_58 : decode cX6_node 58 = .ok (.iload_n 1, 1) := by decide +kernel
theorem dX6_node_59 : decode cX6_node 59 = .ok (.invokevirtual 171, 3) := by decide +kernel
theorem dX6_node_62 : decode cX6_node 62 = .ok (.ireturn, 1) := by decide +kernel
theorem dX6_node_63 : decode cX6_node 63 = .ok (.aload_n 0, 1) := by decide +kernel
theorem dX6_node_64 : decode cX6_node 64 = .ok (.getfield 12, 3) := by decide +kernel
theorem dX6_node_67 : decode cX6_node 67 = .ok (.getfield 174, 3) := by decide +kernel
theorem dX6_node_70 : decode cX6_node 70 = .ok (.iload_n 1, 1) := by decide +kernel
theorem dX6_node_71 : decode cX6_node 71 = .ok (.laload, 1) := by decide +kernel
theorem dX6_node_72 : decode cX6_node 72 = .ok (.invokestatic 178, 3) := by decide +kernel
theorem dX6_node_75 : decode cX6_node 75 = .ok (.ireturn, 1) := by decide +kernel
theorem dX6_node_76 : decode cX6_node 76 = .ok (.aload_n 0, 1) := by decide +kernel
theorem dX6_node_77 : decode cX6_node 77 = .ok (.getfield 12, 3) := by decide +kernel
theorem dX6_node_80 : decode cX6_node 80 = .ok (.iload_n 1, 1) := by decide +kernel
theorem dX6_node_81 : decode cX6_node 81 = .ok (.invokevirtual 184, 3) := by decide +kernel
theorem dX6_node_84 : decode cX6_node 84 = .ok (.ireturn, 1) := by decide +kernel
theorem dX6_node_85 : decode cX6_node 85 = .ok (.aload_n 0, 1) := by decide +kernel
theorem dX6_node_86 : decode cX6_node 86 = .ok (.getfield 12, 3) := by decide +kernel
theorem dX6_node_89 : decode cX6_node 89 = .ok (.iload_n 1, 1) := by decide +kernel
theorem dX6_node_90 : decode cX6_node 90 = .ok (.invokevirtual 187, 3) := by decide +kernel
theorem dX6_node_93 : decode cX6_node 93 = .ok (.ireturn, 1) := by decide +kernel
theorem dX6_node_94 : decode cX6_node 94 = .ok (.iconst (-1), 1) := by decide +kernel
theorem dX6_node_95 : decode cX6_node 95 = .ok (.ireturn, 1) := by decide +kernel
theorem dX6_link_0 : decode cX6_link 0 = .ok (.aload_n 0, 1) := by decide +kernel
theorem dX6_link_1 : decode cX6_link 1 = .ok (.iload_n 1, 1) := by decide +kernel
theorem dX6_link_2 : decode cX6_link 2 = .ok (.invokevirtual 93, 3) := by decide +kernel
theorem dX6_link_5 : decode cX6_link 5 = .ok (.ifCond .ne 5, 3) := by decide +kernel
theorem dX6_link_8 : decode cX6_link 8 = .ok (.iconst (-1), 1) := by decide +kernel
theorem dX6_link_9 : decode cX6_link 9 = .ok (.ireturn, 1) := by decide +kernel
theorem dX6_link_10 : decode cX6_link 10 = .ok (.aload_n 0, 1) := by decide +kernel
theorem dX6_link_11 : decode cX6_link 11 = .ok (.getfield 12, 3) := by decide +kernel
theorem dX6_link_14 : decode cX6_link 14 = .ok (.getfield 96, 3) := by decide +kernel
theorem dX6_link_17 : decode cX6_link 17 = .ok (.bipush 16, 2) := by decide +kernel
theorem dX6_link_19 : decode cX6_link 19 = .ok (.iload_n 1, 1) := by decide +kernel
theorem dX6_link_20 : decode cX6_link 20 = .ok (.iadd, 1) := by decide +kernel
theorem dX6_link_21 : decode cX6_link 21 = .ok (.iaload, 1) := by decide +kernel
theorem dX6_link_22 : decode cX6_link 22 = .ok (.istore_n 3, 1) := by decide +kernel
theorem dX6_link_23 : decode cX6_link 23 = .ok (.iload_n 2, 1) := by decide +kernel
theorem dX6_link_24 : decode cX6_link 24 = .ok (.tableswitch 85 0 5 #[40, 50, 60, 65, 70, 80], 40) := by decide +kernel
theorem dX6_link_64 : decode cX6_link 64 = .ok (.aload_n 0, 1) := by decide +kernel
theorem dX6_link_65 : decode cX6_link 65 = .ok (.getfield 12, 3) := by decide +kernel
theorem dX6_link_68 : decode cX6_link 68 = .ok (.getfield 190, 3) := by decide +kernel
theorem dX6_link_71 : decode cX6_link 71 = .ok (.iload_n 1, 1) := by decide +kernel
theorem dX6_link_72 : decode cX6_link 72 = .ok (.iaload, 1) := by decide +kernel
theorem dX6_link_73 : decode cX6_link 73 = .ok (.ireturn, 1) := by decide +kernel
theorem dX6_link_74 : decode cX6_link 74 = .ok (.aload_n 0, 1) := by decide +kernel
theorem dX6_link_75 : decode cX6_link 75 = .ok (.getfield 12, 3) := by decide +kernel
theorem dX6_link_78 : decode cX6_link 78 = .ok (.getfield 193, 3) := by decide +kernel
theorem dX6_link_81 : decode cX6_link 81 = .ok (.iload_n 1, 1) := by decide +kernel
theorem dX6_link_82 : decode cX6_link 82 = .ok (.iaload, 1) := by decide +kernel
theorem dX6_link_83 : decode cX6_link 83 = .ok (.ireturn, 1) := by decide +kernel
theorem dX6_link_84 : decode cX6_link 84 = .ok (.iload_n 3, 1) := by decide +kernel
theorem dX6_link_85 : decode cX6_link 85 = .ok (.invokestatic 105, 3) := by decide +kernel
theorem dX6_link_88 : decode cX6_link 88 = .ok (.ireturn, 1) := by decide +kernel
theorem dX6_link_89 : decode cX6_link 89 = .ok (.iload_n 3, 1) := by decide +kernel
theorem dX6_link_90 : decode cX6_link 90 = .ok (.invokestatic 100, 3) := by decide +kernel
theorem dX6_link_93 : decode cX6_link 93 = .ok (.ireturn, 1) := by decide +kernel
theorem dX6_link_94 : decode cX6_link 94 = .ok (.aload_n 0, 1) := by decide +kernel
theorem dX6_link_95 : decode cX6_link 95 = .ok (.getfield 12, 3) := by decide +kernel
theorem dX6_link_98 : decode cX6_link 98 = .ok (.getfield 196, 3) := by decide +kernel
theorem dX6_link_101 : decode cX6_link 101 = .ok (.iload_n 1, 1) := by decide +kernel
theorem dX6_link_102 : decode cX6_link 102 = .ok (.iaload, 1) := by decide +kernel
theorem dX6_link_103 : decode cX6_link 103 = .ok (.ireturn, 1) := by decide +kernel
theorem dX6_link_104 : decode cX6_link 104 = .ok (.iload_n 3, 1) := by decide +kernel
theorem dX6_link_105 : decode cX6_link 105 = .ok (.invokestatic 199, 3) := by decide +kernel
theorem dX6_link_108 : decode cX6_link 108 = .ok (.ireturn, 1) := by decide +kernel
theorem dX6_link_109 : decode cX6_link 109 = .ok (.iconst (-1), 1) := by decide +kernel
theorem dX6_link_110 : decode cX6_link 110 = .ok (.ireturn, 1) := by decide +kernel
theorem dX6_tunnel_0 : decode cX6_tunnel 0 = .ok (.aload_n 0, 1) := by decide +kernel
theorem dX6_tunnel_1 : decode cX6_tunnel 1 = .ok (.iload_n 1, 1) := by decide +kernel
theorem dX6_tunnel_2 : decode cX6_tunnel 2 = .ok (.invokevirtual 128, 3) := by decide +kernel
theorem dX6_tunnel_5 : decode cX6_tunnel 5 = .ok (.ifCond .ne 5, 3) := by decide +kernel
theorem dX6_tunnel_8 : decode cX6_tunnel 8 = .ok (.iconst (-1), 1) := by decide +kernel
theorem dX6_tunnel_9 : decode cX6_tunnel 9 = .ok (.ireturn, 1) := by decide +kernel
theorem dX6_tunnel_10 : decode cX6_tunnel 10 = .ok (.aload_n 0, 1) := by decide +kernel
theorem dX6_tunnel_11 : decode cX6_tunnel 11 = .ok (.getfield 12, 3) := by decide +kernel
theorem dX6_tunnel_14 : decode cX6_tunnel 14 = .ok (.getfield 96, 3) := by decide +kernel
theorem dX6_tunnel_17 : decode cX6_tunnel 17 = .ok (.bipush 32, 2) := by decide +kernel
theorem dX6_tunnel_19 : decode cX6_tunnel 19 = .ok (.iload_n 1, 1) := by decide +kernel
theorem dX6_tunnel_20 : decode cX6_tunnel 20 = .ok (.iadd, 1) := by decide +kernel
theorem dX6_tunnel_21 : decode cX6_tunnel 21 = .ok (.iaload, 1) := by decide +kernel
theorem dX6_tunnel_22 : decode cX6_tunnel 22 = .ok (.istore_n 3, 1) := by decide +kernel
theorem dX6_tunnel_23 : decode cX6_tunnel 23 = .ok (.iload_n 2, 1) := by decide +kernel
theorem dX6_tunnel_24 : decode cX6_tunnel 24 = .ok (.tableswitch 71 0 4 #[36, 46, 56, 61, 66], 36) := by decide +kernel
theorem dX6_tunnel_60 : decode cX6_tunnel 60 = .ok (.aload_n 0, 1) := by decide +kernel
theorem dX6_tunnel_61 : decode cX6_tunnel 61 = .ok (.getfield 12, 3) := by decide +kernel
theorem dX6_tunnel_64 : decode cX6_tunnel 64 = .ok (.getfield 202, 3) := by decide +kernel
theorem dX6_tunnel_67 : decode cX6_tunnel 67 = .ok (.iload_n 1, 1) := by decide +kernel
theorem dX6_tunnel_68 : decode cX6_tunnel 68 = .ok (.iaload, 1) := by decide +kernel
theorem dX6_tunnel_69 : decode cX6_tunnel 69 = .ok (.ireturn, 1) := by decide +kernel
theorem dX6_tunnel_70 : decode cX6_tunnel 70 = .ok (.aload_n 0, 1) := by decide +kernel
theorem dX6_tunnel_71 : decode cX6_tunnel 71 = .ok (.getfield 12, 3) := by decide +kernel
theorem dX6_tunnel_74 : decode cX6_tunnel 74 = .ok (.getfield 205, 3) := by decide +kernel
theorem dX6_tunnel_77 : decode cX6_tunnel 77 = .ok (.iload_n 1, 1) := by decide +kernel
theorem dX6_tunnel_78 : decode cX6_tunnel 78 = .ok (.iaload, 1) := by decide +kernel
theorem dX6_tunnel_79 : decode cX6_tunnel 79 = .ok (.ireturn, 1) := by decide +kernel
theorem dX6_tunnel_80 : decode cX6_tunnel 80 = .ok (.iload_n 3, 1) := by decide +kernel
theorem dX6_tunnel_81 : decode cX6_tunnel 81 = .ok (.invokestatic 105, 3) := by decide +kernel
theorem dX6_tunnel_84 : decode cX6_tunnel 84 = .ok (.ireturn, 1) := by decide +kernel
theorem dX6_tunnel_85 : decode cX6_tunnel 85 = .ok (.iload_n 3, 1) := by decide +kernel
theorem dX6_tunnel_86 : decode cX6_tunnel 86 = .ok (.invokestatic 100, 3) := by decide +kernel
theorem dX6_tunnel_89 : decode cX6_tunnel 89 = .ok (.ireturn, 1) := by decide +kernel
theorem dX6_tunnel_90 : decode cX6_tunnel 90 = .ok (.iload_n 3, 1) := by decide +kernel
theorem dX6_tunnel_91 : decode cX6_tunnel 91 = .ok (.invokestatic 199, 3) := by decide +kernel
theorem dX6_tunnel_94 : decode cX6_tunnel 94 = .ok (.ireturn, 1) := by decide +kernel
theorem dX6_tunnel_95 : decode cX6_tunnel 95 = .ok (.iconst (-1), 1) := by decide +kernel
theorem dX6_tunnel_96 : decode cX6_tunnel 96 = .ok (.ireturn, 1) := by decide +kernel
theorem dX6_grant_0 : decode cX6_grant 0 = .ok (.iload_n 1, 1) := by decide +kernel
theorem dX6_grant_1 : decode cX6_grant 1 = .ok (.iload_n 2, 1) := by decide +kernel
theorem dX6_grant_2 : decode cX6_grant 2 = .ok (.invokestatic 112, 3) := by decide +kernel
theorem dX6_grant_5 : decode cX6_grant 5 = .ok (.ifCond .ne 5, 3) := by decide +kernel
theorem dX6_grant_8 : decode cX6_grant 8 = .ok (.iconst (-1), 1) := by decide +kernel
theorem dX6_grant_9 : decode cX6_grant 9 = .ok (.ireturn, 1) := by decide +kernel
theorem dX6_grant_10 : decode cX6_grant 10 = .ok (.aload_n 0, 1) := by decide +kernel
theorem dX6_grant_11 : decode cX6_grant 11 = .ok (.getfield 12, 3) := by decide +kernel
theorem dX6_grant_14 : decode cX6_grant 14 = .ok (.getfield 96, 3) := by decide +kernel
theorem dX6_grant_17 : decode cX6_grant 17 = .ok (.iload_n 1, 1) := by decide +kernel
theorem dX6_grant_18 : decode cX6_grant 18 = .ok (.iload_n 2, 1) := by decide +kernel
theorem dX6_grant_19 : decode cX6_grant 19 = .ok (.invokestatic 115, 3) := by decide +kernel
theorem dX6_grant_22 : decode cX6_grant 22 = .ok (.iaload, 1) := by decide +kernel
theorem dX6_grant_23 : decode cX6_grant 23 = .ok (.istore 4, 2) := by decide +kernel
theorem dX6_grant_25 : decode cX6_grant 25 = .ok (.iload_n 3, 1) := by decide +kernel
theorem dX6_grant_26 : decode cX6_grant 26 = .ok (.lookupswitch 38 #[(0, 26), (1, 32)], 26) := by decide +kernel
theorem dX6_grant_52 : decode cX6_grant 52 = .ok (.iload 4, 2) := by decide +kernel
theorem dX6_grant_54 : decode cX6_grant 54 = .ok (.invokestatic 100, 3) := by decide +kernel
theorem dX6_grant_57 : decode cX6_grant 57 = .ok (.ireturn, 1) := by decide +kernel
theorem dX6_grant_58 : decode cX6_grant 58 = .ok (.iload 4, 2) := by decide +kernel
theorem dX6_grant_60 : decode cX6_grant 60 = .ok (.invokestatic 199, 3) := by decide +kernel
theorem dX6_grant_63 : decode cX6_grant 63 = .ok (.ireturn, 1) := by decide +kernel
theorem dX6_grant_64 : decode cX6_grant 64 = .ok (.iconst (-1), 1) := by decide +kernel
theorem dX6_grant_65 : decode cX6_grant 65 = .ok (.ireturn, 1) := by decide +kernel
theorem dX6_known_0 : decode cX6_known 0 = .ok (.aload_n 0, 1) := by decide +kernel
theorem dX6_known_1 : decode cX6_known 1 = .ok (.iload_n 1, 1) := by decide +kernel
theorem dX6_known_2 : decode cX6_known 2 = .ok (.invokevirtual 165, 3) := by decide +kernel
theorem dX6_known_5 : decode cX6_known 5 = .ok (.ifCond .eq 11, 3) := by decide +kernel
theorem dX6_known_8 : decode cX6_known 8 = .ok (.aload_n 0, 1) := by decide +kernel
theorem dX6_known_9 : decode cX6_known 9 = .ok (.iload_n 2, 1) := by decide +kernel
theorem dX6_known_10 : decode cX6_known 10 = .ok (.invokevirtual 208, 3) := by decide +kernel
theorem dX6_known_13 : decode cX6_known 13 = .ok (.ifCond .ne 5, 3) := by decide +kernel
theorem dX6_known_16 : decode cX6_known 16 = .ok (.iconst (-1), 1) := by decide +kernel
theorem dX6_known_17 : decode cX6_known 17 = .ok (.ireturn, 1) := by decide +kernel
theorem dX6_known_18 : decode cX6_known 18 = .ok (.aload_n 0, 1) := by decide +kernel
theorem dX6_known_19 : decode cX6_known 19 = .ok (.getfield 12, 3) := by decide +kernel
theorem dX6_known_22 : decode cX6_known 22 = .ok (.getfield 211, 3) := by decide +kernel
theorem dX6_known_25 : decode cX6_known 25 = .ok (.iload_n 1, 1) := by decide +kernel
theorem dX6_known_26 : decode cX6_known 26 = .ok (.iload_n 2, 1) := by decide +kernel
theorem dX6_known_27 : decode cX6_known 27 = .ok (.invokestatic 214, 3) := by decide +kernel
theorem dX6_known_30 : decode cX6_known 30 = .ok (.iaload, 1) := by decide +kernel
theorem dX6_known_31 : decode cX6_known 31 = .ok (.istore 4, 2) := by decide +kernel
theorem dX6_known_33 : decode cX6_known 33 = .ok (.iload_n 3, 1) := by decide +kernel
theorem dX6_known_34 : decode cX6_known 34 = .ok (.tableswitch 86 0 3 #[30, 36, 52, 68], 30) := by decide +kernel
theorem dX6_known_64 : decode cX6_known 64 = .ok (.iload 4, 2) := by decide +kernel
theorem dX6_known_66 : decode cX6_known 66 = .ok (.invokestatic 199, 3) := by decide +kernel
theorem dX6_known_69 : decode cX6_known 69 = .ok (.ireturn, 1) := by decide +kernel
theorem dX6_known_70 : decode cX6_known 70 = .ok (.iload 4, 2) := by decide +kernel
theorem dX6_known_72 : decode cX6_known 72 = .ok (.ifCond .ne 8, 3) := by decide +kernel
theorem dX6_known_75 : decode cX6_known 75 = .ok (.bipush (-9), 2) := by decide +kernel
theorem dX6_known_77 : decode cX6_known 77 = .ok (.goto 8, 3) := by decide +kernel
theorem dX6_known_80 : decode cX6_known 80 = .ok (.iload 4, 2) := by decide +kernel
theorem dX6_known_82 : decode cX6_known 82 = .ok (.invokestatic 100, 3) := by decide +kernel
theorem dX6_known_85 : decode cX6_known 85 = .ok (.ireturn, 1) := by decide +kernel
theorem dX6_known_86 : decode cX6_known 86 = .ok (.iload 4, 2) := by decide +kernel
theorem dX6_known_88 : decode cX6_known 88 = .ok (.ifCond .ne 8, 3) := by decide +kernel
theorem dX6_known_91 : decode cX6_known 91 = .ok (.bipush (-9), 2) := by decide +kernel
theorem dX6_known_93 : decode cX6_known 93 = .ok (.goto 8, 3) := by decide +kernel
theorem dX6_known_96 : decode cX6_known 96 = .ok (.iload 4, 2) := by decide +kernel
theorem dX6_known_98 : decode cX6_known 98 = .ok (.invokestatic 105, 3) := by decide +kernel
theorem dX6_known_101 : decode cX6_known 101 = .ok (.ireturn, 1) := by decide +kernel
theorem dX6_known_102 : decode cX6_known 102 = .ok (.aload_n 0, 1) := by decide +kernel
theorem dX6_known_103 : decode cX6_known 103 = .ok (.getfield 12, 3) := by decide +kernel
theorem dX6_known_106 : decode cX6_known 106 = .ok (.iload_n 1, 1) := by decide +kernel
theorem dX6_known_107 : decode cX6_known 107 = .ok (.iload_n 2, 1) := by decide +kernel
theorem dX6_known_108 : decode cX6_known 108 = .ok (.invokevirtual 217, 3) := by decide +kernel
theorem dX6_known_111 : decode cX6_known 111 = .ok (.ifCond .eq 7, 3) := by decide +kernel
theorem dX6_known_114 : decode cX6_known 114 = .ok (.iconst 1, 1) := by decide +kernel
theorem dX6_known_115 : decode cX6_known 115 = .ok (.goto 4, 3) := by decide +kernel
theorem dX6_known_118 : decode cX6_known 118 = .ok (.iconst 0, 1) := by decide +kernel
theorem dX6_known_119 : decode cX6_known 119 = .ok (.ireturn, 1) := by decide +kernel
theorem dX6_known_120 : decode cX6_known 120 = .ok (.iconst (-1), 1) := by decide +kernel
theorem dX6_known_121 : decode cX6_known 121 = .ok (.ireturn, 1) := by decide +kernel
theorem dX6_distance_0 : decode cX6_distance 0 = .ok (.aload_n 0, 1) := by decide +kernel
theorem dX6_distance_1 : decode cX6_distance 1 = .ok (.iload_n 1, 1) := by decide +kernel
theorem dX6_distance_2 : decode cX6_distance 2 = .ok (.invokevirtual 165, 3) := by decide +kernel
theorem dX6_distance_5 : decode cX6_distance 5 = .ok (.ifCond .eq 18, 3) := by decide +kernel
theorem dX6_distance_8 : decode cX6_distance 8 = .ok (.aload_n 0, 1) := by decide +kernel
theorem dX6_distance_9 : decode cX6_distance 9 = .ok (.iload_n 2, 1) := by decide +kernel
theorem dX6_distance_10 : decode cX6_distance 10 = .ok (.invokevirtual 165, 3) := by decide +kernel
theorem dX6_distance_13 : decode cX6_distance 13 = .ok (.ifCond .eq 10, 3) := by decide +kernel
theorem dX6_distance_16 : decode cX6_distance 16 = .ok (.iload_n 3, 1) := by decide +kernel
theorem dX6_distance_17 : decode cX6_distance 17 = .ok (.invokestatic 62, 3) := by decide +kernel
theorem dX6_distance_20 : decode cX6_distance 20 = .ok (.ifCond .ne 5, 3) := by decide +kernel
theorem dX6_distance_23 : decode cX6_distance 23 = .ok (.iconst (-1), 1) := by decide +kernel
theorem dX6_distance_24 : decode cX6_distance 24 = .ok (.ireturn, 1) := by decide +kernel
theorem dX6_distance_25 : decode cX6_distance 25 = .ok (.aload_n 0, 1) := by decide +kernel
theorem dX6_distance_26 : decode cX6_distance 26 = .ok (.getfield 44, 3) := by decide +kernel
theorem dX6_distance_29 : decode cX6_distance 29 = .ok (.aload_n 0, 1) := by decide +kernel
theorem dX6_distance_30 : decode cX6_distance 30 = .ok (.getfield 12, 3) := by decide +kernel
theorem dX6_distance_33 : decode cX6_distance 33 = .ok (.iload_n 1, 1) := by decide +kernel
theorem dX6_distance_34 : decode cX6_distance 34 = .ok (.iload_n 3, 1) := by decide +kernel
theorem dX6_distance_35 : decode cX6_distance 35 = .ok (.iconst 1, 1) := by decide +kernel
theorem dX6_distance_36 : decode cX6_distance 36 = .ok (.invokevirtual 220, 3) := by decide +kernel
theorem dX6_distance_39 : decode cX6_distance 39 = .ok (.aload_n 0, 1) := by decide +kernel
theorem dX6_distance_40 : decode cX6_distance 40 = .ok (.getfield 44, 3) := by decide +kernel
theorem dX6_distance_43 : decode cX6_distance 43 = .ok (.iload_n 2, 1) := by decide +kernel
theorem dX6_distance_44 : decode cX6_distance 44 = .ok (.invokevirtual 224, 3) := by decide +kernel
theorem dX6_distance_47 : decode cX6_distance 47 = .ok (.aload_n 0, 1) := by decide +kernel
theorem dX6_distance_48 : decode cX6_distance 48 = .ok (.getfield 44, 3) := by decide +kernel
theorem dX6_distance_51 : decode cX6_distance 51 = .ok (.iload_n 1, 1) := by decide +kernel
theorem dX6_distance_52 : decode cX6_distance 52 = .ok (.invokevirtual 228, 3) := by decide +kernel
theorem dX6_distance_55 : decode cX6_distance 55 = .ok (.ireturn, 1) := by decide +kernel
theorem dX6_next_0 : decode cX6_next 0 = .ok (.aload_n 0, 1) := by decide +kernel
theorem dX6_next_1 : decode cX6_next 1 = .ok (.iload_n 1, 1) := by decide +kernel
theorem dX6_next_2 : decode cX6_next 2 = .ok (.iload_n 2, 1) := by decide +kernel
theorem dX6_next_3 : decode cX6_next 3 = .ok (.invokevirtual 76, 3) := by decide +kernel
theorem dX6_next_6 : decode cX6_next 6 = .ok (.ifCond .eq 18, 3) := by decide +kernel
theorem dX6_next_9 : decode cX6_next 9 = .ok (.iload_n 3, 1) := by decide +kernel
theorem dX6_next_10 : decode cX6_next 10 = .ok (.invokestatic 62, 3) := by decide +kernel
theorem dX6_next_13 : decode cX6_next 13 = .ok (.ifCond .eq 11, 3) := by decide +kernel
theorem dX6_next_16 : decode cX6_next 16 = .ok (.iload 4, 2) := by decide +kernel
theorem dX6_next_18 : decode cX6_next 18 = .ok (.invokestatic 83, 3) := by decide +kernel
theorem dX6_next_21 : decode cX6_next 21 = .ok (.ifCond .ne 5, 3) := by decide +kernel
theorem dX6_next_24 : decode cX6_next 24 = .ok (.iconst (-1), 1) := by decide +kernel
theorem dX6_next_25 : decode cX6_next 25 = .ok (.ireturn, 1) := by decide +kernel
theorem dX6_next_26 : decode cX6_next 26 = .ok (.aload_n 0, 1) := by decide +kernel
theorem dX6_next_27 : decode cX6_next 27 = .ok (.getfield 44, 3) := by decide +kernel
theorem dX6_next_30 : decode cX6_next 30 = .ok (.aload_n 0, 1) := by decide +kernel
theorem dX6_next_31 : decode cX6_next 31 = .ok (.getfield 12, 3) := by decide +kernel
theorem dX6_next_34 : decode cX6_next 34 = .ok (.iload_n 1, 1) := by decide +kernel
theorem dX6_next_35 : decode cX6_next 35 = .ok (.iload_n 3, 1) := by decide +kernel
theorem dX6_next_36 : decode cX6_next 36 = .ok (.iconst 1, 1) := by decide +kernel
theorem dX6_next_37 : decode cX6_next 37 = .ok (.invokevirtual 220, 3) := by decide +kernel
theorem dX6_next_40 : decode cX6_next 40 = .ok (.aload_n 0, 1) := by decide +kernel
theorem dX6_next_41 : decode cX6_next 41 = .ok (.getfield 44, 3) := by decide +kernel
theorem dX6_next_44 : decode cX6_next 44 = .ok (.iload_n 2, 1) := by decide +kernel
theorem dX6_next_45 : decode cX6_next 45 = .ok (.invokevirtual 224, 3) := by decide +kernel
theorem dX6_next_48 : decode cX6_next 48 = .ok (.aload_n 0, 1) := by decide +kernel
theorem dX6_next_49 : decode cX6_next 49 = .ok (.getfield 44, 3) := by decide +kernel
theorem dX6_next_52 : decode cX6_next 52 = .ok (.iload_n 1, 1) := by decide +kernel
theorem dX6_next_53 : decode cX6_next 53 = .ok (.invokevirtual 231, 3) := by decide +kernel
theorem dX6_next_56 : decode cX6_next 56 = .ok (.istore 5, 2) := by decide +kernel
theorem dX6_next_58 : decode cX6_next 58 = .ok (.iload 5, 2) := by decide +kernel
theorem dX6_next_60 : decode cX6_next 60 = .ok (.ifCond .ge 6, 3) := by decide +kernel
theorem dX6_next_63 : decode cX6_next 63 = .ok (.bipush (-9), 2) := by decide +kernel
theorem dX6_next_65 : decode cX6_next 65 = .ok (.ireturn, 1) := by decide +kernel
theorem dX6_next_66 : decode cX6_next 66 = .ok (.iload 4, 2) := by decide +kernel
theorem dX6_next_68 : decode cX6_next 68 = .ok (.ifCond .ne 16, 3) := by decide +kernel
theorem dX6_next_71 : decode cX6_next 71 = .ok (.aload_n 0, 1) := by decide +kernel
theorem dX6_next_72 : decode cX6_next 72 = .ok (.getfield 44, 3) := by decide +kernel
theorem dX6_next_75 : decode cX6_next 75 = .ok (.getfield 234, 3) := by decide +kernel
theorem dX6_next_78 : decode cX6_next 78 = .ok (.iload 5, 2) := by decide +kernel
theorem dX6_next_80 : decode cX6_next 80 = .ok (.iaload, 1) := by decide +kernel
theorem dX6_next_81 : decode cX6_next 81 = .ok (.goto 13, 3) := by decide +kernel
theorem dX6_next_84 : decode cX6_next 84 = .ok (.aload_n 0, 1) := by decide +kernel
theorem dX6_next_85 : decode cX6_next 85 = .ok (.getfield 44, 3) := by decide +kernel
theorem dX6_next_88 : decode cX6_next 88 = .ok (.getfield 237, 3) := by decide +kernel
theorem dX6_next_91 : decode cX6_next 91 = .ok (.iload 5, 2) := by decide +kernel
theorem dX6_next_93 : decode cX6_next 93 = .ok (.iaload, 1) := by decide +kernel
theorem dX6_next_94 : decode cX6_next 94 = .ok (.ireturn, 1) := by decide +kernel
theorem dX6_send_0 : decode cX6_send 0 = .ok (.aload_n 0, 1) := by decide +kernel
theorem dX6_send_1 : decode cX6_send 1 = .ok (.iload_n 1, 1) := by decide +kernel
theorem dX6_send_2 : decode cX6_send 2 = .ok (.iload_n 2, 1) := by decide +kernel
theorem dX6_send_3 : decode cX6_send 3 = .ok (.invokevirtual 76, 3) := by decide +kernel
theorem dX6_send_6 : decode cX6_send 6 = .ok (.ifCond .ne 5, 3) := by decide +kernel
theorem dX6_send_9 : decode cX6_send 9 = .ok (.iconst (-1), 1) := by decide +kernel
theorem dX6_send_10 : decode cX6_send 10 = .ok (.ireturn, 1) := by decide +kernel
theorem dX6_send_11 : decode cX6_send 11 = .ok (.aload_n 0, 1) := by decide +kernel
theorem dX6_send_12 : decode cX6_send 12 = .ok (.iconst 1, 1) := by decide +kernel
theorem dX6_send_13 : decode cX6_send 13 = .ok (.putfield 58, 3) := by decide +kernel
theorem dX6_send_16 : decode cX6_send 16 = .ok (.aload_n 0, 1) := by decide +kernel
theorem dX6_send_17 : decode cX6_send 17 = .ok (.getfield 51, 3) := by decide +kernel
theorem dX6_send_20 : decode cX6_send 20 = .ok (.aload_n 0, 1) := by decide +kernel
theorem dX6_send_21 : decode cX6_send 21 = .ok (.getfield 12, 3) := by decide +kernel
theorem dX6_send_24 : decode cX6_send 24 = .ok (.aload_n 0, 1) := by decide +kernel
theorem dX6_send_25 : decode cX6_send 25 = .ok (.getfield 44, 3) := by decide +kernel
theorem dX6_send_28 : decode cX6_send 28 = .ok (.iload_n 1, 1) := by decide +kernel
theorem dX6_send_29 : decode cX6_send 29 = .ok (.iload_n 2, 1) := by decide +kernel
theorem dX6_send_30 : decode cX6_send 30 = .ok (.invokevirtual 240, 3) := by decide +kernel
theorem dX6_send_33 : decode cX6_send 33 = .ok (.ireturn, 1) := by decide +kernel
theorem dX6_way_0 : decode cX6_way 0 = .ok (.iload_n 1, 1) := by decide +kernel
theorem dX6_way_1 : decode cX6_way 1 = .ok (.bipush (-2), 2) := by decide +kernel
theorem dX6_way_3 : decode cX6_way 3 = .ok (.if_icmp .ge 5, 3) := by decide +kernel
theorem dX6_way_6 : decode cX6_way 6 = .ok (.iconst (-1), 1) := by decide +kernel
theorem dX6_way_7 : decode cX6_way 7 = .ok (.ireturn, 1) := by decide +kernel
theorem dX6_way_8 : decode cX6_way 8 = .ok (.aload_n 0, 1) := by decide +kernel
theorem dX6_way_9 : decode cX6_way 9 = .ok (.getfield 58, 3) := by decide +kernel
theorem dX6_way_12 : decode cX6_way 12 = .ok (.ifCond .ne 6, 3) := by decide +kernel
theorem dX6_way_15 : decode cX6_way 15 = .ok (.bipush (-2), 2) := by decide +kernel
theorem dX6_way_17 : decode cX6_way 17 = .ok (.ireturn, 1) := by decide +kernel
theorem dX6_way_18 : decode cX6_way 18 = .ok (.iload_n 1, 1) := by decide +kernel
theorem dX6_way_19 : decode cX6_way 19 = .ok (.bipush (-2), 2) := by decide +kernel
theorem dX6_way_21 : decode cX6_way 21 = .ok (.if_icmp .ne 11, 3) := by decide +kernel
theorem dX6_way_24 : decode cX6_way 24 = .ok (.aload_n 0, 1) := by decide +kernel
theorem dX6_way_25 : decode cX6_way 25 = .ok (.getfield 51, 3) := by decide +kernel
theorem dX6_way_28 : decode cX6_way 28 = .ok (.getfield 244, 3) := by decide +kernel
theorem dX6_way_31 : decode cX6_way 31 = .ok (.ireturn, 1) := by decide +kernel
theorem dX6_way_32 : decode cX6_way 32 = .ok (.iload_n 1, 1) := by decide +kernel
theorem dX6_way_33 : decode cX6_way 33 = .ok (.iconst (-1), 1) := by decide +kernel
theorem dX6_way_34 : decode cX6_way 34 = .ok (.if_icmp .ne 11, 3) := by decide +kernel
theorem dX6_way_37 : decode cX6_way 37 = .ok (.aload_n 0, 1) := by decide +kernel
theorem dX6_way_38 : decode cX6_way 38 = .ok (.getfield 51, 3) := by decide +kernel
theorem dX6_way_41 : decode cX6_way 41 = .ok (.getfield 247, 3) := by decide +kernel
theorem dX6_way_44 : decode cX6_way 44 = .ok (.ireturn, 1) := by decide +kernel
theorem dX6_way_45 : decode cX6_way 45 = .ok (.iload_n 1, 1) := by decide +kernel
theorem dX6_way_46 : decode cX6_way 46 = .ok (.aload_n 0, 1) := by decide +kernel
theorem dX6_way_47 : decode cX6_way 47 = .ok (.getfield 51, 3) := by decide +kernel
theorem dX6_way_50 : decode cX6_way 50 = .ok (.getfield 247, 3) := by decide +kernel
theorem dX6_way_53 : decode cX6_way 53 = .ok (.if_icmp .gt 15, 3) := by decide +kernel
theorem dX6_way_56 : decode cX6_way 56 = .ok (.aload_n 0, 1) := by decide +kernel
theorem dX6_way_57 : decode cX6_way 57 = .ok (.getfield 51, 3) := by decide +kernel
theorem dX6_way_60 : decode cX6_way 60 = .ok (.getfield 250, 3) := by decide +kernel
theorem dX6_way_63 : decode cX6_way 63 = .ok (.iload_n 1, 1) := by decide +kernel
theorem dX6_way_64 : decode cX6_way 64 = .ok (.iaload, 1) := by decide +kernel
theorem dX6_way_65 : decode cX6_way 65 = .ok (.goto 5, 3) := by decide +kernel
theorem dX6_way_68 : decode cX6_way 68 = .ok (.bipush (-9), 2) := by decide +kernel
theorem dX6_way_70 : decode cX6_way 70 = .ok (.ireturn, 1) := by decide +kernel
theorem dX6_outcomes_0 : decode cX6_outcomes 0 = .ok (.iload_n 1, 1) := by decide +kernel
theorem dX6_outcomes_1 : decode cX6_outcomes 1 = .ok (.ifCond .lt 8, 3) := by decide +kernel
theorem dX6_outcomes_4 : decode cX6_outcomes 4 = .ok (.iload_n 1, 1) := by decide +kernel
theorem dX6_outcomes_5 : decode cX6_outcomes 5 = .ok (.iconst 4, 1) := by decide +kernel
theorem dX6_outcomes_6 : decode cX6_outcomes 6 = .ok (.if_icmp .le 5, 3) := by decide +kernel
theorem dX6_outcomes_9 : decode cX6_outcomes 9 = .ok (.iconst (-1), 1) := by decide +kernel
theorem dX6_outcomes_10 : decode cX6_outcomes 10 = .ok (.ireturn, 1) := by decide +kernel
theorem dX6_outcomes_11 : decode cX6_outcomes 11 = .ok (.iconst 0, 1) := by decide +kernel
theorem dX6_outcomes_12 : decode cX6_outcomes 12 = .ok (.istore_n 2, 1) := by decide +kernel
theorem dX6_outcomes_13 : decode cX6_outcomes 13 = .ok (.iconst 0, 1) := by decide +kernel
theorem dX6_outcomes_14 : decode cX6_outcomes 14 = .ok (.istore_n 3, 1) := by decide +kernel
theorem dX6_outcomes_15 : decode cX6_outcomes 15 = .ok (.iload_n 3, 1) := by decide +kernel
theorem dX6_outcomes_16 : decode cX6_outcomes 16 = .ok (.aload_n 0, 1) := by decide +kernel
theorem dX6_outcomes_17 : decode cX6_outcomes 17 = .ok (.getfield 12, 3) := by decide +kernel
theorem dX6_outcomes_20 : decode cX6_outcomes 20 = .ok (.getfield 66, 3) := by decide +kernel
theorem dX6_outcomes_23 : decode cX6_outcomes 23 = .ok (.if_icmp .ge 61, 3) := by decide +kernel
theorem dX6_outcomes_26 : decode cX6_outcomes 26 = .ok (.iconst 0, 1) := by decide +kernel
theorem dX6_outcomes_27 : decode cX6_outcomes 27 = .ok (.istore 4, 2) := by decide +kernel
theorem dX6_outcomes_29 : decode cX6_outcomes 29 = .ok (.iload 4, 2) := by decide +kernel
theorem dX6_outcomes_31 : decode cX6_outcomes 31 = .ok (.aload_n 0, 1) := by decide +kernel
theorem dX6_outcomes_32 : decode cX6_outcomes 32 = .ok (.getfield 12, 3) := by decide +kernel
theorem dX6_outcomes_35 : decode cX6_outcomes 35 = .ok (.getfield 66, 3) := by decide +kernel
theorem dX6_outcomes_38 : decode cX6_outcomes 38 = .ok (.if_icmp .ge 40, 3) := by decide +kernel
theorem dX6_outcomes_41 : decode cX6_outcomes 41 = .ok (.iload_n 3, 1) := by decide +kernel
theorem dX6_outcomes_42 : decode cX6_outcomes 42 = .ok (.iload 4, 2) := by decide +kernel
theorem dX6_outcomes_44 : decode cX6_outcomes 44 = .ok (.if_icmp .eq 28, 3) := by decide +kernel
theorem dX6_outcomes_47 : decode cX6_outcomes 47 = .ok (.aload_n 0, 1) := by decide +kernel
theorem dX6_outcomes_48 : decode cX6_outcomes 48 = .ok (.getfield 55, 3) := by decide +kernel
theorem dX6_outcomes_51 : decode cX6_outcomes 51 = .ok (.aload_n 0, 1) := by decide +kernel
theorem dX6_outcomes_52 : decode cX6_outcomes 52 = .ok (.getfield 12, 3) := by decide +kernel
theorem dX6_outcomes_55 : decode cX6_outcomes 55 = .ok (.aload_n 0, 1) := by decide +kernel
theorem dX6_outcomes_56 : decode cX6_outcomes 56 = .ok (.getfield 44, 3) := by decide +kernel
theorem dX6_outcomes_59 : decode cX6_outcomes 59 = .ok (.iload_n 3, 1) := by decide +kernel
theorem dX6_outcomes_60 : decode cX6_outcomes 60 = .ok (.iload 4, 2) := by decide +kernel
theorem dX6_outcomes_62 : decode cX6_outcomes 62 = .ok (.invokevirtual 240, 3) := by decide +kernel
theorem dX6_outcomes_65 : decode cX6_outcomes 65 = .ok (.iload_n 1, 1) := by decide +kernel
theorem dX6_outcomes_66 : decode cX6_outcomes 66 = .ok (.if_icmp .ne 6, 3) := by decide +kernel
theorem dX6_outcomes_69 : decode cX6_outcomes 69 = .ok (.iinc 2 1, 3) := by decide +kernel
theorem dX6_outcomes_72 : decode cX6_outcomes 72 = .ok (.iinc 4 1, 3) := by decide +kernel
theorem dX6_outcomes_75 : decode cX6_outcomes 75 = .ok (.goto (-46), 3) := by decide +kernel
theorem dX6_outcomes_78 : decode cX6_outcomes 78 = .ok (.iinc 3 1, 3) := by decide +kernel
theorem dX6_outcomes_81 : decode cX6_outcomes 81 = .ok (.goto (-66), 3) := by decide +kernel
theorem dX6_outcomes_84 : decode cX6_outcomes 84 = .ok (.iload_n 2, 1) := by decide +kernel
theorem dX6_outcomes_85 : decode cX6_outcomes 85 = .ok (.ireturn, 1) := by decide +kernel
theorem dX6_ideal_0 : decode cX6_ideal 0 = .ok (.aload_n 0, 1) := by decide +kernel
theorem dX6_ideal_1 : decode cX6_ideal 1 = .ok (.iload_n 1, 1) := by decide +kernel
theorem dX6_ideal_2 : decode cX6_ideal 2 = .ok (.invokevirtual 165, 3) := by decide +kernel
theorem dX6_ideal_5 : decode cX6_ideal 5 = .ok (.ifCond .eq 11, 3) := by decide +kernel
theorem dX6_ideal_8 : decode cX6_ideal 8 = .ok (.aload_n 0, 1) := by decide +kernel
theorem dX6_ideal_9 : decode cX6_ideal 9 = .ok (.iload_n 2, 1) := by decide +kernel
theorem dX6_ideal_10 : decode cX6_ideal 10 = .ok (.invokevirtual 165, 3) := by decide +kernel
theorem dX6_ideal_13 : decode cX6_ideal 13 = .ok (.ifCond .ne 5, 3) := by decide +kernel
theorem dX6_ideal_16 : decode cX6_ideal 16 = .ok (.iconst (-1), 1) := by decide +kernel
theorem dX6_ideal_17 : decode cX6_ideal 17 = .ok (.ireturn, 1) := by decide +kernel
theorem dX6_ideal_18 : decode cX6_ideal 18 = .ok (.aload_n 0, 1) := by decide +kernel
theorem dX6_ideal_19 : decode cX6_ideal 19 = .ok (.getfield 44, 3) := by decide +kernel
theorem dX6_ideal_22 : decode cX6_ideal 22 = .ok (.aload_n 0, 1) := by decide +kernel
theorem dX6_ideal_23 : decode cX6_ideal 23 = .ok (.getfield 12, 3) := by decide +kernel
theorem dX6_ideal_26 : decode cX6_ideal 26 = .ok (.aload_n 0, 1) := by decide +kernel
theorem dX6_ideal_27 : decode cX6_ideal 27 = .ok (.getfield 12, 3) := by decide +kernel
theorem dX6_ideal_30 : decode cX6_ideal 30 = .ok (.aload_n 0, 1) := by decide +kernel
theorem dX6_ideal_31 : decode cX6_ideal 31 = .ok (.getfield 12, 3) := by decide +kernel
theorem dX6_ideal_34 : decode cX6_ideal 34 = .ok (.getfield 168, 3) := by decide +kernel
theorem dX6_ideal_37 : decode cX6_ideal 37 = .ok (.iload_n 1, 1) := by decide +kernel
theorem dX6_ideal_38 : decode cX6_ideal 38 = .ok (.iaload, 1) := by decide +kernel
theorem dX6_ideal_39 : decode cX6_ideal 39 = .ok (.invokevirtual 253, 3) := by decide +kernel
theorem dX6_ideal_42 : decode cX6_ideal 42 = .ok (.invokevirtual 256, 3) := by decide +kernel
theorem dX6_ideal_45 : decode cX6_ideal 45 = .ok (.aload_n 0, 1) := by decide +kernel
theorem dX6_ideal_46 : decode cX6_ideal 46 = .ok (.getfield 44, 3) := by decide +kernel
theorem dX6_ideal_49 : decode cX6_ideal 49 = .ok (.iload_n 2, 1) := by decide +kernel
theorem dX6_ideal_50 : decode cX6_ideal 50 = .ok (.invokevirtual 224, 3) := by decide +kernel
theorem dX6_ideal_53 : decode cX6_ideal 53 = .ok (.aload_n 0, 1) := by decide +kernel
theorem dX6_ideal_54 : decode cX6_ideal 54 = .ok (.getfield 44, 3) := by decide +kernel
theorem dX6_ideal_57 : decode cX6_ideal 57 = .ok (.iload_n 1, 1) := by decide +kernel
theorem dX6_ideal_58 : decode cX6_ideal 58 = .ok (.invokevirtual 228, 3) := by decide +kernel
theorem dX6_ideal_61 : decode cX6_ideal 61 = .ok (.ireturn, 1) := by decide +kernel
theorem dX6_worth_0 : decode cX6_worth 0 = .ok (.iload_n 1, 1) := by decide +kernel
theorem dX6_worth_1 : decode cX6_worth 1 = .ok (.iload_n 2, 1) := by decide +kernel
theorem dX6_worth_2 : decode cX6_worth 2 = .ok (.invokestatic 112, 3) := by decide +kernel
theorem dX6_worth_5 : decode cX6_worth 5 = .ok (.ifCond .ne 5, 3) := by decide +kernel
theorem dX6_worth_8 : decode cX6_worth 8 = .ok (.iconst (-1), 1) := by decide +kernel
theorem dX6_worth_9 : decode cX6_worth 9 = .ok (.ireturn, 1) := by decide +kernel
theorem dX6_worth_10 : decode cX6_worth 10 = .ok (.aload_n 0, 1) := by decide +kernel
theorem dX6_worth_11 : decode cX6_worth 11 = .ok (.getfield 12, 3) := by decide +kernel
theorem dX6_worth_14 : decode cX6_worth 14 = .ok (.iload_n 2, 1) := by decide +kernel
theorem dX6_worth_15 : decode cX6_worth 15 = .ok (.invokevirtual 253, 3) := by decide +kernel
theorem dX6_worth_18 : decode cX6_worth 18 = .ok (.istore_n 3, 1) := by decide +kernel
theorem dX6_worth_19 : decode cX6_worth 19 = .ok (.aload_n 0, 1) := by decide +kernel
theorem dX6_worth_20 : decode cX6_worth 20 = .ok (.iload_n 2, 1) := by decide +kernel
theorem dX6_worth_21 : decode cX6_worth 21 = .ok (.iload_n 3, 1) := by decide +kernel
theorem dX6_worth_22 : decode cX6_worth 22 = .ok (.iconst 1, 1) := by decide +kernel
theorem dX6_worth_23 : decode cX6_worth 23 = .ok (.iload_n 1, 1) := by decide +kernel
theorem dX6_worth_24 : decode cX6_worth 24 = .ok (.ishl, 1) := by decide +kernel
theorem dX6_worth_25 : decode cX6_worth 25 = .ok (.iconst (-1), 1) := by decide +kernel
theorem dX6_worth_26 : decode cX6_worth 26 = .ok (.ixor, 1) := by decide +kernel
theorem dX6_worth_27 : decode cX6_worth 27 = .ok (.iand, 1) := by decide +kernel
theorem dX6_worth_28 : decode cX6_worth 28 = .ok (.invokevirtual 260, 3) := by decide +kernel
theorem dX6_worth_31 : decode cX6_worth 31 = .ok (.istore 4, 2) := by decide +kernel
theorem dX6_worth_33 : decode cX6_worth 33 = .ok (.aload_n 0, 1) := by decide +kernel
theorem dX6_worth_34 : decode cX6_worth 34 = .ok (.iload_n 2, 1) := by decide +kernel
theorem dX6_worth_35 : decode cX6_worth 35 = .ok (.iload_n 3, 1) := by decide +kernel
theorem dX6_worth_36 : decode cX6_worth 36 = .ok (.iconst 1, 1) := by decide +kernel
theorem dX6_worth_37 : decode cX6_worth 37 = .ok (.iload_n 1, 1) := by decide +kernel
theorem dX6_worth_38 : decode cX6_worth 38 = .ok (.ishl, 1) := by decide +kernel
theorem dX6_worth_39 : decode cX6_worth 39 = .ok (.ior, 1) := by decide +kernel
theorem dX6_worth_40 : decode cX6_worth 40 = .ok (.invokevirtual 260, 3) := by decide +kernel
theorem dX6_worth_43 : decode cX6_worth 43 = .ok (.istore 5, 2) := by decide +kernel
theorem dX6_worth_45 : decode cX6_worth 45 = .ok (.iload 4, 2) := by decide +kernel
theorem dX6_worth_47 : decode cX6_worth 47 = .ok (.iload 5, 2) := by decide +kernel
theorem dX6_worth_49 : decode cX6_worth 49 = .ok (.isub, 1) := by decide +kernel
theorem dX6_worth_50 : decode cX6_worth 50 = .ok (.ireturn, 1) := by decide +kernel
theorem dX6_sumOfIdeals_0 : decode cX6_sumOfIdeals 0 = .ok (.aload_n 0, 1) := by decide +kernel
theorem dX6_sumOfIdeals_1 : decode cX6_sumOfIdeals 1 = .ok (.getfield 44, 3) := by decide +kernel
theorem dX6_sumOfIdeals_4 : decode cX6_sumOfIdeals 4 = .ok (.aload_n 0, 1) := by decide +kernel
theorem dX6_sumOfIdeals_5 : decode cX6_sumOfIdeals 5 = .ok (.getfield 12, 3) := by decide +kernel
theorem dX6_sumOfIdeals_8 : decode cX6_sumOfIdeals 8 = .ok (.iload_n 2, 1) := by decide +kernel
theorem dX6_sumOfIdeals_9 : decode cX6_sumOfIdeals 9 = .ok (.invokevirtual 256, 3) := by decide +kernel
theorem dX6_sumOfIdeals_12 : decode cX6_sumOfIdeals 12 = .ok (.iconst 0, 1) := by decide +kernel
theorem dX6_sumOfIdeals_13 : decode cX6_sumOfIdeals 13 = .ok (.istore_n 3, 1) := by decide +kernel
theorem dX6_sumOfIdeals_14 : decode cX6_sumOfIdeals 14 = .ok (.iconst 0, 1) := by decide +kernel
theorem dX6_sumOfIdeals_15 : decode cX6_sumOfIdeals 15 = .ok (.istore 4, 2) := by decide +kernel
theorem dX6_sumOfIdeals_17 : decode cX6_sumOfIdeals 17 = .ok (.iload 4, 2) := by decide +kernel
theorem dX6_sumOfIdeals_19 : decode cX6_sumOfIdeals 19 = .ok (.aload_n 0, 1) := by decide +kernel
theorem dX6_sumOfIdeals_20 : decode cX6_sumOfIdeals 20 = .ok (.getfield 12, 3) := by decide +kernel
theorem dX6_sumOfIdeals_23 : decode cX6_sumOfIdeals 23 = .ok (.getfield 66, 3) := by decide +kernel
theorem dX6_sumOfIdeals_26 : decode cX6_sumOfIdeals 26 = .ok (.if_icmp .ge 82, 3) := by decide +kernel
theorem dX6_sumOfIdeals_29 : decode cX6_sumOfIdeals 29 = .ok (.aload_n 0, 1) := by decide +kernel
theorem dX6_sumOfIdeals_30 : decode cX6_sumOfIdeals 30 = .ok (.getfield 44, 3) := by decide +kernel
theorem dX6_sumOfIdeals_33 : decode cX6_sumOfIdeals 33 = .ok (.iload 4, 2) := by decide +kernel
theorem dX6_sumOfIdeals_35 : decode cX6_sumOfIdeals 35 = .ok (.invokevirtual 224, 3) := by decide +kernel
theorem dX6_sumOfIdeals_38 : decode cX6_sumOfIdeals 38 = .ok (.iconst 0, 1) := by decide +kernel
theorem dX6_sumOfIdeals_39 : decode cX6_sumOfIdeals 39 = .ok (.istore 5, 2) := by decide +kernel
theorem dX6_sumOfIdeals_41 : decode cX6_sumOfIdeals 41 = .ok (.iload 5, 2) := by decide +kernel
theorem dX6_sumOfIdeals_43 : decode cX6_sumOfIdeals 43 = .ok (.aload_n 0, 1) := by decide +kernel
theorem dX6_sumOfIdeals_44 : decode cX6_sumOfIdeals 44 = .ok (.getfield 12, 3) := by decide +kernel
theorem dX6_sumOfIdeals_47 : decode cX6_sumOfIdeals 47 = .ok (.getfield 66, 3) := by decide +kernel
theorem dX6_sumOfIdeals_50 : decode cX6_sumOfIdeals 50 = .ok (.if_icmp .ge 52, 3) := by decide +kernel
theorem dX6_sumOfIdeals_53 : decode cX6_sumOfIdeals 53 = .ok (.aload_n 0, 1) := by decide +kernel
theorem dX6_sumOfIdeals_54 : decode cX6_sumOfIdeals 54 = .ok (.getfield 12, 3) := by decide +kernel
theorem dX6_sumOfIdeals_57 : decode cX6_sumOfIdeals 57 = .ok (.getfield 168, 3) := by decide +kernel
theorem dX6_sumOfIdeals_60 : decode cX6_sumOfIdeals 60 = .ok (.iload 5, 2) := by decide +kernel
theorem dX6_sumOfIdeals_62 : decode cX6_sumOfIdeals 62 = .ok (.iaload, 1) := by decide +kernel
theorem dX6_sumOfIdeals_63 : decode cX6_sumOfIdeals 63 = .ok (.iload_n 1, 1) := by decide +kernel
theorem dX6_sumOfIdeals_64 : decode cX6_sumOfIdeals 64 = .ok (.if_icmp .ne 32, 3) := by decide +kernel
theorem dX6_sumOfIdeals_67 : decode cX6_sumOfIdeals 67 = .ok (.aload_n 0, 1) := by decide +kernel
theorem dX6_sumOfIdeals_68 : decode cX6_sumOfIdeals 68 = .ok (.getfield 44, 3) := by decide +kernel
theorem dX6_sumOfIdeals_71 : decode cX6_sumOfIdeals 71 = .ok (.iload 5, 2) := by decide +kernel
theorem dX6_sumOfIdeals_73 : decode cX6_sumOfIdeals 73 = .ok (.invokevirtual 228, 3) := by decide +kernel
theorem dX6_sumOfIdeals_76 : decode cX6_sumOfIdeals 76 = .ok (.istore 6, 2) := by decide +kernel
theorem dX6_sumOfIdeals_78 : decode cX6_sumOfIdeals 78 = .ok (.iload_n 3, 1) := by decide +kernel
theorem dX6_sumOfIdeals_79 : decode cX6_sumOfIdeals 79 = .ok (.iload 6, 2) := by decide +kernel
theorem dX6_sumOfIdeals_81 : decode cX6_sumOfIdeals 81 = .ok (.bipush (-9), 2) := by decide +kernel
theorem dX6_sumOfIdeals_83 : decode cX6_sumOfIdeals 83 = .ok (.if_icmp .ne 9, 3) := by decide +kernel
theorem dX6_sumOfIdeals_86 : decode cX6_sumOfIdeals 86 = .ok (.sipush 200, 3) := by decide +kernel
theorem dX6_sumOfIdeals_89 : decode cX6_sumOfIdeals 89 = .ok (.goto 5, 3) := by decide +kernel
theorem dX6_sumOfIdeals_92 : decode cX6_sumOfIdeals 92 = .ok (.iload 6, 2) := by decide +kernel
theorem dX6_sumOfIdeals_94 : decode cX6_sumOfIdeals 94 = .ok (.iadd, 1) := by decide +kernel
theorem dX6_sumOfIdeals_95 : decode cX6_sumOfIdeals 95 = .ok (.istore_n 3, 1) := by decide +kernel
theorem dX6_sumOfIdeals_96 : decode cX6_sumOfIdeals 96 = .ok (.iinc 5 1, 3) := by decide +kernel
theorem dX6_sumOfIdeals_99 : decode cX6_sumOfIdeals 99 = .ok (.goto (-58), 3) := by decide +kernel
theorem dX6_sumOfIdeals_102 : decode cX6_sumOfIdeals 102 = .ok (.iinc 4 1, 3) := by decide +kernel
theorem dX6_sumOfIdeals_105 : decode cX6_sumOfIdeals 105 = .ok (.goto (-88), 3) := by decide +kernel
theorem dX6_sumOfIdeals_108 : decode cX6_sumOfIdeals 108 = .ok (.iload_n 3, 1) := by decide +kernel
theorem dX6_sumOfIdeals_109 : decode cX6_sumOfIdeals 109 = .ok (.ireturn, 1) := by decide +kernel
theorem dX6_beginAction_0 : decode cX6_beginAction 0 = .ok (.aload_n 0, 1) := by decide +kernel
theorem dX6_beginAction_1 : decode cX6_beginAction 1 = .ok (.getfield 23, 3) := by decide +kernel
theorem dX6_beginAction_4 : decode cX6_beginAction 4 = .ok (.iconst 5, 1) := by decide +kernel
theorem dX6_beginAction_5 : decode cX6_beginAction 5 = .ok (.if_icmp .ne 7, 3) := by decide +kernel
theorem dX6_beginAction_8 : decode cX6_beginAction 8 = .ok (.aload_n 0, 1) := by decide +kernel
theorem dX6_beginAction_9 : decode cX6_beginAction 9 = .ok (.invokevirtual 263, 3) := by decide +kernel
theorem dX6_beginAction_12 : decode cX6_beginAction 12 = .ok (.aload_n 0, 1) := by decide +kernel
theorem dX6_beginAction_13 : decode cX6_beginAction 13 = .ok (.getfield 19, 3) := by decide +kernel
theorem dX6_beginAction_16 : decode cX6_beginAction 16 = .ok (.aload_n 0, 1) := by decide +kernel
theorem dX6_beginAction_17 : decode cX6_beginAction 17 = .ok (.getfield 23, 3) := by decide +kernel
theorem dX6_beginAction_20 : decode cX6_beginAction 20 = .ok (.aaload, 1) := by decide +kernel
theorem dX6_beginAction_21 : decode cX6_beginAction 21 = .ok (.aload_n 0, 1) := by decide +kernel
theorem dX6_beginAction_22 : decode cX6_beginAction 22 = .ok (.getfield 12, 3) := by decide +kernel
theorem dX6_beginAction_25 : decode cX6_beginAction 25 = .ok (.invokevirtual 145, 3) := by decide +kernel
theorem dX6_beginAction_28 : decode cX6_beginAction 28 = .ok (.aload_n 0, 1) := by decide +kernel
theorem dX6_beginAction_29 : decode cX6_beginAction 29 = .ok (.dup, 1) := by decide +kernel
theorem dX6_beginAction_30 : decode cX6_beginAction 30 = .ok (.getfield 23, 3) := by decide +kernel
theorem dX6_beginAction_33 : decode cX6_beginAction 33 = .ok (.iconst 1, 1) := by decide +kernel
theorem dX6_beginAction_34 : decode cX6_beginAction 34 = .ok (.iadd, 1) := by decide +kernel
theorem dX6_beginAction_35 : decode cX6_beginAction 35 = .ok (.putfield 23, 3) := by decide +kernel
theorem dX6_beginAction_38 : decode cX6_beginAction 38 = .ok (.aload_n 0, 1) := by decide +kernel
theorem dX6_beginAction_39 : decode cX6_beginAction 39 = .ok (.iconst 0, 1) := by decide +kernel
theorem dX6_beginAction_40 : decode cX6_beginAction 40 = .ok (.putfield 58, 3) := by decide +kernel
theorem dX6_beginAction_43 : decode cX6_beginAction 43 = .ok (.return_, 1) := by decide +kernel
theorem dX6_dropOldest_0 : decode cX6_dropOldest 0 = .ok (.aload_n 0, 1) := by decide +kernel
theorem dX6_dropOldest_1 : decode cX6_dropOldest 1 = .ok (.getfield 19, 3) := by decide +kernel
theorem dX6_dropOldest_4 : decode cX6_dropOldest 4 = .ok (.iconst 0, 1) := by decide +kernel
theorem dX6_dropOldest_5 : decode cX6_dropOldest 5 = .ok (.aaload, 1) := by decide +kernel
theorem dX6_dropOldest_6 : decode cX6_dropOldest 6 = .ok (.astore_n 1, 1) := by decide +kernel
theorem dX6_dropOldest_7 : decode cX6_dropOldest 7 = .ok (.iconst 1, 1) := by decide +kernel
theorem dX6_dropOldest_8 : decode cX6_dropOldest 8 = .ok (.istore_n 2, 1) := by decide +kernel
theorem dX6_dropOldest_9 : decode cX6_dropOldest 9 = .ok (.iload_n 2, 1) := by decide +kernel
theorem dX6_dropOldest_10 : decode cX6_dropOldest 10 = .ok (.iconst 5, 1) := by decide +kernel
theorem dX6_dropOldest_11 : decode cX6_dropOldest 11 = .ok (.if_icmp .ge 23, 3) := by decide +kernel
theorem dX6_dropOldest_14 : decode cX6_dropOldest 14 = .ok (.aload_n 0, 1) := by decide +kernel
theorem dX6_dropOldest_15 : decode cX6_dropOldest 15 = .ok (.getfield 19, 3) := by decide +kernel
theorem dX6_dropOldest_18 : decode cX6_dropOldest 18 = .ok (.iload_n 2, 1) := by decide +kernel
theorem dX6_dropOldest_19 : decode cX6_dropOldest 19 = .ok (.iconst 1, 1) := by decide +kernel
theorem dX6_dropOldest_20 : decode cX6_dropOldest 20 = .ok (.isub, 1) := by decide +kernel
theorem dX6_dropOldest_21 : decode cX6_dropOldest 21 = .ok (.aload_n 0, 1) := by decide +kernel
theorem dX6_dropOldest_22 : decode cX6_dropOldest 22 = .ok (.getfield 19, 3) := by decide +kernel
theorem dX6_dropOldest_25 : decode cX6_dropOldest 25 = .ok (.iload_n 2, 1) := by decide +kernel
theorem dX6_dropOldest_26 : decode cX6_dropOldest 26 = .ok (.aaload, 1) := by decide +kernel
theorem dX6_dropOldest_27 : decode cX6_dropOldest 27 = .ok (.aastore, 1) := by decide +kernel
theorem dX6_dropOldest_28 : decode cX6_dropOldest 28 = .ok (.iinc 2 1, 3) := by decide +kernel
theorem dX6_dropOldest_31 : decode cX6_dropOldest 31 = .ok (.goto (-22), 3) := by decide +kernel
theorem dX6_dropOldest_34 : decode cX6_dropOldest 34 = .ok (.aload_n 0, 1) := by decide +kernel
theorem dX6_dropOldest_35 : decode cX6_dropOldest 35 = .ok (.getfield 19, 3) := by decide +kernel
theorem dX6_dropOldest_38 : decode cX6_dropOldest 38 = .ok (.iconst 4, 1) := by decide +kernel
theorem dX6_dropOldest_39 : decode cX6_dropOldest 39 = .ok (.aload_n 1, 1) := by decide +kernel
theorem dX6_dropOldest_40 : decode cX6_dropOldest 40 = .ok (.aastore, 1) := by decide +kernel
theorem dX6_dropOldest_41 : decode cX6_dropOldest 41 = .ok (.aload_n 0, 1) := by decide +kernel
theorem dX6_dropOldest_42 : decode cX6_dropOldest 42 = .ok (.dup, 1) := by decide +kernel
theorem dX6_dropOldest_43 : decode cX6_dropOldest 43 = .ok (.getfield 23, 3) := by decide +kernel
theorem dX6_dropOldest_46 : decode cX6_dropOldest 46 = .ok (.iconst 1, 1) := by decide +kernel
theorem dX6_dropOldest_47 : decode cX6_dropOldest 47 = .ok (.isub, 1) := by decide +kernel
theorem dX6_dropOldest_48 : decode cX6_dropOldest 48 = .ok (.putfield 23, 3) := by decide +kernel
theorem dX6_dropOldest_51 : decode cX6_dropOldest 51 = .ok (.return_, 1) := by decide +kernel
theorem dX6_isNode_0 : decode cX6_isNode 0 = .ok (.iload_n 1, 1) := by decide +kernel
theorem dX6_isNode_1 : decode cX6_isNode 1 = .ok (.ifCond .lt 18, 3) := by decide +kernel
theorem dX6_isNode_4 : decode cX6_isNode 4 = .ok (.iload_n 1, 1) := by decide +kernel
theorem dX6_isNode_5 : decode cX6_isNode 5 = .ok (.aload_n 0, 1) := by decide +kernel
theorem dX6_isNode_6 : decode cX6_isNode 6 = .ok (.getfield 12, 3) := by decide +kernel
theorem dX6_isNode_9 : decode cX6_isNode 9 = .ok (.getfield 66, 3) := by decide +kernel
theorem dX6_isNode_12 : decode cX6_isNode 12 = .ok (.if_icmp .ge 7, 3) := by decide +kernel
theorem dX6_isNode_15 : decode cX6_isNode 15 = .ok (.iconst 1, 1) := by decide +kernel
theorem dX6_isNode_16 : decode cX6_isNode 16 = .ok (.goto 4, 3) := by decide +kernel
theorem dX6_isNode_19 : decode cX6_isNode 19 = .ok (.iconst 0, 1) := by decide +kernel
theorem dX6_isNode_20 : decode cX6_isNode 20 = .ok (.ireturn, 1) := by decide +kernel
theorem dX6_isPair_0 : decode cX6_isPair 0 = .ok (.aload_n 0, 1) := by decide +kernel
theorem dX6_isPair_1 : decode cX6_isPair 1 = .ok (.iload_n 1, 1) := by decide +kernel
theorem dX6_isPair_2 : decode cX6_isPair 2 = .ok (.invokevirtual 165, 3) := by decide +kernel
theorem dX6_isPair_5 : decode cX6_isPair 5 = .ok (.ifCond .eq 20, 3) := by decide +kernel
theorem dX6_isPair_8 : decode cX6_isPair 8 = .ok (.aload_n 0, 1) := by decide +kernel
theorem dX6_isPair_9 : decode cX6_isPair 9 = .ok (.iload_n 2, 1) := by decide +kernel
theorem dX6_isPair_10 : decode cX6_isPair 10 = .ok (.invokevirtual 165, 3) := by decide +kernel
theorem dX6_isPair_13 : decode cX6_isPair 13 = .ok (.ifCond .eq 12, 3) := by decide +kernel
theorem dX6_isPair_16 : decode cX6_isPair 16 = .ok (.iload_n 1, 1) := by decide +kernel
theorem dX6_isPair_17 : decode cX6_isPair 17 = .ok (.iload_n 2, 1) := by decide +kernel
theorem dX6_isPair_18 : decode cX6_isPair 18 = .ok (.if_icmp .eq 7, 3) := by decide +kernel
theorem dX6_isPair_21 : decode cX6_isPair 21 = .ok (.iconst 1, 1) := by decide +kernel
theorem dX6_isPair_22 : decode cX6_isPair 22 = .ok (.goto 4, 3) := by decide +kernel
theorem dX6_isPair_25 : decode cX6_isPair 25 = .ok (.iconst 0, 1) := by decide +kernel
theorem dX6_isPair_26 : decode cX6_isPair 26 = .ok (.ireturn, 1) := by decide +kernel
theorem dX6_isLink_0 : decode cX6_isLink 0 = .ok (.iload_n 1, 1) := by decide +kernel
theorem dX6_isLink_1 : decode cX6_isLink 1 = .ok (.ifCond .lt 18, 3) := by decide +kernel
theorem dX6_isLink_4 : decode cX6_isLink 4 = .ok (.iload_n 1, 1) := by decide +kernel
theorem dX6_isLink_5 : decode cX6_isLink 5 = .ok (.aload_n 0, 1) := by decide +kernel
theorem dX6_isLink_6 : decode cX6_isLink 6 = .ok (.getfield 12, 3) := by decide +kernel
theorem dX6_isLink_9 : decode cX6_isLink 9 = .ok (.getfield 86, 3) := by decide +kernel
theorem dX6_isLink_12 : decode cX6_isLink 12 = .ok (.if_icmp .ge 7, 3) := by decide +kernel
theorem dX6_isLink_15 : decode cX6_isLink 15 = .ok (.iconst 1, 1) := by decide +kernel
theorem dX6_isLink_16 : decode cX6_isLink 16 = .ok (.goto 4, 3) := by decide +kernel
theorem dX6_isLink_19 : decode cX6_isLink 19 = .ok (.iconst 0, 1) := by decide +kernel
theorem dX6_isLink_20 : decode cX6_isLink 20 = .ok (.ireturn, 1) := by decide +kernel
theorem dX6_isTunnel_0 : decode cX6_isTunnel 0 = .ok (.iload_n 1, 1) := by decide +kernel
theorem dX6_isTunnel_1 : decode cX6_isTunnel 1 = .ok (.ifCond .lt 18, 3) := by decide +kernel
theorem dX6_isTunnel_4 : decode cX6_isTunnel 4 = .ok (.iload_n 1, 1) := by decide +kernel
theorem dX6_isTunnel_5 : decode cX6_isTunnel 5 = .ok (.aload_n 0, 1) := by decide +kernel
theorem dX6_isTunnel_6 : decode cX6_isTunnel 6 = .ok (.getfield 12, 3) := by decide +kernel
theorem dX6_isTunnel_9 : decode cX6_isTunnel 9 = .ok (.getfield 122, 3) := by decide +kernel
theorem dX6_isTunnel_12 : decode cX6_isTunnel 12 = .ok (.if_icmp .ge 7, 3) := by decide +kernel
theorem dX6_isTunnel_15 : decode cX6_isTunnel 15 = .ok (.iconst 1, 1) := by decide +kernel
theorem dX6_isTunnel_16 : decode cX6_isTunnel 16 = .ok (.goto 4, 3) := by decide +kernel
theorem dX6_isTunnel_19 : decode cX6_isTunnel 19 = .ok (.iconst 0, 1) := by decide +kernel
theorem dX6_isTunnel_20 : decode cX6_isTunnel 20 = .ok (.ireturn, 1) := by decide +kernel
theorem dX6_isItem_0 : decode cX6_isItem 0 = .ok (.iload_n 1, 1) := by decide +kernel
theorem dX6_isItem_1 : decode cX6_isItem 1 = .ok (.ifCond .ge 5, 3) := by decide +kernel
theorem dX6_isItem_4 : decode cX6_isItem 4 = .ok (.iconst 0, 1) := by decide +kernel
theorem dX6_isItem_5 : decode cX6_isItem 5 = .ok (.ireturn, 1) := by decide +kernel
theorem dX6_isItem_6 : decode cX6_isItem 6 = .ok (.iload_n 1, 1) := by decide +kernel
theorem dX6_isItem_7 : decode cX6_isItem 7 = .ok (.bipush 16, 2) := by decide +kernel
theorem dX6_isItem_9 : decode cX6_isItem 9 = .ok (.if_icmp .ge 20, 3) := by decide +kernel
theorem dX6_isItem_12 : decode cX6_isItem 12 = .ok (.iload_n 1, 1) := by decide +kernel
theorem dX6_isItem_13 : decode cX6_isItem 13 = .ok (.invokestatic 266, 3) := by decide +kernel
theorem dX6_isItem_16 : decode cX6_isItem 16 = .ok (.iload_n 1, 1) := by decide +kernel
theorem dX6_isItem_17 : decode cX6_isItem 17 = .ok (.invokestatic 269, 3) := by decide +kernel
theorem dX6_isItem_20 : decode cX6_isItem 20 = .ok (.if_icmp .eq 7, 3) := by decide +kernel
theorem dX6_isItem_23 : decode cX6_isItem 23 = .ok (.iconst 1, 1) := by decide +kernel
theorem dX6_isItem_24 : decode cX6_isItem 24 = .ok (.goto 4, 3) := by decide +kernel
theorem dX6_isItem_27 : decode cX6_isItem 27 = .ok (.iconst 0, 1) := by decide +kernel
theorem dX6_isItem_28 : decode cX6_isItem 28 = .ok (.ireturn, 1) := by decide +kernel
theorem dX6_isItem_29 : decode cX6_isItem 29 = .ok (.iload_n 1, 1) := by decide +kernel
theorem dX6_isItem_30 : decode cX6_isItem 30 = .ok (.bipush 32, 2) := by decide +kernel
theorem dX6_isItem_32 : decode cX6_isItem 32 = .ok (.if_icmp .ge 14, 3) := by decide +kernel
theorem dX6_isItem_35 : decode cX6_isItem 35 = .ok (.aload_n 0, 1) := by decide +kernel
theorem dX6_isItem_36 : decode cX6_isItem 36 = .ok (.iload_n 1, 1) := by decide +kernel
theorem dX6_isItem_37 : decode cX6_isItem 37 = .ok (.bipush 16, 2) := by decide +kernel
theorem dX6_isItem_39 : decode cX6_isItem 39 = .ok (.isub, 1) := by decide +kernel
theorem dX6_isItem_40 : decode cX6_isItem 40 = .ok (.invokevirtual 93, 3) := by decide +kernel
theorem dX6_isItem_43 : decode cX6_isItem 43 = .ok (.goto 11, 3) := by decide +kernel
theorem dX6_isItem_46 : decode cX6_isItem 46 = .ok (.aload_n 0, 1) := by decide +kernel
theorem dX6_isItem_47 : decode cX6_isItem 47 = .ok (.iload_n 1, 1) := by decide +kernel
theorem dX6_isItem_48 : decode cX6_isItem 48 = .ok (.bipush 32, 2) := by decide +kernel
theorem dX6_isItem_50 : decode cX6_isItem 50 = .ok (.isub, 1) := by decide +kernel
theorem dX6_isItem_51 : decode cX6_isItem 51 = .ok (.invokevirtual 128, 3) := by decide +kernel
theorem dX6_isItem_54 : decode cX6_isItem 54 = .ok (.ireturn, 1) := by decide +kernel
theorem dX6_isArea_0 : decode cX6_isArea 0 = .ok (.iload_n 0, 1) := by decide +kernel
theorem dX6_isArea_1 : decode cX6_isArea 1 = .ok (.ifCond .lt 12, 3) := by decide +kernel
theorem dX6_isArea_4 : decode cX6_isArea 4 = .ok (.iload_n 0, 1) := by decide +kernel
theorem dX6_isArea_5 : decode cX6_isArea 5 = .ok (.iconst 4, 1) := by decide +kernel
theorem dX6_isArea_6 : decode cX6_isArea 6 = .ok (.if_icmp .ge 7, 3) := by decide +kernel
theorem dX6_isArea_9 : decode cX6_isArea 9 = .ok (.iconst 1, 1) := by decide +kernel
theorem dX6_isArea_10 : decode cX6_isArea 10 = .ok (.goto 4, 3) := by decide +kernel
theorem dX6_isArea_13 : decode cX6_isArea 13 = .ok (.iconst 0, 1) := by decide +kernel
theorem dX6_isArea_14 : decode cX6_isArea 14 = .ok (.ireturn, 1) := by decide +kernel
theorem dX6_areTwoAreas_0 : decode cX6_areTwoAreas 0 = .ok (.iload_n 0, 1) := by decide +kernel
theorem dX6_areTwoAreas_1 : decode cX6_areTwoAreas 1 = .ok (.invokestatic 62, 3) := by decide +kernel
theorem dX6_areTwoAreas_4 : decode cX6_areTwoAreas 4 = .ok (.ifCond .eq 19, 3) := by decide +kernel
theorem dX6_areTwoAreas_7 : decode cX6_areTwoAreas 7 = .ok (.iload_n 1, 1) := by decide +kernel
theorem dX6_areTwoAreas_8 : decode cX6_areTwoAreas 8 = .ok (.invokestatic 62, 3) := by decide +kernel
theorem dX6_areTwoAreas_11 : decode cX6_areTwoAreas 11 = .ok (.ifCond .eq 12, 3) := by decide +kernel
theorem dX6_areTwoAreas_14 : decode cX6_areTwoAreas 14 = .ok (.iload_n 0, 1) := by decide +kernel
theorem dX6_areTwoAreas_15 : decode cX6_areTwoAreas 15 = .ok (.iload_n 1, 1) := by decide +kernel
theorem dX6_areTwoAreas_16 : decode cX6_areTwoAreas 16 = .ok (.if_icmp .eq 7, 3) := by decide +kernel
theorem dX6_areTwoAreas_19 : decode cX6_areTwoAreas 19 = .ok (.iconst 1, 1) := by decide +kernel
theorem dX6_areTwoAreas_20 : decode cX6_areTwoAreas 20 = .ok (.goto 4, 3) := by decide +kernel
theorem dX6_areTwoAreas_23 : decode cX6_areTwoAreas 23 = .ok (.iconst 0, 1) := by decide +kernel
theorem dX6_areTwoAreas_24 : decode cX6_areTwoAreas 24 = .ok (.ireturn, 1) := by decide +kernel
theorem dX6_isCost_0 : decode cX6_isCost 0 = .ok (.iload_n 0, 1) := by decide +kernel
theorem dX6_isCost_1 : decode cX6_isCost 1 = .ok (.iconst 1, 1) := by decide +kernel
theorem dX6_isCost_2 : decode cX6_isCost 2 = .ok (.if_icmp .lt 12, 3) := by decide +kernel
theorem dX6_isCost_5 : decode cX6_isCost 5 = .ok (.iload_n 0, 1) := by decide +kernel
theorem dX6_isCost_6 : decode cX6_isCost 6 = .ok (.iload_n 1, 1) := by decide +kernel
theorem dX6_isCost_7 : decode cX6_isCost 7 = .ok (.if_icmp .gt 7, 3) := by decide +kernel
theorem dX6_isCost_10 : decode cX6_isCost 10 = .ok (.iconst 1, 1) := by decide +kernel
theorem dX6_isCost_11 : decode cX6_isCost 11 = .ok (.goto 4, 3) := by decide +kernel
theorem dX6_isCost_14 : decode cX6_isCost 14 = .ok (.iconst 0, 1) := by decide +kernel
theorem dX6_isCost_15 : decode cX6_isCost 15 = .ok (.ireturn, 1) := by decide +kernel
theorem dX6_isFlag_0 : decode cX6_isFlag 0 = .ok (.iload_n 0, 1) := by decide +kernel
theorem dX6_isFlag_1 : decode cX6_isFlag 1 = .ok (.ifCond .eq 8, 3) := by decide +kernel
theorem dX6_isFlag_4 : decode cX6_isFlag 4 = .ok (.iload_n 0, 1) := by decide +kernel
theorem dX6_isFlag_5 : decode cX6_isFlag 5 = .ok (.iconst 1, 1) := by decide +kernel
theorem dX6_isFlag_6 : decode cX6_isFlag 6 = .ok (.if_icmp .ne 7, 3) := by decide +kernel
theorem dX6_isFlag_9 : decode cX6_isFlag 9 = .ok (.iconst 1, 1) := by decide +kernel
theorem dX6_isFlag_10 : decode cX6_isFlag 10 = .ok (.goto 4, 3) := by decide +kernel
theorem dX6_isFlag_13 : decode cX6_isFlag 13 = .ok (.iconst 0, 1) := by decide +kernel
theorem dX6_isFlag_14 : decode cX6_isFlag 14 = .ok (.ireturn, 1) := by decide +kernel
theorem dX6_grantItem_0 : decode cX6_grantItem 0 = .ok (.iconst 4, 1) := by decide +kernel
theorem dX6_grantItem_1 : decode cX6_grantItem 1 = .ok (.iload_n 0, 1) := by decide +kernel
theorem dX6_grantItem_2 : decode cX6_grantItem 2 = .ok (.imul, 1) := by decide +kernel
theorem dX6_grantItem_3 : decode cX6_grantItem 3 = .ok (.iload_n 1, 1) := by decide +kernel
theorem dX6_grantItem_4 : decode cX6_grantItem 4 = .ok (.iadd, 1) := by decide +kernel
theorem dX6_grantItem_5 : decode cX6_grantItem 5 = .ok (.ireturn, 1) := by decide +kernel
theorem dX6_grantOwner_0 : decode cX6_grantOwner 0 = .ok (.iload_n 0, 1) := by decide +kernel
theorem dX6_grantOwner_1 : decode cX6_grantOwner 1 = .ok (.iconst 4, 1) := by decide +kernel
theorem dX6_grantOwner_2 : decode cX6_grantOwner 2 = .ok (.idiv, 1) := by decide +kernel
theorem dX6_grantOwner_3 : decode cX6_grantOwner 3 = .ok (.ireturn, 1) := by decide +kernel
theorem dX6_grantArea_0 : decode cX6_grantArea 0 = .ok (.iload_n 0, 1) := by decide +kernel
theorem dX6_grantArea_1 : decode cX6_grantArea 1 = .ok (.iconst 4, 1) := by decide +kernel
theorem dX6_grantArea_2 : decode cX6_grantArea 2 = .ok (.irem, 1) := by decide +kernel
theorem dX6_grantArea_3 : decode cX6_grantArea 3 = .ok (.ireturn, 1) := by decide +kernel
theorem dX6_place_0 : decode cX6_place 0 = .ok (.iload_n 0, 1) := by decide +kernel
theorem dX6_place_1 : decode cX6_place 1 = .ok (.bipush 35, 2) := by decide +kernel
theorem dX6_place_3 : decode cX6_place 3 = .ok (.imul, 1) := by decide +kernel
theorem dX6_place_4 : decode cX6_place 4 = .ok (.iload_n 1, 1) := by decide +kernel
theorem dX6_place_5 : decode cX6_place 5 = .ok (.iadd, 1) := by decide +kernel
theorem dX6_place_6 : decode cX6_place 6 = .ok (.ireturn, 1) := by decide +kernel
theorem dX7_init_0 : decode cX7_init 0 = .ok (.aload_n 0, 1) := by decide +kernel
theorem dX7_init_1 : decode cX7_init 1 = .ok (.invokespecial 1, 3) := by decide +kernel
theorem dX7_init_4 : decode cX7_init 4 = .ok (.aload_n 0, 1) := by decide +kernel
theorem dX7_init_5 : decode cX7_init 5 = .ok (.sipush 1557, 3) := by decide +kernel
theorem dX7_init_8 : decode cX7_init 8 = .ok (.newarray .int, 2) := by decide +kernel
theorem dX7_init_10 : decode cX7_init 10 = .ok (.putfield 7, 3) := by decide +kernel
theorem dX7_init_13 : decode cX7_init 13 = .ok (.aload_n 0, 1) := by decide +kernel
theorem dX7_init_14 : decode cX7_init 14 = .ok (.sipush 7785, 3) := by decide +kernel
theorem dX7_init_17 : decode cX7_init 17 = .ok (.newarray .int, 2) := by decide +kernel
theorem dX7_init_19 : decode cX7_init 19 = .ok (.putfield 13, 3) := by decide +kernel
theorem dX7_init_22 : decode cX7_init 22 = .ok (.aload_n 0, 1) := by decide +kernel
theorem dX7_init_23 : decode cX7_init 23 = .ok (.sipush 1557, 3) := by decide +kernel
theorem dX7_init_26 : decode cX7_init 26 = .ok (.newarray .int, 2) := by decide +kernel
theorem dX7_init_28 : decode cX7_init 28 = .ok (.putfield 16, 3) := by decide +kernel
theorem dX7_init_31 : decode cX7_init 31 = .ok (.aload_n 0, 1) := by decide +kernel
theorem dX7_init_32 : decode cX7_init 32 = .ok (.sipush 1557, 3) := by decide +kernel
theorem dX7_init_35 : decode cX7_init 35 = .ok (.newarray .int, 2) := by decide +kernel
theorem dX7_init_37 : decode cX7_init 37 = .ok (.putfield 19, 3) := by decide +kernel
theorem dX7_init_40 : decode cX7_init 40 = .ok (.aload_n 0, 1) := by decide +kernel
theorem dX7_init_41 : decode cX7_init 41 = .ok (.bipush 120, 2) := by decide +kernel
theorem dX7_init_43 : decode cX7_init 43 = .ok (.newarray .int, 2) := by decide +kernel
theorem dX7_init_45 : decode cX7_init 45 = .ok (.putfield 22, 3) := by decide +kernel
theorem dX7_init_48 : decode cX7_init 48 = .ok (.aload_n 0, 1) := by decide +kernel
theorem dX7_init_49 : decode cX7_init 49 = .ok (.bipush 21, 2) := by decide +kernel
theorem dX7_init_51 : decode cX7_init 51 = .ok (.newarray .int, 2) := by decide +kernel
theorem dX7_init_53 : decode cX7_init 53 = .ok (.putfield 25, 3) := by decide +kernel
theorem dX7_init_56 : decode cX7_init 56 = .ok (.aload_n 0, 1) := by decide +kernel
theorem dX7_init_57 : decode cX7_init 57 = .ok (.bipush 10, 2) := by decide +kernel
theorem dX7_init_59 : decode cX7_init 59 = .ok (.newarray .int, 2) := by decide +kernel
theorem dX7_init_61 : decode cX7_init 61 = .ok (.putfield 28, 3) := by decide +kernel
theorem dX7_init_64 : decode cX7_init 64 = .ok (.aload_n 0, 1) := by decide +kernel
theorem dX7_init_65 : decode cX7_init 65 = .ok (.bipush 10, 2) := by decide +kernel
theorem dX7_init_67 : decode cX7_init 67 = .ok (.newarray .int, 2) := by decide +kernel
theorem dX7_init_69 : decode cX7_init 69 = .ok (.putfield 31, 3) := by decide +kernel
theorem dX7_init_72 : decode cX7_init 72 = .ok (.aload_n 0, 1) := by decide +kernel
theorem dX7_init_73 : decode cX7_init 73 = .ok (.bipush 21, 2) := by decide +kernel
theorem dX7_init_75 : decode cX7_init 75 = .ok (.newarray .int, 2) := by decide +kernel
theorem dX7_init_77 : decode cX7_init 77 = .ok (.putfield 34, 3) := by decide +kernel
theorem dX7_init_80 : decode cX7_init 80 = .ok (.aload_n 0, 1) := by decide +kernel
theorem dX7_init_81 : decode cX7_init 81 = .ok (.bipush 10, 2) := by decide +kernel
theorem dX7_init_83 : decode cX7_init 83 = .ok (.newarray .int, 2) := by decide +kernel
theorem dX7_init_85 : decode cX7_init 85 = .ok (.putfield 37, 3) := by decide +kernel
theorem dX7_init_88 : decode cX7_init 88 = .ok (.aload_n 0, 1) := by decide +kernel
theorem dX7_init_89 : decode cX7_init 89 = .ok (.iconst 0, 1) := by decide +kernel
theorem dX7_init_90 : decode cX7_init 90 = .ok (.putfield 40, 3) := by decide +kernel
theorem dX7_init_93 : decode cX7_init 93 = .ok (.return_, 1) := by decide +kernel
theorem dX7_in_0 : decode cX7_in 0 = .ok (.iload_n 0, 1) := by decide +kernel
theorem dX7_in_1 : decode cX7_in 1 = .ok (.iload_n 1, 1) := by decide +kernel
theorem dX7_in_2 : decode cX7_in 2 = .ok (.if_icmp .lt 12, 3) := by decide +kernel
theorem dX7_in_5 : decode cX7_in 5 = .ok (.iload_n 0, 1) := by decide +kernel
theorem dX7_in_6 : decode cX7_in 6 = .ok (.iload_n 2, 1) := by decide +kernel
theorem dX7_in_7 : decode cX7_in 7 = .ok (.if_icmp .gt 7, 3) := by decide +kernel
theorem dX7_in_10 : decode cX7_in 10 = .ok (.iconst 1, 1) := by decide +kernel
theorem dX7_in_11 : decode cX7_in 11 = .ok (.goto 4, 3) := by decide +kernel
theorem dX7_in_14 : decode cX7_in 14 = .ok (.iconst 0, 1) := by decide +kernel
theorem dX7_in_15 : decode cX7_in 15 = .ok (.ireturn, 1) := by decide +kernel
theorem dX7_copy_0 : decode cX7_copy 0 = .ok (.iconst 0, 1) := by decide +kernel
theorem dX7_copy_1 : decode cX7_copy 1 = .ok (.istore_n 3, 1) := by decide +kernel
theorem dX7_copy_2 : decode cX7_copy 2 = .ok (.iload_n 3, 1) := by decide +kernel
theorem dX7_copy_3 : decode cX7_copy 3 = .ok (.sipush 1557, 3) := by decide +kernel
theorem dX7_copy_6 : decode cX7_copy 6 = .ok (.if_icmp .ge 15, 3) := by decide +kernel
theorem dX7_copy_9 : decode cX7_copy 9 = .ok (.aload_n 1, 1) := by decide +kernel
theorem dX7_copy_10 : decode cX7_copy 10 = .ok (.iload_n 3, 1) := by decide +kernel
theorem dX7_copy_11 : decode cX7_copy 11 = .ok (.aload_n 2, 1) := by decide +kernel
theorem dX7_copy_12 : decode cX7_copy 12 = .ok (.iload_n 3, 1) := by decide +kernel
theorem dX7_copy_13 : decode cX7_copy 13 = .ok (.iaload, 1) := by decide +kernel
theorem dX7_copy_14 : decode cX7_copy 14 = .ok (.iastore, 1) := by decide +kernel
theorem dX7_copy_15 : decode cX7_copy 15 = .ok (.iinc 3 1, 3) := by decide +kernel
theorem dX7_copy_18 : decode cX7_copy 18 = .ok (.goto (-16), 3) := by decide +kernel
theorem dX7_copy_21 : decode cX7_copy 21 = .ok (.return_, 1) := by decide +kernel
theorem dX7_saveAside_0 : decode cX7_saveAside 0 = .ok (.aload_n 0, 1) := by decide +kernel
theorem dX7_saveAside_1 : decode cX7_saveAside 1 = .ok (.getfield 44, 3) := by decide +kernel
theorem dX7_saveAside_4 : decode cX7_saveAside 4 = .ok (.iconst 5, 1) := by decide +kernel
theorem dX7_saveAside_5 : decode cX7_saveAside 5 = .ok (.if_icmp .ne 44, 3) := by decide +kernel
theorem dX7_saveAside_8 : decode cX7_saveAside 8 = .ok (.iconst 0, 1) := by decide +kernel
theorem dX7_saveAside_9 : decode cX7_saveAside 9 = .ok (.istore_n 1, 1) := by decide +kernel
theorem dX7_saveAside_10 : decode cX7_saveAside 10 = .ok (.iload_n 1, 1) := by decide +kernel
theorem dX7_saveAside_11 : decode cX7_saveAside 11 = .ok (.sipush 6228, 3) := by decide +kernel
theorem dX7_saveAside_14 : decode cX7_saveAside 14 = .ok (.if_icmp .ge 25, 3) := by decide +kernel
theorem dX7_saveAside_17 : decode cX7_saveAside 17 = .ok (.aload_n 0, 1) := by decide +kernel
theorem dX7_saveAside_18 : decode cX7_saveAside 18 = .ok (.getfield 13, 3) := by decide +kernel
theorem dX7_saveAside_21 : decode cX7_saveAside 21 = .ok (.iload_n 1, 1) := by decide +kernel
theorem dX7_saveAside_22 : decode cX7_saveAside 22 = .ok (.aload_n 0, 1) := by decide +kernel
theorem dX7_saveAside_23 : decode cX7_saveAside 23 = .ok (.getfield 13, 3) := by decide +kernel
theorem dX7_saveAside_26 : decode cX7_saveAside 26 = .ok (.iload_n 1, 1) := by decide +kernel
theorem dX7_saveAside_27 : decode cX7_saveAside 27 = .ok (.sipush 1557, 3) := by decide +kernel
theorem dX7_saveAside_30 : decode cX7_saveAside 30 = .ok (.iadd, 1) := by decide +kernel
theorem dX7_saveAside_31 : decode cX7_saveAside 31 = .ok (.iaload, 1) := by decide +kernel
theorem dX7_saveAside_32 : decode cX7_saveAside 32 = .ok (.iastore, 1) := by decide +kernel
theorem dX7_saveAside_33 : decode cX7_saveAside 33 = .ok (.iinc 1 1, 3) := by decide +kernel
theorem dX7_saveAside_36 : decode cX7_saveAside 36 = .ok (.goto (-26), 3) := by decide +kernel
theorem dX7_saveAside_39 : decode cX7_saveAside 39 = .ok (.aload_n 0, 1) := by decide +kernel
theorem dX7_saveAside_40 : decode cX7_saveAside 40 = .ok (.dup, 1) := by decide +kernel
theorem dX7_saveAside_41 : decode cX7_saveAside 41 = .ok (.getfield 44, 3) := by decide +kernel
theorem dX7_saveAside_44 : decode cX7_saveAside 44 = .ok (.iconst 1, 1) := by decide +kernel
theorem dX7_saveAside_45 : decode cX7_saveAside 45 = .ok (.isub, 1) := by decide +kernel
theorem dX7_saveAside_46 : decode cX7_saveAside 46 = .ok (.putfield 44, 3) := by decide +kernel
theorem dX7_saveAside_49 : decode cX7_saveAside 49 = .ok (.iconst 0, 1) := by decide +kernel
theorem dX7_saveAside_50 : decode cX7_saveAside 50 = .ok (.istore_n 1, 1) := by decide +kernel
theorem dX7_saveAside_51 : decode cX7_saveAside 51 = .ok (.iload_n 1, 1) := by decide +kernel
theorem dX7_saveAside_52 : decode cX7_saveAside 52 = .ok (.sipush 1557, 3) := by decide +kernel
theorem dX7_saveAside_55 : decode cX7_saveAside 55 = .ok (.if_icmp .ge 30, 3) := by decide +kernel
theorem dX7_saveAside_58 : decode cX7_saveAside 58 = .ok (.aload_n 0, 1) := by decide +kernel
theorem dX7_saveAside_59 : decode cX7_saveAside 59 = .ok (.getfield 13, 3) := by decide +kernel
theorem dX7_saveAside_62 : decode cX7_saveAside 62 = .ok (.sipush 1557, 3) := by decide +kernel
theorem dX7_saveAside_65 : decode cX7_saveAside 65 = .ok (.aload_n 0, 1) := by decide +kernel
theorem dX7_saveAside_66 : decode cX7_saveAside 66 = .ok (.getfield 44, 3) := by decide +kernel
theorem dX7_saveAside_69 : decode cX7_saveAside 69 = .ok (.imul, 1) := by decide +kernel
theorem dX7_saveAside_70 : decode cX7_saveAside 70 = .ok (.iload_n 1, 1) := by decide +kernel
theorem dX7_saveAside_71 : decode cX7_saveAside 71 = .ok (.iadd, 1) := by decide +kernel
theorem dX7_saveAside_72 : decode cX7_saveAside 72 = .ok (.aload_n 0, 1) := by decide +kernel
theorem dX7_saveAside_73 : decode cX7_saveAside 73 = .ok (.getfield 16, 3) := by decide +kernel
theorem dX7_saveAside_76 : decode cX7_saveAside 76 = .ok (.iload_n 1, 1) := by decide +kernel
theorem dX7_saveAside_77 : decode cX7_saveAside 77 = .ok (.iaload, 1) := by decide +kernel
theorem dX7_saveAside_78 : decode cX7_saveAside 78 = .ok (.iastore, 1) := by decide +kernel
theorem dX7_saveAside_79 : decode cX7_saveAside 79 = .ok (.iinc 1 1, 3) := by decide +kernel
theorem dX7_saveAside_82 : decode cX7_saveAside 82 = .ok (.goto (-31), 3) := by decide +kernel
theorem dX7_saveAside_85 : decode cX7_saveAside 85 = .ok (.aload_n 0, 1) := by decide +kernel
theorem dX7_saveAside_86 : decode cX7_saveAside 86 = .ok (.dup, 1) := by decide +kernel
theorem dX7_saveAside_87 : decode cX7_saveAside 87 = .ok (.getfield 44, 3) := by decide +kernel
theorem dX7_saveAside_90 : decode cX7_saveAside 90 = .ok (.iconst 1, 1) := by decide +kernel
theorem dX7_saveAside_91 : decode cX7_saveAside 91 = .ok (.iadd, 1) := by decide +kernel
theorem dX7_saveAside_92 : decode cX7_saveAside 92 = .ok (.putfield 44, 3) := by decide +kernel
theorem dX7_saveAside_95 : decode cX7_saveAside 95 = .ok (.aload_n 0, 1) := by decide +kernel
theorem dX7_saveAside_96 : decode cX7_saveAside 96 = .ok (.iconst 0, 1) := by decide +kernel
theorem dX7_saveAside_97 : decode cX7_saveAside 97 = .ok (.putfield 47, 3) := by decide +kernel
theorem dX7_saveAside_100 : decode cX7_saveAside 100 = .ok (.return_, 1) := by decide +kernel
theorem dX7_act_0 : decode cX7_act 0 = .ok (.aload_n 0, 1) := by decide +kernel
theorem dX7_act_1 : decode cX7_act 1 = .ok (.aload_n 0, 1) := by decide +kernel
theorem dX7_act_2 : decode cX7_act 2 = .ok (.getfield 16, 3) := by decide +kernel
theorem dX7_act_5 : decode cX7_act 5 = .ok (.aload_n 0, 1) := by decide +kernel
theorem dX7_act_6 : decode cX7_act 6 = .ok (.getfield 7, 3) := by decide +kernel
theorem dX7_act_9 : decode cX7_act 9 = .ok (.invokevirtual 51, 3) := by decide +kernel
theorem dX7_act_12 : decode cX7_act 12 = .ok (.aload_n 0, 1) := by decide +kernel
theorem dX7_act_13 : decode cX7_act 13 = .ok (.invokevirtual 55, 3) := by decide +kernel
theorem dX7_act_16 : decode cX7_act 16 = .ok (.return_, 1) := by decide +kernel
theorem dX7_isNode_0 : decode cX7_isNode 0 = .ok (.iload_n 1, 1) := by decide +kernel
theorem dX7_isNode_1 : decode cX7_isNode 1 = .ok (.iconst 0, 1) := by decide +kernel
theorem dX7_isNode_2 : decode cX7_isNode 2 = .ok (.aload_n 0, 1) := by decide +kernel
theorem dX7_isNode_3 : decode cX7_isNode 3 = .ok (.getfield 7, 3) := by decide +kernel
theorem dX7_isNode_6 : decode cX7_isNode 6 = .ok (.iconst 0, 1) := by decide +kernel
theorem dX7_isNode_7 : decode cX7_isNode 7 = .ok (.iaload, 1) := by decide +kernel
theorem dX7_isNode_8 : decode cX7_isNode 8 = .ok (.iconst 1, 1) := by decide +kernel
theorem dX7_isNode_9 : decode cX7_isNode 9 = .ok (.isub, 1) := by decide +kernel
theorem dX7_isNode_10 : decode cX7_isNode 10 = .ok (.invokestatic 58, 3) := by decide +kernel
theorem dX7_isNode_13 : decode cX7_isNode 13 = .ok (.ireturn, 1) := by decide +kernel
theorem dX7_isLink_0 : decode cX7_isLink 0 = .ok (.iload_n 1, 1) := by decide +kernel
theorem dX7_isLink_1 : decode cX7_isLink 1 = .ok (.iconst 0, 1) := by decide +kernel
theorem dX7_isLink_2 : decode cX7_isLink 2 = .ok (.aload_n 0, 1) := by decide +kernel
theorem dX7_isLink_3 : decode cX7_isLink 3 = .ok (.getfield 7, 3) := by decide +kernel
theorem dX7_isLink_6 : decode cX7_isLink 6 = .ok (.iconst 1, 1) := by decide +kernel
theorem dX7_isLink_7 : decode cX7_isLink 7 = .ok (.iaload, 1) := by decide +kernel
theorem dX7_isLink_8 : decode cX7_isLink 8 = .ok (.iconst 1, 1) := by decide +kernel
theorem dX7_isLink_9 : decode cX7_isLink 9 = .ok (.isub, 1) := by decide +kernel
theorem dX7_isLink_10 : decode cX7_isLink 10 = .ok (.invokestatic 58, 3) := by decide +kernel
theorem dX7_isLink_13 : decode cX7_isLink 13 = .ok (.ireturn, 1) := by decide +kernel
theorem dX7_isTunnel_0 : decode cX7_isTunnel 0 = .ok (.iload_n 1, 1) := by decide +kernel
theorem dX7_isTunnel_1 : decode cX7_isTunnel 1 = .ok (.iconst 0, 1) := by decide +kernel
theorem dX7_isTunnel_2 : decode cX7_isTunnel 2 = .ok (.aload_n 0, 1) := by decide +kernel
theorem dX7_isTunnel_3 : decode cX7_isTunnel 3 = .ok (.getfield 7, 3) := by decide +kernel
theorem dX7_isTunnel_6 : decode cX7_isTunnel 6 = .ok (.iconst 2, 1) := by decide +kernel
theorem dX7_isTunnel_7 : decode cX7_isTunnel 7 = .ok (.iaload, 1) := by decide +kernel
theorem dX7_isTunnel_8 : decode cX7_isTunnel 8 = .ok (.iconst 1, 1) := by decide +kernel
theorem dX7_isTunnel_9 : decode cX7_isTunnel 9 = .ok (.isub, 1) := by decide +kernel
theorem dX7_isTunnel_10 : decode cX7_isTunnel 10 = .ok (.invokestatic 58, 3) := by decide +kernel
theorem dX7_isTunnel_13 : decode cX7_isTunnel 13 = .ok (.ireturn, 1) := by decide +kernel
theorem dX7_isArea_0 : decode cX7_isArea 0 = .ok (.iload_n 0, 1) := by decide +kernel
theorem dX7_isArea_1 : decode cX7_isArea 1 = .ok (.iconst 0, 1) := by decide +kernel
theorem dX7_isArea_2 : decode cX7_isArea 2 = .ok (.iconst 3, 1) := by decide +kernel
theorem dX7_isArea_3 : decode cX7_isArea 3 = .ok (.invokestatic 58, 3) := by decide +kernel
theorem dX7_isArea_6 : decode cX7_isArea 6 = .ok (.ireturn, 1) := by decide +kernel
theorem dX7_area_0 : decode cX7_area 0 = .ok (.aload_n 0, 1) := by decide +kernel
theorem dX7_area_1 : decode cX7_area 1 = .ok (.getfield 7, 3) := by decide +kernel
theorem dX7_area_4 : decode cX7_area 4 = .ok (.iconst 4, 1) := by decide +kernel
theorem dX7_area_5 : decode cX7_area 5 = .ok (.iload_n 1, 1) := by decide +kernel
theorem dX7_area_6 : decode cX7_area 6 = .ok (.iadd, 1) := by decide +kernel
theorem dX7_area_7 : decode cX7_area 7 = .ok (.iaload, 1) := by decide +kernel
theorem dX7_area_8 : decode cX7_area 8 = .ok (.ireturn, 1) := by decide +kernel
theorem dX7_linkPart_0 : decode cX7_linkPart 0 = .ok (.aload_n 0, 1) := by decide +kernel
theorem dX7_linkPart_1 : decode cX7_linkPart 1 = .ok (.getfield 7, 3) := by decide +kernel
theorem dX7_linkPart_4 : decode cX7_linkPart 4 = .ok (.bipush 46, 2) := by decide +kernel
theorem dX7_linkPart_6 : decode cX7_linkPart 6 = .ok (.bipush 6, 2) := by decide +kernel
theorem dX7_linkPart_8 : decode cX7_linkPart 8 = .ok (.iload_n 1, 1) := by decide +kernel
theorem dX7_linkPart_9 : decode cX7_linkPart 9 = .ok (.imul, 1) := by decide +kernel
theorem dX7_linkPart_10 : decode cX7_linkPart 10 = .ok (.iadd, 1) := by decide +kernel
theorem dX7_linkPart_11 : decode cX7_linkPart 11 = .ok (.iload_n 2, 1) := by decide +kernel
theorem dX7_linkPart_12 : decode cX7_linkPart 12 = .ok (.iadd, 1) := by decide +kernel
theorem dX7_linkPart_13 : decode cX7_linkPart 13 = .ok (.iaload, 1) := by decide +kernel
theorem dX7_linkPart_14 : decode cX7_linkPart 14 = .ok (.ireturn, 1) := by decide +kernel
theorem dX7_tunnelPart_0 : decode cX7_tunnelPart 0 = .ok (.aload_n 0, 1) := by decide +kernel
theorem dX7_tunnelPart_1 : decode cX7_tunnelPart 1 = .ok (.getfield 7, 3) := by decide +kernel
theorem dX7_tunnelPart_4 : decode cX7_tunnelPart 4 = .ok (.sipush 142, 3) := by decide +kernel
theorem dX7_tunnelPart_7 : decode cX7_tunnelPart 7 = .ok (.iconst 5, 1) := by decide +kernel
theorem dX7_tunnelPart_8 : decode cX7_tunnelPart 8 = .ok (.iload_n 1, 1) := by decide +kernel
theorem dX7_tunnelPart_9 : decode cX7_tunnelPart 9 = .ok (.imul, 1) := by decide +kernel
theorem dX7_tunnelPart_10 : decode cX7_tunnelPart 10 = .ok (.iadd, 1) := by decide +kernel
theorem dX7_tunnelPart_11 : decode cX7_tunnelPart 11 = .ok (.iload_n 2, 1) := by decide +kernel
theorem dX7_tunnelPart_12 : decode cX7_tunnelPart 12 = .ok (.iadd, 1) := by decide +kernel
theorem dX7_tunnelPart_13 : decode cX7_tunnelPart 13 = .ok (.iaload, 1) := by decide +kernel
theorem dX7_tunnelPart_14 : decode cX7_tunnelPart 14 = .ok (.ireturn, 1) := by decide +kernel
theorem dX7_isEnd_0 : decode cX7_isEnd 0 = .ok (.aload_n 0, 1) := by decide +kernel
theorem dX7_isEnd_1 : decode cX7_isEnd 1 = .ok (.iload_n 2, 1) := by decide +kernel
theorem dX7_isEnd_2 : decode cX7_isEnd 2 = .ok (.iconst 0, 1) := by decide +kernel
theorem dX7_isEnd_3 : decode cX7_isEnd 3 = .ok (.invokevirtual 62, 3) := by decide +kernel
theorem dX7_isEnd_6 : decode cX7_isEnd 6 = .ok (.iload_n 1, 1) := by decide +kernel
theorem dX7_isEnd_7 : decode cX7_isEnd 7 = .ok (.if_icmp .eq 13, 3) := by decide +kernel
theorem dX7_isEnd_10 : decode cX7_isEnd 10 = .ok (.aload_n 0, 1) := by decide +kernel
theorem dX7_isEnd_11 : decode cX7_isEnd 11 = .ok (.iload_n 2, 1) := by decide +kernel
theorem dX7_isEnd_12 : decode cX7_isEnd 12 = .ok (.iconst 1, 1) := by decide +kernel
theorem dX7_isEnd_13 : decode cX7_isEnd 13 = .ok (.invokevirtual 62, 3) := by decide +kernel
theorem dX7_isEnd_16 : decode cX7_isEnd 16 = .ok (.iload_n 1, 1) := by decide +kernel
theorem dX7_isEnd_17 : decode cX7_isEnd 17 = .ok (.if_icmp .ne 7, 3) := by decide +kernel
theorem dX7_isEnd_20 : decode cX7_isEnd 20 = .ok (.iconst 1, 1) := by decide +kernel
theorem dX7_isEnd_21 : decode cX7_isEnd 21 = .ok (.goto 4, 3) := by decide +kernel
theorem dX7_isEnd_24 : decode cX7_isEnd 24 = .ok (.iconst 0, 1) := by decide +kernel
theorem dX7_isEnd_25 : decode cX7_isEnd 25 = .ok (.ireturn, 1) := by decide +kernel
theorem dX7_owner_0 : decode cX7_owner 0 = .ok (.aload_n 0, 1) := by decide +kernel
theorem dX7_owner_1 : decode cX7_owner 1 = .ok (.aload_n 0, 1) := by decide +kernel
theorem dX7_owner_2 : decode cX7_owner 2 = .ok (.iload_n 1, 1) := by decide +kernel
theorem dX7_owner_3 : decode cX7_owner 3 = .ok (.iconst 0, 1) := by decide +kernel
theorem dX7_owner_4 : decode cX7_owner 4 = .ok (.invokevirtual 62, 3) := by decide +kernel
theorem dX7_owner_7 : decode cX7_owner 7 = .ok (.invokevirtual 66, 3) := by decide +kernel
theorem dX7_owner_10 : decode cX7_owner 10 = .ok (.ireturn, 1) := by decide +kernel
theorem dX7_at_0 : decode cX7_at 0 = .ok (.sipush 157, 3) := by decide +kernel
theorem dX7_at_3 : decode cX7_at 3 = .ok (.iconst 4, 1) := by decide +kernel
theorem dX7_at_4 : decode cX7_at 4 = .ok (.bipush 35, 2) := by decide +kernel
theorem dX7_at_6 : decode cX7_at 6 = .ok (.iload_n 0, 1) := by decide +kernel
theorem dX7_at_7 : decode cX7_at 7 = .ok (.imul, 1) := by decide +kernel
theorem dX7_at_8 : decode cX7_at 8 = .ok (.iload_n 1, 1) := by decide +kernel
theorem dX7_at_9 : decode cX7_at 9 = .ok (.iadd, 1) := by decide +kernel
theorem dX7_at_10 : decode cX7_at 10 = .ok (.imul, 1) := by decide +kernel
theorem dX7_at_11 : decode cX7_at 11 = .ok (.iadd, 1) := by decide +kernel
theorem dX7_at_12 : decode cX7_at 12 = .ok (.ireturn, 1) := by decide +kernel
theorem dX7_fact_0 : decode cX7_fact 0 = .ok (.aload_n 0, 1) := by decide +kernel
theorem dX7_fact_1 : decode cX7_fact 1 = .ok (.getfield 7, 3) := by decide +kernel
theorem dX7_fact_4 : decode cX7_fact 4 = .ok (.iload_n 1, 1) := by decide +kernel
theorem dX7_fact_5 : decode cX7_fact 5 = .ok (.iload_n 2, 1) := by decide +kernel
theorem dX7_fact_6 : decode cX7_fact 6 = .ok (.invokestatic 70, 3) := by decide +kernel
theorem dX7_fact_9 : decode cX7_fact 9 = .ok (.iload_n 3, 1) := by decide +kernel
theorem dX7_fact_10 : decode cX7_fact 10 = .ok (.iadd, 1) := by decide +kernel
theorem dX7_fact_11 : decode cX7_fact 11 = .ok (.iaload, 1) := by decide +kernel
theorem dX7_fact_12 : decode cX7_fact 12 = .ok (.ireturn, 1) := by decide +kernel
theorem dX7_isSecret_0 : decode cX7_isSecret 0 = .ok (.iload_n 1, 1) := by decide +kernel
theorem dX7_isSecret_1 : decode cX7_isSecret 1 = .ok (.bipush 16, 2) := by decide +kernel
theorem dX7_isSecret_3 : decode cX7_isSecret 3 = .ok (.bipush 31, 2) := by decide +kernel
theorem dX7_isSecret_5 : decode cX7_isSecret 5 = .ok (.invokestatic 58, 3) := by decide +kernel
theorem dX7_isSecret_8 : decode cX7_isSecret 8 = .ok (.ifCond .eq 20, 3) := by decide +kernel
theorem dX7_isSecret_11 : decode cX7_isSecret 11 = .ok (.aload_n 0, 1) := by decide +kernel
theorem dX7_isSecret_12 : decode cX7_isSecret 12 = .ok (.iload_n 1, 1) := by decide +kernel
theorem dX7_isSecret_13 : decode cX7_isSecret 13 = .ok (.bipush 16, 2) := by decide +kernel
theorem dX7_isSecret_15 : decode cX7_isSecret 15 = .ok (.isub, 1) := by decide +kernel
theorem dX7_isSecret_16 : decode cX7_isSecret 16 = .ok (.iconst 4, 1) := by decide +kernel
theorem dX7_isSecret_17 : decode cX7_isSecret 17 = .ok (.invokevirtual 62, 3) := by decide +kernel
theorem dX7_isSecret_20 : decode cX7_isSecret 20 = .ok (.iconst 1, 1) := by decide +kernel
theorem dX7_isSecret_21 : decode cX7_isSecret 21 = .ok (.if_icmp .ne 7, 3) := by decide +kernel
theorem dX7_isSecret_24 : decode cX7_isSecret 24 = .ok (.iconst 1, 1) := by decide +kernel
theorem dX7_isSecret_25 : decode cX7_isSecret 25 = .ok (.goto 4, 3) := by decide +kernel
theorem dX7_isSecret_28 : decode cX7_isSecret 28 = .ok (.iconst 0, 1) := by decide +kernel
theorem dX7_isSecret_29 : decode cX7_isSecret 29 = .ok (.ireturn, 1) := by decide +kernel
theorem dX7_hasGrant_0 : decode cX7_hasGrant 0 = .ok (.aload_n 0, 1) := by decide +kernel
theorem dX7_hasGrant_1 : decode cX7_hasGrant 1 = .ok (.iload_n 1, 1) := by decide +kernel
theorem dX7_hasGrant_2 : decode cX7_hasGrant 2 = .ok (.iconst 4, 1) := by decide +kernel
theorem dX7_hasGrant_3 : decode cX7_hasGrant 3 = .ok (.iload_n 2, 1) := by decide +kernel
theorem dX7_hasGrant_4 : decode cX7_hasGrant 4 = .ok (.imul, 1) := by decide +kernel
theorem dX7_hasGrant_5 : decode cX7_hasGrant 5 = .ok (.iload_n 3, 1) := by decide +kernel
theorem dX7_hasGrant_6 : decode cX7_hasGrant 6 = .ok (.iadd, 1) := by decide +kernel
theorem dX7_hasGrant_7 : decode cX7_hasGrant 7 = .ok (.iconst 0, 1) := by decide +kernel
theorem dX7_hasGrant_8 : decode cX7_hasGrant 8 = .ok (.invokevirtual 73, 3) := by decide +kernel
theorem dX7_hasGrant_11 : decode cX7_hasGrant 11 = .ok (.ifCond .le 22, 3) := by decide +kernel
theorem dX7_hasGrant_14 : decode cX7_hasGrant 14 = .ok (.aload_n 0, 1) := by decide +kernel
theorem dX7_hasGrant_15 : decode cX7_hasGrant 15 = .ok (.iload_n 1, 1) := by decide +kernel
theorem dX7_hasGrant_16 : decode cX7_hasGrant 16 = .ok (.iconst 4, 1) := by decide +kernel
theorem dX7_hasGrant_17 : decode cX7_hasGrant 17 = .ok (.iload_n 2, 1) := by decide +kernel
theorem dX7_hasGrant_18 : decode cX7_hasGrant 18 = .ok (.imul, 1) := by decide +kernel
theorem dX7_hasGrant_19 : decode cX7_hasGrant 19 = .ok (.iload_n 3, 1) := by decide +kernel
theorem dX7_hasGrant_20 : decode cX7_hasGrant 20 = .ok (.iadd, 1) := by decide +kernel
theorem dX7_hasGrant_21 : decode cX7_hasGrant 21 = .ok (.iconst 1, 1) := by decide +kernel
theorem dX7_hasGrant_22 : decode cX7_hasGrant 22 = .ok (.invokevirtual 73, 3) := by decide +kernel
theorem dX7_hasGrant_25 : decode cX7_hasGrant 25 = .ok (.iconst 1, 1) := by decide +kernel
theorem dX7_hasGrant_26 : decode cX7_hasGrant 26 = .ok (.if_icmp .ne 7, 3) := by decide +kernel
theorem dX7_hasGrant_29 : decode cX7_hasGrant 29 = .ok (.iconst 1, 1) := by decide +kernel
theorem dX7_hasGrant_30 : decode cX7_hasGrant 30 = .ok (.goto 4, 3) := by decide +kernel
theorem dX7_hasGrant_33 : decode cX7_hasGrant 33 = .ok (.iconst 0, 1) := by decide +kernel
theorem dX7_hasGrant_34 : decode cX7_hasGrant 34 = .ok (.ireturn, 1) := by decide +kernel
theorem dX7_mayKnow_0 : decode cX7_mayKnow 0 = .ok (.aload_n 0, 1) := by decide +kernel
theorem dX7_mayKnow_1 : decode cX7_mayKnow 1 = .ok (.iload_n 2, 1) := by decide +kernel
theorem dX7_mayKnow_2 : decode cX7_mayKnow 2 = .ok (.invokevirtual 77, 3) := by decide +kernel
theorem dX7_mayKnow_5 : decode cX7_mayKnow 5 = .ok (.ifCond .ne 5, 3) := by decide +kernel
theorem dX7_mayKnow_8 : decode cX7_mayKnow 8 = .ok (.iconst 1, 1) := by decide +kernel
theorem dX7_mayKnow_9 : decode cX7_mayKnow 9 = .ok (.ireturn, 1) := by decide +kernel
theorem dX7_mayKnow_10 : decode cX7_mayKnow 10 = .ok (.aload_n 0, 1) := by decide +kernel
theorem dX7_mayKnow_11 : decode cX7_mayKnow 11 = .ok (.iload_n 2, 1) := by decide +kernel
theorem dX7_mayKnow_12 : decode cX7_mayKnow 12 = .ok (.bipush 16, 2) := by decide +kernel
theorem dX7_mayKnow_14 : decode cX7_mayKnow 14 = .ok (.isub, 1) := by decide +kernel
theorem dX7_mayKnow_15 : decode cX7_mayKnow 15 = .ok (.invokevirtual 81, 3) := by decide +kernel
theorem dX7_mayKnow_18 : decode cX7_mayKnow 18 = .ok (.istore_n 3, 1) := by decide +kernel
theorem dX7_mayKnow_19 : decode cX7_mayKnow 19 = .ok (.aload_n 0, 1) := by decide +kernel
theorem dX7_mayKnow_20 : decode cX7_mayKnow 20 = .ok (.iload_n 1, 1) := by decide +kernel
theorem dX7_mayKnow_21 : decode cX7_mayKnow 21 = .ok (.iload_n 2, 1) := by decide +kernel
theorem dX7_mayKnow_22 : decode cX7_mayKnow 22 = .ok (.bipush 16, 2) := by decide +kernel
theorem dX7_mayKnow_24 : decode cX7_mayKnow 24 = .ok (.isub, 1) := by decide +kernel
theorem dX7_mayKnow_25 : decode cX7_mayKnow 25 = .ok (.invokevirtual 84, 3) := by decide +kernel
theorem dX7_mayKnow_28 : decode cX7_mayKnow 28 = .ok (.ifCond .ne 26, 3) := by decide +kernel
theorem dX7_mayKnow_31 : decode cX7_mayKnow 31 = .ok (.aload_n 0, 1) := by decide +kernel
theorem dX7_mayKnow_32 : decode cX7_mayKnow 32 = .ok (.iload_n 1, 1) := by decide +kernel
theorem dX7_mayKnow_33 : decode cX7_mayKnow 33 = .ok (.invokevirtual 66, 3) := by decide +kernel
theorem dX7_mayKnow_36 : decode cX7_mayKnow 36 = .ok (.iload_n 3, 1) := by decide +kernel
theorem dX7_mayKnow_37 : decode cX7_mayKnow 37 = .ok (.if_icmp .eq 17, 3) := by decide +kernel
theorem dX7_mayKnow_40 : decode cX7_mayKnow 40 = .ok (.aload_n 0, 1) := by decide +kernel
theorem dX7_mayKnow_41 : decode cX7_mayKnow 41 = .ok (.iload_n 1, 1) := by decide +kernel
theorem dX7_mayKnow_42 : decode cX7_mayKnow 42 = .ok (.iload_n 3, 1) := by decide +kernel
theorem dX7_mayKnow_43 : decode cX7_mayKnow 43 = .ok (.aload_n 0, 1) := by decide +kernel
theorem dX7_mayKnow_44 : decode cX7_mayKnow 44 = .ok (.iload_n 1, 1) := by decide +kernel
theorem dX7_mayKnow_45 : decode cX7_mayKnow 45 = .ok (.invokevirtual 66, 3) := by decide +kernel
theorem dX7_mayKnow_48 : decode cX7_mayKnow 48 = .ok (.invokevirtual 88, 3) := by decide +kernel
theorem dX7_mayKnow_51 : decode cX7_mayKnow 51 = .ok (.ifCond .eq 7, 3) := by decide +kernel
theorem dX7_mayKnow_54 : decode cX7_mayKnow 54 = .ok (.iconst 1, 1) := by decide +kernel
theorem dX7_mayKnow_55 : decode cX7_mayKnow 55 = .ok (.goto 4, 3) := by decide +kernel
theorem dX7_mayKnow_58 : decode cX7_mayKnow 58 = .ok (.iconst 0, 1) := by decide +kernel
theorem dX7_mayKnow_59 : decode cX7_mayKnow 59 = .ok (.ireturn, 1) := by decide +kernel
theorem dX7_learn_0 : decode cX7_learn 0 = .ok (.aload_n 0, 1) := by decide +kernel
theorem dX7_learn_1 : decode cX7_learn 1 = .ok (.iload_n 1, 1) := by decide +kernel
theorem dX7_learn_2 : decode cX7_learn 2 = .ok (.iload_n 2, 1) := by decide +kernel
theorem dX7_learn_3 : decode cX7_learn 3 = .ok (.invokevirtual 91, 3) := by decide +kernel
theorem dX7_learn_6 : decode cX7_learn 6 = .ok (.ifCond .eq 14, 3) := by decide +kernel
theorem dX7_learn_9 : decode cX7_learn 9 = .ok (.aload_n 0, 1) := by decide +kernel
theorem dX7_learn_10 : decode cX7_learn 10 = .ok (.iload_n 1, 1) := by decide +kernel
theorem dX7_learn_11 : decode cX7_learn 11 = .ok (.iload_n 2, 1) := by decide +kernel
theorem dX7_learn_12 : decode cX7_learn 12 = .ok (.iconst 0, 1) := by decide +kernel
theorem dX7_learn_13 : decode cX7_learn 13 = .ok (.invokevirtual 73, 3) := by decide +kernel
theorem dX7_learn_16 : decode cX7_learn 16 = .ok (.iload_n 3, 1) := by decide +kernel
theorem dX7_learn_17 : decode cX7_learn 17 = .ok (.if_icmp .lt 4, 3) := by decide +kernel
theorem dX7_learn_20 : decode cX7_learn 20 = .ok (.return_, 1) := by decide +kernel
theorem dX7_learn_21 : decode cX7_learn 21 = .ok (.iload_n 1, 1) := by decide +kernel
theorem dX7_learn_22 : decode cX7_learn 22 = .ok (.iload_n 2, 1) := by decide +kernel
theorem dX7_learn_23 : decode cX7_learn 23 = .ok (.invokestatic 70, 3) := by decide +kernel
theorem dX7_learn_26 : decode cX7_learn 26 = .ok (.istore 6, 2) := by decide +kernel
theorem dX7_learn_28 : decode cX7_learn 28 = .ok (.aload_n 0, 1) := by decide +kernel
theorem dX7_learn_29 : decode cX7_learn 29 = .ok (.getfield 7, 3) := by decide +kernel
theorem dX7_learn_32 : decode cX7_learn 32 = .ok (.iload 6, 2) := by decide +kernel
theorem dX7_learn_34 : decode cX7_learn 34 = .ok (.iconst 0, 1) := by decide +kernel
theorem dX7_learn_35 : decode cX7_learn 35 = .ok (.iadd, 1) := by decide +kernel
theorem dX7_learn_36 : decode cX7_learn 36 = .ok (.iload_n 3, 1) := by decide +kernel
theorem dX7_learn_37 : decode cX7_learn 37 = .ok (.iastore, 1) := by decide +kernel
theorem dX7_learn_38 : decode cX7_learn 38 = .ok (.aload_n 0, 1) := by decide +kernel
theorem dX7_learn_39 : decode cX7_learn 39 = .ok (.getfield 7, 3) := by decide +kernel
theorem dX7_learn_42 : decode cX7_learn 42 = .ok (.iload 6, 2) := by decide +kernel
theorem dX7_learn_44 : decode cX7_learn 44 = .ok (.iconst 1, 1) := by decide +kernel
theorem dX7_learn_45 : decode cX7_learn 45 = .ok (.iadd, 1) := by decide +kernel
theorem dX7_learn_46 : decode cX7_learn 46 = .ok (.iload 4, 2) := by decide +kernel
theorem dX7_learn_48 : decode cX7_learn 48 = .ok (.iastore, 1) := by decide +kernel
theorem dX7_learn_49 : decode cX7_learn 49 = .ok (.aload_n 0, 1) := by decide +kernel
theorem dX7_learn_50 : decode cX7_learn 50 = .ok (.getfield 7, 3) := by decide +kernel
theorem dX7_learn_53 : decode cX7_learn 53 = .ok (.iload 6, 2) := by decide +kernel
theorem dX7_learn_55 : decode cX7_learn 55 = .ok (.iconst 2, 1) := by decide +kernel
theorem dX7_learn_56 : decode cX7_learn 56 = .ok (.iadd, 1) := by decide +kernel
theorem dX7_learn_57 : decode cX7_learn 57 = .ok (.iload 5, 2) := by decide +kernel
theorem dX7_learn_59 : decode cX7_learn 59 = .ok (.iastore, 1) := by decide +kernel
theorem dX7_learn_60 : decode cX7_learn 60 = .ok (.aload_n 0, 1) := by decide +kernel
theorem dX7_learn_61 : decode cX7_learn 61 = .ok (.getfield 7, 3) := by decide +kernel
theorem dX7_learn_64 : decode cX7_learn 64 = .ok (.iload 6, 2) := by decide +kernel
theorem dX7_learn_66 : decode cX7_learn 66 = .ok (.iconst 3, 1) := by decide +kernel
theorem dX7_learn_67 : decode cX7_learn 67 = .ok (.iadd, 1) := by decide +kernel
theorem dX7_learn_68 : decode cX7_learn 68 = .ok (.iconst 1, 1) := by decide +kernel
theorem dX7_learn_69 : decode cX7_learn 69 = .ok (.iastore, 1) := by decide +kernel
theorem dX7_learn_70 : decode cX7_learn 70 = .ok (.iload_n 2, 1) := by decide +kernel
theorem dX7_learn_71 : decode cX7_learn 71 = .ok (.bipush 16, 2) := by decide +kernel
theorem dX7_learn_73 : decode cX7_learn 73 = .ok (.if_icmp .lt 4, 3) := by decide +kernel
theorem dX7_learn_76 : decode cX7_learn 76 = .ok (.return_, 1) := by decide +kernel
theorem dX7_learn_77 : decode cX7_learn 77 = .ok (.iload_n 2, 1) := by decide +kernel
theorem dX7_learn_78 : decode cX7_learn 78 = .ok (.iconst 4, 1) := by decide +kernel
theorem dX7_learn_79 : decode cX7_learn 79 = .ok (.idiv, 1) := by decide +kernel
theorem dX7_learn_80 : decode cX7_learn 80 = .ok (.istore 7, 2) := by decide +kernel
theorem dX7_learn_82 : decode cX7_learn 82 = .ok (.iconst 0, 1) := by decide +kernel
theorem dX7_learn_83 : decode cX7_learn 83 = .ok (.istore 8, 2) := by decide +kernel
theorem dX7_learn_85 : decode cX7_learn 85 = .ok (.iload 8, 2) := by decide +kernel
theorem dX7_learn_87 : decode cX7_learn 87 = .ok (.aload_n 0, 1) := by decide +kernel
theorem dX7_learn_88 : decode cX7_learn 88 = .ok (.getfield 7, 3) := by decide +kernel
theorem dX7_learn_91 : decode cX7_learn 91 = .ok (.iconst 1, 1) := by decide +kernel
theorem dX7_learn_92 : decode cX7_learn 92 = .ok (.iaload, 1) := by decide +kernel
theorem dX7_learn_93 : decode cX7_learn 93 = .ok (.if_icmp .ge 134, 3) := by decide +kernel
theorem dX7_learn_96 : decode cX7_learn 96 = .ok (.iload_n 1, 1) := by decide +kernel
theorem dX7_learn_97 : decode cX7_learn 97 = .ok (.bipush 16, 2) := by decide +kernel
theorem dX7_learn_99 : decode cX7_learn 99 = .ok (.iload 8, 2) := by decide +kernel
theorem dX7_learn_101 : decode cX7_learn 101 = .ok (.iadd, 1) := by decide +kernel
theorem dX7_learn_102 : decode cX7_learn 102 = .ok (.invokestatic 70, 3) := by decide +kernel
theorem dX7_learn_105 : decode cX7_learn 105 = .ok (.istore 9, 2) := by decide +kernel
theorem dX7_learn_107 : decode cX7_learn 107 = .ok (.aload_n 0, 1) := by decide +kernel
theorem dX7_learn_108 : decode cX7_learn 108 = .ok (.iload 8, 2) := by decide +kernel
theorem dX7_learn_110 : decode cX7_learn 110 = .ok (.iconst 4, 1) := by decide +kernel
theorem dX7_learn_111 : decode cX7_learn 111 = .ok (.invokevirtual 62, 3) := by decide +kernel
theorem dX7_learn_114 : decode cX7_learn 114 = .ok (.iconst 1, 1) := by decide +kernel
theorem dX7_learn_115 : decode cX7_learn 115 = .ok (.if_icmp .ne 106, 3) := by decide +kernel
theorem dX7_learn_118 : decode cX7_learn 118 = .ok (.aload_n 0, 1) := by decide +kernel
theorem dX7_learn_119 : decode cX7_learn 119 = .ok (.iload 8, 2) := by decide +kernel
theorem dX7_learn_121 : decode cX7_learn 121 = .ok (.invokevirtual 81, 3) := by decide +kernel
theorem dX7_learn_124 : decode cX7_learn 124 = .ok (.iload 7, 2) := by decide +kernel
theorem dX7_learn_126 : decode cX7_learn 126 = .ok (.if_icmp .ne 95, 3) := by decide +kernel
theorem dX7_learn_129 : decode cX7_learn 129 = .ok (.aload_n 0, 1) := by decide +kernel
theorem dX7_learn_130 : decode cX7_learn 130 = .ok (.getfield 7, 3) := by decide +kernel
theorem dX7_learn_133 : decode cX7_learn 133 = .ok (.iload 9, 2) := by decide +kernel
theorem dX7_learn_135 : decode cX7_learn 135 = .ok (.iconst 0, 1) := by decide +kernel
theorem dX7_learn_136 : decode cX7_learn 136 = .ok (.iadd, 1) := by decide +kernel
theorem dX7_learn_137 : decode cX7_learn 137 = .ok (.iaload, 1) := by decide +kernel
theorem dX7_learn_138 : decode cX7_learn 138 = .ok (.ifCond .le 83, 3) := by decide +kernel
theorem dX7_learn_141 : decode cX7_learn 141 = .ok (.aload_n 0, 1) := by decide +kernel
theorem dX7_learn_142 : decode cX7_learn 142 = .ok (.getfield 7, 3) := by decide +kernel
theorem dX7_learn_145 : decode cX7_learn 145 = .ok (.iload 9, 2) := by decide +kernel
theorem dX7_learn_147 : decode cX7_learn 147 = .ok (.iconst 3, 1) := by decide +kernel
theorem dX7_learn_148 : decode cX7_learn 148 = .ok (.iadd, 1) := by decide +kernel
theorem dX7_learn_149 : decode cX7_learn 149 = .ok (.iload 4, 2) := by decide +kernel
theorem dX7_learn_151 : decode cX7_learn 151 = .ok (.iconst 1, 1) := by decide +kernel
theorem dX7_learn_152 : decode cX7_learn 152 = .ok (.if_icmp .ne 7, 3) := by decide +kernel
theorem dX7_learn_155 : decode cX7_learn 155 = .ok (.iconst 1, 1) := by decide +kernel
theorem dX7_learn_156 : decode cX7_learn 156 = .ok (.goto 12, 3) := by decide +kernel
theorem dX7_learn_159 : decode cX7_learn 159 = .ok (.aload_n 0, 1) := by decide +kernel
theorem dX7_learn_160 : decode cX7_learn 160 = .ok (.getfield 7, 3) := by decide +kernel
theorem dX7_learn_163 : decode cX7_learn 163 = .ok (.iload 9, 2) := by decide +kernel
theorem dX7_learn_165 : decode cX7_learn 165 = .ok (.iconst 3, 1) := by decide +kernel
theorem dX7_learn_166 : decode cX7_learn 166 = .ok (.iadd, 1) := by decide +kernel
theorem dX7_learn_167 : decode cX7_learn 167 = .ok (.iaload, 1) := by decide +kernel
theorem dX7_learn_168 : decode cX7_learn 168 = .ok (.iastore, 1) := by decide +kernel
theorem dX7_learn_169 : decode cX7_learn 169 = .ok (.iload 4, 2) := by decide +kernel
theorem dX7_learn_171 : decode cX7_learn 171 = .ok (.ifCond .ne 50, 3) := by decide +kernel
theorem dX7_learn_174 : decode cX7_learn 174 = .ok (.iload_n 2, 1) := by decide +kernel
theorem dX7_learn_175 : decode cX7_learn 175 = .ok (.iconst 4, 1) := by decide +kernel
theorem dX7_learn_176 : decode cX7_learn 176 = .ok (.irem, 1) := by decide +kernel
theorem dX7_learn_177 : decode cX7_learn 177 = .ok (.aload_n 0, 1) := by decide +kernel
theorem dX7_learn_178 : decode cX7_learn 178 = .ok (.iload_n 1, 1) := by decide +kernel
theorem dX7_learn_179 : decode cX7_learn 179 = .ok (.invokevirtual 66, 3) := by decide +kernel
theorem dX7_learn_182 : decode cX7_learn 182 = .ok (.if_icmp .ne 39, 3) := by decide +kernel
theorem dX7_learn_185 : decode cX7_learn 185 = .ok (.aload_n 0, 1) := by decide +kernel
theorem dX7_learn_186 : decode cX7_learn 186 = .ok (.iload_n 1, 1) := by decide +kernel
theorem dX7_learn_187 : decode cX7_learn 187 = .ok (.iload 8, 2) := by decide +kernel
theorem dX7_learn_189 : decode cX7_learn 189 = .ok (.invokevirtual 84, 3) := by decide +kernel
theorem dX7_learn_192 : decode cX7_learn 192 = .ok (.ifCond .ne 29, 3) := by decide +kernel
theorem dX7_learn_195 : decode cX7_learn 195 = .ok (.iconst 0, 1) := by decide +kernel
theorem dX7_learn_196 : decode cX7_learn 196 = .ok (.istore 10, 2) := by decide +kernel
theorem dX7_learn_198 : decode cX7_learn 198 = .ok (.iload 10, 2) := by decide +kernel
theorem dX7_learn_200 : decode cX7_learn 200 = .ok (.iconst 4, 1) := by decide +kernel
theorem dX7_learn_201 : decode cX7_learn 201 = .ok (.if_icmp .ge 20, 3) := by decide +kernel
theorem dX7_learn_204 : decode cX7_learn 204 = .ok (.aload_n 0, 1) := by decide +kernel
theorem dX7_learn_205 : decode cX7_learn 205 = .ok (.getfield 7, 3) := by decide +kernel
theorem dX7_learn_208 : decode cX7_learn 208 = .ok (.iload 9, 2) := by decide +kernel
theorem dX7_learn_210 : decode cX7_learn 210 = .ok (.iload 10, 2) := by decide +kernel
theorem dX7_learn_212 : decode cX7_learn 212 = .ok (.iadd, 1) := by decide +kernel
theorem dX7_learn_213 : decode cX7_learn 213 = .ok (.iconst 0, 1) := by decide +kernel
theorem dX7_learn_214 : decode cX7_learn 214 = .ok (.iastore, 1) := by decide +kernel
theorem dX7_learn_215 : decode cX7_learn 215 = .ok (.iinc 10 1, 3) := by decide +kernel
theorem dX7_learn_218 : decode cX7_learn 218 = .ok (.goto (-20), 3) := by decide +kernel
theorem dX7_learn_221 : decode cX7_learn 221 = .ok (.iinc 8 1, 3) := by decide +kernel
theorem dX7_learn_224 : decode cX7_learn 224 = .ok (.goto (-139), 3) := by decide +kernel
theorem dX7_learn_227 : decode cX7_learn 227 = .ok (.return_, 1) := by decide +kernel
theorem dX7_tellLink_0 : decode cX7_tellLink 0 = .ok (.aload_n 0, 1) := by decide +kernel
theorem dX7_tellLink_1 : decode cX7_tellLink 1 = .ok (.iload_n 1, 1) := by decide +kernel
theorem dX7_tellLink_2 : decode cX7_tellLink 2 = .ok (.bipush 16, 2) := by decide +kernel
theorem dX7_tellLink_4 : decode cX7_tellLink 4 = .ok (.iload_n 2, 1) := by decide +kernel
theorem dX7_tellLink_5 : decode cX7_tellLink 5 = .ok (.iadd, 1) := by decide +kernel
theorem dX7_tellLink_6 : decode cX7_tellLink 6 = .ok (.aload_n 0, 1) := by decide +kernel
theorem dX7_tellLink_7 : decode cX7_tellLink 7 = .ok (.iload_n 2, 1) := by decide +kernel
theorem dX7_tellLink_8 : decode cX7_tellLink 8 = .ok (.iconst 5, 1) := by decide +kernel
theorem dX7_tellLink_9 : decode cX7_tellLink 9 = .ok (.invokevirtual 62, 3) := by decide +kernel
theorem dX7_tellLink_12 : decode cX7_tellLink 12 = .ok (.aload_n 0, 1) := by decide +kernel
theorem dX7_tellLink_13 : decode cX7_tellLink 13 = .ok (.iload_n 2, 1) := by decide +kernel
theorem dX7_tellLink_14 : decode cX7_tellLink 14 = .ok (.iconst 3, 1) := by decide +kernel
theorem dX7_tellLink_15 : decode cX7_tellLink 15 = .ok (.invokevirtual 62, 3) := by decide +kernel
theorem dX7_tellLink_18 : decode cX7_tellLink 18 = .ok (.aload_n 0, 1) := by decide +kernel
theorem dX7_tellLink_19 : decode cX7_tellLink 19 = .ok (.iload_n 2, 1) := by decide +kernel
theorem dX7_tellLink_20 : decode cX7_tellLink 20 = .ok (.iconst 2, 1) := by decide +kernel
theorem dX7_tellLink_21 : decode cX7_tellLink 21 = .ok (.invokevirtual 62, 3) := by decide +kernel
theorem dX7_tellLink_24 : decode cX7_tellLink 24 = .ok (.invokevirtual 94, 3) := by decide +kernel
theorem dX7_tellLink_27 : decode cX7_tellLink 27 = .ok (.return_, 1) := by decide +kernel
theorem dX7_awake_0 : decode cX7_awake 0 = .ok (.iconst 0, 1) := by decide +kernel
theorem dX7_awake_1 : decode cX7_awake 1 = .ok (.istore_n 2, 1) := by decide +kernel
theorem dX7_awake_2 : decode cX7_awake 2 = .ok (.iload_n 2, 1) := by decide +kernel
theorem dX7_awake_3 : decode cX7_awake 3 = .ok (.bipush 35, 2) := by decide +kernel
theorem dX7_awake_5 : decode cX7_awake 5 = .ok (.if_icmp .ge 36, 3) := by decide +kernel
theorem dX7_awake_8 : decode cX7_awake 8 = .ok (.aload_n 0, 1) := by decide +kernel
theorem dX7_awake_9 : decode cX7_awake 9 = .ok (.getfield 7, 3) := by decide +kernel
theorem dX7_awake_12 : decode cX7_awake 12 = .ok (.iload_n 1, 1) := by decide +kernel
theorem dX7_awake_13 : decode cX7_awake 13 = .ok (.iload_n 2, 1) := by decide +kernel
theorem dX7_awake_14 : decode cX7_awake 14 = .ok (.invokestatic 70, 3) := by decide +kernel
theorem dX7_awake_17 : decode cX7_awake 17 = .ok (.iconst 3, 1) := by decide +kernel
theorem dX7_awake_18 : decode cX7_awake 18 = .ok (.iadd, 1) := by decide +kernel
theorem dX7_awake_19 : decode cX7_awake 19 = .ok (.aload_n 0, 1) := by decide +kernel
theorem dX7_awake_20 : decode cX7_awake 20 = .ok (.iload_n 1, 1) := by decide +kernel
theorem dX7_awake_21 : decode cX7_awake 21 = .ok (.iload_n 2, 1) := by decide +kernel
theorem dX7_awake_22 : decode cX7_awake 22 = .ok (.iconst 0, 1) := by decide +kernel
theorem dX7_awake_23 : decode cX7_awake 23 = .ok (.invokevirtual 73, 3) := by decide +kernel
theorem dX7_awake_26 : decode cX7_awake 26 = .ok (.ifCond .le 7, 3) := by decide +kernel
theorem dX7_awake_29 : decode cX7_awake 29 = .ok (.iconst 1, 1) := by decide +kernel
theorem dX7_awake_30 : decode cX7_awake 30 = .ok (.goto 4, 3) := by decide +kernel
theorem dX7_awake_33 : decode cX7_awake 33 = .ok (.iconst 0, 1) := by decide +kernel
theorem dX7_awake_34 : decode cX7_awake 34 = .ok (.iastore, 1) := by decide +kernel
theorem dX7_awake_35 : decode cX7_awake 35 = .ok (.iinc 2 1, 3) := by decide +kernel
theorem dX7_awake_38 : decode cX7_awake 38 = .ok (.goto (-36), 3) := by decide +kernel
theorem dX7_awake_41 : decode cX7_awake 41 = .ok (.return_, 1) := by decide +kernel
theorem dX7_changeLink_0 : decode cX7_changeLink 0 = .ok (.aload_n 0, 1) := by decide +kernel
theorem dX7_changeLink_1 : decode cX7_changeLink 1 = .ok (.iload_n 1, 1) := by decide +kernel
theorem dX7_changeLink_2 : decode cX7_changeLink 2 = .ok (.iconst 0, 1) := by decide +kernel
theorem dX7_changeLink_3 : decode cX7_changeLink 3 = .ok (.invokevirtual 62, 3) := by decide +kernel
theorem dX7_changeLink_6 : decode cX7_changeLink 6 = .ok (.istore_n 3, 1) := by decide +kernel
theorem dX7_changeLink_7 : decode cX7_changeLink 7 = .ok (.aload_n 0, 1) := by decide +kernel
theorem dX7_changeLink_8 : decode cX7_changeLink 8 = .ok (.iload_n 1, 1) := by decide +kernel
theorem dX7_changeLink_9 : decode cX7_changeLink 9 = .ok (.iconst 1, 1) := by decide +kernel
theorem dX7_changeLink_10 : decode cX7_changeLink 10 = .ok (.invokevirtual 62, 3) := by decide +kernel
theorem dX7_changeLink_13 : decode cX7_changeLink 13 = .ok (.istore 4, 2) := by decide +kernel
theorem dX7_changeLink_15 : decode cX7_changeLink 15 = .ok (.aload_n 0, 1) := by decide +kernel
theorem dX7_changeLink_16 : decode cX7_changeLink 16 = .ok (.iload_n 3, 1) := by decide +kernel
theorem dX7_changeLink_17 : decode cX7_changeLink 17 = .ok (.iload_n 1, 1) := by decide +kernel
theorem dX7_changeLink_18 : decode cX7_changeLink 18 = .ok (.invokevirtual 98, 3) := by decide +kernel
theorem dX7_changeLink_21 : decode cX7_changeLink 21 = .ok (.aload_n 0, 1) := by decide +kernel
theorem dX7_changeLink_22 : decode cX7_changeLink 22 = .ok (.iload 4, 2) := by decide +kernel
theorem dX7_changeLink_24 : decode cX7_changeLink 24 = .ok (.iload_n 1, 1) := by decide +kernel
theorem dX7_changeLink_25 : decode cX7_changeLink 25 = .ok (.invokevirtual 98, 3) := by decide +kernel
theorem dX7_changeLink_28 : decode cX7_changeLink 28 = .ok (.iload_n 2, 1) := by decide +kernel
theorem dX7_changeLink_29 : decode cX7_changeLink 29 = .ok (.ifCond .eq 14, 3) := by decide +kernel
theorem dX7_changeLink_32 : decode cX7_changeLink 32 = .ok (.aload_n 0, 1) := by decide +kernel
theorem dX7_changeLink_33 : decode cX7_changeLink 33 = .ok (.iload_n 3, 1) := by decide +kernel
theorem dX7_changeLink_34 : decode cX7_changeLink 34 = .ok (.invokevirtual 102, 3) := by decide +kernel
theorem dX7_changeLink_37 : decode cX7_changeLink 37 = .ok (.aload_n 0, 1) := by decide +kernel
theorem dX7_changeLink_38 : decode cX7_changeLink 38 = .ok (.iload 4, 2) := by decide +kernel
theorem dX7_changeLink_40 : decode cX7_changeLink 40 = .ok (.invokevirtual 102, 3) := by decide +kernel
theorem dX7_changeLink_43 : decode cX7_changeLink 43 = .ok (.return_, 1) := by decide +kernel
theorem dX7_changeGrant_0 : decode cX7_changeGrant 0 = .ok (.iconst 4, 1) := by decide +kernel
theorem dX7_changeGrant_1 : decode cX7_changeGrant 1 = .ok (.iload_n 1, 1) := by decide +kernel
theorem dX7_changeGrant_2 : decode cX7_changeGrant 2 = .ok (.imul, 1) := by decide +kernel
theorem dX7_changeGrant_3 : decode cX7_changeGrant 3 = .ok (.iload_n 2, 1) := by decide +kernel
theorem dX7_changeGrant_4 : decode cX7_changeGrant 4 = .ok (.iadd, 1) := by decide +kernel
theorem dX7_changeGrant_5 : decode cX7_changeGrant 5 = .ok (.istore 4, 2) := by decide +kernel
theorem dX7_changeGrant_7 : decode cX7_changeGrant 7 = .ok (.aload_n 0, 1) := by decide +kernel
theorem dX7_changeGrant_8 : decode cX7_changeGrant 8 = .ok (.getfield 7, 3) := by decide +kernel
theorem dX7_changeGrant_11 : decode cX7_changeGrant 11 = .ok (.bipush 14, 2) := by decide +kernel
theorem dX7_changeGrant_13 : decode cX7_changeGrant 13 = .ok (.iload 4, 2) := by decide +kernel
theorem dX7_changeGrant_15 : decode cX7_changeGrant 15 = .ok (.iadd, 1) := by decide +kernel
theorem dX7_changeGrant_16 : decode cX7_changeGrant 16 = .ok (.iload_n 3, 1) := by decide +kernel
theorem dX7_changeGrant_17 : decode cX7_changeGrant 17 = .ok (.iastore, 1) := by decide +kernel
theorem dX7_changeGrant_18 : decode cX7_changeGrant 18 = .ok (.aload_n 0, 1) := by decide +kernel
theorem dX7_changeGrant_19 : decode cX7_changeGrant 19 = .ok (.getfield 7, 3) := by decide +kernel
theorem dX7_changeGrant_22 : decode cX7_changeGrant 22 = .ok (.bipush 30, 2) := by decide +kernel
theorem dX7_changeGrant_24 : decode cX7_changeGrant 24 = .ok (.iload 4, 2) := by decide +kernel
theorem dX7_changeGrant_26 : decode cX7_changeGrant 26 = .ok (.iadd, 1) := by decide +kernel
theorem dX7_changeGrant_27 : decode cX7_changeGrant 27 = .ok (.dup2, 1) := by decide +kernel
theorem dX7_changeGrant_28 : decode cX7_changeGrant 28 = .ok (.iaload, 1) := by decide +kernel
theorem dX7_changeGrant_29 : decode cX7_changeGrant 29 = .ok (.iconst 1, 1) := by decide +kernel
theorem dX7_changeGrant_30 : decode cX7_changeGrant 30 = .ok (.iadd, 1) := by decide +kernel
theorem dX7_changeGrant_31 : decode cX7_changeGrant 31 = .ok (.iastore, 1) := by decide +kernel
theorem dX7_changeGrant_32 : decode cX7_changeGrant 32 = .ok (.iconst 0, 1) := by decide +kernel
theorem dX7_changeGrant_33 : decode cX7_changeGrant 33 = .ok (.istore 5, 2) := by decide +kernel
theorem dX7_changeGrant_35 : decode cX7_changeGrant 35 = .ok (.iload 5, 2) := by decide +kernel
theorem dX7_changeGrant_37 : decode cX7_changeGrant 37 = .ok (.aload_n 0, 1) := by decide +kernel
theorem dX7_changeGrant_38 : decode cX7_changeGrant 38 = .ok (.getfield 7, 3) := by decide +kernel
theorem dX7_changeGrant_41 : decode cX7_changeGrant 41 = .ok (.iconst 0, 1) := by decide +kernel
theorem dX7_changeGrant_42 : decode cX7_changeGrant 42 = .ok (.iaload, 1) := by decide +kernel
theorem dX7_changeGrant_43 : decode cX7_changeGrant 43 = .ok (.if_icmp .ge 39, 3) := by decide +kernel
theorem dX7_changeGrant_46 : decode cX7_changeGrant 46 = .ok (.aload_n 0, 1) := by decide +kernel
theorem dX7_changeGrant_47 : decode cX7_changeGrant 47 = .ok (.iload 5, 2) := by decide +kernel
theorem dX7_changeGrant_49 : decode cX7_changeGrant 49 = .ok (.invokevirtual 66, 3) := by decide +kernel
theorem dX7_changeGrant_52 : decode cX7_changeGrant 52 = .ok (.iload_n 1, 1) := by decide +kernel
theorem dX7_changeGrant_53 : decode cX7_changeGrant 53 = .ok (.if_icmp .ne 23, 3) := by decide +kernel
theorem dX7_changeGrant_56 : decode cX7_changeGrant 56 = .ok (.aload_n 0, 1) := by decide +kernel
theorem dX7_changeGrant_57 : decode cX7_changeGrant 57 = .ok (.iload 5, 2) := by decide +kernel
theorem dX7_changeGrant_59 : decode cX7_changeGrant 59 = .ok (.iload 4, 2) := by decide +kernel
theorem dX7_changeGrant_61 : decode cX7_changeGrant 61 = .ok (.aload_n 0, 1) := by decide +kernel
theorem dX7_changeGrant_62 : decode cX7_changeGrant 62 = .ok (.getfield 7, 3) := by decide +kernel
theorem dX7_changeGrant_65 : decode cX7_changeGrant 65 = .ok (.bipush 30, 2) := by decide +kernel
theorem dX7_changeGrant_67 : decode cX7_changeGrant 67 = .ok (.iload 4, 2) := by decide +kernel
theorem dX7_changeGrant_69 : decode cX7_changeGrant 69 = .ok (.iadd, 1) := by decide +kernel
theorem dX7_changeGrant_70 : decode cX7_changeGrant 70 = .ok (.iaload, 1) := by decide +kernel
theorem dX7_changeGrant_71 : decode cX7_changeGrant 71 = .ok (.iload_n 3, 1) := by decide +kernel
theorem dX7_changeGrant_72 : decode cX7_changeGrant 72 = .ok (.iconst 0, 1) := by decide +kernel
theorem dX7_changeGrant_73 : decode cX7_changeGrant 73 = .ok (.invokevirtual 94, 3) := by decide +kernel
theorem dX7_changeGrant_76 : decode cX7_changeGrant 76 = .ok (.iinc 5 1, 3) := by decide +kernel
theorem dX7_changeGrant_79 : decode cX7_changeGrant 79 = .ok (.goto (-44), 3) := by decide +kernel
theorem dX7_changeGrant_82 : decode cX7_changeGrant 82 = .ok (.return_, 1) := by decide +kernel
theorem dX7_changeTunnel_0 : decode cX7_changeTunnel 0 = .ok (.aload_n 0, 1) := by decide +kernel
theorem dX7_changeTunnel_1 : decode cX7_changeTunnel 1 = .ok (.aload_n 0, 1) := by decide +kernel
theorem dX7_changeTunnel_2 : decode cX7_changeTunnel 2 = .ok (.iload_n 1, 1) := by decide +kernel
theorem dX7_changeTunnel_3 : decode cX7_changeTunnel 3 = .ok (.iconst 0, 1) := by decide +kernel
theorem dX7_changeTunnel_4 : decode cX7_changeTunnel 4 = .ok (.invokevirtual 106, 3) := by decide +kernel
theorem dX7_changeTunnel_7 : decode cX7_changeTunnel 7 = .ok (.bipush 32, 2) := by decide +kernel
theorem dX7_changeTunnel_9 : decode cX7_changeTunnel 9 = .ok (.iload_n 1, 1) := by decide +kernel
theorem dX7_changeTunnel_10 : decode cX7_changeTunnel 10 = .ok (.iadd, 1) := by decide +kernel
theorem dX7_changeTunnel_11 : decode cX7_changeTunnel 11 = .ok (.aload_n 0, 1) := by decide +kernel
theorem dX7_changeTunnel_12 : decode cX7_changeTunnel 12 = .ok (.iload_n 1, 1) := by decide +kernel
theorem dX7_changeTunnel_13 : decode cX7_changeTunnel 13 = .ok (.iconst 4, 1) := by decide +kernel
theorem dX7_changeTunnel_14 : decode cX7_changeTunnel 14 = .ok (.invokevirtual 106, 3) := by decide +kernel
theorem dX7_changeTunnel_17 : decode cX7_changeTunnel 17 = .ok (.aload_n 0, 1) := by decide +kernel
theorem dX7_changeTunnel_18 : decode cX7_changeTunnel 18 = .ok (.iload_n 1, 1) := by decide +kernel
theorem dX7_changeTunnel_19 : decode cX7_changeTunnel 19 = .ok (.iconst 3, 1) := by decide +kernel
theorem dX7_changeTunnel_20 : decode cX7_changeTunnel 20 = .ok (.invokevirtual 106, 3) := by decide +kernel
theorem dX7_changeTunnel_23 : decode cX7_changeTunnel 23 = .ok (.aload_n 0, 1) := by decide +kernel
theorem dX7_changeTunnel_24 : decode cX7_changeTunnel 24 = .ok (.iload_n 1, 1) := by decide +kernel
theorem dX7_changeTunnel_25 : decode cX7_changeTunnel 25 = .ok (.iconst 2, 1) := by decide +kernel
theorem dX7_changeTunnel_26 : decode cX7_changeTunnel 26 = .ok (.invokevirtual 106, 3) := by decide +kernel
theorem dX7_changeTunnel_29 : decode cX7_changeTunnel 29 = .ok (.invokevirtual 94, 3) := by decide +kernel
theorem dX7_changeTunnel_32 : decode cX7_changeTunnel 32 = .ok (.return_, 1) := by decide +kernel
theorem dX7_makeNode_0 : decode cX7_makeNode 0 = .ok (.aload_n 0, 1) := by decide +kernel
theorem dX7_makeNode_1 : decode cX7_makeNode 1 = .ok (.getfield 7, 3) := by decide +kernel
theorem dX7_makeNode_4 : decode cX7_makeNode 4 = .ok (.iconst 0, 1) := by decide +kernel
theorem dX7_makeNode_5 : decode cX7_makeNode 5 = .ok (.iaload, 1) := by decide +kernel
theorem dX7_makeNode_6 : decode cX7_makeNode 6 = .ok (.istore_n 2, 1) := by decide +kernel
theorem dX7_makeNode_7 : decode cX7_makeNode 7 = .ok (.aload_n 0, 1) := by decide +kernel
theorem dX7_makeNode_8 : decode cX7_makeNode 8 = .ok (.getfield 7, 3) := by decide +kernel
theorem dX7_makeNode_11 : decode cX7_makeNode 11 = .ok (.iconst 4, 1) := by decide +kernel
theorem dX7_makeNode_12 : decode cX7_makeNode 12 = .ok (.iload_n 2, 1) := by decide +kernel
theorem dX7_makeNode_13 : decode cX7_makeNode 13 = .ok (.iadd, 1) := by decide +kernel
theorem dX7_makeNode_14 : decode cX7_makeNode 14 = .ok (.iload_n 1, 1) := by decide +kernel
theorem dX7_makeNode_15 : decode cX7_makeNode 15 = .ok (.iastore, 1) := by decide +kernel
theorem dX7_makeNode_16 : decode cX7_makeNode 16 = .ok (.aload_n 0, 1) := by decide +kernel
theorem dX7_makeNode_17 : decode cX7_makeNode 17 = .ok (.getfield 7, 3) := by decide +kernel
theorem dX7_makeNode_20 : decode cX7_makeNode 20 = .ok (.iconst 0, 1) := by decide +kernel
theorem dX7_makeNode_21 : decode cX7_makeNode 21 = .ok (.dup2, 1) := by decide +kernel
theorem dX7_makeNode_22 : decode cX7_makeNode 22 = .ok (.iaload, 1) := by decide +kernel
theorem dX7_makeNode_23 : decode cX7_makeNode 23 = .ok (.iconst 1, 1) := by decide +kernel
theorem dX7_makeNode_24 : decode cX7_makeNode 24 = .ok (.iadd, 1) := by decide +kernel
theorem dX7_makeNode_25 : decode cX7_makeNode 25 = .ok (.iastore, 1) := by decide +kernel
theorem dX7_makeNode_26 : decode cX7_makeNode 26 = .ok (.iload_n 2, 1) := by decide +kernel
theorem dX7_makeNode_27 : decode cX7_makeNode 27 = .ok (.ireturn, 1) := by decide +kernel
theorem dX7_makeLink_0 : decode cX7_makeLink 0 = .ok (.aload_n 0, 1) := by decide +kernel
theorem dX7_makeLink_1 : decode cX7_makeLink 1 = .ok (.getfield 7, 3) := by decide +kernel
theorem dX7_makeLink_4 : decode cX7_makeLink 4 = .ok (.iconst 1, 1) := by decide +kernel
theorem dX7_makeLink_5 : decode cX7_makeLink 5 = .ok (.iaload, 1) := by decide +kernel
theorem dX7_makeLink_6 : decode cX7_makeLink 6 = .ok (.istore 5, 2) := by decide +kernel
theorem dX7_makeLink_8 : decode cX7_makeLink 8 = .ok (.bipush 46, 2) := by decide +kernel
theorem dX7_makeLink_10 : decode cX7_makeLink 10 = .ok (.bipush 6, 2) := by decide +kernel
theorem dX7_makeLink_12 : decode cX7_makeLink 12 = .ok (.iload 5, 2) := by decide +kernel
theorem dX7_makeLink_14 : decode cX7_makeLink 14 = .ok (.imul, 1) := by decide +kernel
theorem dX7_makeLink_15 : decode cX7_makeLink 15 = .ok (.iadd, 1) := by decide +kernel
theorem dX7_makeLink_16 : decode cX7_makeLink 16 = .ok (.istore 6, 2) := by decide +kernel
theorem dX7_makeLink_18 : decode cX7_makeLink 18 = .ok (.aload_n 0, 1) := by decide +kernel
theorem dX7_makeLink_19 : decode cX7_makeLink 19 = .ok (.getfield 7, 3) := by decide +kernel
theorem dX7_makeLink_22 : decode cX7_makeLink 22 = .ok (.iload 6, 2) := by decide +kernel
theorem dX7_makeLink_24 : decode cX7_makeLink 24 = .ok (.iload_n 1, 1) := by decide +kernel
theorem dX7_makeLink_25 : decode cX7_makeLink 25 = .ok (.iastore, 1) := by decide +kernel
theorem dX7_makeLink_26 : decode cX7_makeLink 26 = .ok (.aload_n 0, 1) := by decide +kernel
theorem dX7_makeLink_27 : decode cX7_makeLink 27 = .ok (.getfield 7, 3) := by decide +kernel
theorem dX7_makeLink_30 : decode cX7_makeLink 30 = .ok (.iload 6, 2) := by decide +kernel
theorem dX7_makeLink_32 : decode cX7_makeLink 32 = .ok (.iconst 1, 1) := by decide +kernel
theorem dX7_makeLink_33 : decode cX7_makeLink 33 = .ok (.iadd, 1) := by decide +kernel
theorem dX7_makeLink_34 : decode cX7_makeLink 34 = .ok (.iload_n 2, 1) := by decide +kernel
theorem dX7_makeLink_35 : decode cX7_makeLink 35 = .ok (.iastore, 1) := by decide +kernel
theorem dX7_makeLink_36 : decode cX7_makeLink 36 = .ok (.aload_n 0, 1) := by decide +kernel
theorem dX7_makeLink_37 : decode cX7_makeLink 37 = .ok (.getfield 7, 3) := by decide +kernel
theorem dX7_makeLink_40 : decode cX7_makeLink 40 = .ok (.iload 6, 2) := by decide +kernel
theorem dX7_makeLink_42 : decode cX7_makeLink 42 = .ok (.iconst 2, 1) := by decide +kernel
theorem dX7_makeLink_43 : decode cX7_makeLink 43 = .ok (.iadd, 1) := by decide +kernel
theorem dX7_makeLink_44 : decode cX7_makeLink 44 = .ok (.iload_n 3, 1) := by decide +kernel
theorem dX7_makeLink_45 : decode cX7_makeLink 45 = .ok (.iastore, 1) := by decide +kernel
theorem dX7_makeLink_46 : decode cX7_makeLink 46 = .ok (.aload_n 0, 1) := by decide +kernel
theorem dX7_makeLink_47 : decode cX7_makeLink 47 = .ok (.getfield 7, 3) := by decide +kernel
theorem dX7_makeLink_50 : decode cX7_makeLink 50 = .ok (.iload 6, 2) := by decide +kernel
theorem dX7_makeLink_52 : decode cX7_makeLink 52 = .ok (.iconst 3, 1) := by decide +kernel
theorem dX7_makeLink_53 : decode cX7_makeLink 53 = .ok (.iadd, 1) := by decide +kernel
theorem dX7_makeLink_54 : decode cX7_makeLink 54 = .ok (.iconst 1, 1) := by decide +kernel
theorem dX7_makeLink_55 : decode cX7_makeLink 55 = .ok (.iastore, 1) := by decide +kernel
theorem dX7_makeLink_56 : decode cX7_makeLink 56 = .ok (.aload_n 0, 1) := by decide +kernel
theorem dX7_makeLink_57 : decode cX7_makeLink 57 = .ok (.getfield 7, 3) := by decide +kernel
theorem dX7_makeLink_60 : decode cX7_makeLink 60 = .ok (.iload 6, 2) := by decide +kernel
theorem dX7_makeLink_62 : decode cX7_makeLink 62 = .ok (.iconst 4, 1) := by decide +kernel
theorem dX7_makeLink_63 : decode cX7_makeLink 63 = .ok (.iadd, 1) := by decide +kernel
theorem dX7_makeLink_64 : decode cX7_makeLink 64 = .ok (.iload 4, 2) := by decide +kernel
theorem dX7_makeLink_66 : decode cX7_makeLink 66 = .ok (.iastore, 1) := by decide +kernel
theorem dX7_makeLink_67 : decode cX7_makeLink 67 = .ok (.aload_n 0, 1) := by decide +kernel
theorem dX7_makeLink_68 : decode cX7_makeLink 68 = .ok (.getfield 7, 3) := by decide +kernel
theorem dX7_makeLink_71 : decode cX7_makeLink 71 = .ok (.iload 6, 2) := by decide +kernel
theorem dX7_makeLink_73 : decode cX7_makeLink 73 = .ok (.iconst 5, 1) := by decide +kernel
theorem dX7_makeLink_74 : decode cX7_makeLink 74 = .ok (.iadd, 1) := by decide +kernel
theorem dX7_makeLink_75 : decode cX7_makeLink 75 = .ok (.iconst 1, 1) := by decide +kernel
theorem dX7_makeLink_76 : decode cX7_makeLink 76 = .ok (.iastore, 1) := by decide +kernel
theorem dX7_makeLink_77 : decode cX7_makeLink 77 = .ok (.aload_n 0, 1) := by decide +kernel
theorem dX7_makeLink_78 : decode cX7_makeLink 78 = .ok (.getfield 7, 3) := by decide +kernel
theorem dX7_makeLink_81 : decode cX7_makeLink 81 = .ok (.iconst 1, 1) := by decide +kernel
theorem dX7_makeLink_82 : decode cX7_makeLink 82 = .ok (.dup2, 1) := by decide +kernel
theorem dX7_makeLink_83 : decode cX7_makeLink 83 = .ok (.iaload, 1) := by decide +kernel
theorem dX7_makeLink_84 : decode cX7_makeLink 84 = .ok (.iconst 1, 1) := by decide +kernel
theorem dX7_makeLink_85 : decode cX7_makeLink 85 = .ok (.iadd, 1) := by decide +kernel
theorem dX7_makeLink_86 : decode cX7_makeLink 86 = .ok (.iastore, 1) := by decide +kernel
theorem dX7_makeLink_87 : decode cX7_makeLink 87 = .ok (.aload_n 0, 1) := by decide +kernel
theorem dX7_makeLink_88 : decode cX7_makeLink 88 = .ok (.iload 5, 2) := by decide +kernel
theorem dX7_makeLink_90 : decode cX7_makeLink 90 = .ok (.iconst 1, 1) := by decide +kernel
theorem dX7_makeLink_91 : decode cX7_makeLink 91 = .ok (.invokevirtual 109, 3) := by decide +kernel
theorem dX7_makeLink_94 : decode cX7_makeLink 94 = .ok (.iload 5, 2) := by decide +kernel
theorem dX7_makeLink_96 : decode cX7_makeLink 96 = .ok (.ireturn, 1) := by decide +kernel
theorem dX7_makeTunnel_0 : decode cX7_makeTunnel 0 = .ok (.aload_n 0, 1) := by decide +kernel
theorem dX7_makeTunnel_1 : decode cX7_makeTunnel 1 = .ok (.getfield 7, 3) := by decide +kernel
theorem dX7_makeTunnel_4 : decode cX7_makeTunnel 4 = .ok (.iconst 2, 1) := by decide +kernel
theorem dX7_makeTunnel_5 : decode cX7_makeTunnel 5 = .ok (.iaload, 1) := by decide +kernel
theorem dX7_makeTunnel_6 : decode cX7_makeTunnel 6 = .ok (.istore 4, 2) := by decide +kernel
theorem dX7_makeTunnel_8 : decode cX7_makeTunnel 8 = .ok (.sipush 142, 3) := by decide +kernel
theorem dX7_makeTunnel_11 : decode cX7_makeTunnel 11 = .ok (.iconst 5, 1) := by decide +kernel
theorem dX7_makeTunnel_12 : decode cX7_makeTunnel 12 = .ok (.iload 4, 2) := by decide +kernel
theorem dX7_makeTunnel_14 : decode cX7_makeTunnel 14 = .ok (.imul, 1) := by decide +kernel
theorem dX7_makeTunnel_15 : decode cX7_makeTunnel 15 = .ok (.iadd, 1) := by decide +kernel
theorem dX7_makeTunnel_16 : decode cX7_makeTunnel 16 = .ok (.istore 5, 2) := by decide +kernel
theorem dX7_makeTunnel_18 : decode cX7_makeTunnel 18 = .ok (.aload_n 0, 1) := by decide +kernel
theorem dX7_makeTunnel_19 : decode cX7_makeTunnel 19 = .ok (.getfield 7, 3) := by decide +kernel
theorem dX7_makeTunnel_22 : decode cX7_makeTunnel 22 = .ok (.iload 5, 2) := by decide +kernel
theorem dX7_makeTunnel_24 : decode cX7_makeTunnel 24 = .ok (.iload_n 1, 1) := by decide +kernel
theorem dX7_makeTunnel_25 : decode cX7_makeTunnel 25 = .ok (.iastore, 1) := by decide +kernel
theorem dX7_makeTunnel_26 : decode cX7_makeTunnel 26 = .ok (.aload_n 0, 1) := by decide +kernel
theorem dX7_makeTunnel_27 : decode cX7_makeTunnel 27 = .ok (.getfield 7, 3) := by decide +kernel
theorem dX7_makeTunnel_30 : decode cX7_makeTunnel 30 = .ok (.iload 5, 2) := by decide +kernel
theorem dX7_makeTunnel_32 : decode cX7_makeTunnel 32 = .ok (.iconst 1, 1) := by decide +kernel
theorem dX7_makeTunnel_33 : decode cX7_makeTunnel 33 = .ok (.iadd, 1) := by decide +kernel
theorem dX7_makeTunnel_34 : decode cX7_makeTunnel 34 = .ok (.iload_n 2, 1) := by decide +kernel
theorem dX7_makeTunnel_35 : decode cX7_makeTunnel 35 = .ok (.iastore, 1) := by decide +kernel
theorem dX7_makeTunnel_36 : decode cX7_makeTunnel 36 = .ok (.aload_n 0, 1) := by decide +kernel
theorem dX7_makeTunnel_37 : decode cX7_makeTunnel 37 = .ok (.getfield 7, 3) := by decide +kernel
theorem dX7_makeTunnel_40 : decode cX7_makeTunnel 40 = .ok (.iload 5, 2) := by decide +kernel
theorem dX7_makeTunnel_42 : decode cX7_makeTunnel 42 = .ok (.iconst 2, 1) := by decide +kernel
theorem dX7_makeTunnel_43 : decode cX7_makeTunnel 43 = .ok (.iadd, 1) := by decide +kernel
theorem dX7_makeTunnel_44 : decode cX7_makeTunnel 44 = .ok (.iload_n 3, 1) := by decide +kernel
theorem dX7_makeTunnel_45 : decode cX7_makeTunnel 45 = .ok (.iastore, 1) := by decide +kernel
theorem dX7_makeTunnel_46 : decode cX7_makeTunnel 46 = .ok (.aload_n 0, 1) := by decide +kernel
theorem dX7_makeTunnel_47 : decode cX7_makeTunnel 47 = .ok (.getfield 7, 3) := by decide +kernel
theorem dX7_makeTunnel_50 : decode cX7_makeTunnel 50 = .ok (.iload 5, 2) := by decide +kernel
theorem dX7_makeTunnel_52 : decode cX7_makeTunnel 52 = .ok (.iconst 3, 1) := by decide +kernel
theorem dX7_makeTunnel_53 : decode cX7_makeTunnel 53 = .ok (.iadd, 1) := by decide +kernel
theorem dX7_makeTunnel_54 : decode cX7_makeTunnel 54 = .ok (.iconst 1, 1) := by decide +kernel
theorem dX7_makeTunnel_55 : decode cX7_makeTunnel 55 = .ok (.iastore, 1) := by decide +kernel
theorem dX7_makeTunnel_56 : decode cX7_makeTunnel 56 = .ok (.aload_n 0, 1) := by decide +kernel
theorem dX7_makeTunnel_57 : decode cX7_makeTunnel 57 = .ok (.getfield 7, 3) := by decide +kernel
theorem dX7_makeTunnel_60 : decode cX7_makeTunnel 60 = .ok (.iload 5, 2) := by decide +kernel
theorem dX7_makeTunnel_62 : decode cX7_makeTunnel 62 = .ok (.iconst 4, 1) := by decide +kernel
theorem dX7_makeTunnel_63 : decode cX7_makeTunnel 63 = .ok (.iadd, 1) := by decide +kernel
theorem dX7_makeTunnel_64 : decode cX7_makeTunnel 64 = .ok (.iconst 1, 1) := by decide +kernel
theorem dX7_makeTunnel_65 : decode cX7_makeTunnel 65 = .ok (.iastore, 1) := by decide +kernel
theorem dX7_makeTunnel_66 : decode cX7_makeTunnel 66 = .ok (.aload_n 0, 1) := by decide +kernel
theorem dX7_makeTunnel_67 : decode cX7_makeTunnel 67 = .ok (.getfield 7, 3) := by decide +kernel
theorem dX7_makeTunnel_70 : decode cX7_makeTunnel 70 = .ok (.iconst 2, 1) := by decide +kernel
theorem dX7_makeTunnel_71 : decode cX7_makeTunnel 71 = .ok (.dup2, 1) := by decide +kernel
theorem dX7_makeTunnel_72 : decode cX7_makeTunnel 72 = .ok (.iaload, 1) := by decide +kernel
theorem dX7_makeTunnel_73 : decode cX7_makeTunnel 73 = .ok (.iconst 1, 1) := by decide +kernel
theorem dX7_makeTunnel_74 : decode cX7_makeTunnel 74 = .ok (.iadd, 1) := by decide +kernel
theorem dX7_makeTunnel_75 : decode cX7_makeTunnel 75 = .ok (.iastore, 1) := by decide +kernel
theorem dX7_makeTunnel_76 : decode cX7_makeTunnel 76 = .ok (.aload_n 0, 1) := by decide +kernel
theorem dX7_makeTunnel_77 : decode cX7_makeTunnel 77 = .ok (.iload 4, 2) := by decide +kernel
theorem dX7_makeTunnel_79 : decode cX7_makeTunnel 79 = .ok (.invokevirtual 113, 3) := by decide +kernel
theorem dX7_makeTunnel_82 : decode cX7_makeTunnel 82 = .ok (.iload 4, 2) := by decide +kernel
theorem dX7_makeTunnel_84 : decode cX7_makeTunnel 84 = .ok (.ireturn, 1) := by decide +kernel
theorem dX7_addNode_0 : decode cX7_addNode 0 = .ok (.aload_n 0, 1) := by decide +kernel
theorem dX7_addNode_1 : decode cX7_addNode 1 = .ok (.iconst 0, 1) := by decide +kernel
theorem dX7_addNode_2 : decode cX7_addNode 2 = .ok (.putfield 40, 3) := by decide +kernel
theorem dX7_addNode_5 : decode cX7_addNode 5 = .ok (.iload_n 1, 1) := by decide +kernel
theorem dX7_addNode_6 : decode cX7_addNode 6 = .ok (.invokestatic 116, 3) := by decide +kernel
theorem dX7_addNode_9 : decode cX7_addNode 9 = .ok (.ifCond .ne 5, 3) := by decide +kernel
theorem dX7_addNode_12 : decode cX7_addNode 12 = .ok (.iconst (-1), 1) := by decide +kernel
theorem dX7_addNode_13 : decode cX7_addNode 13 = .ok (.ireturn, 1) := by decide +kernel
theorem dX7_addNode_14 : decode cX7_addNode 14 = .ok (.aload_n 0, 1) := by decide +kernel
theorem dX7_addNode_15 : decode cX7_addNode 15 = .ok (.getfield 7, 3) := by decide +kernel
theorem dX7_addNode_18 : decode cX7_addNode 18 = .ok (.iconst 0, 1) := by decide +kernel
theorem dX7_addNode_19 : decode cX7_addNode 19 = .ok (.iaload, 1) := by decide +kernel
theorem dX7_addNode_20 : decode cX7_addNode 20 = .ok (.bipush 10, 2) := by decide +kernel
theorem dX7_addNode_22 : decode cX7_addNode 22 = .ok (.if_icmp .ne 6, 3) := by decide +kernel
theorem dX7_addNode_25 : decode cX7_addNode 25 = .ok (.bipush (-3), 2) := by decide +kernel
theorem dX7_addNode_27 : decode cX7_addNode 27 = .ok (.ireturn, 1) := by decide +kernel
theorem dX7_addNode_28 : decode cX7_addNode 28 = .ok (.aload_n 0, 1) := by decide +kernel
theorem dX7_addNode_29 : decode cX7_addNode 29 = .ok (.invokevirtual 119, 3) := by decide +kernel
theorem dX7_addNode_32 : decode cX7_addNode 32 = .ok (.aload_n 0, 1) := by decide +kernel
theorem dX7_addNode_33 : decode cX7_addNode 33 = .ok (.iload_n 1, 1) := by decide +kernel
theorem dX7_addNode_34 : decode cX7_addNode 34 = .ok (.invokevirtual 122, 3) := by decide +kernel
theorem dX7_addNode_37 : decode cX7_addNode 37 = .ok (.ireturn, 1) := by decide +kernel
theorem dX7_areNodes_0 : decode cX7_areNodes 0 = .ok (.aload_n 0, 1) := by decide +kernel
theorem dX7_areNodes_1 : decode cX7_areNodes 1 = .ok (.iload_n 1, 1) := by decide +kernel
theorem dX7_areNodes_2 : decode cX7_areNodes 2 = .ok (.invokevirtual 125, 3) := by decide +kernel
theorem dX7_areNodes_5 : decode cX7_areNodes 5 = .ok (.ifCond .eq 20, 3) := by decide +kernel
theorem dX7_areNodes_8 : decode cX7_areNodes 8 = .ok (.aload_n 0, 1) := by decide +kernel
theorem dX7_areNodes_9 : decode cX7_areNodes 9 = .ok (.iload_n 2, 1) := by decide +kernel
theorem dX7_areNodes_10 : decode cX7_areNodes 10 = .ok (.invokevirtual 125, 3) := by decide +kernel
theorem dX7_areNodes_13 : decode cX7_areNodes 13 = .ok (.ifCond .eq 12, 3) := by decide +kernel
theorem dX7_areNodes_16 : decode cX7_areNodes 16 = .ok (.iload_n 1, 1) := by decide +kernel
theorem dX7_areNodes_17 : decode cX7_areNodes 17 = .ok (.iload_n 2, 1) := by decide +kernel
theorem dX7_areNodes_18 : decode cX7_areNodes 18 = .ok (.if_icmp .eq 7, 3) := by decide +kernel
theorem dX7_areNodes_21 : decode cX7_areNodes 21 = .ok (.iconst 1, 1) := by decide +kernel
theorem dX7_areNodes_22 : decode cX7_areNodes 22 = .ok (.goto 4, 3) := by decide +kernel
theorem dX7_areNodes_25 : decode cX7_areNodes 25 = .ok (.iconst 0, 1) := by decide +kernel
theorem dX7_areNodes_26 : decode cX7_areNodes 26 = .ok (.ireturn, 1) := by decide +kernel
theorem dX7_addLink_0 : decode cX7_addLink 0 = .ok (.aload_n 0, 1) := by decide +kernel
theorem dX7_addLink_1 : decode cX7_addLink 1 = .ok (.iconst 0, 1) := by decide +kernel
theorem dX7_addLink_2 : decode cX7_addLink 2 = .ok (.putfield 40, 3) := by decide +kernel
theorem dX7_addLink_5 : decode cX7_addLink 5 = .ok (.aload_n 0, 1) := by decide +kernel
theorem dX7_addLink_6 : decode cX7_addLink 6 = .ok (.iload_n 1, 1) := by decide +kernel
theorem dX7_addLink_7 : decode cX7_addLink 7 = .ok (.iload_n 2, 1) := by decide +kernel
theorem dX7_addLink_8 : decode cX7_addLink 8 = .ok (.invokevirtual 128, 3) := by decide +kernel
theorem dX7_addLink_11 : decode cX7_addLink 11 = .ok (.ifCond .eq 23, 3) := by decide +kernel
theorem dX7_addLink_14 : decode cX7_addLink 14 = .ok (.iload_n 3, 1) := by decide +kernel
theorem dX7_addLink_15 : decode cX7_addLink 15 = .ok (.iconst 1, 1) := by decide +kernel
theorem dX7_addLink_16 : decode cX7_addLink 16 = .ok (.bipush 20, 2) := by decide +kernel
theorem dX7_addLink_18 : decode cX7_addLink 18 = .ok (.invokestatic 58, 3) := by decide +kernel
theorem dX7_addLink_21 : decode cX7_addLink 21 = .ok (.ifCond .eq 13, 3) := by decide +kernel
theorem dX7_addLink_24 : decode cX7_addLink 24 = .ok (.iload 4, 2) := by decide +kernel
theorem dX7_addLink_26 : decode cX7_addLink 26 = .ok (.iconst 0, 1) := by decide +kernel
theorem dX7_addLink_27 : decode cX7_addLink 27 = .ok (.iconst 1, 1) := by decide +kernel
theorem dX7_addLink_28 : decode cX7_addLink 28 = .ok (.invokestatic 58, 3) := by decide +kernel
theorem dX7_addLink_31 : decode cX7_addLink 31 = .ok (.ifCond .ne 5, 3) := by decide +kernel
theorem dX7_addLink_34 : decode cX7_addLink 34 = .ok (.iconst (-1), 1) := by decide +kernel
theorem dX7_addLink_35 : decode cX7_addLink 35 = .ok (.ireturn, 1) := by decide +kernel
theorem dX7_addLink_36 : decode cX7_addLink 36 = .ok (.aload_n 0, 1) := by decide +kernel
theorem dX7_addLink_37 : decode cX7_addLink 37 = .ok (.getfield 7, 3) := by decide +kernel
theorem dX7_addLink_40 : decode cX7_addLink 40 = .ok (.iconst 1, 1) := by decide +kernel
theorem dX7_addLink_41 : decode cX7_addLink 41 = .ok (.iaload, 1) := by decide +kernel
theorem dX7_addLink_42 : decode cX7_addLink 42 = .ok (.bipush 16, 2) := by decide +kernel
theorem dX7_addLink_44 : decode cX7_addLink 44 = .ok (.if_icmp .ne 6, 3) := by decide +kernel
theorem dX7_addLink_47 : decode cX7_addLink 47 = .ok (.bipush (-3), 2) := by decide +kernel
theorem dX7_addLink_49 : decode cX7_addLink 49 = .ok (.ireturn, 1) := by decide +kernel
theorem dX7_addLink_50 : decode cX7_addLink 50 = .ok (.aload_n 0, 1) := by decide +kernel
theorem dX7_addLink_51 : decode cX7_addLink 51 = .ok (.invokevirtual 119, 3) := by decide +kernel
theorem dX7_addLink_54 : decode cX7_addLink 54 = .ok (.aload_n 0, 1) := by decide +kernel
theorem dX7_addLink_55 : decode cX7_addLink 55 = .ok (.iload_n 1, 1) := by decide +kernel
theorem dX7_addLink_56 : decode cX7_addLink 56 = .ok (.iload_n 2, 1) := by decide +kernel
theorem dX7_addLink_57 : decode cX7_addLink 57 = .ok (.iload_n 3, 1) := by decide +kernel
theorem dX7_addLink_58 : decode cX7_addLink 58 = .ok (.iload 4, 2) := by decide +kernel
theorem dX7_addLink_60 : decode cX7_addLink 60 = .ok (.invokevirtual 131, 3) := by decide +kernel
theorem dX7_addLink_63 : decode cX7_addLink 63 = .ok (.ireturn, 1) := by decide +kernel
theorem dX7_setLink_0 : decode cX7_setLink 0 = .ok (.aload_n 0, 1) := by decide +kernel
theorem dX7_setLink_1 : decode cX7_setLink 1 = .ok (.iconst 0, 1) := by decide +kernel
theorem dX7_setLink_2 : decode cX7_setLink 2 = .ok (.putfield 40, 3) := by decide +kernel
theorem dX7_setLink_5 : decode cX7_setLink 5 = .ok (.aload_n 0, 1) := by decide +kernel
theorem dX7_setLink_6 : decode cX7_setLink 6 = .ok (.iload_n 1, 1) := by decide +kernel
theorem dX7_setLink_7 : decode cX7_setLink 7 = .ok (.invokevirtual 135, 3) := by decide +kernel
theorem dX7_setLink_10 : decode cX7_setLink 10 = .ok (.ifCond .eq 22, 3) := by decide +kernel
theorem dX7_setLink_13 : decode cX7_setLink 13 = .ok (.iload_n 2, 1) := by decide +kernel
theorem dX7_setLink_14 : decode cX7_setLink 14 = .ok (.iconst 0, 1) := by decide +kernel
theorem dX7_setLink_15 : decode cX7_setLink 15 = .ok (.iconst 1, 1) := by decide +kernel
theorem dX7_setLink_16 : decode cX7_setLink 16 = .ok (.invokestatic 58, 3) := by decide +kernel
theorem dX7_setLink_19 : decode cX7_setLink 19 = .ok (.ifCond .eq 13, 3) := by decide +kernel
theorem dX7_setLink_22 : decode cX7_setLink 22 = .ok (.iload_n 3, 1) := by decide +kernel
theorem dX7_setLink_23 : decode cX7_setLink 23 = .ok (.iconst 1, 1) := by decide +kernel
theorem dX7_setLink_24 : decode cX7_setLink 24 = .ok (.bipush 20, 2) := by decide +kernel
theorem dX7_setLink_26 : decode cX7_setLink 26 = .ok (.invokestatic 58, 3) := by decide +kernel
theorem dX7_setLink_29 : decode cX7_setLink 29 = .ok (.ifCond .ne 5, 3) := by decide +kernel
theorem dX7_setLink_32 : decode cX7_setLink 32 = .ok (.iconst (-1), 1) := by decide +kernel
theorem dX7_setLink_33 : decode cX7_setLink 33 = .ok (.ireturn, 1) := by decide +kernel
theorem dX7_setLink_34 : decode cX7_setLink 34 = .ok (.aload_n 0, 1) := by decide +kernel
theorem dX7_setLink_35 : decode cX7_setLink 35 = .ok (.iload_n 1, 1) := by decide +kernel
theorem dX7_setLink_36 : decode cX7_setLink 36 = .ok (.iconst 3, 1) := by decide +kernel
theorem dX7_setLink_37 : decode cX7_setLink 37 = .ok (.invokevirtual 62, 3) := by decide +kernel
theorem dX7_setLink_40 : decode cX7_setLink 40 = .ok (.istore 4, 2) := by decide +kernel
theorem dX7_setLink_42 : decode cX7_setLink 42 = .ok (.iload 4, 2) := by decide +kernel
theorem dX7_setLink_44 : decode cX7_setLink 44 = .ok (.iload_n 2, 1) := by decide +kernel
theorem dX7_setLink_45 : decode cX7_setLink 45 = .ok (.if_icmp .ne 16, 3) := by decide +kernel
theorem dX7_setLink_48 : decode cX7_setLink 48 = .ok (.aload_n 0, 1) := by decide +kernel
theorem dX7_setLink_49 : decode cX7_setLink 49 = .ok (.iload_n 1, 1) := by decide +kernel
theorem dX7_setLink_50 : decode cX7_setLink 50 = .ok (.iconst 2, 1) := by decide +kernel
theorem dX7_setLink_51 : decode cX7_setLink 51 = .ok (.invokevirtual 62, 3) := by decide +kernel
theorem dX7_setLink_54 : decode cX7_setLink 54 = .ok (.iload_n 3, 1) := by decide +kernel
theorem dX7_setLink_55 : decode cX7_setLink 55 = .ok (.if_icmp .ne 6, 3) := by decide +kernel
theorem dX7_setLink_58 : decode cX7_setLink 58 = .ok (.bipush (-2), 2) := by decide +kernel
theorem dX7_setLink_60 : decode cX7_setLink 60 = .ok (.ireturn, 1) := by decide +kernel
theorem dX7_setLink_61 : decode cX7_setLink 61 = .ok (.aload_n 0, 1) := by decide +kernel
theorem dX7_setLink_62 : decode cX7_setLink 62 = .ok (.invokevirtual 119, 3) := by decide +kernel
theorem dX7_setLink_65 : decode cX7_setLink 65 = .ok (.bipush 46, 2) := by decide +kernel
theorem dX7_setLink_67 : decode cX7_setLink 67 = .ok (.bipush 6, 2) := by decide +kernel
theorem dX7_setLink_69 : decode cX7_setLink 69 = .ok (.iload_n 1, 1) := by decide +kernel
theorem dX7_setLink_70 : decode cX7_setLink 70 = .ok (.imul, 1) := by decide +kernel
theorem dX7_setLink_71 : decode cX7_setLink 71 = .ok (.iadd, 1) := by decide +kernel
theorem dX7_setLink_72 : decode cX7_setLink 72 = .ok (.istore 5, 2) := by decide +kernel
theorem dX7_setLink_74 : decode cX7_setLink 74 = .ok (.aload_n 0, 1) := by decide +kernel
theorem dX7_setLink_75 : decode cX7_setLink 75 = .ok (.getfield 7, 3) := by decide +kernel
theorem dX7_setLink_78 : decode cX7_setLink 78 = .ok (.iload 5, 2) := by decide +kernel
theorem dX7_setLink_80 : decode cX7_setLink 80 = .ok (.iconst 3, 1) := by decide +kernel
theorem dX7_setLink_81 : decode cX7_setLink 81 = .ok (.iadd, 1) := by decide +kernel
theorem dX7_setLink_82 : decode cX7_setLink 82 = .ok (.iload_n 2, 1) := by decide +kernel
theorem dX7_setLink_83 : decode cX7_setLink 83 = .ok (.iastore, 1) := by decide +kernel
theorem dX7_setLink_84 : decode cX7_setLink 84 = .ok (.aload_n 0, 1) := by decide +kernel
theorem dX7_setLink_85 : decode cX7_setLink 85 = .ok (.getfield 7, 3) := by decide +kernel
theorem dX7_setLink_88 : decode cX7_setLink 88 = .ok (.iload 5, 2) := by decide +kernel
theorem dX7_setLink_90 : decode cX7_setLink 90 = .ok (.iconst 2, 1) := by decide +kernel
theorem dX7_setLink_91 : decode cX7_setLink 91 = .ok (.iadd, 1) := by decide +kernel
theorem dX7_setLink_92 : decode cX7_setLink 92 = .ok (.iload_n 3, 1) := by decide +kernel
theorem dX7_setLink_93 : decode cX7_setLink 93 = .ok (.iastore, 1) := by decide +kernel
theorem dX7_setLink_94 : decode cX7_setLink 94 = .ok (.aload_n 0, 1) := by decide +kernel
theorem dX7_setLink_95 : decode cX7_setLink 95 = .ok (.getfield 7, 3) := by decide +kernel
theorem dX7_setLink_98 : decode cX7_setLink 98 = .ok (.iload 5, 2) := by decide +kernel
theorem dX7_setLink_100 : decode cX7_setLink 100 = .ok (.iconst 5, 1) := by decide +kernel
theorem dX7_setLink_101 : decode cX7_setLink 101 = .ok (.iadd, 1) := by decide +kernel
theorem dX7_setLink_102 : decode cX7_setLink 102 = .ok (.dup2, 1) := by decide +kernel
theorem dX7_setLink_103 : decode cX7_setLink 103 = .ok (.iaload, 1) := by decide +kernel
theorem dX7_setLink_104 : decode cX7_setLink 104 = .ok (.iconst 1, 1) := by decide +kernel
theorem dX7_setLink_105 : decode cX7_setLink 105 = .ok (.iadd, 1) := by decide +kernel
theorem dX7_setLink_106 : decode cX7_setLink 106 = .ok (.iastore, 1) := by decide +kernel
theorem dX7_setLink_107 : decode cX7_setLink 107 = .ok (.aload_n 0, 1) := by decide +kernel
theorem dX7_setLink_108 : decode cX7_setLink 108 = .ok (.iload_n 1, 1) := by decide +kernel
theorem dX7_setLink_109 : decode cX7_setLink 109 = .ok (.iload 4, 2) := by decide +kernel
theorem dX7_setLink_111 : decode cX7_setLink 111 = .ok (.ifCond .ne 12, 3) := by decide +kernel
theorem dX7_setLink_114 : decode cX7_setLink 114 = .ok (.iload_n 2, 1) := by decide +kernel
theorem dX7_setLink_115 : decode cX7_setLink 115 = .ok (.iconst 1, 1) := by decide +kernel
theorem dX7_setLink_116 : decode cX7_setLink 116 = .ok (.if_icmp .ne 7, 3) := by decide +kernel
theorem dX7_setLink_119 : decode cX7_setLink 119 = .ok (.iconst 1, 1) := by decide +kernel
theorem dX7_setLink_120 : decode cX7_setLink 120 = .ok (.goto 4, 3) := by decide +kernel
theorem dX7_setLink_123 : decode cX7_setLink 123 = .ok (.iconst 0, 1) := by decide +kernel
theorem dX7_setLink_124 : decode cX7_setLink 124 = .ok (.invokevirtual 109, 3) := by decide +kernel
theorem dX7_setLink_127 : decode cX7_setLink 127 = .ok (.aload_n 0, 1) := by decide +kernel
theorem dX7_setLink_128 : decode cX7_setLink 128 = .ok (.iload_n 1, 1) := by decide +kernel
theorem dX7_setLink_129 : decode cX7_setLink 129 = .ok (.iconst 5, 1) := by decide +kernel
theorem dX7_setLink_130 : decode cX7_setLink 130 = .ok (.invokevirtual 62, 3) := by decide +kernel
theorem dX7_setLink_133 : decode cX7_setLink 133 = .ok (.ireturn, 1) := by decide +kernel
theorem dX7_areAreas_0 : decode cX7_areAreas 0 = .ok (.iload_n 0, 1) := by decide +kernel
theorem dX7_areAreas_1 : decode cX7_areAreas 1 = .ok (.invokestatic 116, 3) := by decide +kernel
theorem dX7_areAreas_4 : decode cX7_areAreas 4 = .ok (.ifCond .eq 19, 3) := by decide +kernel
theorem dX7_areAreas_7 : decode cX7_areAreas 7 = .ok (.iload_n 1, 1) := by decide +kernel
theorem dX7_areAreas_8 : decode cX7_areAreas 8 = .ok (.invokestatic 116, 3) := by decide +kernel
theorem dX7_areAreas_11 : decode cX7_areAreas 11 = .ok (.ifCond .eq 12, 3) := by decide +kernel
theorem dX7_areAreas_14 : decode cX7_areAreas 14 = .ok (.iload_n 0, 1) := by decide +kernel
theorem dX7_areAreas_15 : decode cX7_areAreas 15 = .ok (.iload_n 1, 1) := by decide +kernel
theorem dX7_areAreas_16 : decode cX7_areAreas 16 = .ok (.if_icmp .eq 7, 3) := by decide +kernel
theorem dX7_areAreas_19 : decode cX7_areAreas 19 = .ok (.iconst 1, 1) := by decide +kernel
theorem dX7_areAreas_20 : decode cX7_areAreas 20 = .ok (.goto 4, 3) := by decide +kernel
theorem dX7_areAreas_23 : decode cX7_areAreas 23 = .ok (.iconst 0, 1) := by decide +kernel
theorem dX7_areAreas_24 : decode cX7_areAreas 24 = .ok (.ireturn, 1) := by decide +kernel
theorem dX7_setGrant_0 : decode cX7_setGrant 0 = .ok (.aload_n 0, 1) := by decide +kernel
theorem dX7_setGrant_1 : decode cX7_setGrant 1 = .ok (.iconst 0, 1) := by decide +kernel
theorem dX7_setGrant_2 : decode cX7_setGrant 2 = .ok (.putfield 40, 3) := by decide +kernel
theorem dX7_setGrant_5 : decode cX7_setGrant 5 = .ok (.iload_n 1, 1) := by decide +kernel
theorem dX7_setGrant_6 : decode cX7_setGrant 6 = .ok (.iload_n 2, 1) := by decide +kernel
theorem dX7_setGrant_7 : decode cX7_setGrant 7 = .ok (.invokestatic 138, 3) := by decide +kernel
theorem dX7_setGrant_10 : decode cX7_setGrant 10 = .ok (.ifCond .eq 12, 3) := by decide +kernel
theorem dX7_setGrant_13 : decode cX7_setGrant 13 = .ok (.iload_n 3, 1) := by decide +kernel
theorem dX7_setGrant_14 : decode cX7_setGrant 14 = .ok (.iconst 0, 1) := by decide +kernel
theorem dX7_setGrant_15 : decode cX7_setGrant 15 = .ok (.iconst 1, 1) := by decide +kernel
theorem dX7_setGrant_16 : decode cX7_setGrant 16 = .ok (.invokestatic 58, 3) := by decide +kernel
theorem dX7_setGrant_19 : decode cX7_setGrant 19 = .ok (.ifCond .ne 5, 3) := by decide +kernel
theorem dX7_setGrant_22 : decode cX7_setGrant 22 = .ok (.iconst (-1), 1) := by decide +kernel
theorem dX7_setGrant_23 : decode cX7_setGrant 23 = .ok (.ireturn, 1) := by decide +kernel
theorem dX7_setGrant_24 : decode cX7_setGrant 24 = .ok (.aload_n 0, 1) := by decide +kernel
theorem dX7_setGrant_25 : decode cX7_setGrant 25 = .ok (.getfield 7, 3) := by decide +kernel
theorem dX7_setGrant_28 : decode cX7_setGrant 28 = .ok (.bipush 14, 2) := by decide +kernel
theorem dX7_setGrant_30 : decode cX7_setGrant 30 = .ok (.iconst 4, 1) := by decide +kernel
theorem dX7_setGrant_31 : decode cX7_setGrant 31 = .ok (.iload_n 1, 1) := by decide +kernel
theorem dX7_setGrant_32 : decode cX7_setGrant 32 = .ok (.imul, 1) := by decide +kernel
theorem dX7_setGrant_33 : decode cX7_setGrant 33 = .ok (.iadd, 1) := by decide +kernel
theorem dX7_setGrant_34 : decode cX7_setGrant 34 = .ok (.iload_n 2, 1) := by decide +kernel
theorem dX7_setGrant_35 : decode cX7_setGrant 35 = .ok (.iadd, 1) := by decide +kernel
theorem dX7_setGrant_36 : decode cX7_setGrant 36 = .ok (.iaload, 1) := by decide +kernel
theorem dX7_setGrant_37 : decode cX7_setGrant 37 = .ok (.iload_n 3, 1) := by decide +kernel
theorem dX7_setGrant_38 : decode cX7_setGrant 38 = .ok (.if_icmp .ne 6, 3) := by decide +kernel
theorem dX7_setGrant_41 : decode cX7_setGrant 41 = .ok (.bipush (-2), 2) := by decide +kernel
theorem dX7_setGrant_43 : decode cX7_setGrant 43 = .ok (.ireturn, 1) := by decide +kernel
theorem dX7_setGrant_44 : decode cX7_setGrant 44 = .ok (.aload_n 0, 1) := by decide +kernel
theorem dX7_setGrant_45 : decode cX7_setGrant 45 = .ok (.invokevirtual 119, 3) := by decide +kernel
theorem dX7_setGrant_48 : decode cX7_setGrant 48 = .ok (.aload_n 0, 1) := by decide +kernel
theorem dX7_setGrant_49 : decode cX7_setGrant 49 = .ok (.iload_n 1, 1) := by decide +kernel
theorem dX7_setGrant_50 : decode cX7_setGrant 50 = .ok (.iload_n 2, 1) := by decide +kernel
theorem dX7_setGrant_51 : decode cX7_setGrant 51 = .ok (.iload_n 3, 1) := by decide +kernel
theorem dX7_setGrant_52 : decode cX7_setGrant 52 = .ok (.invokevirtual 141, 3) := by decide +kernel
theorem dX7_setGrant_55 : decode cX7_setGrant 55 = .ok (.aload_n 0, 1) := by decide +kernel
theorem dX7_setGrant_56 : decode cX7_setGrant 56 = .ok (.getfield 7, 3) := by decide +kernel
theorem dX7_setGrant_59 : decode cX7_setGrant 59 = .ok (.bipush 30, 2) := by decide +kernel
theorem dX7_setGrant_61 : decode cX7_setGrant 61 = .ok (.iconst 4, 1) := by decide +kernel
theorem dX7_setGrant_62 : decode cX7_setGrant 62 = .ok (.iload_n 1, 1) := by decide +kernel
theorem dX7_setGrant_63 : decode cX7_setGrant 63 = .ok (.imul, 1) := by decide +kernel
theorem dX7_setGrant_64 : decode cX7_setGrant 64 = .ok (.iadd, 1) := by decide +kernel
theorem dX7_setGrant_65 : decode cX7_setGrant 65 = .ok (.iload_n 2, 1) := by decide +kernel
theorem dX7_setGrant_66 : decode cX7_setGrant 66 = .ok (.iadd, 1) := by decide +kernel
theorem dX7_setGrant_67 : decode cX7_setGrant 67 = .ok (.iaload, 1) := by decide +kernel
theorem dX7_setGrant_68 : decode cX7_setGrant 68 = .ok (.ireturn, 1) := by decide +kernel
theorem dX7_addTunnel_0 : decode cX7_addTunnel 0 = .ok (.aload_n 0, 1) := by decide +kernel
theorem dX7_addTunnel_1 : decode cX7_addTunnel 1 = .ok (.iconst 0, 1) := by decide +kernel
theorem dX7_addTunnel_2 : decode cX7_addTunnel 2 = .ok (.putfield 40, 3) := by decide +kernel
theorem dX7_addTunnel_5 : decode cX7_addTunnel 5 = .ok (.aload_n 0, 1) := by decide +kernel
theorem dX7_addTunnel_6 : decode cX7_addTunnel 6 = .ok (.iload_n 1, 1) := by decide +kernel
theorem dX7_addTunnel_7 : decode cX7_addTunnel 7 = .ok (.iload_n 2, 1) := by decide +kernel
theorem dX7_addTunnel_8 : decode cX7_addTunnel 8 = .ok (.invokevirtual 128, 3) := by decide +kernel
theorem dX7_addTunnel_11 : decode cX7_addTunnel 11 = .ok (.ifCond .eq 13, 3) := by decide +kernel
theorem dX7_addTunnel_14 : decode cX7_addTunnel 14 = .ok (.iload_n 3, 1) := by decide +kernel
theorem dX7_addTunnel_15 : decode cX7_addTunnel 15 = .ok (.iconst 1, 1) := by decide +kernel
theorem dX7_addTunnel_16 : decode cX7_addTunnel 16 = .ok (.bipush 40, 2) := by decide +kernel
theorem dX7_addTunnel_18 : decode cX7_addTunnel 18 = .ok (.invokestatic 58, 3) := by decide +kernel
theorem dX7_addTunnel_21 : decode cX7_addTunnel 21 = .ok (.ifCond .ne 5, 3) := by decide +kernel
theorem dX7_addTunnel_24 : decode cX7_addTunnel 24 = .ok (.iconst (-1), 1) := by decide +kernel
theorem dX7_addTunnel_25 : decode cX7_addTunnel 25 = .ok (.ireturn, 1) := by decide +kernel
theorem dX7_addTunnel_26 : decode cX7_addTunnel 26 = .ok (.aload_n 0, 1) := by decide +kernel
theorem dX7_addTunnel_27 : decode cX7_addTunnel 27 = .ok (.getfield 7, 3) := by decide +kernel
theorem dX7_addTunnel_30 : decode cX7_addTunnel 30 = .ok (.iconst 2, 1) := by decide +kernel
theorem dX7_addTunnel_31 : decode cX7_addTunnel 31 = .ok (.iaload, 1) := by decide +kernel
theorem dX7_addTunnel_32 : decode cX7_addTunnel 32 = .ok (.iconst 3, 1) := by decide +kernel
theorem dX7_addTunnel_33 : decode cX7_addTunnel 33 = .ok (.if_icmp .ne 6, 3) := by decide +kernel
theorem dX7_addTunnel_36 : decode cX7_addTunnel 36 = .ok (.bipush (-3), 2) := by decide +kernel
theorem dX7_addTunnel_38 : decode cX7_addTunnel 38 = .ok (.ireturn, 1) := by decide +kernel
theorem dX7_addTunnel_39 : decode cX7_addTunnel 39 = .ok (.aload_n 0, 1) := by decide +kernel
theorem dX7_addTunnel_40 : decode cX7_addTunnel 40 = .ok (.invokevirtual 119, 3) := by decide +kernel
theorem dX7_addTunnel_43 : decode cX7_addTunnel 43 = .ok (.aload_n 0, 1) := by decide +kernel
theorem dX7_addTunnel_44 : decode cX7_addTunnel 44 = .ok (.iload_n 1, 1) := by decide +kernel
theorem dX7_addTunnel_45 : decode cX7_addTunnel 45 = .ok (.iload_n 2, 1) := by decide +kernel
theorem dX7_addTunnel_46 : decode cX7_addTunnel 46 = .ok (.iload_n 3, 1) := by decide +kernel
theorem dX7_addTunnel_47 : decode cX7_addTunnel 47 = .ok (.invokevirtual 145, 3) := by decide +kernel
theorem dX7_addTunnel_50 : decode cX7_addTunnel 50 = .ok (.ireturn, 1) := by decide +kernel
theorem dX7_setTunnel_0 : decode cX7_setTunnel 0 = .ok (.aload_n 0, 1) := by decide +kernel
theorem dX7_setTunnel_1 : decode cX7_setTunnel 1 = .ok (.iconst 0, 1) := by decide +kernel
theorem dX7_setTunnel_2 : decode cX7_setTunnel 2 = .ok (.putfield 40, 3) := by decide +kernel
theorem dX7_setTunnel_5 : decode cX7_setTunnel 5 = .ok (.aload_n 0, 1) := by decide +kernel
theorem dX7_setTunnel_6 : decode cX7_setTunnel 6 = .ok (.iload_n 1, 1) := by decide +kernel
theorem dX7_setTunnel_7 : decode cX7_setTunnel 7 = .ok (.invokevirtual 148, 3) := by decide +kernel
theorem dX7_setTunnel_10 : decode cX7_setTunnel 10 = .ok (.ifCond .eq 22, 3) := by decide +kernel
theorem dX7_setTunnel_13 : decode cX7_setTunnel 13 = .ok (.iload_n 2, 1) := by decide +kernel
theorem dX7_setTunnel_14 : decode cX7_setTunnel 14 = .ok (.iconst 0, 1) := by decide +kernel
theorem dX7_setTunnel_15 : decode cX7_setTunnel 15 = .ok (.iconst 1, 1) := by decide +kernel
theorem dX7_setTunnel_16 : decode cX7_setTunnel 16 = .ok (.invokestatic 58, 3) := by decide +kernel
theorem dX7_setTunnel_19 : decode cX7_setTunnel 19 = .ok (.ifCond .eq 13, 3) := by decide +kernel
theorem dX7_setTunnel_22 : decode cX7_setTunnel 22 = .ok (.iload_n 3, 1) := by decide +kernel
theorem dX7_setTunnel_23 : decode cX7_setTunnel 23 = .ok (.iconst 1, 1) := by decide +kernel
theorem dX7_setTunnel_24 : decode cX7_setTunnel 24 = .ok (.bipush 40, 2) := by decide +kernel
theorem dX7_setTunnel_26 : decode cX7_setTunnel 26 = .ok (.invokestatic 58, 3) := by decide +kernel
theorem dX7_setTunnel_29 : decode cX7_setTunnel 29 = .ok (.ifCond .ne 5, 3) := by decide +kernel
theorem dX7_setTunnel_32 : decode cX7_setTunnel 32 = .ok (.iconst (-1), 1) := by decide +kernel
theorem dX7_setTunnel_33 : decode cX7_setTunnel 33 = .ok (.ireturn, 1) := by decide +kernel
theorem dX7_setTunnel_34 : decode cX7_setTunnel 34 = .ok (.aload_n 0, 1) := by decide +kernel
theorem dX7_setTunnel_35 : decode cX7_setTunnel 35 = .ok (.iload_n 1, 1) := by decide +kernel
theorem dX7_setTunnel_36 : decode cX7_setTunnel 36 = .ok (.iconst 3, 1) := by decide +kernel
theorem dX7_setTunnel_37 : decode cX7_setTunnel 37 = .ok (.invokevirtual 106, 3) := by decide +kernel
theorem dX7_setTunnel_40 : decode cX7_setTunnel 40 = .ok (.iload_n 2, 1) := by decide +kernel
theorem dX7_setTunnel_41 : decode cX7_setTunnel 41 = .ok (.if_icmp .ne 16, 3) := by decide +kernel
theorem dX7_setTunnel_44 : decode cX7_setTunnel 44 = .ok (.aload_n 0, 1) := by decide +kernel
theorem dX7_setTunnel_45 : decode cX7_setTunnel 45 = .ok (.iload_n 1, 1) := by decide +kernel
theorem dX7_setTunnel_46 : decode cX7_setTunnel 46 = .ok (.iconst 2, 1) := by decide +kernel
theorem dX7_setTunnel_47 : decode cX7_setTunnel 47 = .ok (.invokevirtual 106, 3) := by decide +kernel
theorem dX7_setTunnel_50 : decode cX7_setTunnel 50 = .ok (.iload_n 3, 1) := by decide +kernel
theorem dX7_setTunnel_51 : decode cX7_setTunnel 51 = .ok (.if_icmp .ne 6, 3) := by decide +kernel
theorem dX7_setTunnel_54 : decode cX7_setTunnel 54 = .ok (.bipush (-2), 2) := by decide +kernel
theorem dX7_setTunnel_56 : decode cX7_setTunnel 56 = .ok (.ireturn, 1) := by decide +kernel
theorem dX7_setTunnel_57 : decode cX7_setTunnel 57 = .ok (.aload_n 0, 1) := by decide +kernel
theorem dX7_setTunnel_58 : decode cX7_setTunnel 58 = .ok (.invokevirtual 119, 3) := by decide +kernel
theorem dX7_setTunnel_61 : decode cX7_setTunnel 61 = .ok (.sipush 142, 3) := by decide +kernel
theorem dX7_setTunnel_64 : decode cX7_setTunnel 64 = .ok (.iconst 5, 1) := by decide +kernel
theorem dX7_setTunnel_65 : decode cX7_setTunnel 65 = .ok (.iload_n 1, 1) := by decide +kernel
theorem dX7_setTunnel_66 : decode cX7_setTunnel 66 = .ok (.imul, 1) := by decide +kernel
theorem dX7_setTunnel_67 : decode cX7_setTunnel 67 = .ok (.iadd, 1) := by decide +kernel
theorem dX7_setTunnel_68 : decode cX7_setTunnel 68 = .ok (.istore 4, 2) := by decide +kernel
theorem dX7_setTunnel_70 : decode cX7_setTunnel 70 = .ok (.aload_n 0, 1) := by decide +kernel
theorem dX7_setTunnel_71 : decode cX7_setTunnel 71 = .ok (.getfield 7, 3) := by decide +kernel
theorem dX7_setTunnel_74 : decode cX7_setTunnel 74 = .ok (.iload 4, 2) := by decide +kernel
theorem dX7_setTunnel_76 : decode cX7_setTunnel 76 = .ok (.iconst 3, 1) := by decide +kernel
theorem dX7_setTunnel_77 : decode cX7_setTunnel 77 = .ok (.iadd, 1) := by decide +kernel
theorem dX7_setTunnel_78 : decode cX7_setTunnel 78 = .ok (.iload_n 2, 1) := by decide +kernel
theorem dX7_setTunnel_79 : decode cX7_setTunnel 79 = .ok (.iastore, 1) := by decide +kernel
theorem dX7_setTunnel_80 : decode cX7_setTunnel 80 = .ok (.aload_n 0, 1) := by decide +kernel
theorem dX7_setTunnel_81 : decode cX7_setTunnel 81 = .ok (.getfield 7, 3) := by decide +kernel
theorem dX7_setTunnel_84 : decode cX7_setTunnel 84 = .ok (.iload 4, 2) := by decide +kernel
theorem dX7_setTunnel_86 : decode cX7_setTunnel 86 = .ok (.iconst 2, 1) := by decide +kernel
theorem dX7_setTunnel_87 : decode cX7_setTunnel 87 = .ok (.iadd, 1) := by decide +kernel
theorem dX7_setTunnel_88 : decode cX7_setTunnel 88 = .ok (.iload_n 3, 1) := by decide +kernel
theorem dX7_setTunnel_89 : decode cX7_setTunnel 89 = .ok (.iastore, 1) := by decide +kernel
theorem dX7_setTunnel_90 : decode cX7_setTunnel 90 = .ok (.aload_n 0, 1) := by decide +kernel
theorem dX7_setTunnel_91 : decode cX7_setTunnel 91 = .ok (.getfield 7, 3) := by decide +kernel
theorem dX7_setTunnel_94 : decode cX7_setTunnel 94 = .ok (.iload 4, 2) := by decide +kernel
theorem dX7_setTunnel_96 : decode cX7_setTunnel 96 = .ok (.iconst 4, 1) := by decide +kernel
theorem dX7_setTunnel_97 : decode cX7_setTunnel 97 = .ok (.iadd, 1) := by decide +kernel
theorem dX7_setTunnel_98 : decode cX7_setTunnel 98 = .ok (.dup2, 1) := by decide +kernel
theorem dX7_setTunnel_99 : decode cX7_setTunnel 99 = .ok (.iaload, 1) := by decide +kernel
theorem dX7_setTunnel_100 : decode cX7_setTunnel 100 = .ok (.iconst 1, 1) := by decide +kernel
theorem dX7_setTunnel_101 : decode cX7_setTunnel 101 = .ok (.iadd, 1) := by decide +kernel
theorem dX7_setTunnel_102 : decode cX7_setTunnel 102 = .ok (.iastore, 1) := by decide +kernel
theorem dX7_setTunnel_103 : decode cX7_setTunnel 103 = .ok (.aload_n 0, 1) := by decide +kernel
theorem dX7_setTunnel_104 : decode cX7_setTunnel 104 = .ok (.iload_n 1, 1) := by decide +kernel
theorem dX7_setTunnel_105 : decode cX7_setTunnel 105 = .ok (.invokevirtual 113, 3) := by decide +kernel
theorem dX7_setTunnel_108 : decode cX7_setTunnel 108 = .ok (.aload_n 0, 1) := by decide +kernel
theorem dX7_setTunnel_109 : decode cX7_setTunnel 109 = .ok (.iload_n 1, 1) := by decide +kernel
theorem dX7_setTunnel_110 : decode cX7_setTunnel 110 = .ok (.iconst 4, 1) := by decide +kernel
theorem dX7_setTunnel_111 : decode cX7_setTunnel 111 = .ok (.invokevirtual 106, 3) := by decide +kernel
theorem dX7_setTunnel_114 : decode cX7_setTunnel 114 = .ok (.ireturn, 1) := by decide +kernel
theorem dX7_append_0 : decode cX7_append 0 = .ok (.aload_n 0, 1) := by decide +kernel
theorem dX7_append_1 : decode cX7_append 1 = .ok (.iconst 0, 1) := by decide +kernel
theorem dX7_append_2 : decode cX7_append 2 = .ok (.putfield 40, 3) := by decide +kernel
theorem dX7_append_5 : decode cX7_append 5 = .ok (.iload_n 1, 1) := by decide +kernel
theorem dX7_append_6 : decode cX7_append 6 = .ok (.iconst 1, 1) := by decide +kernel
theorem dX7_append_7 : decode cX7_append 7 = .ok (.sipush 255, 3) := by decide +kernel
theorem dX7_append_10 : decode cX7_append 10 = .ok (.invokestatic 58, 3) := by decide +kernel
theorem dX7_append_13 : decode cX7_append 13 = .ok (.ifCond .ne 5, 3) := by decide +kernel
theorem dX7_append_16 : decode cX7_append 16 = .ok (.iconst (-1), 1) := by decide +kernel
theorem dX7_append_17 : decode cX7_append 17 = .ok (.ireturn, 1) := by decide +kernel
theorem dX7_append_18 : decode cX7_append 18 = .ok (.aload_n 0, 1) := by decide +kernel
theorem dX7_append_19 : decode cX7_append 19 = .ok (.getfield 151, 3) := by decide +kernel
theorem dX7_append_22 : decode cX7_append 22 = .ok (.bipush 120, 2) := by decide +kernel
theorem dX7_append_24 : decode cX7_append 24 = .ok (.if_icmp .ne 6, 3) := by decide +kernel
theorem dX7_append_27 : decode cX7_append 27 = .ok (.bipush (-3), 2) := by decide +kernel
theorem dX7_append_29 : decode cX7_append 29 = .ok (.ireturn, 1) := by decide +kernel
theorem dX7_append_30 : decode cX7_append 30 = .ok (.aload_n 0, 1) := by decide +kernel
theorem dX7_append_31 : decode cX7_append 31 = .ok (.getfield 22, 3) := by decide +kernel
theorem dX7_append_34 : decode cX7_append 34 = .ok (.aload_n 0, 1) := by decide +kernel
theorem dX7_append_35 : decode cX7_append 35 = .ok (.getfield 151, 3) := by decide +kernel
theorem dX7_append_38 : decode cX7_append 38 = .ok (.iload_n 1, 1) := by decide +kernel
theorem dX7_append_39 : decode cX7_append 39 = .ok (.iastore, 1) := by decide +kernel
theorem dX7_append_40 : decode cX7_append 40 = .ok (.aload_n 0, 1) := by decide +kernel
theorem dX7_append_41 : decode cX7_append 41 = .ok (.dup, 1) := by decide +kernel
theorem dX7_append_42 : decode cX7_append 42 = .ok (.getfield 151, 3) := by decide +kernel
theorem dX7_append_45 : decode cX7_append 45 = .ok (.iconst 1, 1) := by decide +kernel
theorem dX7_append_46 : decode cX7_append 46 = .ok (.iadd, 1) := by decide +kernel
theorem dX7_append_47 : decode cX7_append 47 = .ok (.putfield 151, 3) := by decide +kernel
theorem dX7_append_50 : decode cX7_append 50 = .ok (.aload_n 0, 1) := by decide +kernel
theorem dX7_append_51 : decode cX7_append 51 = .ok (.getfield 151, 3) := by decide +kernel
theorem dX7_append_54 : decode cX7_append 54 = .ok (.ireturn, 1) := by decide +kernel
theorem dX7_clearText_0 : decode cX7_clearText 0 = .ok (.aload_n 0, 1) := by decide +kernel
theorem dX7_clearText_1 : decode cX7_clearText 1 = .ok (.iconst 0, 1) := by decide +kernel
theorem dX7_clearText_2 : decode cX7_clearText 2 = .ok (.putfield 40, 3) := by decide +kernel
theorem dX7_clearText_5 : decode cX7_clearText 5 = .ok (.aload_n 0, 1) := by decide +kernel
theorem dX7_clearText_6 : decode cX7_clearText 6 = .ok (.getfield 151, 3) := by decide +kernel
theorem dX7_clearText_9 : decode cX7_clearText 9 = .ok (.istore_n 1, 1) := by decide +kernel
theorem dX7_clearText_10 : decode cX7_clearText 10 = .ok (.aload_n 0, 1) := by decide +kernel
theorem dX7_clearText_11 : decode cX7_clearText 11 = .ok (.iconst 0, 1) := by decide +kernel
theorem dX7_clearText_12 : decode cX7_clearText 12 = .ok (.putfield 151, 3) := by decide +kernel
theorem dX7_clearText_15 : decode cX7_clearText 15 = .ok (.iload_n 1, 1) := by decide +kernel
theorem dX7_clearText_16 : decode cX7_clearText 16 = .ok (.ireturn, 1) := by decide +kernel
theorem dX7_here_0 : decode cX7_here 0 = .ok (.aload_n 0, 1) := by decide +kernel
theorem dX7_here_1 : decode cX7_here 1 = .ok (.getfield 154, 3) := by decide +kernel
theorem dX7_here_4 : decode cX7_here 4 = .ok (.aload_n 0, 1) := by decide +kernel
theorem dX7_here_5 : decode cX7_here 5 = .ok (.getfield 151, 3) := by decide +kernel
theorem dX7_here_8 : decode cX7_here 8 = .ok (.if_icmp .ge 15, 3) := by decide +kernel
theorem dX7_here_11 : decode cX7_here 11 = .ok (.aload_n 0, 1) := by decide +kernel
theorem dX7_here_12 : decode cX7_here 12 = .ok (.getfield 22, 3) := by decide +kernel
theorem dX7_here_15 : decode cX7_here 15 = .ok (.aload_n 0, 1) := by decide +kernel
theorem dX7_here_16 : decode cX7_here 16 = .ok (.getfield 154, 3) := by decide +kernel
theorem dX7_here_19 : decode cX7_here 19 = .ok (.iaload, 1) := by decide +kernel
theorem dX7_here_20 : decode cX7_here 20 = .ok (.goto 4, 3) := by decide +kernel
theorem dX7_here_23 : decode cX7_here 23 = .ok (.iconst (-1), 1) := by decide +kernel
theorem dX7_here_24 : decode cX7_here 24 = .ok (.ireturn, 1) := by decide +kernel
theorem dX7_read_0 : decode cX7_read 0 = .ok (.aload_n 0, 1) := by decide +kernel
theorem dX7_read_1 : decode cX7_read 1 = .ok (.invokevirtual 157, 3) := by decide +kernel
theorem dX7_read_4 : decode cX7_read 4 = .ok (.bipush 32, 2) := by decide +kernel
theorem dX7_read_6 : decode cX7_read 6 = .ok (.if_icmp .ne 16, 3) := by decide +kernel
theorem dX7_read_9 : decode cX7_read 9 = .ok (.aload_n 0, 1) := by decide +kernel
theorem dX7_read_10 : decode cX7_read 10 = .ok (.dup, 1) := by decide +kernel
theorem dX7_read_11 : decode cX7_read 11 = .ok (.getfield 154, 3) := by decide +kernel
theorem dX7_read_14 : decode cX7_read 14 = .ok (.iconst 1, 1) := by decide +kernel
theorem dX7_read_15 : decode cX7_read 15 = .ok (.iadd, 1) := by decide +kernel
theorem dX7_read_16 : decode cX7_read 16 = .ok (.putfield 154, 3) := by decide +kernel
theorem dX7_read_19 : decode cX7_read 19 = .ok (.goto (-19), 3) := by decide +kernel
theorem dX7_read_22 : decode cX7_read 22 = .ok (.aload_n 0, 1) := by decide +kernel
theorem dX7_read_23 : decode cX7_read 23 = .ok (.aload_n 0, 1) := by decide +kernel
theorem dX7_read_24 : decode cX7_read 24 = .ok (.getfield 154, 3) := by decide +kernel
theorem dX7_read_27 : decode cX7_read 27 = .ok (.putfield 161, 3) := by decide +kernel
theorem dX7_read_30 : decode cX7_read 30 = .ok (.aload_n 0, 1) := by decide +kernel
theorem dX7_read_31 : decode cX7_read 31 = .ok (.aload_n 0, 1) := by decide +kernel
theorem dX7_read_32 : decode cX7_read 32 = .ok (.invokevirtual 157, 3) := by decide +kernel
theorem dX7_read_35 : decode cX7_read 35 = .ok (.ifCond .ge 7, 3) := by decide +kernel
theorem dX7_read_38 : decode cX7_read 38 = .ok (.iconst 3, 1) := by decide +kernel
theorem dX7_read_39 : decode cX7_read 39 = .ok (.goto 4, 3) := by decide +kernel
theorem dX7_read_42 : decode cX7_read 42 = .ok (.iconst 2, 1) := by decide +kernel
theorem dX7_read_43 : decode cX7_read 43 = .ok (.putfield 164, 3) := by decide +kernel
theorem dX7_read_46 : decode cX7_read 46 = .ok (.aload_n 0, 1) := by decide +kernel
theorem dX7_read_47 : decode cX7_read 47 = .ok (.iconst (-1), 1) := by decide +kernel
theorem dX7_read_48 : decode cX7_read 48 = .ok (.putfield 167, 3) := by decide +kernel
theorem dX7_read_51 : decode cX7_read 51 = .ok (.aload_n 0, 1) := by decide +kernel
theorem dX7_read_52 : decode cX7_read 52 = .ok (.lconst 0, 1) := by decide +kernel
theorem dX7_read_53 : decode cX7_read 53 = .ok (.putfield 170, 3) := by decide +kernel
theorem dX7_read_56 : decode cX7_read 56 = .ok (.aload_n 0, 1) := by decide +kernel
theorem dX7_read_57 : decode cX7_read 57 = .ok (.invokevirtual 157, 3) := by decide +kernel
theorem dX7_read_60 : decode cX7_read 60 = .ok (.bipush 97, 2) := by decide +kernel
theorem dX7_read_62 : decode cX7_read 62 = .ok (.bipush 122, 2) := by decide +kernel
theorem dX7_read_64 : decode cX7_read 64 = .ok (.invokestatic 58, 3) := by decide +kernel
theorem dX7_read_67 : decode cX7_read 67 = .ok (.ifCond .eq 77, 3) := by decide +kernel
theorem dX7_read_70 : decode cX7_read 70 = .ok (.aload_n 0, 1) := by decide +kernel
theorem dX7_read_71 : decode cX7_read 71 = .ok (.iconst 0, 1) := by decide +kernel
theorem dX7_read_72 : decode cX7_read 72 = .ok (.putfield 164, 3) := by decide +kernel
theorem dX7_read_75 : decode cX7_read 75 = .ok (.aload_n 0, 1) := by decide +kernel
theorem dX7_read_76 : decode cX7_read 76 = .ok (.invokevirtual 157, 3) := by decide +kernel
theorem dX7_read_79 : decode cX7_read 79 = .ok (.bipush 97, 2) := by decide +kernel
theorem dX7_read_81 : decode cX7_read 81 = .ok (.bipush 122, 2) := by decide +kernel
theorem dX7_read_83 : decode cX7_read 83 = .ok (.invokestatic 58, 3) := by decide +kernel
theorem dX7_read_86 : decode cX7_read 86 = .ok (.ifCond .eq 215, 3) := by decide +kernel
theorem dX7_read_89 : decode cX7_read 89 = .ok (.aload_n 0, 1) := by decide +kernel
theorem dX7_read_90 : decode cX7_read 90 = .ok (.aload_n 0, 1) := by decide +kernel
theorem dX7_read_91 : decode cX7_read 91 = .ok (.getfield 154, 3) := by decide +kernel
theorem dX7_read_94 : decode cX7_read 94 = .ok (.aload_n 0, 1) := by decide +kernel
theorem dX7_read_95 : decode cX7_read 95 = .ok (.getfield 161, 3) := by decide +kernel
theorem dX7_read_98 : decode cX7_read 98 = .ok (.isub, 1) := by decide +kernel
theorem dX7_read_99 : decode cX7_read 99 = .ok (.bipush 8, 2) := by decide +kernel
theorem dX7_read_101 : decode cX7_read 101 = .ok (.if_icmp .ge 26, 3) := by decide +kernel
theorem dX7_read_104 : decode cX7_read 104 = .ok (.ldc2_w 174, 3) := by decide +kernel
theorem dX7_read_107 : decode cX7_read 107 = .ok (.aload_n 0, 1) := by decide +kernel
theorem dX7_read_108 : decode cX7_read 108 = .ok (.getfield 170, 3) := by decide +kernel
theorem dX7_read_111 : decode cX7_read 111 = .ok (.lmul, 1) := by decide +kernel
theorem dX7_read_112 : decode cX7_read 112 = .ok (.aload_n 0, 1) := by decide +kernel
theorem dX7_read_113 : decode cX7_read 113 = .ok (.invokevirtual 157, 3) := by decide +kernel
theorem dX7_read_116 : decode cX7_read 116 = .ok (.i2l, 1) := by decide +kernel
theorem dX7_read_117 : decode cX7_read 117 = .ok (.ladd, 1) := by decide +kernel
theorem dX7_read_118 : decode cX7_read 118 = .ok (.ldc2_w 176, 3) := by decide +kernel
theorem dX7_read_121 : decode cX7_read 121 = .ok (.lsub, 1) := by decide +kernel
theorem dX7_read_122 : decode cX7_read 122 = .ok (.lconst 1, 1) := by decide +kernel
theorem dX7_read_123 : decode cX7_read 123 = .ok (.ladd, 1) := by decide +kernel
theorem dX7_read_124 : decode cX7_read 124 = .ok (.goto 4, 3) := by decide +kernel
theorem dX7_read_127 : decode cX7_read 127 = .ok (.lconst 0, 1) := by decide +kernel
theorem dX7_read_128 : decode cX7_read 128 = .ok (.putfield 170, 3) := by decide +kernel
theorem dX7_read_131 : decode cX7_read 131 = .ok (.aload_n 0, 1) := by decide +kernel
theorem dX7_read_132 : decode cX7_read 132 = .ok (.dup, 1) := by decide +kernel
theorem dX7_read_133 : decode cX7_read 133 = .ok (.getfield 154, 3) := by decide +kernel
theorem dX7_read_136 : decode cX7_read 136 = .ok (.iconst 1, 1) := by decide +kernel
theorem dX7_read_137 : decode cX7_read 137 = .ok (.iadd, 1) := by decide +kernel
theorem dX7_read_138 : decode cX7_read 138 = .ok (.putfield 154, 3) := by decide +kernel
theorem dX7_read_141 : decode cX7_read 141 = .ok (.goto (-66), 3) := by decide +kernel
theorem dX7_read_144 : decode cX7_read 144 = .ok (.aload_n 0, 1) := by decide +kernel
theorem dX7_read_145 : decode cX7_read 145 = .ok (.invokevirtual 157, 3) := by decide +kernel
theorem dX7_read_148 : decode cX7_read 148 = .ok (.bipush 48, 2) := by decide +kernel
theorem dX7_read_150 : decode cX7_read 150 = .ok (.bipush 57, 2) := by decide +kernel
theorem dX7_read_152 : decode cX7_read 152 = .ok (.invokestatic 58, 3) := by decide +kernel
theorem dX7_read_155 : decode cX7_read 155 = .ok (.ifCond .eq 129, 3) := by decide +kernel
theorem dX7_read_158 : decode cX7_read 158 = .ok (.aload_n 0, 1) := by decide +kernel
theorem dX7_read_159 : decode cX7_read 159 = .ok (.iconst 1, 1) := by decide +kernel
theorem dX7_read_160 : decode cX7_read 160 = .ok (.putfield 164, 3) := by decide +kernel
theorem dX7_read_163 : decode cX7_read 163 = .ok (.iconst 0, 1) := by decide +kernel
theorem dX7_read_164 : decode cX7_read 164 = .ok (.istore_n 1, 1) := by decide +kernel
theorem dX7_read_165 : decode cX7_read 165 = .ok (.aload_n 0, 1) := by decide +kernel
theorem dX7_read_166 : decode cX7_read 166 = .ok (.invokevirtual 157, 3) := by decide +kernel
theorem dX7_read_169 : decode cX7_read 169 = .ok (.bipush 48, 2) := by decide +kernel
theorem dX7_read_171 : decode cX7_read 171 = .ok (.bipush 57, 2) := by decide +kernel
theorem dX7_read_173 : decode cX7_read 173 = .ok (.invokestatic 58, 3) := by decide +kernel
theorem dX7_read_176 : decode cX7_read 176 = .ok (.ifCond .eq 46, 3) := by decide +kernel
theorem dX7_read_179 : decode cX7_read 179 = .ok (.aload_n 0, 1) := by decide +kernel
theorem dX7_read_180 : decode cX7_read 180 = .ok (.getfield 154, 3) := by decide +kernel
theorem dX7_read_183 : decode cX7_read 183 = .ok (.aload_n 0, 1) := by decide +kernel
theorem dX7_read_184 : decode cX7_read 184 = .ok (.getfield 161, 3) := by decide +kernel
theorem dX7_read_187 : decode cX7_read 187 = .ok (.isub, 1) := by decide +kernel
theorem dX7_read_188 : decode cX7_read 188 = .ok (.iconst 2, 1) := by decide +kernel
theorem dX7_read_189 : decode cX7_read 189 = .ok (.if_icmp .ge 18, 3) := by decide +kernel
theorem dX7_read_192 : decode cX7_read 192 = .ok (.bipush 10, 2) := by decide +kernel
theorem dX7_read_194 : decode cX7_read 194 = .ok (.iload_n 1, 1) := by decide +kernel
theorem dX7_read_195 : decode cX7_read 195 = .ok (.imul, 1) := by decide +kernel
theorem dX7_read_196 : decode cX7_read 196 = .ok (.aload_n 0, 1) := by decide +kernel
theorem dX7_read_197 : decode cX7_read 197 = .ok (.invokevirtual 157, 3) := by decide +kernel
theorem dX7_read_200 : decode cX7_read 200 = .ok (.iadd, 1) := by decide +kernel
theorem dX7_read_201 : decode cX7_read 201 = .ok (.bipush 48, 2) := by decide +kernel
theorem dX7_read_203 : decode cX7_read 203 = .ok (.isub, 1) := by decide +kernel
theorem dX7_read_204 : decode cX7_read 204 = .ok (.goto 4, 3) := by decide +kernel
theorem dX7_read_207 : decode cX7_read 207 = .ok (.iload_n 1, 1) := by decide +kernel
theorem dX7_read_208 : decode cX7_read 208 = .ok (.istore_n 1, 1) := by decide +kernel
theorem dX7_read_209 : decode cX7_read 209 = .ok (.aload_n 0, 1) := by decide +kernel
theorem dX7_read_210 : decode cX7_read 210 = .ok (.dup, 1) := by decide +kernel
theorem dX7_read_211 : decode cX7_read 211 = .ok (.getfield 154, 3) := by decide +kernel
theorem dX7_read_214 : decode cX7_read 214 = .ok (.iconst 1, 1) := by decide +kernel
theorem dX7_read_215 : decode cX7_read 215 = .ok (.iadd, 1) := by decide +kernel
theorem dX7_read_216 : decode cX7_read 216 = .ok (.putfield 154, 3) := by decide +kernel
theorem dX7_read_219 : decode cX7_read 219 = .ok (.goto (-54), 3) := by decide +kernel
theorem dX7_read_222 : decode cX7_read 222 = .ok (.aload_n 0, 1) := by decide +kernel
theorem dX7_read_223 : decode cX7_read 223 = .ok (.getfield 154, 3) := by decide +kernel
theorem dX7_read_226 : decode cX7_read 226 = .ok (.aload_n 0, 1) := by decide +kernel
theorem dX7_read_227 : decode cX7_read 227 = .ok (.getfield 161, 3) := by decide +kernel
theorem dX7_read_230 : decode cX7_read 230 = .ok (.isub, 1) := by decide +kernel
theorem dX7_read_231 : decode cX7_read 231 = .ok (.iconst 1, 1) := by decide +kernel
theorem dX7_read_232 : decode cX7_read 232 = .ok (.if_icmp .eq 30, 3) := by decide +kernel
theorem dX7_read_235 : decode cX7_read 235 = .ok (.aload_n 0, 1) := by decide +kernel
theorem dX7_read_236 : decode cX7_read 236 = .ok (.getfield 154, 3) := by decide +kernel
theorem dX7_read_239 : decode cX7_read 239 = .ok (.aload_n 0, 1) := by decide +kernel
theorem dX7_read_240 : decode cX7_read 240 = .ok (.getfield 161, 3) := by decide +kernel
theorem dX7_read_243 : decode cX7_read 243 = .ok (.isub, 1) := by decide +kernel
theorem dX7_read_244 : decode cX7_read 244 = .ok (.iconst 2, 1) := by decide +kernel
theorem dX7_read_245 : decode cX7_read 245 = .ok (.if_icmp .ne 21, 3) := by decide +kernel
theorem dX7_read_248 : decode cX7_read 248 = .ok (.aload_n 0, 1) := by decide +kernel
theorem dX7_read_249 : decode cX7_read 249 = .ok (.getfield 22, 3) := by decide +kernel
theorem dX7_read_252 : decode cX7_read 252 = .ok (.aload_n 0, 1) := by decide +kernel
theorem dX7_read_253 : decode cX7_read 253 = .ok (.getfield 161, 3) := by decide +kernel
theorem dX7_read_256 : decode cX7_read 256 = .ok (.iaload, 1) := by decide +kernel
theorem dX7_read_257 : decode cX7_read 257 = .ok (.bipush 48, 2) := by decide +kernel
theorem dX7_read_259 : decode cX7_read 259 = .ok (.if_icmp .eq 7, 3) := by decide +kernel
theorem dX7_read_262 : decode cX7_read 262 = .ok (.iconst 1, 1) := by decide +kernel
theorem dX7_read_263 : decode cX7_read 263 = .ok (.goto 4, 3) := by decide +kernel
theorem dX7_read_266 : decode cX7_read 266 = .ok (.iconst 0, 1) := by decide +kernel
theorem dX7_read_267 : decode cX7_read 267 = .ok (.istore_n 2, 1) := by decide +kernel
theorem dX7_read_268 : decode cX7_read 268 = .ok (.aload_n 0, 1) := by decide +kernel
theorem dX7_read_269 : decode cX7_read 269 = .ok (.iload_n 2, 1) := by decide +kernel
theorem dX7_read_270 : decode cX7_read 270 = .ok (.ifCond .eq 7, 3) := by decide +kernel
theorem dX7_read_273 : decode cX7_read 273 = .ok (.iload_n 1, 1) := by decide +kernel
theorem dX7_read_274 : decode cX7_read 274 = .ok (.goto 4, 3) := by decide +kernel
theorem dX7_read_277 : decode cX7_read 277 = .ok (.iconst (-1), 1) := by decide +kernel
theorem dX7_read_278 : decode cX7_read 278 = .ok (.putfield 167, 3) := by decide +kernel
theorem dX7_read_281 : decode cX7_read 281 = .ok (.goto 20, 3) := by decide +kernel
theorem dX7_read_284 : decode cX7_read 284 = .ok (.aload_n 0, 1) := by decide +kernel
theorem dX7_read_285 : decode cX7_read 285 = .ok (.invokevirtual 157, 3) := by decide +kernel
theorem dX7_read_288 : decode cX7_read 288 = .ok (.ifCond .lt 13, 3) := by decide +kernel
theorem dX7_read_291 : decode cX7_read 291 = .ok (.aload_n 0, 1) := by decide +kernel
theorem dX7_read_292 : decode cX7_read 292 = .ok (.dup, 1) := by decide +kernel
theorem dX7_read_293 : decode cX7_read 293 = .ok (.getfield 154, 3) := by decide +kernel
theorem dX7_read_296 : decode cX7_read 296 = .ok (.iconst 1, 1) := by decide +kernel
theorem dX7_read_297 : decode cX7_read 297 = .ok (.iadd, 1) := by decide +kernel
theorem dX7_read_298 : decode cX7_read 298 = .ok (.putfield 154, 3) := by decide +kernel
theorem dX7_read_301 : decode cX7_read 301 = .ok (.return_, 1) := by decide +kernel
theorem dX7_take_0 : decode cX7_take 0 = .ok (.aload_n 0, 1) := by decide +kernel
theorem dX7_take_1 : decode cX7_take 1 = .ok (.aload_n 0, 1) := by decide +kernel
theorem dX7_take_2 : decode cX7_take 2 = .ok (.getfield 178, 3) := by decide +kernel
theorem dX7_take_5 : decode cX7_take 5 = .ok (.ifCond .ne 7, 3) := by decide +kernel
theorem dX7_take_8 : decode cX7_take 8 = .ok (.iload_n 1, 1) := by decide +kernel
theorem dX7_take_9 : decode cX7_take 9 = .ok (.ifCond .ne 7, 3) := by decide +kernel
theorem dX7_take_12 : decode cX7_take 12 = .ok (.iconst 1, 1) := by decide +kernel
theorem dX7_take_13 : decode cX7_take 13 = .ok (.goto 4, 3) := by decide +kernel
theorem dX7_take_16 : decode cX7_take 16 = .ok (.iconst 0, 1) := by decide +kernel
theorem dX7_take_17 : decode cX7_take 17 = .ok (.putfield 178, 3) := by decide +kernel
theorem dX7_take_20 : decode cX7_take 20 = .ok (.aload_n 0, 1) := by decide +kernel
theorem dX7_take_21 : decode cX7_take 21 = .ok (.getfield 178, 3) := by decide +kernel
theorem dX7_take_24 : decode cX7_take 24 = .ok (.ifCond .ne 7, 3) := by decide +kernel
theorem dX7_take_27 : decode cX7_take 27 = .ok (.aload_n 0, 1) := by decide +kernel
theorem dX7_take_28 : decode cX7_take 28 = .ok (.invokevirtual 181, 3) := by decide +kernel
theorem dX7_take_31 : decode cX7_take 31 = .ok (.return_, 1) := by decide +kernel
theorem dX7_takeNumber_0 : decode cX7_takeNumber 0 = .ok (.aload_n 0, 1) := by decide +kernel
theorem dX7_takeNumber_1 : decode cX7_takeNumber 1 = .ok (.getfield 164, 3) := by decide +kernel
theorem dX7_takeNumber_4 : decode cX7_takeNumber 4 = .ok (.iconst 1, 1) := by decide +kernel
theorem dX7_takeNumber_5 : decode cX7_takeNumber 5 = .ok (.if_icmp .ne 10, 3) := by decide +kernel
theorem dX7_takeNumber_8 : decode cX7_takeNumber 8 = .ok (.aload_n 0, 1) := by decide +kernel
theorem dX7_takeNumber_9 : decode cX7_takeNumber 9 = .ok (.getfield 167, 3) := by decide +kernel
theorem dX7_takeNumber_12 : decode cX7_takeNumber 12 = .ok (.goto 4, 3) := by decide +kernel
theorem dX7_takeNumber_15 : decode cX7_takeNumber 15 = .ok (.iconst (-1), 1) := by decide +kernel
theorem dX7_takeNumber_16 : decode cX7_takeNumber 16 = .ok (.istore_n 3, 1) := by decide +kernel
theorem dX7_takeNumber_17 : decode cX7_takeNumber 17 = .ok (.aload_n 0, 1) := by decide +kernel
theorem dX7_takeNumber_18 : decode cX7_takeNumber 18 = .ok (.iload_n 3, 1) := by decide +kernel
theorem dX7_takeNumber_19 : decode cX7_takeNumber 19 = .ok (.iload_n 1, 1) := by decide +kernel
theorem dX7_takeNumber_20 : decode cX7_takeNumber 20 = .ok (.iload_n 2, 1) := by decide +kernel
theorem dX7_takeNumber_21 : decode cX7_takeNumber 21 = .ok (.invokestatic 58, 3) := by decide +kernel
theorem dX7_takeNumber_24 : decode cX7_takeNumber 24 = .ok (.invokevirtual 184, 3) := by decide +kernel
theorem dX7_takeNumber_27 : decode cX7_takeNumber 27 = .ok (.aload_n 0, 1) := by decide +kernel
theorem dX7_takeNumber_28 : decode cX7_takeNumber 28 = .ok (.getfield 178, 3) := by decide +kernel
theorem dX7_takeNumber_31 : decode cX7_takeNumber 31 = .ok (.ifCond .eq 7, 3) := by decide +kernel
theorem dX7_takeNumber_34 : decode cX7_takeNumber 34 = .ok (.iconst 0, 1) := by decide +kernel
theorem dX7_takeNumber_35 : decode cX7_takeNumber 35 = .ok (.goto 4, 3) := by decide +kernel
theorem dX7_takeNumber_38 : decode cX7_takeNumber 38 = .ok (.iload_n 3, 1) := by decide +kernel
theorem dX7_takeNumber_39 : decode cX7_takeNumber 39 = .ok (.ireturn, 1) := by decide +kernel
theorem dX7_takeNode_0 : decode cX7_takeNode 0 = .ok (.aload_n 0, 1) := by decide +kernel
theorem dX7_takeNode_1 : decode cX7_takeNode 1 = .ok (.getfield 164, 3) := by decide +kernel
theorem dX7_takeNode_4 : decode cX7_takeNode 4 = .ok (.iconst 1, 1) := by decide +kernel
theorem dX7_takeNode_5 : decode cX7_takeNode 5 = .ok (.if_icmp .ne 10, 3) := by decide +kernel
theorem dX7_takeNode_8 : decode cX7_takeNode 8 = .ok (.aload_n 0, 1) := by decide +kernel
theorem dX7_takeNode_9 : decode cX7_takeNode 9 = .ok (.getfield 167, 3) := by decide +kernel
theorem dX7_takeNode_12 : decode cX7_takeNode 12 = .ok (.goto 4, 3) := by decide +kernel
theorem dX7_takeNode_15 : decode cX7_takeNode 15 = .ok (.iconst (-1), 1) := by decide +kernel
theorem dX7_takeNode_16 : decode cX7_takeNode 16 = .ok (.istore_n 2, 1) := by decide +kernel
theorem dX7_takeNode_17 : decode cX7_takeNode 17 = .ok (.aload_n 0, 1) := by decide +kernel
theorem dX7_takeNode_18 : decode cX7_takeNode 18 = .ok (.aload_n 0, 1) := by decide +kernel
theorem dX7_takeNode_19 : decode cX7_takeNode 19 = .ok (.iload_n 2, 1) := by decide +kernel
theorem dX7_takeNode_20 : decode cX7_takeNode 20 = .ok (.invokevirtual 125, 3) := by decide +kernel
theorem dX7_takeNode_23 : decode cX7_takeNode 23 = .ok (.ifCond .eq 12, 3) := by decide +kernel
theorem dX7_takeNode_26 : decode cX7_takeNode 26 = .ok (.iload_n 2, 1) := by decide +kernel
theorem dX7_takeNode_27 : decode cX7_takeNode 27 = .ok (.iload_n 1, 1) := by decide +kernel
theorem dX7_takeNode_28 : decode cX7_takeNode 28 = .ok (.if_icmp .eq 7, 3) := by decide +kernel
theorem dX7_takeNode_31 : decode cX7_takeNode 31 = .ok (.iconst 1, 1) := by decide +kernel
theorem dX7_takeNode_32 : decode cX7_takeNode 32 = .ok (.goto 4, 3) := by decide +kernel
theorem dX7_takeNode_35 : decode cX7_takeNode 35 = .ok (.iconst 0, 1) := by decide +kernel
theorem dX7_takeNode_36 : decode cX7_takeNode 36 = .ok (.invokevirtual 184, 3) := by decide +kernel
theorem dX7_takeNode_39 : decode cX7_takeNode 39 = .ok (.aload_n 0, 1) := by decide +kernel
theorem dX7_takeNode_40 : decode cX7_takeNode 40 = .ok (.getfield 178, 3) := by decide +kernel
theorem dX7_takeNode_43 : decode cX7_takeNode 43 = .ok (.ifCond .eq 7, 3) := by decide +kernel
theorem dX7_takeNode_46 : decode cX7_takeNode 46 = .ok (.iconst 0, 1) := by decide +kernel
theorem dX7_takeNode_47 : decode cX7_takeNode 47 = .ok (.goto 4, 3) := by decide +kernel
theorem dX7_takeNode_50 : decode cX7_takeNode 50 = .ok (.iload_n 2, 1) := by decide +kernel
theorem dX7_takeNode_51 : decode cX7_takeNode 51 = .ok (.ireturn, 1) := by decide +kernel
theorem dX7_readLink_0 : decode cX7_readLink 0 = .ok (.aload_n 0, 1) := by decide +kernel
theorem dX7_readLink_1 : decode cX7_readLink 1 = .ok (.aload_n 0, 1) := by decide +kernel
theorem dX7_readLink_2 : decode cX7_readLink 2 = .ok (.getfield 7, 3) := by decide +kernel
theorem dX7_readLink_5 : decode cX7_readLink 5 = .ok (.iconst 1, 1) := by decide +kernel
theorem dX7_readLink_6 : decode cX7_readLink 6 = .ok (.iaload, 1) := by decide +kernel
theorem dX7_readLink_7 : decode cX7_readLink 7 = .ok (.bipush 16, 2) := by decide +kernel
theorem dX7_readLink_9 : decode cX7_readLink 9 = .ok (.if_icmp .ge 7, 3) := by decide +kernel
theorem dX7_readLink_12 : decode cX7_readLink 12 = .ok (.iconst 1, 1) := by decide +kernel
theorem dX7_readLink_13 : decode cX7_readLink 13 = .ok (.goto 4, 3) := by decide +kernel
theorem dX7_readLink_16 : decode cX7_readLink 16 = .ok (.iconst 0, 1) := by decide +kernel
theorem dX7_readLink_17 : decode cX7_readLink 17 = .ok (.invokevirtual 184, 3) := by decide +kernel
theorem dX7_readLink_20 : decode cX7_readLink 20 = .ok (.aload_n 0, 1) := by decide +kernel
theorem dX7_readLink_21 : decode cX7_readLink 21 = .ok (.bipush (-9), 2) := by decide +kernel
theorem dX7_readLink_23 : decode cX7_readLink 23 = .ok (.invokevirtual 188, 3) := by decide +kernel
theorem dX7_readLink_26 : decode cX7_readLink 26 = .ok (.istore_n 2, 1) := by decide +kernel
theorem dX7_readLink_27 : decode cX7_readLink 27 = .ok (.aload_n 0, 1) := by decide +kernel
theorem dX7_readLink_28 : decode cX7_readLink 28 = .ok (.iload_n 2, 1) := by decide +kernel
theorem dX7_readLink_29 : decode cX7_readLink 29 = .ok (.invokevirtual 188, 3) := by decide +kernel
theorem dX7_readLink_32 : decode cX7_readLink 32 = .ok (.istore_n 3, 1) := by decide +kernel
theorem dX7_readLink_33 : decode cX7_readLink 33 = .ok (.aload_n 0, 1) := by decide +kernel
theorem dX7_readLink_34 : decode cX7_readLink 34 = .ok (.iconst 1, 1) := by decide +kernel
theorem dX7_readLink_35 : decode cX7_readLink 35 = .ok (.bipush 20, 2) := by decide +kernel
theorem dX7_readLink_37 : decode cX7_readLink 37 = .ok (.invokevirtual 191, 3) := by decide +kernel
theorem dX7_readLink_40 : decode cX7_readLink 40 = .ok (.istore 4, 2) := by decide +kernel
theorem dX7_readLink_42 : decode cX7_readLink 42 = .ok (.aload_n 0, 1) := by decide +kernel
theorem dX7_readLink_43 : decode cX7_readLink 43 = .ok (.getfield 178, 3) := by decide +kernel
theorem dX7_readLink_46 : decode cX7_readLink 46 = .ok (.ifCond .ne 13, 3) := by decide +kernel
theorem dX7_readLink_49 : decode cX7_readLink 49 = .ok (.aload_n 0, 1) := by decide +kernel
theorem dX7_readLink_50 : decode cX7_readLink 50 = .ok (.iload_n 2, 1) := by decide +kernel
theorem dX7_readLink_51 : decode cX7_readLink 51 = .ok (.iload_n 3, 1) := by decide +kernel
theorem dX7_readLink_52 : decode cX7_readLink 52 = .ok (.iload 4, 2) := by decide +kernel
theorem dX7_readLink_54 : decode cX7_readLink 54 = .ok (.iload_n 1, 1) := by decide +kernel
theorem dX7_readLink_55 : decode cX7_readLink 55 = .ok (.invokevirtual 131, 3) := by decide +kernel
theorem dX7_readLink_58 : decode cX7_readLink 58 = .ok (.pop, 1) := by decide +kernel
theorem dX7_readLink_59 : decode cX7_readLink 59 = .ok (.return_, 1) := by decide +kernel
theorem dX7_readTunnel_0 : decode cX7_readTunnel 0 = .ok (.aload_n 0, 1) := by decide +kernel
theorem dX7_readTunnel_1 : decode cX7_readTunnel 1 = .ok (.aload_n 0, 1) := by decide +kernel
theorem dX7_readTunnel_2 : decode cX7_readTunnel 2 = .ok (.getfield 7, 3) := by decide +kernel
theorem dX7_readTunnel_5 : decode cX7_readTunnel 5 = .ok (.iconst 2, 1) := by decide +kernel
theorem dX7_readTunnel_6 : decode cX7_readTunnel 6 = .ok (.iaload, 1) := by decide +kernel
theorem dX7_readTunnel_7 : decode cX7_readTunnel 7 = .ok (.iconst 3, 1) := by decide +kernel
theorem dX7_readTunnel_8 : decode cX7_readTunnel 8 = .ok (.if_icmp .ge 7, 3) := by decide +kernel
theorem dX7_readTunnel_11 : decode cX7_readTunnel 11 = .ok (.iconst 1, 1) := by decide +kernel
theorem dX7_readTunnel_12 : decode cX7_readTunnel 12 = .ok (.goto 4, 3) := by decide +kernel
theorem dX7_readTunnel_15 : decode cX7_readTunnel 15 = .ok (.iconst 0, 1) := by decide +kernel
theorem dX7_readTunnel_16 : decode cX7_readTunnel 16 = .ok (.invokevirtual 184, 3) := by decide +kernel
theorem dX7_readTunnel_19 : decode cX7_readTunnel 19 = .ok (.aload_n 0, 1) := by decide +kernel
theorem dX7_readTunnel_20 : decode cX7_readTunnel 20 = .ok (.bipush (-9), 2) := by decide +kernel
theorem dX7_readTunnel_22 : decode cX7_readTunnel 22 = .ok (.invokevirtual 188, 3) := by decide +kernel
theorem dX7_readTunnel_25 : decode cX7_readTunnel 25 = .ok (.istore_n 1, 1) := by decide +kernel
theorem dX7_readTunnel_26 : decode cX7_readTunnel 26 = .ok (.aload_n 0, 1) := by decide +kernel
theorem dX7_readTunnel_27 : decode cX7_readTunnel 27 = .ok (.iload_n 1, 1) := by decide +kernel
theorem dX7_readTunnel_28 : decode cX7_readTunnel 28 = .ok (.invokevirtual 188, 3) := by decide +kernel
theorem dX7_readTunnel_31 : decode cX7_readTunnel 31 = .ok (.istore_n 2, 1) := by decide +kernel
theorem dX7_readTunnel_32 : decode cX7_readTunnel 32 = .ok (.aload_n 0, 1) := by decide +kernel
theorem dX7_readTunnel_33 : decode cX7_readTunnel 33 = .ok (.iconst 1, 1) := by decide +kernel
theorem dX7_readTunnel_34 : decode cX7_readTunnel 34 = .ok (.bipush 40, 2) := by decide +kernel
theorem dX7_readTunnel_36 : decode cX7_readTunnel 36 = .ok (.invokevirtual 191, 3) := by decide +kernel
theorem dX7_readTunnel_39 : decode cX7_readTunnel 39 = .ok (.istore_n 3, 1) := by decide +kernel
theorem dX7_readTunnel_40 : decode cX7_readTunnel 40 = .ok (.aload_n 0, 1) := by decide +kernel
theorem dX7_readTunnel_41 : decode cX7_readTunnel 41 = .ok (.getfield 178, 3) := by decide +kernel
theorem dX7_readTunnel_44 : decode cX7_readTunnel 44 = .ok (.ifCond .ne 11, 3) := by decide +kernel
theorem dX7_readTunnel_47 : decode cX7_readTunnel 47 = .ok (.aload_n 0, 1) := by decide +kernel
theorem dX7_readTunnel_48 : decode cX7_readTunnel 48 = .ok (.iload_n 1, 1) := by decide +kernel
theorem dX7_readTunnel_49 : decode cX7_readTunnel 49 = .ok (.iload_n 2, 1) := by decide +kernel
theorem dX7_readTunnel_50 : decode cX7_readTunnel 50 = .ok (.iload_n 3, 1) := by decide +kernel
theorem dX7_readTunnel_51 : decode cX7_readTunnel 51 = .ok (.invokevirtual 145, 3) := by decide +kernel
theorem dX7_readTunnel_54 : decode cX7_readTunnel 54 = .ok (.pop, 1) := by decide +kernel
theorem dX7_readTunnel_55 : decode cX7_readTunnel 55 = .ok (.return_, 1) := by decide +kernel
theorem dX7_readGrant_0 : decode cX7_readGrant 0 = .ok (.aload_n 0, 1) := by decide +kernel
theorem dX7_readGrant_1 : decode cX7_readGrant 1 = .ok (.iconst 1, 1) := by decide +kernel
theorem dX7_readGrant_2 : decode cX7_readGrant 2 = .ok (.invokevirtual 184, 3) := by decide +kernel
theorem dX7_readGrant_5 : decode cX7_readGrant 5 = .ok (.aload_n 0, 1) := by decide +kernel
theorem dX7_readGrant_6 : decode cX7_readGrant 6 = .ok (.iconst 0, 1) := by decide +kernel
theorem dX7_readGrant_7 : decode cX7_readGrant 7 = .ok (.iconst 3, 1) := by decide +kernel
theorem dX7_readGrant_8 : decode cX7_readGrant 8 = .ok (.invokevirtual 191, 3) := by decide +kernel
theorem dX7_readGrant_11 : decode cX7_readGrant 11 = .ok (.istore_n 1, 1) := by decide +kernel
theorem dX7_readGrant_12 : decode cX7_readGrant 12 = .ok (.aload_n 0, 1) := by decide +kernel
theorem dX7_readGrant_13 : decode cX7_readGrant 13 = .ok (.getfield 164, 3) := by decide +kernel
theorem dX7_readGrant_16 : decode cX7_readGrant 16 = .ok (.iconst 1, 1) := by decide +kernel
theorem dX7_readGrant_17 : decode cX7_readGrant 17 = .ok (.if_icmp .ne 10, 3) := by decide +kernel
theorem dX7_readGrant_20 : decode cX7_readGrant 20 = .ok (.aload_n 0, 1) := by decide +kernel
theorem dX7_readGrant_21 : decode cX7_readGrant 21 = .ok (.getfield 167, 3) := by decide +kernel
theorem dX7_readGrant_24 : decode cX7_readGrant 24 = .ok (.goto 4, 3) := by decide +kernel
theorem dX7_readGrant_27 : decode cX7_readGrant 27 = .ok (.iconst (-1), 1) := by decide +kernel
theorem dX7_readGrant_28 : decode cX7_readGrant 28 = .ok (.istore_n 2, 1) := by decide +kernel
theorem dX7_readGrant_29 : decode cX7_readGrant 29 = .ok (.aload_n 0, 1) := by decide +kernel
theorem dX7_readGrant_30 : decode cX7_readGrant 30 = .ok (.aload_n 0, 1) := by decide +kernel
theorem dX7_readGrant_31 : decode cX7_readGrant 31 = .ok (.getfield 178, 3) := by decide +kernel
theorem dX7_readGrant_34 : decode cX7_readGrant 34 = .ok (.ifCond .ne 31, 3) := by decide +kernel
theorem dX7_readGrant_37 : decode cX7_readGrant 37 = .ok (.iload_n 1, 1) := by decide +kernel
theorem dX7_readGrant_38 : decode cX7_readGrant 38 = .ok (.iload_n 2, 1) := by decide +kernel
theorem dX7_readGrant_39 : decode cX7_readGrant 39 = .ok (.invokestatic 138, 3) := by decide +kernel
theorem dX7_readGrant_42 : decode cX7_readGrant 42 = .ok (.ifCond .eq 23, 3) := by decide +kernel
theorem dX7_readGrant_45 : decode cX7_readGrant 45 = .ok (.aload_n 0, 1) := by decide +kernel
theorem dX7_readGrant_46 : decode cX7_readGrant 46 = .ok (.getfield 7, 3) := by decide +kernel
theorem dX7_readGrant_49 : decode cX7_readGrant 49 = .ok (.bipush 14, 2) := by decide +kernel
theorem dX7_readGrant_51 : decode cX7_readGrant 51 = .ok (.iconst 4, 1) := by decide +kernel
theorem dX7_readGrant_52 : decode cX7_readGrant 52 = .ok (.iload_n 1, 1) := by decide +kernel
theorem dX7_readGrant_53 : decode cX7_readGrant 53 = .ok (.imul, 1) := by decide +kernel
theorem dX7_readGrant_54 : decode cX7_readGrant 54 = .ok (.iadd, 1) := by decide +kernel
theorem dX7_readGrant_55 : decode cX7_readGrant 55 = .ok (.iload_n 2, 1) := by decide +kernel
theorem dX7_readGrant_56 : decode cX7_readGrant 56 = .ok (.iadd, 1) := by decide +kernel
theorem dX7_readGrant_57 : decode cX7_readGrant 57 = .ok (.iaload, 1) := by decide +kernel
theorem dX7_readGrant_58 : decode cX7_readGrant 58 = .ok (.ifCond .ne 7, 3) := by decide +kernel
theorem dX7_readGrant_61 : decode cX7_readGrant 61 = .ok (.iconst 1, 1) := by decide +kernel
theorem dX7_readGrant_62 : decode cX7_readGrant 62 = .ok (.goto 4, 3) := by decide +kernel
theorem dX7_readGrant_65 : decode cX7_readGrant 65 = .ok (.iconst 0, 1) := by decide +kernel
theorem dX7_readGrant_66 : decode cX7_readGrant 66 = .ok (.invokevirtual 184, 3) := by decide +kernel
theorem dX7_readGrant_69 : decode cX7_readGrant 69 = .ok (.aload_n 0, 1) := by decide +kernel
theorem dX7_readGrant_70 : decode cX7_readGrant 70 = .ok (.getfield 178, 3) := by decide +kernel
theorem dX7_readGrant_73 : decode cX7_readGrant 73 = .ok (.ifCond .ne 10, 3) := by decide +kernel
theorem dX7_readGrant_76 : decode cX7_readGrant 76 = .ok (.aload_n 0, 1) := by decide +kernel
theorem dX7_readGrant_77 : decode cX7_readGrant 77 = .ok (.iload_n 1, 1) := by decide +kernel
theorem dX7_readGrant_78 : decode cX7_readGrant 78 = .ok (.iload_n 2, 1) := by decide +kernel
theorem dX7_readGrant_79 : decode cX7_readGrant 79 = .ok (.iconst 1, 1) := by decide +kernel
theorem dX7_readGrant_80 : decode cX7_readGrant 80 = .ok (.invokevirtual 141, 3) := by decide +kernel
theorem dX7_readGrant_83 : decode cX7_readGrant 83 = .ok (.return_, 1) := by decide +kernel
theorem dX7_readItem_0 : decode cX7_readItem 0 = .ok (.aload_n 0, 1) := by decide +kernel
theorem dX7_readItem_1 : decode cX7_readItem 1 = .ok (.getfield 164, 3) := by decide +kernel
theorem dX7_readItem_4 : decode cX7_readItem 4 = .ok (.ifCond .ne 10, 3) := by decide +kernel
theorem dX7_readItem_7 : decode cX7_readItem 7 = .ok (.aload_n 0, 1) := by decide +kernel
theorem dX7_readItem_8 : decode cX7_readItem 8 = .ok (.getfield 170, 3) := by decide +kernel
theorem dX7_readItem_11 : decode cX7_readItem 11 = .ok (.goto 4, 3) := by decide +kernel
theorem dX7_readItem_14 : decode cX7_readItem 14 = .ok (.lconst 0, 1) := by decide +kernel
theorem dX7_readItem_15 : decode cX7_readItem 15 = .ok (.lstore_n 1, 1) := by decide +kernel
theorem dX7_readItem_16 : decode cX7_readItem 16 = .ok (.lload_n 1, 1) := by decide +kernel
theorem dX7_readItem_17 : decode cX7_readItem 17 = .ok (.ldc2_w 194, 3) := by decide +kernel
theorem dX7_readItem_20 : decode cX7_readItem 20 = .ok (.lcmp, 1) := by decide +kernel
theorem dX7_readItem_21 : decode cX7_readItem 21 = .ok (.ifCond .ne 72, 3) := by decide +kernel
theorem dX7_readItem_24 : decode cX7_readItem 24 = .ok (.aload_n 0, 1) := by decide +kernel
theorem dX7_readItem_25 : decode cX7_readItem 25 = .ok (.aload_n 0, 1) := by decide +kernel
theorem dX7_readItem_26 : decode cX7_readItem 26 = .ok (.getfield 7, 3) := by decide +kernel
theorem dX7_readItem_29 : decode cX7_readItem 29 = .ok (.iconst 0, 1) := by decide +kernel
theorem dX7_readItem_30 : decode cX7_readItem 30 = .ok (.iaload, 1) := by decide +kernel
theorem dX7_readItem_31 : decode cX7_readItem 31 = .ok (.bipush 10, 2) := by decide +kernel
theorem dX7_readItem_33 : decode cX7_readItem 33 = .ok (.if_icmp .ge 7, 3) := by decide +kernel
theorem dX7_readItem_36 : decode cX7_readItem 36 = .ok (.iconst 1, 1) := by decide +kernel
theorem dX7_readItem_37 : decode cX7_readItem 37 = .ok (.goto 4, 3) := by decide +kernel
theorem dX7_readItem_40 : decode cX7_readItem 40 = .ok (.iconst 0, 1) := by decide +kernel
theorem dX7_readItem_41 : decode cX7_readItem 41 = .ok (.invokevirtual 184, 3) := by decide +kernel
theorem dX7_readItem_44 : decode cX7_readItem 44 = .ok (.aload_n 0, 1) := by decide +kernel
theorem dX7_readItem_45 : decode cX7_readItem 45 = .ok (.iconst 0, 1) := by decide +kernel
theorem dX7_readItem_46 : decode cX7_readItem 46 = .ok (.iconst 3, 1) := by decide +kernel
theorem dX7_readItem_47 : decode cX7_readItem 47 = .ok (.invokevirtual 191, 3) := by decide +kernel
theorem dX7_readItem_50 : decode cX7_readItem 50 = .ok (.istore_n 3, 1) := by decide +kernel
theorem dX7_readItem_51 : decode cX7_readItem 51 = .ok (.aload_n 0, 1) := by decide +kernel
theorem dX7_readItem_52 : decode cX7_readItem 52 = .ok (.getfield 178, 3) := by decide +kernel
theorem dX7_readItem_55 : decode cX7_readItem 55 = .ok (.ifCond .eq 7, 3) := by decide +kernel
theorem dX7_readItem_58 : decode cX7_readItem 58 = .ok (.iconst 0, 1) := by decide +kernel
theorem dX7_readItem_59 : decode cX7_readItem 59 = .ok (.goto 8, 3) := by decide +kernel
theorem dX7_readItem_62 : decode cX7_readItem 62 = .ok (.aload_n 0, 1) := by decide +kernel
theorem dX7_readItem_63 : decode cX7_readItem 63 = .ok (.iload_n 3, 1) := by decide +kernel
theorem dX7_readItem_64 : decode cX7_readItem 64 = .ok (.invokevirtual 122, 3) := by decide +kernel
theorem dX7_readItem_67 : decode cX7_readItem 67 = .ok (.istore 4, 2) := by decide +kernel
theorem dX7_readItem_69 : decode cX7_readItem 69 = .ok (.aload_n 0, 1) := by decide +kernel
theorem dX7_readItem_70 : decode cX7_readItem 70 = .ok (.aload_n 0, 1) := by decide +kernel
theorem dX7_readItem_71 : decode cX7_readItem 71 = .ok (.getfield 178, 3) := by decide +kernel
theorem dX7_readItem_74 : decode cX7_readItem 74 = .ok (.ifCond .ne 8, 3) := by decide +kernel
theorem dX7_readItem_77 : decode cX7_readItem 77 = .ok (.iload 4, 2) := by decide +kernel
theorem dX7_readItem_79 : decode cX7_readItem 79 = .ok (.ifCond .ge 7, 3) := by decide +kernel
theorem dX7_readItem_82 : decode cX7_readItem 82 = .ok (.iconst 1, 1) := by decide +kernel
theorem dX7_readItem_83 : decode cX7_readItem 83 = .ok (.goto 4, 3) := by decide +kernel
theorem dX7_readItem_86 : decode cX7_readItem 86 = .ok (.iconst 0, 1) := by decide +kernel
theorem dX7_readItem_87 : decode cX7_readItem 87 = .ok (.putfield 178, 3) := by decide +kernel
theorem dX7_readItem_90 : decode cX7_readItem 90 = .ok (.goto 70, 3) := by decide +kernel
theorem dX7_readItem_93 : decode cX7_readItem 93 = .ok (.lload_n 1, 1) := by decide +kernel
theorem dX7_readItem_94 : decode cX7_readItem 94 = .ok (.ldc2_w 196, 3) := by decide +kernel
theorem dX7_readItem_97 : decode cX7_readItem 97 = .ok (.lcmp, 1) := by decide +kernel
theorem dX7_readItem_98 : decode cX7_readItem 98 = .ok (.ifCond .ne 11, 3) := by decide +kernel
theorem dX7_readItem_101 : decode cX7_readItem 101 = .ok (.aload_n 0, 1) := by decide +kernel
theorem dX7_readItem_102 : decode cX7_readItem 102 = .ok (.iconst 0, 1) := by decide +kernel
theorem dX7_readItem_103 : decode cX7_readItem 103 = .ok (.invokevirtual 198, 3) := by decide +kernel
theorem dX7_readItem_106 : decode cX7_readItem 106 = .ok (.goto 54, 3) := by decide +kernel
theorem dX7_readItem_109 : decode cX7_readItem 109 = .ok (.lload_n 1, 1) := by decide +kernel
theorem dX7_readItem_110 : decode cX7_readItem 110 = .ok (.ldc2_w 201, 3) := by decide +kernel
theorem dX7_readItem_113 : decode cX7_readItem 113 = .ok (.lcmp, 1) := by decide +kernel
theorem dX7_readItem_114 : decode cX7_readItem 114 = .ok (.ifCond .ne 11, 3) := by decide +kernel
theorem dX7_readItem_117 : decode cX7_readItem 117 = .ok (.aload_n 0, 1) := by decide +kernel
theorem dX7_readItem_118 : decode cX7_readItem 118 = .ok (.iconst 1, 1) := by decide +kernel
theorem dX7_readItem_119 : decode cX7_readItem 119 = .ok (.invokevirtual 198, 3) := by decide +kernel
theorem dX7_readItem_122 : decode cX7_readItem 122 = .ok (.goto 38, 3) := by decide +kernel
theorem dX7_readItem_125 : decode cX7_readItem 125 = .ok (.lload_n 1, 1) := by decide +kernel
theorem dX7_readItem_126 : decode cX7_readItem 126 = .ok (.ldc2_w 203, 3) := by decide +kernel
theorem dX7_readItem_129 : decode cX7_readItem 129 = .ok (.lcmp, 1) := by decide +kernel
theorem dX7_readItem_130 : decode cX7_readItem 130 = .ok (.ifCond .ne 10, 3) := by decide +kernel
theorem dX7_readItem_133 : decode cX7_readItem 133 = .ok (.aload_n 0, 1) := by decide +kernel
theorem dX7_readItem_134 : decode cX7_readItem 134 = .ok (.invokevirtual 205, 3) := by decide +kernel
theorem dX7_readItem_137 : decode cX7_readItem 137 = .ok (.goto 23, 3) := by decide +kernel
theorem dX7_readItem_140 : decode cX7_readItem 140 = .ok (.lload_n 1, 1) := by decide +kernel
theorem dX7_readItem_141 : decode cX7_readItem 141 = .ok (.ldc2_w 208, 3) := by decide +kernel
theorem dX7_readItem_144 : decode cX7_readItem 144 = .ok (.lcmp, 1) := by decide +kernel
theorem dX7_readItem_145 : decode cX7_readItem 145 = .ok (.ifCond .ne 10, 3) := by decide +kernel
theorem dX7_readItem_148 : decode cX7_readItem 148 = .ok (.aload_n 0, 1) := by decide +kernel
theorem dX7_readItem_149 : decode cX7_readItem 149 = .ok (.invokevirtual 210, 3) := by decide +kernel
theorem dX7_readItem_152 : decode cX7_readItem 152 = .ok (.goto 8, 3) := by decide +kernel
theorem dX7_readItem_155 : decode cX7_readItem 155 = .ok (.aload_n 0, 1) := by decide +kernel
theorem dX7_readItem_156 : decode cX7_readItem 156 = .ok (.iconst 1, 1) := by decide +kernel
theorem dX7_readItem_157 : decode cX7_readItem 157 = .ok (.putfield 178, 3) := by decide +kernel
theorem dX7_readItem_160 : decode cX7_readItem 160 = .ok (.aload_n 0, 1) := by decide +kernel
theorem dX7_readItem_161 : decode cX7_readItem 161 = .ok (.aload_n 0, 1) := by decide +kernel
theorem dX7_readItem_162 : decode cX7_readItem 162 = .ok (.getfield 178, 3) := by decide +kernel
theorem dX7_readItem_165 : decode cX7_readItem 165 = .ok (.ifCond .ne 29, 3) := by decide +kernel
theorem dX7_readItem_168 : decode cX7_readItem 168 = .ok (.aload_n 0, 1) := by decide +kernel
theorem dX7_readItem_169 : decode cX7_readItem 169 = .ok (.getfield 164, 3) := by decide +kernel
theorem dX7_readItem_172 : decode cX7_readItem 172 = .ok (.iconst 2, 1) := by decide +kernel
theorem dX7_readItem_173 : decode cX7_readItem 173 = .ok (.if_icmp .ne 21, 3) := by decide +kernel
theorem dX7_readItem_176 : decode cX7_readItem 176 = .ok (.aload_n 0, 1) := by decide +kernel
theorem dX7_readItem_177 : decode cX7_readItem 177 = .ok (.getfield 22, 3) := by decide +kernel
theorem dX7_readItem_180 : decode cX7_readItem 180 = .ok (.aload_n 0, 1) := by decide +kernel
theorem dX7_readItem_181 : decode cX7_readItem 181 = .ok (.getfield 161, 3) := by decide +kernel
theorem dX7_readItem_184 : decode cX7_readItem 184 = .ok (.iaload, 1) := by decide +kernel
theorem dX7_readItem_185 : decode cX7_readItem 185 = .ok (.bipush 59, 2) := by decide +kernel
theorem dX7_readItem_187 : decode cX7_readItem 187 = .ok (.if_icmp .ne 7, 3) := by decide +kernel
theorem dX7_readItem_190 : decode cX7_readItem 190 = .ok (.iconst 1, 1) := by decide +kernel
theorem dX7_readItem_191 : decode cX7_readItem 191 = .ok (.goto 4, 3) := by decide +kernel
theorem dX7_readItem_194 : decode cX7_readItem 194 = .ok (.iconst 0, 1) := by decide +kernel
theorem dX7_readItem_195 : decode cX7_readItem 195 = .ok (.invokevirtual 184, 3) := by decide +kernel
theorem dX7_readItem_198 : decode cX7_readItem 198 = .ok (.return_, 1) := by decide +kernel
theorem dX7_load_0 : decode cX7_load 0 = .ok (.aload_n 0, 1) := by decide +kernel
theorem dX7_load_1 : decode cX7_load 1 = .ok (.iconst 0, 1) := by decide +kernel
theorem dX7_load_2 : decode cX7_load 2 = .ok (.putfield 40, 3) := by decide +kernel
theorem dX7_load_5 : decode cX7_load 5 = .ok (.aload_n 0, 1) := by decide +kernel
theorem dX7_load_6 : decode cX7_load 6 = .ok (.aload_n 0, 1) := by decide +kernel
theorem dX7_load_7 : decode cX7_load 7 = .ok (.getfield 16, 3) := by decide +kernel
theorem dX7_load_10 : decode cX7_load 10 = .ok (.aload_n 0, 1) := by decide +kernel
theorem dX7_load_11 : decode cX7_load 11 = .ok (.getfield 7, 3) := by decide +kernel
theorem dX7_load_14 : decode cX7_load 14 = .ok (.invokevirtual 51, 3) := by decide +kernel
theorem dX7_load_17 : decode cX7_load 17 = .ok (.iconst 0, 1) := by decide +kernel
theorem dX7_load_18 : decode cX7_load 18 = .ok (.istore_n 1, 1) := by decide +kernel
theorem dX7_load_19 : decode cX7_load 19 = .ok (.iload_n 1, 1) := by decide +kernel
theorem dX7_load_20 : decode cX7_load 20 = .ok (.sipush 1557, 3) := by decide +kernel
theorem dX7_load_23 : decode cX7_load 23 = .ok (.if_icmp .ge 16, 3) := by decide +kernel
theorem dX7_load_26 : decode cX7_load 26 = .ok (.aload_n 0, 1) := by decide +kernel
theorem dX7_load_27 : decode cX7_load 27 = .ok (.getfield 7, 3) := by decide +kernel
theorem dX7_load_30 : decode cX7_load 30 = .ok (.iload_n 1, 1) := by decide +kernel
theorem dX7_load_31 : decode cX7_load 31 = .ok (.iconst 0, 1) := by decide +kernel
theorem dX7_load_32 : decode cX7_load 32 = .ok (.iastore, 1) := by decide +kernel
theorem dX7_load_33 : decode cX7_load 33 = .ok (.iinc 1 1, 3) := by decide +kernel
theorem dX7_load_36 : decode cX7_load 36 = .ok (.goto (-17), 3) := by decide +kernel
theorem dX7_load_39 : decode cX7_load 39 = .ok (.aload_n 0, 1) := by decide +kernel
theorem dX7_load_40 : decode cX7_load 40 = .ok (.iconst 0, 1) := by decide +kernel
theorem dX7_load_41 : decode cX7_load 41 = .ok (.putfield 154, 3) := by decide +kernel
theorem dX7_load_44 : decode cX7_load 44 = .ok (.aload_n 0, 1) := by decide +kernel
theorem dX7_load_45 : decode cX7_load 45 = .ok (.iconst 0, 1) := by decide +kernel
theorem dX7_load_46 : decode cX7_load 46 = .ok (.putfield 178, 3) := by decide +kernel
theorem dX7_load_49 : decode cX7_load 49 = .ok (.iconst 0, 1) := by decide +kernel
theorem dX7_load_50 : decode cX7_load 50 = .ok (.istore_n 1, 1) := by decide +kernel
theorem dX7_load_51 : decode cX7_load 51 = .ok (.aload_n 0, 1) := by decide +kernel
theorem dX7_load_52 : decode cX7_load 52 = .ok (.invokevirtual 181, 3) := by decide +kernel
theorem dX7_load_55 : decode cX7_load 55 = .ok (.aload_n 0, 1) := by decide +kernel
theorem dX7_load_56 : decode cX7_load 56 = .ok (.getfield 178, 3) := by decide +kernel
theorem dX7_load_59 : decode cX7_load 59 = .ok (.ifCond .ne 21, 3) := by decide +kernel
theorem dX7_load_62 : decode cX7_load 62 = .ok (.aload_n 0, 1) := by decide +kernel
theorem dX7_load_63 : decode cX7_load 63 = .ok (.getfield 164, 3) := by decide +kernel
theorem dX7_load_66 : decode cX7_load 66 = .ok (.iconst 3, 1) := by decide +kernel
theorem dX7_load_67 : decode cX7_load 67 = .ok (.if_icmp .eq 13, 3) := by decide +kernel
theorem dX7_load_70 : decode cX7_load 70 = .ok (.aload_n 0, 1) := by decide +kernel
theorem dX7_load_71 : decode cX7_load 71 = .ok (.invokevirtual 213, 3) := by decide +kernel
theorem dX7_load_74 : decode cX7_load 74 = .ok (.iinc 1 1, 3) := by decide +kernel
theorem dX7_load_77 : decode cX7_load 77 = .ok (.goto (-22), 3) := by decide +kernel
theorem dX7_load_80 : decode cX7_load 80 = .ok (.aload_n 0, 1) := by decide +kernel
theorem dX7_load_81 : decode cX7_load 81 = .ok (.getfield 178, 3) := by decide +kernel
theorem dX7_load_84 : decode cX7_load 84 = .ok (.ifCond .eq 23, 3) := by decide +kernel
theorem dX7_load_87 : decode cX7_load 87 = .ok (.aload_n 0, 1) := by decide +kernel
theorem dX7_load_88 : decode cX7_load 88 = .ok (.aload_n 0, 1) := by decide +kernel
theorem dX7_load_89 : decode cX7_load 89 = .ok (.getfield 7, 3) := by decide +kernel
theorem dX7_load_92 : decode cX7_load 92 = .ok (.aload_n 0, 1) := by decide +kernel
theorem dX7_load_93 : decode cX7_load 93 = .ok (.getfield 16, 3) := by decide +kernel
theorem dX7_load_96 : decode cX7_load 96 = .ok (.invokevirtual 51, 3) := by decide +kernel
theorem dX7_load_99 : decode cX7_load 99 = .ok (.bipush (-10), 2) := by decide +kernel
theorem dX7_load_101 : decode cX7_load 101 = .ok (.aload_n 0, 1) := by decide +kernel
theorem dX7_load_102 : decode cX7_load 102 = .ok (.getfield 161, 3) := by decide +kernel
theorem dX7_load_105 : decode cX7_load 105 = .ok (.isub, 1) := by decide +kernel
theorem dX7_load_106 : decode cX7_load 106 = .ok (.ireturn, 1) := by decide +kernel
theorem dX7_load_107 : decode cX7_load 107 = .ok (.aload_n 0, 1) := by decide +kernel
theorem dX7_load_108 : decode cX7_load 108 = .ok (.invokevirtual 55, 3) := by decide +kernel
theorem dX7_load_111 : decode cX7_load 111 = .ok (.aload_n 0, 1) := by decide +kernel
theorem dX7_load_112 : decode cX7_load 112 = .ok (.iconst 0, 1) := by decide +kernel
theorem dX7_load_113 : decode cX7_load 113 = .ok (.putfield 151, 3) := by decide +kernel
theorem dX7_load_116 : decode cX7_load 116 = .ok (.iload_n 1, 1) := by decide +kernel
theorem dX7_load_117 : decode cX7_load 117 = .ok (.ireturn, 1) := by decide +kernel
theorem dX7_isQuiet_0 : decode cX7_isQuiet 0 = .ok (.iconst 0, 1) := by decide +kernel
theorem dX7_isQuiet_1 : decode cX7_isQuiet 1 = .ok (.istore_n 1, 1) := by decide +kernel
theorem dX7_isQuiet_2 : decode cX7_isQuiet 2 = .ok (.iconst 0, 1) := by decide +kernel
theorem dX7_isQuiet_3 : decode cX7_isQuiet 3 = .ok (.istore_n 2, 1) := by decide +kernel
theorem dX7_isQuiet_4 : decode cX7_isQuiet 4 = .ok (.iload_n 2, 1) := by decide +kernel
theorem dX7_isQuiet_5 : decode cX7_isQuiet 5 = .ok (.aload_n 0, 1) := by decide +kernel
theorem dX7_isQuiet_6 : decode cX7_isQuiet 6 = .ok (.getfield 7, 3) := by decide +kernel
theorem dX7_isQuiet_9 : decode cX7_isQuiet 9 = .ok (.iconst 0, 1) := by decide +kernel
theorem dX7_isQuiet_10 : decode cX7_isQuiet 10 = .ok (.iaload, 1) := by decide +kernel
theorem dX7_isQuiet_11 : decode cX7_isQuiet 11 = .ok (.if_icmp .ge 17, 3) := by decide +kernel
theorem dX7_isQuiet_14 : decode cX7_isQuiet 14 = .ok (.iload_n 1, 1) := by decide +kernel
theorem dX7_isQuiet_15 : decode cX7_isQuiet 15 = .ok (.aload_n 0, 1) := by decide +kernel
theorem dX7_isQuiet_16 : decode cX7_isQuiet 16 = .ok (.iload_n 2, 1) := by decide +kernel
theorem dX7_isQuiet_17 : decode cX7_isQuiet 17 = .ok (.invokevirtual 216, 3) := by decide +kernel
theorem dX7_isQuiet_20 : decode cX7_isQuiet 20 = .ok (.iadd, 1) := by decide +kernel
theorem dX7_isQuiet_21 : decode cX7_isQuiet 21 = .ok (.istore_n 1, 1) := by decide +kernel
theorem dX7_isQuiet_22 : decode cX7_isQuiet 22 = .ok (.iinc 2 1, 3) := by decide +kernel
theorem dX7_isQuiet_25 : decode cX7_isQuiet 25 = .ok (.goto (-21), 3) := by decide +kernel
theorem dX7_isQuiet_28 : decode cX7_isQuiet 28 = .ok (.iload_n 1, 1) := by decide +kernel
theorem dX7_isQuiet_29 : decode cX7_isQuiet 29 = .ok (.ifCond .ne 7, 3) := by decide +kernel
theorem dX7_isQuiet_32 : decode cX7_isQuiet 32 = .ok (.iconst 1, 1) := by decide +kernel
theorem dX7_isQuiet_33 : decode cX7_isQuiet 33 = .ok (.goto 4, 3) := by decide +kernel
theorem dX7_isQuiet_36 : decode cX7_isQuiet 36 = .ok (.iconst 0, 1) := by decide +kernel
theorem dX7_isQuiet_37 : decode cX7_isQuiet 37 = .ok (.ireturn, 1) := by decide +kernel
theorem dX7_newsOf_0 : decode cX7_newsOf 0 = .ok (.iconst 0, 1) := by decide +kernel
theorem dX7_newsOf_1 : decode cX7_newsOf 1 = .ok (.istore_n 2, 1) := by decide +kernel
theorem dX7_newsOf_2 : decode cX7_newsOf 2 = .ok (.iconst 0, 1) := by decide +kernel
theorem dX7_newsOf_3 : decode cX7_newsOf 3 = .ok (.istore_n 3, 1) := by decide +kernel
theorem dX7_newsOf_4 : decode cX7_newsOf 4 = .ok (.iload_n 3, 1) := by decide +kernel
theorem dX7_newsOf_5 : decode cX7_newsOf 5 = .ok (.bipush 35, 2) := by decide +kernel
theorem dX7_newsOf_7 : decode cX7_newsOf 7 = .ok (.if_icmp .ge 19, 3) := by decide +kernel
theorem dX7_newsOf_10 : decode cX7_newsOf 10 = .ok (.iload_n 2, 1) := by decide +kernel
theorem dX7_newsOf_11 : decode cX7_newsOf 11 = .ok (.aload_n 0, 1) := by decide +kernel
theorem dX7_newsOf_12 : decode cX7_newsOf 12 = .ok (.iload_n 1, 1) := by decide +kernel
theorem dX7_newsOf_13 : decode cX7_newsOf 13 = .ok (.iload_n 3, 1) := by decide +kernel
theorem dX7_newsOf_14 : decode cX7_newsOf 14 = .ok (.iconst 3, 1) := by decide +kernel
theorem dX7_newsOf_15 : decode cX7_newsOf 15 = .ok (.invokevirtual 73, 3) := by decide +kernel
theorem dX7_newsOf_18 : decode cX7_newsOf 18 = .ok (.iadd, 1) := by decide +kernel
theorem dX7_newsOf_19 : decode cX7_newsOf 19 = .ok (.istore_n 2, 1) := by decide +kernel
theorem dX7_newsOf_20 : decode cX7_newsOf 20 = .ok (.iinc 3 1, 3) := by decide +kernel
theorem dX7_newsOf_23 : decode cX7_newsOf 23 = .ok (.goto (-19), 3) := by decide +kernel
theorem dX7_newsOf_26 : decode cX7_newsOf 26 = .ok (.iload_n 2, 1) := by decide +kernel
theorem dX7_newsOf_27 : decode cX7_newsOf 27 = .ok (.ireturn, 1) := by decide +kernel
theorem dX7_other_0 : decode cX7_other 0 = .ok (.aload_n 0, 1) := by decide +kernel
theorem dX7_other_1 : decode cX7_other 1 = .ok (.iload_n 1, 1) := by decide +kernel
theorem dX7_other_2 : decode cX7_other 2 = .ok (.iconst 0, 1) := by decide +kernel
theorem dX7_other_3 : decode cX7_other 3 = .ok (.invokevirtual 62, 3) := by decide +kernel
theorem dX7_other_6 : decode cX7_other 6 = .ok (.aload_n 0, 1) := by decide +kernel
theorem dX7_other_7 : decode cX7_other 7 = .ok (.iload_n 1, 1) := by decide +kernel
theorem dX7_other_8 : decode cX7_other 8 = .ok (.iconst 1, 1) := by decide +kernel
theorem dX7_other_9 : decode cX7_other 9 = .ok (.invokevirtual 62, 3) := by decide +kernel
theorem dX7_other_12 : decode cX7_other 12 = .ok (.iadd, 1) := by decide +kernel
theorem dX7_other_13 : decode cX7_other 13 = .ok (.iload_n 2, 1) := by decide +kernel
theorem dX7_other_14 : decode cX7_other 14 = .ok (.isub, 1) := by decide +kernel
theorem dX7_other_15 : decode cX7_other 15 = .ok (.ireturn, 1) := by decide +kernel
theorem dX7_receive_0 : decode cX7_receive 0 = .ok (.iconst 0, 1) := by decide +kernel
theorem dX7_receive_1 : decode cX7_receive 1 = .ok (.istore_n 3, 1) := by decide +kernel
theorem dX7_receive_2 : decode cX7_receive 2 = .ok (.iload_n 3, 1) := by decide +kernel
theorem dX7_receive_3 : decode cX7_receive 3 = .ok (.aload_n 0, 1) := by decide +kernel
theorem dX7_receive_4 : decode cX7_receive 4 = .ok (.getfield 7, 3) := by decide +kernel
theorem dX7_receive_7 : decode cX7_receive 7 = .ok (.iconst 0, 1) := by decide +kernel
theorem dX7_receive_8 : decode cX7_receive 8 = .ok (.iaload, 1) := by decide +kernel
theorem dX7_receive_9 : decode cX7_receive 9 = .ok (.if_icmp .ge 114, 3) := by decide +kernel
theorem dX7_receive_12 : decode cX7_receive 12 = .ok (.iload_n 3, 1) := by decide +kernel
theorem dX7_receive_13 : decode cX7_receive 13 = .ok (.iload_n 2, 1) := by decide +kernel
theorem dX7_receive_14 : decode cX7_receive 14 = .ok (.invokestatic 70, 3) := by decide +kernel
theorem dX7_receive_17 : decode cX7_receive 17 = .ok (.istore 4, 2) := by decide +kernel
theorem dX7_receive_19 : decode cX7_receive 19 = .ok (.iconst 0, 1) := by decide +kernel
theorem dX7_receive_20 : decode cX7_receive 20 = .ok (.istore 5, 2) := by decide +kernel
theorem dX7_receive_22 : decode cX7_receive 22 = .ok (.iload 5, 2) := by decide +kernel
theorem dX7_receive_24 : decode cX7_receive 24 = .ok (.aload_n 0, 1) := by decide +kernel
theorem dX7_receive_25 : decode cX7_receive 25 = .ok (.getfield 7, 3) := by decide +kernel
theorem dX7_receive_28 : decode cX7_receive 28 = .ok (.iconst 1, 1) := by decide +kernel
theorem dX7_receive_29 : decode cX7_receive 29 = .ok (.iaload, 1) := by decide +kernel
theorem dX7_receive_30 : decode cX7_receive 30 = .ok (.if_icmp .ge 87, 3) := by decide +kernel
theorem dX7_receive_33 : decode cX7_receive 33 = .ok (.aload_n 0, 1) := by decide +kernel
theorem dX7_receive_34 : decode cX7_receive 34 = .ok (.getfield 19, 3) := by decide +kernel
theorem dX7_receive_37 : decode cX7_receive 37 = .ok (.iload 4, 2) := by decide +kernel
theorem dX7_receive_39 : decode cX7_receive 39 = .ok (.iconst 3, 1) := by decide +kernel
theorem dX7_receive_40 : decode cX7_receive 40 = .ok (.iadd, 1) := by decide +kernel
theorem dX7_receive_41 : decode cX7_receive 41 = .ok (.iaload, 1) := by decide +kernel
theorem dX7_receive_42 : decode cX7_receive 42 = .ok (.iconst 1, 1) := by decide +kernel
theorem dX7_receive_43 : decode cX7_receive 43 = .ok (.if_icmp .ne 74, 3) := by decide +kernel
theorem dX7_receive_46 : decode cX7_receive 46 = .ok (.aload_n 0, 1) := by decide +kernel
theorem dX7_receive_47 : decode cX7_receive 47 = .ok (.iload 5, 2) := by decide +kernel
theorem dX7_receive_49 : decode cX7_receive 49 = .ok (.iconst 3, 1) := by decide +kernel
theorem dX7_receive_50 : decode cX7_receive 50 = .ok (.invokevirtual 62, 3) := by decide +kernel
theorem dX7_receive_53 : decode cX7_receive 53 = .ok (.iconst 1, 1) := by decide +kernel
theorem dX7_receive_54 : decode cX7_receive 54 = .ok (.if_icmp .ne 57, 3) := by decide +kernel
theorem dX7_receive_57 : decode cX7_receive 57 = .ok (.aload_n 0, 1) := by decide +kernel
theorem dX7_receive_58 : decode cX7_receive 58 = .ok (.iload_n 1, 1) := by decide +kernel
theorem dX7_receive_59 : decode cX7_receive 59 = .ok (.iload 5, 2) := by decide +kernel
theorem dX7_receive_61 : decode cX7_receive 61 = .ok (.invokevirtual 84, 3) := by decide +kernel
theorem dX7_receive_64 : decode cX7_receive 64 = .ok (.ifCond .eq 47, 3) := by decide +kernel
theorem dX7_receive_67 : decode cX7_receive 67 = .ok (.aload_n 0, 1) := by decide +kernel
theorem dX7_receive_68 : decode cX7_receive 68 = .ok (.iload 5, 2) := by decide +kernel
theorem dX7_receive_70 : decode cX7_receive 70 = .ok (.iload_n 1, 1) := by decide +kernel
