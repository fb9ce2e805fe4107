theorem dX0_make_0 : decode cX0_make 0 = .ok (.iload_n 0, 1) := by decide +kernel
theorem dX0_make_1 : decode cX0_make 1 = .ok (.bipush 7, 2) := by decide +kernel
theorem dX0_make_3 : decode cX0_make 3 = .ok (.ishl, 1) := by decide +kernel
theorem dX0_make_4 : decode cX0_make 4 = .ok (.iload_n 2, 1) := by decide +kernel
theorem dX0_make_5 : decode cX0_make 5 = .ok (.iconst 1, 1) := by decide +kernel
theorem dX0_make_6 : decode cX0_make 6 = .ok (.ishl, 1) := by decide +kernel
theorem dX0_make_7 : decode cX0_make 7 = .ok (.ior, 1) := by decide +kernel
theorem dX0_make_8 : decode cX0_make 8 = .ok (.iload_n 1, 1) := by decide +kernel
theorem dX0_make_9 : decode cX0_make 9 = .ok (.ior, 1) := by decide +kernel
theorem dX0_make_10 : decode cX0_make 10 = .ok (.ireturn, 1) := by decide +kernel
theorem dX0_version_0 : decode cX0_version 0 = .ok (.iload_n 0, 1) := by decide +kernel
theorem dX0_version_1 : decode cX0_version 1 = .ok (.bipush 7, 2) := by decide +kernel
theorem dX0_version_3 : decode cX0_version 3 = .ok (.iushr, 1) := by decide +kernel
theorem dX0_version_4 : decode cX0_version 4 = .ok (.ireturn, 1) := by decide +kernel
theorem dX0_state_0 : decode cX0_state 0 = .ok (.iload_n 0, 1) := by decide +kernel
theorem dX0_state_1 : decode cX0_state 1 = .ok (.iconst 1, 1) := by decide +kernel
theorem dX0_state_2 : decode cX0_state 2 = .ok (.iand, 1) := by decide +kernel
theorem dX0_state_3 : decode cX0_state 3 = .ok (.ireturn, 1) := by decide +kernel
theorem dX0_price_0 : decode cX0_price 0 = .ok (.iload_n 0, 1) := by decide +kernel
theorem dX0_price_1 : decode cX0_price 1 = .ok (.iconst 1, 1) := by decide +kernel
theorem dX0_price_2 : decode cX0_price 2 = .ok (.iushr, 1) := by decide +kernel
theorem dX0_price_3 : decode cX0_price 3 = .ok (.bipush 63, 2) := by decide +kernel
theorem dX0_price_5 : decode cX0_price 5 = .ok (.iand, 1) := by decide +kernel
theorem dX0_price_6 : decode cX0_price 6 = .ok (.ireturn, 1) := by decide +kernel
theorem dX1_init_0 : decode cX1_init 0 = .ok (.aload_n 0, 1) := by decide +kernel
theorem dX1_init_1 : decode cX1_init 1 = .ok (.invokespecial 3, 3) := by decide +kernel
theorem dX1_init_4 : decode cX1_init 4 = .ok (.aload_n 0, 1) := by decide +kernel
theorem dX1_init_5 : decode cX1_init 5 = .ok (.sipush 350, 3) := by decide +kernel
theorem dX1_init_8 : decode cX1_init 8 = .ok (.newarray .int, 2) := by decide +kernel
theorem dX1_init_10 : decode cX1_init 10 = .ok (.putfield 9, 3) := by decide +kernel
theorem dX1_init_13 : decode cX1_init 13 = .ok (.aload_n 0, 1) := by decide +kernel
theorem dX1_init_14 : decode cX1_init 14 = .ok (.bipush 10, 2) := by decide +kernel
theorem dX1_init_16 : decode cX1_init 16 = .ok (.newarray .long, 2) := by decide +kernel
theorem dX1_init_18 : decode cX1_init 18 = .ok (.putfield 15, 3) := by decide +kernel
theorem dX1_init_21 : decode cX1_init 21 = .ok (.return_, 1) := by decide +kernel
theorem dX1_passRounds_0 : decode cX1_passRounds 0 = .ok (.iconst 0, 1) := by decide +kernel
theorem dX1_passRounds_1 : decode cX1_passRounds 1 = .ok (.istore_n 3, 1) := by decide +kernel
theorem dX1_passRounds_2 : decode cX1_passRounds 2 = .ok (.iload_n 3, 1) := by decide +kernel
theorem dX1_passRounds_3 : decode cX1_passRounds 3 = .ok (.iload_n 2, 1) := by decide +kernel
theorem dX1_passRounds_4 : decode cX1_passRounds 4 = .ok (.if_icmp .ge 21, 3) := by decide +kernel
theorem dX1_passRounds_7 : decode cX1_passRounds 7 = .ok (.aload_n 1, 1) := by decide +kernel
theorem dX1_passRounds_8 : decode cX1_passRounds 8 = .ok (.invokevirtual 19, 3) := by decide +kernel
theorem dX1_passRounds_11 : decode cX1_passRounds 11 = .ok (.ifCond .ne 14, 3) := by decide +kernel
theorem dX1_passRounds_14 : decode cX1_passRounds 14 = .ok (.aload_n 0, 1) := by decide +kernel
theorem dX1_passRounds_15 : decode cX1_passRounds 15 = .ok (.aload_n 1, 1) := by decide +kernel
theorem dX1_passRounds_16 : decode cX1_passRounds 16 = .ok (.invokevirtual 25, 3) := by decide +kernel
theorem dX1_passRounds_19 : decode cX1_passRounds 19 = .ok (.iinc 3 1, 3) := by decide +kernel
theorem dX1_passRounds_22 : decode cX1_passRounds 22 = .ok (.goto (-20), 3) := by decide +kernel
theorem dX1_passRounds_25 : decode cX1_passRounds 25 = .ok (.iload_n 3, 1) := by decide +kernel
theorem dX1_passRounds_26 : decode cX1_passRounds 26 = .ok (.ireturn, 1) := by decide +kernel
theorem dX1_passRound_0 : decode cX1_passRound 0 = .ok (.aload_n 1, 1) := by decide +kernel
theorem dX1_passRound_1 : decode cX1_passRound 1 = .ok (.getfield 29, 3) := by decide +kernel
theorem dX1_passRound_4 : decode cX1_passRound 4 = .ok (.iconst 0, 1) := by decide +kernel
theorem dX1_passRound_5 : decode cX1_passRound 5 = .ok (.aload_n 0, 1) := by decide +kernel
theorem dX1_passRound_6 : decode cX1_passRound 6 = .ok (.getfield 9, 3) := by decide +kernel
theorem dX1_passRound_9 : decode cX1_passRound 9 = .ok (.iconst 0, 1) := by decide +kernel
theorem dX1_passRound_10 : decode cX1_passRound 10 = .ok (.sipush 350, 3) := by decide +kernel
theorem dX1_passRound_13 : decode cX1_passRound 13 = .ok (.invokestatic 32, 3) := by decide +kernel
theorem dX1_passRound_16 : decode cX1_passRound 16 = .ok (.aload_n 1, 1) := by decide +kernel
theorem dX1_passRound_17 : decode cX1_passRound 17 = .ok (.getfield 38, 3) := by decide +kernel
theorem dX1_passRound_20 : decode cX1_passRound 20 = .ok (.iconst 0, 1) := by decide +kernel
theorem dX1_passRound_21 : decode cX1_passRound 21 = .ok (.aload_n 0, 1) := by decide +kernel
theorem dX1_passRound_22 : decode cX1_passRound 22 = .ok (.getfield 15, 3) := by decide +kernel
theorem dX1_passRound_25 : decode cX1_passRound 25 = .ok (.iconst 0, 1) := by decide +kernel
theorem dX1_passRound_26 : decode cX1_passRound 26 = .ok (.bipush 10, 2) := by decide +kernel
theorem dX1_passRound_28 : decode cX1_passRound 28 = .ok (.invokestatic 32, 3) := by decide +kernel
theorem dX1_passRound_31 : decode cX1_passRound 31 = .ok (.aload_n 1, 1) := by decide +kernel
theorem dX1_passRound_32 : decode cX1_passRound 32 = .ok (.getfield 38, 3) := by decide +kernel
theorem dX1_passRound_35 : decode cX1_passRound 35 = .ok (.lconst 0, 1) := by decide +kernel
theorem dX1_passRound_36 : decode cX1_passRound 36 = .ok (.invokestatic 41, 3) := by decide +kernel
theorem dX1_passRound_39 : decode cX1_passRound 39 = .ok (.aload_n 1, 1) := by decide +kernel
theorem dX1_passRound_40 : decode cX1_passRound 40 = .ok (.dup, 1) := by decide +kernel
theorem dX1_passRound_41 : decode cX1_passRound 41 = .ok (.getfield 47, 3) := by decide +kernel
theorem dX1_passRound_44 : decode cX1_passRound 44 = .ok (.aload_n 0, 1) := by decide +kernel
theorem dX1_passRound_45 : decode cX1_passRound 45 = .ok (.aload_n 1, 1) := by decide +kernel
theorem dX1_passRound_46 : decode cX1_passRound 46 = .ok (.invokevirtual 51, 3) := by decide +kernel
theorem dX1_passRound_49 : decode cX1_passRound 49 = .ok (.iadd, 1) := by decide +kernel
theorem dX1_passRound_50 : decode cX1_passRound 50 = .ok (.putfield 47, 3) := by decide +kernel
theorem dX1_passRound_53 : decode cX1_passRound 53 = .ok (.iconst 0, 1) := by decide +kernel
theorem dX1_passRound_54 : decode cX1_passRound 54 = .ok (.istore_n 2, 1) := by decide +kernel
theorem dX1_passRound_55 : decode cX1_passRound 55 = .ok (.iload_n 2, 1) := by decide +kernel
theorem dX1_passRound_56 : decode cX1_passRound 56 = .ok (.aload_n 1, 1) := by decide +kernel
theorem dX1_passRound_57 : decode cX1_passRound 57 = .ok (.getfield 55, 3) := by decide +kernel
theorem dX1_passRound_60 : decode cX1_passRound 60 = .ok (.if_icmp .ge 15, 3) := by decide +kernel
theorem dX1_passRound_63 : decode cX1_passRound 63 = .ok (.aload_n 0, 1) := by decide +kernel
theorem dX1_passRound_64 : decode cX1_passRound 64 = .ok (.aload_n 1, 1) := by decide +kernel
theorem dX1_passRound_65 : decode cX1_passRound 65 = .ok (.iload_n 2, 1) := by decide +kernel
theorem dX1_passRound_66 : decode cX1_passRound 66 = .ok (.invokevirtual 58, 3) := by decide +kernel
theorem dX1_passRound_69 : decode cX1_passRound 69 = .ok (.iinc 2 1, 3) := by decide +kernel
theorem dX1_passRound_72 : decode cX1_passRound 72 = .ok (.goto (-17), 3) := by decide +kernel
theorem dX1_passRound_75 : decode cX1_passRound 75 = .ok (.return_, 1) := by decide +kernel
theorem dX1_countMessages_0 : decode cX1_countMessages 0 = .ok (.iconst 0, 1) := by decide +kernel
theorem dX1_countMessages_1 : decode cX1_countMessages 1 = .ok (.istore_n 2, 1) := by decide +kernel
theorem dX1_countMessages_2 : decode cX1_countMessages 2 = .ok (.iconst 0, 1) := by decide +kernel
theorem dX1_countMessages_3 : decode cX1_countMessages 3 = .ok (.istore_n 3, 1) := by decide +kernel
theorem dX1_countMessages_4 : decode cX1_countMessages 4 = .ok (.iload_n 3, 1) := by decide +kernel
theorem dX1_countMessages_5 : decode cX1_countMessages 5 = .ok (.aload_n 1, 1) := by decide +kernel
theorem dX1_countMessages_6 : decode cX1_countMessages 6 = .ok (.getfield 62, 3) := by decide +kernel
theorem dX1_countMessages_9 : decode cX1_countMessages 9 = .ok (.if_icmp .ge 54, 3) := by decide +kernel
theorem dX1_countMessages_12 : decode cX1_countMessages 12 = .ok (.aload_n 1, 1) := by decide +kernel
theorem dX1_countMessages_13 : decode cX1_countMessages 13 = .ok (.bipush 16, 2) := by decide +kernel
theorem dX1_countMessages_15 : decode cX1_countMessages 15 = .ok (.iload_n 3, 1) := by decide +kernel
theorem dX1_countMessages_16 : decode cX1_countMessages 16 = .ok (.iadd, 1) := by decide +kernel
theorem dX1_countMessages_17 : decode cX1_countMessages 17 = .ok (.invokevirtual 65, 3) := by decide +kernel
theorem dX1_countMessages_20 : decode cX1_countMessages 20 = .ok (.ifCond .eq 37, 3) := by decide +kernel
theorem dX1_countMessages_23 : decode cX1_countMessages 23 = .ok (.iload_n 2, 1) := by decide +kernel
theorem dX1_countMessages_24 : decode cX1_countMessages 24 = .ok (.aload_n 0, 1) := by decide +kernel
theorem dX1_countMessages_25 : decode cX1_countMessages 25 = .ok (.getfield 15, 3) := by decide +kernel
theorem dX1_countMessages_28 : decode cX1_countMessages 28 = .ok (.aload_n 1, 1) := by decide +kernel
theorem dX1_countMessages_29 : decode cX1_countMessages 29 = .ok (.getfield 69, 3) := by decide +kernel
theorem dX1_countMessages_32 : decode cX1_countMessages 32 = .ok (.iload_n 3, 1) := by decide +kernel
theorem dX1_countMessages_33 : decode cX1_countMessages 33 = .ok (.iaload, 1) := by decide +kernel
theorem dX1_countMessages_34 : decode cX1_countMessages 34 = .ok (.laload, 1) := by decide +kernel
theorem dX1_countMessages_35 : decode cX1_countMessages 35 = .ok (.invokestatic 72, 3) := by decide +kernel
theorem dX1_countMessages_38 : decode cX1_countMessages 38 = .ok (.iadd, 1) := by decide +kernel
theorem dX1_countMessages_39 : decode cX1_countMessages 39 = .ok (.istore_n 2, 1) := by decide +kernel
theorem dX1_countMessages_40 : decode cX1_countMessages 40 = .ok (.iload_n 2, 1) := by decide +kernel
theorem dX1_countMessages_41 : decode cX1_countMessages 41 = .ok (.aload_n 0, 1) := by decide +kernel
theorem dX1_countMessages_42 : decode cX1_countMessages 42 = .ok (.getfield 15, 3) := by decide +kernel
theorem dX1_countMessages_45 : decode cX1_countMessages 45 = .ok (.aload_n 1, 1) := by decide +kernel
theorem dX1_countMessages_46 : decode cX1_countMessages 46 = .ok (.getfield 78, 3) := by decide +kernel
theorem dX1_countMessages_49 : decode cX1_countMessages 49 = .ok (.iload_n 3, 1) := by decide +kernel
theorem dX1_countMessages_50 : decode cX1_countMessages 50 = .ok (.iaload, 1) := by decide +kernel
theorem dX1_countMessages_51 : decode cX1_countMessages 51 = .ok (.laload, 1) := by decide +kernel
theorem dX1_countMessages_52 : decode cX1_countMessages 52 = .ok (.invokestatic 72, 3) := by decide +kernel
theorem dX1_countMessages_55 : decode cX1_countMessages 55 = .ok (.iadd, 1) := by decide +kernel
theorem dX1_countMessages_56 : decode cX1_countMessages 56 = .ok (.istore_n 2, 1) := by decide +kernel
theorem dX1_countMessages_57 : decode cX1_countMessages 57 = .ok (.iinc 3 1, 3) := by decide +kernel
theorem dX1_countMessages_60 : decode cX1_countMessages 60 = .ok (.goto (-56), 3) := by decide +kernel
theorem dX1_countMessages_63 : decode cX1_countMessages 63 = .ok (.iload_n 2, 1) := by decide +kernel
theorem dX1_countMessages_64 : decode cX1_countMessages 64 = .ok (.ireturn, 1) := by decide +kernel
theorem dX1_receive_0 : decode cX1_receive 0 = .ok (.aload_n 1, 1) := by decide +kernel
theorem dX1_receive_1 : decode cX1_receive 1 = .ok (.iload_n 2, 1) := by decide +kernel
theorem dX1_receive_2 : decode cX1_receive 2 = .ok (.invokestatic 81, 3) := by decide +kernel
theorem dX1_receive_5 : decode cX1_receive 5 = .ok (.istore_n 3, 1) := by decide +kernel
theorem dX1_receive_6 : decode cX1_receive 6 = .ok (.iconst 0, 1) := by decide +kernel
theorem dX1_receive_7 : decode cX1_receive 7 = .ok (.istore 4, 2) := by decide +kernel
theorem dX1_receive_9 : decode cX1_receive 9 = .ok (.iload 4, 2) := by decide +kernel
theorem dX1_receive_11 : decode cX1_receive 11 = .ok (.bipush 35, 2) := by decide +kernel
theorem dX1_receive_13 : decode cX1_receive 13 = .ok (.if_icmp .ge 73, 3) := by decide +kernel
theorem dX1_receive_16 : decode cX1_receive 16 = .ok (.iconst 0, 1) := by decide +kernel
theorem dX1_receive_17 : decode cX1_receive 17 = .ok (.istore 5, 2) := by decide +kernel
theorem dX1_receive_19 : decode cX1_receive 19 = .ok (.iload 5, 2) := by decide +kernel
theorem dX1_receive_21 : decode cX1_receive 21 = .ok (.aload_n 1, 1) := by decide +kernel
theorem dX1_receive_22 : decode cX1_receive 22 = .ok (.getfield 55, 3) := by decide +kernel
theorem dX1_receive_25 : decode cX1_receive 25 = .ok (.if_icmp .ge 55, 3) := by decide +kernel
theorem dX1_receive_28 : decode cX1_receive 28 = .ok (.iload_n 3, 1) := by decide +kernel
theorem dX1_receive_29 : decode cX1_receive 29 = .ok (.iload 5, 2) := by decide +kernel
theorem dX1_receive_31 : decode cX1_receive 31 = .ok (.ishr, 1) := by decide +kernel
theorem dX1_receive_32 : decode cX1_receive 32 = .ok (.iconst 1, 1) := by decide +kernel
theorem dX1_receive_33 : decode cX1_receive 33 = .ok (.iand, 1) := by decide +kernel
theorem dX1_receive_34 : decode cX1_receive 34 = .ok (.iconst 1, 1) := by decide +kernel
theorem dX1_receive_35 : decode cX1_receive 35 = .ok (.if_icmp .ne 39, 3) := by decide +kernel
theorem dX1_receive_38 : decode cX1_receive 38 = .ok (.aload_n 0, 1) := by decide +kernel
theorem dX1_receive_39 : decode cX1_receive 39 = .ok (.getfield 15, 3) := by decide +kernel
theorem dX1_receive_42 : decode cX1_receive 42 = .ok (.iload 5, 2) := by decide +kernel
theorem dX1_receive_44 : decode cX1_receive 44 = .ok (.laload, 1) := by decide +kernel
theorem dX1_receive_45 : decode cX1_receive 45 = .ok (.iload 4, 2) := by decide +kernel
theorem dX1_receive_47 : decode cX1_receive 47 = .ok (.lshr, 1) := by decide +kernel
theorem dX1_receive_48 : decode cX1_receive 48 = .ok (.lconst 1, 1) := by decide +kernel
theorem dX1_receive_49 : decode cX1_receive 49 = .ok (.land, 1) := by decide +kernel
theorem dX1_receive_50 : decode cX1_receive 50 = .ok (.lconst 1, 1) := by decide +kernel
theorem dX1_receive_51 : decode cX1_receive 51 = .ok (.lcmp, 1) := by decide +kernel
theorem dX1_receive_52 : decode cX1_receive 52 = .ok (.ifCond .ne 22, 3) := by decide +kernel
theorem dX1_receive_55 : decode cX1_receive 55 = .ok (.aload_n 1, 1) := by decide +kernel
theorem dX1_receive_56 : decode cX1_receive 56 = .ok (.iload_n 2, 1) := by decide +kernel
theorem dX1_receive_57 : decode cX1_receive 57 = .ok (.iload 4, 2) := by decide +kernel
theorem dX1_receive_59 : decode cX1_receive 59 = .ok (.aload_n 0, 1) := by decide +kernel
theorem dX1_receive_60 : decode cX1_receive 60 = .ok (.getfield 9, 3) := by decide +kernel
theorem dX1_receive_63 : decode cX1_receive 63 = .ok (.iload 5, 2) := by decide +kernel
theorem dX1_receive_65 : decode cX1_receive 65 = .ok (.iload 4, 2) := by decide +kernel
theorem dX1_receive_67 : decode cX1_receive 67 = .ok (.invokestatic 85, 3) := by decide +kernel
theorem dX1_receive_70 : decode cX1_receive 70 = .ok (.iaload, 1) := by decide +kernel
theorem dX1_receive_71 : decode cX1_receive 71 = .ok (.invokevirtual 89, 3) := by decide +kernel
theorem dX1_receive_74 : decode cX1_receive 74 = .ok (.iinc 5 1, 3) := by decide +kernel
theorem dX1_receive_77 : decode cX1_receive 77 = .ok (.goto (-58), 3) := by decide +kernel
theorem dX1_receive_80 : decode cX1_receive 80 = .ok (.iinc 4 1, 3) := by decide +kernel
theorem dX1_receive_83 : decode cX1_receive 83 = .ok (.goto (-74), 3) := by decide +kernel
theorem dX1_receive_86 : decode cX1_receive 86 = .ok (.return_, 1) := by decide +kernel
theorem dX1_sendersTo_0 : decode cX1_sendersTo 0 = .ok (.iconst 0, 1) := by decide +kernel
theorem dX1_sendersTo_1 : decode cX1_sendersTo 1 = .ok (.istore_n 2, 1) := by decide +kernel
theorem dX1_sendersTo_2 : decode cX1_sendersTo 2 = .ok (.iconst 0, 1) := by decide +kernel
theorem dX1_sendersTo_3 : decode cX1_sendersTo 3 = .ok (.istore_n 3, 1) := by decide +kernel
theorem dX1_sendersTo_4 : decode cX1_sendersTo 4 = .ok (.iload_n 3, 1) := by decide +kernel
theorem dX1_sendersTo_5 : decode cX1_sendersTo 5 = .ok (.aload_n 0, 1) := by decide +kernel
theorem dX1_sendersTo_6 : decode cX1_sendersTo 6 = .ok (.getfield 62, 3) := by decide +kernel
theorem dX1_sendersTo_9 : decode cX1_sendersTo 9 = .ok (.if_icmp .ge 51, 3) := by decide +kernel
theorem dX1_sendersTo_12 : decode cX1_sendersTo 12 = .ok (.aload_n 0, 1) := by decide +kernel
theorem dX1_sendersTo_13 : decode cX1_sendersTo 13 = .ok (.bipush 16, 2) := by decide +kernel
theorem dX1_sendersTo_15 : decode cX1_sendersTo 15 = .ok (.iload_n 3, 1) := by decide +kernel
theorem dX1_sendersTo_16 : decode cX1_sendersTo 16 = .ok (.iadd, 1) := by decide +kernel
theorem dX1_sendersTo_17 : decode cX1_sendersTo 17 = .ok (.invokevirtual 65, 3) := by decide +kernel
theorem dX1_sendersTo_20 : decode cX1_sendersTo 20 = .ok (.ifCond .eq 34, 3) := by decide +kernel
theorem dX1_sendersTo_23 : decode cX1_sendersTo 23 = .ok (.aload_n 0, 1) := by decide +kernel
theorem dX1_sendersTo_24 : decode cX1_sendersTo 24 = .ok (.iload_n 1, 1) := by decide +kernel
theorem dX1_sendersTo_25 : decode cX1_sendersTo 25 = .ok (.iload_n 3, 1) := by decide +kernel
theorem dX1_sendersTo_26 : decode cX1_sendersTo 26 = .ok (.invokevirtual 93, 3) := by decide +kernel
theorem dX1_sendersTo_29 : decode cX1_sendersTo 29 = .ok (.ifCond .eq 25, 3) := by decide +kernel
theorem dX1_sendersTo_32 : decode cX1_sendersTo 32 = .ok (.iload_n 2, 1) := by decide +kernel
theorem dX1_sendersTo_33 : decode cX1_sendersTo 33 = .ok (.iconst 1, 1) := by decide +kernel
theorem dX1_sendersTo_34 : decode cX1_sendersTo 34 = .ok (.aload_n 0, 1) := by decide +kernel
theorem dX1_sendersTo_35 : decode cX1_sendersTo 35 = .ok (.getfield 69, 3) := by decide +kernel
theorem dX1_sendersTo_38 : decode cX1_sendersTo 38 = .ok (.iload_n 3, 1) := by decide +kernel
theorem dX1_sendersTo_39 : decode cX1_sendersTo 39 = .ok (.iaload, 1) := by decide +kernel
theorem dX1_sendersTo_40 : decode cX1_sendersTo 40 = .ok (.ishl, 1) := by decide +kernel
theorem dX1_sendersTo_41 : decode cX1_sendersTo 41 = .ok (.ior, 1) := by decide +kernel
theorem dX1_sendersTo_42 : decode cX1_sendersTo 42 = .ok (.istore_n 2, 1) := by decide +kernel
theorem dX1_sendersTo_43 : decode cX1_sendersTo 43 = .ok (.iload_n 2, 1) := by decide +kernel
theorem dX1_sendersTo_44 : decode cX1_sendersTo 44 = .ok (.iconst 1, 1) := by decide +kernel
theorem dX1_sendersTo_45 : decode cX1_sendersTo 45 = .ok (.aload_n 0, 1) := by decide +kernel
theorem dX1_sendersTo_46 : decode cX1_sendersTo 46 = .ok (.getfield 78, 3) := by decide +kernel
theorem dX1_sendersTo_49 : decode cX1_sendersTo 49 = .ok (.iload_n 3, 1) := by decide +kernel
theorem dX1_sendersTo_50 : decode cX1_sendersTo 50 = .ok (.iaload, 1) := by decide +kernel
theorem dX1_sendersTo_51 : decode cX1_sendersTo 51 = .ok (.ishl, 1) := by decide +kernel
theorem dX1_sendersTo_52 : decode cX1_sendersTo 52 = .ok (.ior, 1) := by decide +kernel
theorem dX1_sendersTo_53 : decode cX1_sendersTo 53 = .ok (.istore_n 2, 1) := by decide +kernel
theorem dX1_sendersTo_54 : decode cX1_sendersTo 54 = .ok (.iinc 3 1, 3) := by decide +kernel
theorem dX1_sendersTo_57 : decode cX1_sendersTo 57 = .ok (.goto (-53), 3) := by decide +kernel
theorem dX1_sendersTo_60 : decode cX1_sendersTo 60 = .ok (.iload_n 2, 1) := by decide +kernel
theorem dX1_sendersTo_61 : decode cX1_sendersTo 61 = .ok (.iconst 1, 1) := by decide +kernel
theorem dX1_sendersTo_62 : decode cX1_sendersTo 62 = .ok (.iload_n 1, 1) := by decide +kernel
theorem dX1_sendersTo_63 : decode cX1_sendersTo 63 = .ok (.ishl, 1) := by decide +kernel
theorem dX1_sendersTo_64 : decode cX1_sendersTo 64 = .ok (.iconst (-1), 1) := by decide +kernel
theorem dX1_sendersTo_65 : decode cX1_sendersTo 65 = .ok (.ixor, 1) := by decide +kernel
theorem dX1_sendersTo_66 : decode cX1_sendersTo 66 = .ok (.iand, 1) := by decide +kernel
theorem dX1_sendersTo_67 : decode cX1_sendersTo 67 = .ok (.ireturn, 1) := by decide +kernel
theorem dX2_init_0 : decode cX2_init 0 = .ok (.aload_n 0, 1) := by decide +kernel
theorem dX2_init_1 : decode cX2_init 1 = .ok (.invokespecial 3, 3) := by decide +kernel
theorem dX2_init_4 : decode cX2_init 4 = .ok (.aload_n 0, 1) := by decide +kernel
theorem dX2_init_5 : decode cX2_init 5 = .ok (.iconst 0, 1) := by decide +kernel
theorem dX2_init_6 : decode cX2_init 6 = .ok (.putfield 9, 3) := by decide +kernel
theorem dX2_init_9 : decode cX2_init 9 = .ok (.aload_n 0, 1) := by decide +kernel
theorem dX2_init_10 : decode cX2_init 10 = .ok (.iconst 0, 1) := by decide +kernel
theorem dX2_init_11 : decode cX2_init 11 = .ok (.putfield 15, 3) := by decide +kernel
theorem dX2_init_14 : decode cX2_init 14 = .ok (.aload_n 0, 1) := by decide +kernel
theorem dX2_init_15 : decode cX2_init 15 = .ok (.bipush 35, 2) := by decide +kernel
theorem dX2_init_17 : decode cX2_init 17 = .ok (.newarray .int, 2) := by decide +kernel
theorem dX2_init_19 : decode cX2_init 19 = .ok (.putfield 18, 3) := by decide +kernel
theorem dX2_init_22 : decode cX2_init 22 = .ok (.aload_n 0, 1) := by decide +kernel
theorem dX2_init_23 : decode cX2_init 23 = .ok (.bipush 35, 2) := by decide +kernel
theorem dX2_init_25 : decode cX2_init 25 = .ok (.newarray .int, 2) := by decide +kernel
theorem dX2_init_27 : decode cX2_init 27 = .ok (.putfield 22, 3) := by decide +kernel
theorem dX2_init_30 : decode cX2_init 30 = .ok (.aload_n 0, 1) := by decide +kernel
theorem dX2_init_31 : decode cX2_init 31 = .ok (.bipush 35, 2) := by decide +kernel
theorem dX2_init_33 : decode cX2_init 33 = .ok (.newarray .int, 2) := by decide +kernel
theorem dX2_init_35 : decode cX2_init 35 = .ok (.putfield 25, 3) := by decide +kernel
theorem dX2_init_38 : decode cX2_init 38 = .ok (.aload_n 0, 1) := by decide +kernel
theorem dX2_init_39 : decode cX2_init 39 = .ok (.bipush 35, 2) := by decide +kernel
theorem dX2_init_41 : decode cX2_init 41 = .ok (.newarray .int, 2) := by decide +kernel
theorem dX2_init_43 : decode cX2_init 43 = .ok (.putfield 28, 3) := by decide +kernel
theorem dX2_init_46 : decode cX2_init 46 = .ok (.aload_n 0, 1) := by decide +kernel
theorem dX2_init_47 : decode cX2_init 47 = .ok (.bipush 10, 2) := by decide +kernel
theorem dX2_init_49 : decode cX2_init 49 = .ok (.newarray .int, 2) := by decide +kernel
theorem dX2_init_51 : decode cX2_init 51 = .ok (.putfield 31, 3) := by decide +kernel
theorem dX2_init_54 : decode cX2_init 54 = .ok (.return_, 1) := by decide +kernel
theorem dX2_takeView_0 : decode cX2_takeView 0 = .ok (.iload_n 2, 1) := by decide +kernel
theorem dX2_takeView_1 : decode cX2_takeView 1 = .ok (.iconst 0, 1) := by decide +kernel
theorem dX2_takeView_2 : decode cX2_takeView 2 = .ok (.invokestatic 34, 3) := by decide +kernel
theorem dX2_takeView_5 : decode cX2_takeView 5 = .ok (.istore 5, 2) := by decide +kernel
theorem dX2_takeView_7 : decode cX2_takeView 7 = .ok (.aload_n 0, 1) := by decide +kernel
theorem dX2_takeView_8 : decode cX2_takeView 8 = .ok (.aload_n 1, 1) := by decide +kernel
theorem dX2_takeView_9 : decode cX2_takeView 9 = .ok (.aload_n 1, 1) := by decide +kernel
theorem dX2_takeView_10 : decode cX2_takeView 10 = .ok (.getfield 38, 3) := by decide +kernel
theorem dX2_takeView_13 : decode cX2_takeView 13 = .ok (.iload 5, 2) := by decide +kernel
theorem dX2_takeView_15 : decode cX2_takeView 15 = .ok (.aload_n 1, 1) := by decide +kernel
theorem dX2_takeView_16 : decode cX2_takeView 16 = .ok (.iload_n 2, 1) := by decide +kernel
theorem dX2_takeView_17 : decode cX2_takeView 17 = .ok (.iload_n 3, 1) := by decide +kernel
theorem dX2_takeView_18 : decode cX2_takeView 18 = .ok (.invokevirtual 43, 3) := by decide +kernel
theorem dX2_takeView_21 : decode cX2_takeView 21 = .ok (.invokevirtual 46, 3) := by decide +kernel
theorem dX2_takeView_24 : decode cX2_takeView 24 = .ok (.iload 4, 2) := by decide +kernel
theorem dX2_takeView_26 : decode cX2_takeView 26 = .ok (.ifCond .eq 10, 3) := by decide +kernel
theorem dX2_takeView_29 : decode cX2_takeView 29 = .ok (.aload_n 0, 1) := by decide +kernel
theorem dX2_takeView_30 : decode cX2_takeView 30 = .ok (.aload_n 1, 1) := by decide +kernel
theorem dX2_takeView_31 : decode cX2_takeView 31 = .ok (.iload 5, 2) := by decide +kernel
theorem dX2_takeView_33 : decode cX2_takeView 33 = .ok (.invokevirtual 50, 3) := by decide +kernel
theorem dX2_takeView_36 : decode cX2_takeView 36 = .ok (.return_, 1) := by decide +kernel
theorem dX2_takeTrueLinks_0 : decode cX2_takeTrueLinks 0 = .ok (.aload_n 0, 1) := by decide +kernel
theorem dX2_takeTrueLinks_1 : decode cX2_takeTrueLinks 1 = .ok (.aload_n 1, 1) := by decide +kernel
theorem dX2_takeTrueLinks_2 : decode cX2_takeTrueLinks 2 = .ok (.aload_n 1, 1) := by decide +kernel
theorem dX2_takeTrueLinks_3 : decode cX2_takeTrueLinks 3 = .ok (.getfield 54, 3) := by decide +kernel
theorem dX2_takeTrueLinks_6 : decode cX2_takeTrueLinks 6 = .ok (.iconst 0, 1) := by decide +kernel
theorem dX2_takeTrueLinks_7 : decode cX2_takeTrueLinks 7 = .ok (.iload_n 2, 1) := by decide +kernel
theorem dX2_takeTrueLinks_8 : decode cX2_takeTrueLinks 8 = .ok (.invokevirtual 46, 3) := by decide +kernel
theorem dX2_takeTrueLinks_11 : decode cX2_takeTrueLinks 11 = .ok (.return_, 1) := by decide +kernel
theorem dX2_takeLinks_0 : decode cX2_takeLinks 0 = .ok (.aload_n 0, 1) := by decide +kernel
theorem dX2_takeLinks_1 : decode cX2_takeLinks 1 = .ok (.aload_n 1, 1) := by decide +kernel
theorem dX2_takeLinks_2 : decode cX2_takeLinks 2 = .ok (.getfield 57, 3) := by decide +kernel
theorem dX2_takeLinks_5 : decode cX2_takeLinks 5 = .ok (.putfield 9, 3) := by decide +kernel
theorem dX2_takeLinks_8 : decode cX2_takeLinks 8 = .ok (.aload_n 0, 1) := by decide +kernel
theorem dX2_takeLinks_9 : decode cX2_takeLinks 9 = .ok (.iconst 0, 1) := by decide +kernel
theorem dX2_takeLinks_10 : decode cX2_takeLinks 10 = .ok (.putfield 15, 3) := by decide +kernel
theorem dX2_takeLinks_13 : decode cX2_takeLinks 13 = .ok (.iconst 0, 1) := by decide +kernel
theorem dX2_takeLinks_14 : decode cX2_takeLinks 14 = .ok (.istore 5, 2) := by decide +kernel
theorem dX2_takeLinks_16 : decode cX2_takeLinks 16 = .ok (.iload 5, 2) := by decide +kernel
theorem dX2_takeLinks_18 : decode cX2_takeLinks 18 = .ok (.aload_n 1, 1) := by decide +kernel
theorem dX2_takeLinks_19 : decode cX2_takeLinks 19 = .ok (.getfield 58, 3) := by decide +kernel
theorem dX2_takeLinks_22 : decode cX2_takeLinks 22 = .ok (.if_icmp .ge 118, 3) := by decide +kernel
theorem dX2_takeLinks_25 : decode cX2_takeLinks 25 = .ok (.bipush 16, 2) := by decide +kernel
theorem dX2_takeLinks_27 : decode cX2_takeLinks 27 = .ok (.iload 5, 2) := by decide +kernel
theorem dX2_takeLinks_29 : decode cX2_takeLinks 29 = .ok (.iadd, 1) := by decide +kernel
theorem dX2_takeLinks_30 : decode cX2_takeLinks 30 = .ok (.istore 6, 2) := by decide +kernel
theorem dX2_takeLinks_32 : decode cX2_takeLinks 32 = .ok (.aload_n 2, 1) := by decide +kernel
theorem dX2_takeLinks_33 : decode cX2_takeLinks 33 = .ok (.iload_n 3, 1) := by decide +kernel
theorem dX2_takeLinks_34 : decode cX2_takeLinks 34 = .ok (.iload 6, 2) := by decide +kernel
theorem dX2_takeLinks_36 : decode cX2_takeLinks 36 = .ok (.iadd, 1) := by decide +kernel
theorem dX2_takeLinks_37 : decode cX2_takeLinks 37 = .ok (.iaload, 1) := by decide +kernel
theorem dX2_takeLinks_38 : decode cX2_takeLinks 38 = .ok (.istore 7, 2) := by decide +kernel
theorem dX2_takeLinks_40 : decode cX2_takeLinks 40 = .ok (.aload_n 1, 1) := by decide +kernel
theorem dX2_takeLinks_41 : decode cX2_takeLinks 41 = .ok (.iload 6, 2) := by decide +kernel
theorem dX2_takeLinks_43 : decode cX2_takeLinks 43 = .ok (.invokevirtual 61, 3) := by decide +kernel
theorem dX2_takeLinks_46 : decode cX2_takeLinks 46 = .ok (.ifCond .eq 17, 3) := by decide +kernel
theorem dX2_takeLinks_49 : decode cX2_takeLinks 49 = .ok (.iload 4, 2) := by decide +kernel
theorem dX2_takeLinks_51 : decode cX2_takeLinks 51 = .ok (.aload_n 1, 1) := by decide +kernel
theorem dX2_takeLinks_52 : decode cX2_takeLinks 52 = .ok (.iload 5, 2) := by decide +kernel
theorem dX2_takeLinks_54 : decode cX2_takeLinks 54 = .ok (.invokevirtual 65, 3) := by decide +kernel
theorem dX2_takeLinks_57 : decode cX2_takeLinks 57 = .ok (.invokestatic 69, 3) := by decide +kernel
theorem dX2_takeLinks_60 : decode cX2_takeLinks 60 = .ok (.ifCond .eq 7, 3) := by decide +kernel
theorem dX2_takeLinks_63 : decode cX2_takeLinks 63 = .ok (.iconst 1, 1) := by decide +kernel
theorem dX2_takeLinks_64 : decode cX2_takeLinks 64 = .ok (.goto 4, 3) := by decide +kernel
theorem dX2_takeLinks_67 : decode cX2_takeLinks 67 = .ok (.iconst 0, 1) := by decide +kernel
theorem dX2_takeLinks_68 : decode cX2_takeLinks 68 = .ok (.istore 8, 2) := by decide +kernel
theorem dX2_takeLinks_70 : decode cX2_takeLinks 70 = .ok (.iload 8, 2) := by decide +kernel
theorem dX2_takeLinks_72 : decode cX2_takeLinks 72 = .ok (.ifCond .eq 62, 3) := by decide +kernel
theorem dX2_takeLinks_75 : decode cX2_takeLinks 75 = .ok (.iload 7, 2) := by decide +kernel
theorem dX2_takeLinks_77 : decode cX2_takeLinks 77 = .ok (.invokestatic 73, 3) := by decide +kernel
theorem dX2_takeLinks_80 : decode cX2_takeLinks 80 = .ok (.iconst 1, 1) := by decide +kernel
theorem dX2_takeLinks_81 : decode cX2_takeLinks 81 = .ok (.if_icmp .ne 53, 3) := by decide +kernel
theorem dX2_takeLinks_84 : decode cX2_takeLinks 84 = .ok (.aload_n 0, 1) := by decide +kernel
theorem dX2_takeLinks_85 : decode cX2_takeLinks 85 = .ok (.aload_n 1, 1) := by decide +kernel
theorem dX2_takeLinks_86 : decode cX2_takeLinks 86 = .ok (.getfield 78, 3) := by decide +kernel
theorem dX2_takeLinks_89 : decode cX2_takeLinks 89 = .ok (.iload 5, 2) := by decide +kernel
theorem dX2_takeLinks_91 : decode cX2_takeLinks 91 = .ok (.iaload, 1) := by decide +kernel
theorem dX2_takeLinks_92 : decode cX2_takeLinks 92 = .ok (.aload_n 1, 1) := by decide +kernel
theorem dX2_takeLinks_93 : decode cX2_takeLinks 93 = .ok (.getfield 81, 3) := by decide +kernel
theorem dX2_takeLinks_96 : decode cX2_takeLinks 96 = .ok (.iload 5, 2) := by decide +kernel
theorem dX2_takeLinks_98 : decode cX2_takeLinks 98 = .ok (.iaload, 1) := by decide +kernel
theorem dX2_takeLinks_99 : decode cX2_takeLinks 99 = .ok (.iload 6, 2) := by decide +kernel
theorem dX2_takeLinks_101 : decode cX2_takeLinks 101 = .ok (.iload 7, 2) := by decide +kernel
theorem dX2_takeLinks_103 : decode cX2_takeLinks 103 = .ok (.invokestatic 84, 3) := by decide +kernel
theorem dX2_takeLinks_106 : decode cX2_takeLinks 106 = .ok (.invokevirtual 87, 3) := by decide +kernel
theorem dX2_takeLinks_109 : decode cX2_takeLinks 109 = .ok (.aload_n 0, 1) := by decide +kernel
theorem dX2_takeLinks_110 : decode cX2_takeLinks 110 = .ok (.aload_n 1, 1) := by decide +kernel
theorem dX2_takeLinks_111 : decode cX2_takeLinks 111 = .ok (.getfield 81, 3) := by decide +kernel
theorem dX2_takeLinks_114 : decode cX2_takeLinks 114 = .ok (.iload 5, 2) := by decide +kernel
theorem dX2_takeLinks_116 : decode cX2_takeLinks 116 = .ok (.iaload, 1) := by decide +kernel
theorem dX2_takeLinks_117 : decode cX2_takeLinks 117 = .ok (.aload_n 1, 1) := by decide +kernel
theorem dX2_takeLinks_118 : decode cX2_takeLinks 118 = .ok (.getfield 78, 3) := by decide +kernel
theorem dX2_takeLinks_121 : decode cX2_takeLinks 121 = .ok (.iload 5, 2) := by decide +kernel
theorem dX2_takeLinks_123 : decode cX2_takeLinks 123 = .ok (.iaload, 1) := by decide +kernel
theorem dX2_takeLinks_124 : decode cX2_takeLinks 124 = .ok (.iload 6, 2) := by decide +kernel
theorem dX2_takeLinks_126 : decode cX2_takeLinks 126 = .ok (.iload 7, 2) := by decide +kernel
theorem dX2_takeLinks_128 : decode cX2_takeLinks 128 = .ok (.invokestatic 84, 3) := by decide +kernel
theorem dX2_takeLinks_131 : decode cX2_takeLinks 131 = .ok (.invokevirtual 87, 3) := by decide +kernel
theorem dX2_takeLinks_134 : decode cX2_takeLinks 134 = .ok (.iinc 5 1, 3) := by decide +kernel
theorem dX2_takeLinks_137 : decode cX2_takeLinks 137 = .ok (.goto (-121), 3) := by decide +kernel
theorem dX2_takeLinks_140 : decode cX2_takeLinks 140 = .ok (.return_, 1) := by decide +kernel
theorem dX2_takeTunnels_0 : decode cX2_takeTunnels 0 = .ok (.iconst 0, 1) := by decide +kernel
theorem dX2_takeTunnels_1 : decode cX2_takeTunnels 1 = .ok (.istore_n 3, 1) := by decide +kernel
theorem dX2_takeTunnels_2 : decode cX2_takeTunnels 2 = .ok (.iload_n 3, 1) := by decide +kernel
theorem dX2_takeTunnels_3 : decode cX2_takeTunnels 3 = .ok (.aload_n 1, 1) := by decide +kernel
theorem dX2_takeTunnels_4 : decode cX2_takeTunnels 4 = .ok (.getfield 91, 3) := by decide +kernel
theorem dX2_takeTunnels_7 : decode cX2_takeTunnels 7 = .ok (.if_icmp .ge 58, 3) := by decide +kernel
theorem dX2_takeTunnels_10 : decode cX2_takeTunnels 10 = .ok (.bipush 32, 2) := by decide +kernel
theorem dX2_takeTunnels_12 : decode cX2_takeTunnels 12 = .ok (.iload_n 3, 1) := by decide +kernel
theorem dX2_takeTunnels_13 : decode cX2_takeTunnels 13 = .ok (.iadd, 1) := by decide +kernel
theorem dX2_takeTunnels_14 : decode cX2_takeTunnels 14 = .ok (.istore 4, 2) := by decide +kernel
theorem dX2_takeTunnels_16 : decode cX2_takeTunnels 16 = .ok (.aload_n 1, 1) := by decide +kernel
theorem dX2_takeTunnels_17 : decode cX2_takeTunnels 17 = .ok (.getfield 38, 3) := by decide +kernel
theorem dX2_takeTunnels_20 : decode cX2_takeTunnels 20 = .ok (.iload_n 2, 1) := by decide +kernel
theorem dX2_takeTunnels_21 : decode cX2_takeTunnels 21 = .ok (.iload 4, 2) := by decide +kernel
theorem dX2_takeTunnels_23 : decode cX2_takeTunnels 23 = .ok (.iadd, 1) := by decide +kernel
theorem dX2_takeTunnels_24 : decode cX2_takeTunnels 24 = .ok (.iaload, 1) := by decide +kernel
theorem dX2_takeTunnels_25 : decode cX2_takeTunnels 25 = .ok (.istore 5, 2) := by decide +kernel
theorem dX2_takeTunnels_27 : decode cX2_takeTunnels 27 = .ok (.iload 5, 2) := by decide +kernel
theorem dX2_takeTunnels_29 : decode cX2_takeTunnels 29 = .ok (.invokestatic 73, 3) := by decide +kernel
theorem dX2_takeTunnels_32 : decode cX2_takeTunnels 32 = .ok (.iconst 1, 1) := by decide +kernel
theorem dX2_takeTunnels_33 : decode cX2_takeTunnels 33 = .ok (.if_icmp .ne 26, 3) := by decide +kernel
theorem dX2_takeTunnels_36 : decode cX2_takeTunnels 36 = .ok (.aload_n 0, 1) := by decide +kernel
theorem dX2_takeTunnels_37 : decode cX2_takeTunnels 37 = .ok (.aload_n 1, 1) := by decide +kernel
theorem dX2_takeTunnels_38 : decode cX2_takeTunnels 38 = .ok (.getfield 94, 3) := by decide +kernel
theorem dX2_takeTunnels_41 : decode cX2_takeTunnels 41 = .ok (.iload_n 3, 1) := by decide +kernel
theorem dX2_takeTunnels_42 : decode cX2_takeTunnels 42 = .ok (.iaload, 1) := by decide +kernel
theorem dX2_takeTunnels_43 : decode cX2_takeTunnels 43 = .ok (.aload_n 1, 1) := by decide +kernel
theorem dX2_takeTunnels_44 : decode cX2_takeTunnels 44 = .ok (.getfield 97, 3) := by decide +kernel
theorem dX2_takeTunnels_47 : decode cX2_takeTunnels 47 = .ok (.iload_n 3, 1) := by decide +kernel
theorem dX2_takeTunnels_48 : decode cX2_takeTunnels 48 = .ok (.iaload, 1) := by decide +kernel
theorem dX2_takeTunnels_49 : decode cX2_takeTunnels 49 = .ok (.iload 4, 2) := by decide +kernel
theorem dX2_takeTunnels_51 : decode cX2_takeTunnels 51 = .ok (.iload 5, 2) := by decide +kernel
theorem dX2_takeTunnels_53 : decode cX2_takeTunnels 53 = .ok (.invokestatic 84, 3) := by decide +kernel
theorem dX2_takeTunnels_56 : decode cX2_takeTunnels 56 = .ok (.invokevirtual 87, 3) := by decide +kernel
theorem dX2_takeTunnels_59 : decode cX2_takeTunnels 59 = .ok (.iinc 3 1, 3) := by decide +kernel
theorem dX2_takeTunnels_62 : decode cX2_takeTunnels 62 = .ok (.goto (-60), 3) := by decide +kernel
theorem dX2_takeTunnels_65 : decode cX2_takeTunnels 65 = .ok (.return_, 1) := by decide +kernel
theorem dX2_addEdge_0 : decode cX2_addEdge 0 = .ok (.aload_n 0, 1) := by decide +kernel
theorem dX2_addEdge_1 : decode cX2_addEdge 1 = .ok (.getfield 18, 3) := by decide +kernel
theorem dX2_addEdge_4 : decode cX2_addEdge 4 = .ok (.aload_n 0, 1) := by decide +kernel
theorem dX2_addEdge_5 : decode cX2_addEdge 5 = .ok (.getfield 15, 3) := by decide +kernel
theorem dX2_addEdge_8 : decode cX2_addEdge 8 = .ok (.iload_n 1, 1) := by decide +kernel
theorem dX2_addEdge_9 : decode cX2_addEdge 9 = .ok (.iastore, 1) := by decide +kernel
theorem dX2_addEdge_10 : decode cX2_addEdge 10 = .ok (.aload_n 0, 1) := by decide +kernel
theorem dX2_addEdge_11 : decode cX2_addEdge 11 = .ok (.getfield 22, 3) := by decide +kernel
theorem dX2_addEdge_14 : decode cX2_addEdge 14 = .ok (.aload_n 0, 1) := by decide +kernel
theorem dX2_addEdge_15 : decode cX2_addEdge 15 = .ok (.getfield 15, 3) := by decide +kernel
theorem dX2_addEdge_18 : decode cX2_addEdge 18 = .ok (.iload_n 2, 1) := by decide +kernel
theorem dX2_addEdge_19 : decode cX2_addEdge 19 = .ok (.iastore, 1) := by decide +kernel
theorem dX2_addEdge_20 : decode cX2_addEdge 20 = .ok (.aload_n 0, 1) := by decide +kernel
theorem dX2_addEdge_21 : decode cX2_addEdge 21 = .ok (.getfield 28, 3) := by decide +kernel
theorem dX2_addEdge_24 : decode cX2_addEdge 24 = .ok (.aload_n 0, 1) := by decide +kernel
theorem dX2_addEdge_25 : decode cX2_addEdge 25 = .ok (.getfield 15, 3) := by decide +kernel
theorem dX2_addEdge_28 : decode cX2_addEdge 28 = .ok (.iload_n 3, 1) := by decide +kernel
theorem dX2_addEdge_29 : decode cX2_addEdge 29 = .ok (.iastore, 1) := by decide +kernel
theorem dX2_addEdge_30 : decode cX2_addEdge 30 = .ok (.aload_n 0, 1) := by decide +kernel
theorem dX2_addEdge_31 : decode cX2_addEdge 31 = .ok (.getfield 25, 3) := by decide +kernel
theorem dX2_addEdge_34 : decode cX2_addEdge 34 = .ok (.aload_n 0, 1) := by decide +kernel
theorem dX2_addEdge_35 : decode cX2_addEdge 35 = .ok (.getfield 15, 3) := by decide +kernel
theorem dX2_addEdge_38 : decode cX2_addEdge 38 = .ok (.iload 4, 2) := by decide +kernel
theorem dX2_addEdge_40 : decode cX2_addEdge 40 = .ok (.bipush 100, 2) := by decide +kernel
theorem dX2_addEdge_42 : decode cX2_addEdge 42 = .ok (.imul, 1) := by decide +kernel
theorem dX2_addEdge_43 : decode cX2_addEdge 43 = .ok (.iconst 1, 1) := by decide +kernel
theorem dX2_addEdge_44 : decode cX2_addEdge 44 = .ok (.iadd, 1) := by decide +kernel
theorem dX2_addEdge_45 : decode cX2_addEdge 45 = .ok (.iastore, 1) := by decide +kernel
theorem dX2_addEdge_46 : decode cX2_addEdge 46 = .ok (.aload_n 0, 1) := by decide +kernel
theorem dX2_addEdge_47 : decode cX2_addEdge 47 = .ok (.dup, 1) := by decide +kernel
theorem dX2_addEdge_48 : decode cX2_addEdge 48 = .ok (.getfield 15, 3) := by decide +kernel
theorem dX2_addEdge_51 : decode cX2_addEdge 51 = .ok (.iconst 1, 1) := by decide +kernel
theorem dX2_addEdge_52 : decode cX2_addEdge 52 = .ok (.iadd, 1) := by decide +kernel
theorem dX2_addEdge_53 : decode cX2_addEdge 53 = .ok (.putfield 15, 3) := by decide +kernel
theorem dX2_addEdge_56 : decode cX2_addEdge 56 = .ok (.return_, 1) := by decide +kernel
theorem dX2_measureTo_0 : decode cX2_measureTo 0 = .ok (.aload_n 0, 1) := by decide +kernel
theorem dX2_measureTo_1 : decode cX2_measureTo 1 = .ok (.getfield 31, 3) := by decide +kernel
theorem dX2_measureTo_4 : decode cX2_measureTo 4 = .ok (.ldc 100, 2) := by decide +kernel
theorem dX2_measureTo_6 : decode cX2_measureTo 6 = .ok (.invokestatic 101, 3) := by decide +kernel
theorem dX2_measureTo_9 : decode cX2_measureTo 9 = .ok (.aload_n 0, 1) := by decide +kernel
theorem dX2_measureTo_10 : decode cX2_measureTo 10 = .ok (.getfield 31, 3) := by decide +kernel
theorem dX2_measureTo_13 : decode cX2_measureTo 13 = .ok (.iload_n 1, 1) := by decide +kernel
theorem dX2_measureTo_14 : decode cX2_measureTo 14 = .ok (.iconst 0, 1) := by decide +kernel
theorem dX2_measureTo_15 : decode cX2_measureTo 15 = .ok (.iastore, 1) := by decide +kernel
theorem dX2_measureTo_16 : decode cX2_measureTo 16 = .ok (.iconst 1, 1) := by decide +kernel
theorem dX2_measureTo_17 : decode cX2_measureTo 17 = .ok (.istore_n 2, 1) := by decide +kernel
theorem dX2_measureTo_18 : decode cX2_measureTo 18 = .ok (.iconst 0, 1) := by decide +kernel
theorem dX2_measureTo_19 : decode cX2_measureTo 19 = .ok (.istore_n 3, 1) := by decide +kernel
theorem dX2_measureTo_20 : decode cX2_measureTo 20 = .ok (.iload_n 3, 1) := by decide +kernel
theorem dX2_measureTo_21 : decode cX2_measureTo 21 = .ok (.aload_n 0, 1) := by decide +kernel
theorem dX2_measureTo_22 : decode cX2_measureTo 22 = .ok (.getfield 9, 3) := by decide +kernel
theorem dX2_measureTo_25 : decode cX2_measureTo 25 = .ok (.if_icmp .ge 74, 3) := by decide +kernel
theorem dX2_measureTo_28 : decode cX2_measureTo 28 = .ok (.iload_n 2, 1) := by decide +kernel
theorem dX2_measureTo_29 : decode cX2_measureTo 29 = .ok (.ifCond .eq 70, 3) := by decide +kernel
theorem dX2_measureTo_32 : decode cX2_measureTo 32 = .ok (.iconst 0, 1) := by decide +kernel
theorem dX2_measureTo_33 : decode cX2_measureTo 33 = .ok (.istore_n 2, 1) := by decide +kernel
theorem dX2_measureTo_34 : decode cX2_measureTo 34 = .ok (.iconst 0, 1) := by decide +kernel
theorem dX2_measureTo_35 : decode cX2_measureTo 35 = .ok (.istore 4, 2) := by decide +kernel
theorem dX2_measureTo_37 : decode cX2_measureTo 37 = .ok (.iload 4, 2) := by decide +kernel
theorem dX2_measureTo_39 : decode cX2_measureTo 39 = .ok (.aload_n 0, 1) := by decide +kernel
theorem dX2_measureTo_40 : decode cX2_measureTo 40 = .ok (.getfield 15, 3) := by decide +kernel
theorem dX2_measureTo_43 : decode cX2_measureTo 43 = .ok (.if_icmp .ge 50, 3) := by decide +kernel
theorem dX2_measureTo_46 : decode cX2_measureTo 46 = .ok (.aload_n 0, 1) := by decide +kernel
theorem dX2_measureTo_47 : decode cX2_measureTo 47 = .ok (.iload 4, 2) := by decide +kernel
theorem dX2_measureTo_49 : decode cX2_measureTo 49 = .ok (.invokevirtual 107, 3) := by decide +kernel
theorem dX2_measureTo_52 : decode cX2_measureTo 52 = .ok (.aload_n 0, 1) := by decide +kernel
theorem dX2_measureTo_53 : decode cX2_measureTo 53 = .ok (.getfield 31, 3) := by decide +kernel
theorem dX2_measureTo_56 : decode cX2_measureTo 56 = .ok (.aload_n 0, 1) := by decide +kernel
theorem dX2_measureTo_57 : decode cX2_measureTo 57 = .ok (.getfield 18, 3) := by decide +kernel
theorem dX2_measureTo_60 : decode cX2_measureTo 60 = .ok (.iload 4, 2) := by decide +kernel
theorem dX2_measureTo_62 : decode cX2_measureTo 62 = .ok (.iaload, 1) := by decide +kernel
theorem dX2_measureTo_63 : decode cX2_measureTo 63 = .ok (.iaload, 1) := by decide +kernel
theorem dX2_measureTo_64 : decode cX2_measureTo 64 = .ok (.if_icmp .ge 23, 3) := by decide +kernel
theorem dX2_measureTo_67 : decode cX2_measureTo 67 = .ok (.aload_n 0, 1) := by decide +kernel
theorem dX2_measureTo_68 : decode cX2_measureTo 68 = .ok (.getfield 31, 3) := by decide +kernel
theorem dX2_measureTo_71 : decode cX2_measureTo 71 = .ok (.aload_n 0, 1) := by decide +kernel
theorem dX2_measureTo_72 : decode cX2_measureTo 72 = .ok (.getfield 18, 3) := by decide +kernel
theorem dX2_measureTo_75 : decode cX2_measureTo 75 = .ok (.iload 4, 2) := by decide +kernel
theorem dX2_measureTo_77 : decode cX2_measureTo 77 = .ok (.iaload, 1) := by decide +kernel
theorem dX2_measureTo_78 : decode cX2_measureTo 78 = .ok (.aload_n 0, 1) := by decide +kernel
theorem dX2_measureTo_79 : decode cX2_measureTo 79 = .ok (.iload 4, 2) := by decide +kernel
theorem dX2_measureTo_81 : decode cX2_measureTo 81 = .ok (.invokevirtual 107, 3) := by decide +kernel
theorem dX2_measureTo_84 : decode cX2_measureTo 84 = .ok (.iastore, 1) := by decide +kernel
theorem dX2_measureTo_85 : decode cX2_measureTo 85 = .ok (.iconst 1, 1) := by decide +kernel
theorem dX2_measureTo_86 : decode cX2_measureTo 86 = .ok (.istore_n 2, 1) := by decide +kernel
theorem dX2_measureTo_87 : decode cX2_measureTo 87 = .ok (.iinc 4 1, 3) := by decide +kernel
theorem dX2_measureTo_90 : decode cX2_measureTo 90 = .ok (.goto (-53), 3) := by decide +kernel
theorem dX2_measureTo_93 : decode cX2_measureTo 93 = .ok (.iinc 3 1, 3) := by decide +kernel
theorem dX2_measureTo_96 : decode cX2_measureTo 96 = .ok (.goto (-76), 3) := by decide +kernel
theorem dX2_measureTo_99 : decode cX2_measureTo 99 = .ok (.return_, 1) := by decide +kernel
theorem dX2_lengthOver_0 : decode cX2_lengthOver 0 = .ok (.aload_n 0, 1) := by decide +kernel
theorem dX2_lengthOver_1 : decode cX2_lengthOver 1 = .ok (.getfield 25, 3) := by decide +kernel
theorem dX2_lengthOver_4 : decode cX2_lengthOver 4 = .ok (.iload_n 1, 1) := by decide +kernel
theorem dX2_lengthOver_5 : decode cX2_lengthOver 5 = .ok (.iaload, 1) := by decide +kernel
theorem dX2_lengthOver_6 : decode cX2_lengthOver 6 = .ok (.aload_n 0, 1) := by decide +kernel
theorem dX2_lengthOver_7 : decode cX2_lengthOver 7 = .ok (.getfield 31, 3) := by decide +kernel
theorem dX2_lengthOver_10 : decode cX2_lengthOver 10 = .ok (.aload_n 0, 1) := by decide +kernel
theorem dX2_lengthOver_11 : decode cX2_lengthOver 11 = .ok (.getfield 22, 3) := by decide +kernel
theorem dX2_lengthOver_14 : decode cX2_lengthOver 14 = .ok (.iload_n 1, 1) := by decide +kernel
theorem dX2_lengthOver_15 : decode cX2_lengthOver 15 = .ok (.iaload, 1) := by decide +kernel
theorem dX2_lengthOver_16 : decode cX2_lengthOver 16 = .ok (.iaload, 1) := by decide +kernel
theorem dX2_lengthOver_17 : decode cX2_lengthOver 17 = .ok (.iadd, 1) := by decide +kernel
theorem dX2_lengthOver_18 : decode cX2_lengthOver 18 = .ok (.ireturn, 1) := by decide +kernel
theorem dX2_costFrom_0 : decode cX2_costFrom 0 = .ok (.aload_n 0, 1) := by decide +kernel
theorem dX2_costFrom_1 : decode cX2_costFrom 1 = .ok (.getfield 31, 3) := by decide +kernel
theorem dX2_costFrom_4 : decode cX2_costFrom 4 = .ok (.iload_n 1, 1) := by decide +kernel
theorem dX2_costFrom_5 : decode cX2_costFrom 5 = .ok (.iaload, 1) := by decide +kernel
theorem dX2_costFrom_6 : decode cX2_costFrom 6 = .ok (.ldc 100, 2) := by decide +kernel
theorem dX2_costFrom_8 : decode cX2_costFrom 8 = .ok (.if_icmp .lt 8, 3) := by decide +kernel
theorem dX2_costFrom_11 : decode cX2_costFrom 11 = .ok (.bipush (-9), 2) := by decide +kernel
theorem dX2_costFrom_13 : decode cX2_costFrom 13 = .ok (.goto 12, 3) := by decide +kernel
theorem dX2_costFrom_16 : decode cX2_costFrom 16 = .ok (.aload_n 0, 1) := by decide +kernel
theorem dX2_costFrom_17 : decode cX2_costFrom 17 = .ok (.getfield 31, 3) := by decide +kernel
theorem dX2_costFrom_20 : decode cX2_costFrom 20 = .ok (.iload_n 1, 1) := by decide +kernel
theorem dX2_costFrom_21 : decode cX2_costFrom 21 = .ok (.iaload, 1) := by decide +kernel
theorem dX2_costFrom_22 : decode cX2_costFrom 22 = .ok (.bipush 100, 2) := by decide +kernel
theorem dX2_costFrom_24 : decode cX2_costFrom 24 = .ok (.idiv, 1) := by decide +kernel
theorem dX2_costFrom_25 : decode cX2_costFrom 25 = .ok (.ireturn, 1) := by decide +kernel
theorem dX2_firstEdge_0 : decode cX2_firstEdge 0 = .ok (.iconst (-1), 1) := by decide +kernel
theorem dX2_firstEdge_1 : decode cX2_firstEdge 1 = .ok (.istore_n 2, 1) := by decide +kernel
theorem dX2_firstEdge_2 : decode cX2_firstEdge 2 = .ok (.aload_n 0, 1) := by decide +kernel
theorem dX2_firstEdge_3 : decode cX2_firstEdge 3 = .ok (.getfield 31, 3) := by decide +kernel
theorem dX2_firstEdge_6 : decode cX2_firstEdge 6 = .ok (.iload_n 1, 1) := by decide +kernel
theorem dX2_firstEdge_7 : decode cX2_firstEdge 7 = .ok (.iaload, 1) := by decide +kernel
theorem dX2_firstEdge_8 : decode cX2_firstEdge 8 = .ok (.ldc 100, 2) := by decide +kernel
theorem dX2_firstEdge_10 : decode cX2_firstEdge 10 = .ok (.if_icmp .lt 5, 3) := by decide +kernel
theorem dX2_firstEdge_13 : decode cX2_firstEdge 13 = .ok (.iload_n 2, 1) := by decide +kernel
theorem dX2_firstEdge_14 : decode cX2_firstEdge 14 = .ok (.ireturn, 1) := by decide +kernel
theorem dX2_firstEdge_15 : decode cX2_firstEdge 15 = .ok (.iconst 0, 1) := by decide +kernel
theorem dX2_firstEdge_16 : decode cX2_firstEdge 16 = .ok (.istore_n 3, 1) := by decide +kernel
theorem dX2_firstEdge_17 : decode cX2_firstEdge 17 = .ok (.iload_n 3, 1) := by decide +kernel
theorem dX2_firstEdge_18 : decode cX2_firstEdge 18 = .ok (.aload_n 0, 1) := by decide +kernel
theorem dX2_firstEdge_19 : decode cX2_firstEdge 19 = .ok (.getfield 15, 3) := by decide +kernel
theorem dX2_firstEdge_22 : decode cX2_firstEdge 22 = .ok (.if_icmp .ge 66, 3) := by decide +kernel
theorem dX2_firstEdge_25 : decode cX2_firstEdge 25 = .ok (.aload_n 0, 1) := by decide +kernel
theorem dX2_firstEdge_26 : decode cX2_firstEdge 26 = .ok (.getfield 18, 3) := by decide +kernel
theorem dX2_firstEdge_29 : decode cX2_firstEdge 29 = .ok (.iload_n 3, 1) := by decide +kernel
theorem dX2_firstEdge_30 : decode cX2_firstEdge 30 = .ok (.iaload, 1) := by decide +kernel
theorem dX2_firstEdge_31 : decode cX2_firstEdge 31 = .ok (.iload_n 1, 1) := by decide +kernel
theorem dX2_firstEdge_32 : decode cX2_firstEdge 32 = .ok (.if_icmp .ne 21, 3) := by decide +kernel
theorem dX2_firstEdge_35 : decode cX2_firstEdge 35 = .ok (.aload_n 0, 1) := by decide +kernel
theorem dX2_firstEdge_36 : decode cX2_firstEdge 36 = .ok (.iload_n 3, 1) := by decide +kernel
theorem dX2_firstEdge_37 : decode cX2_firstEdge 37 = .ok (.invokevirtual 107, 3) := by decide +kernel
theorem dX2_firstEdge_40 : decode cX2_firstEdge 40 = .ok (.aload_n 0, 1) := by decide +kernel
theorem dX2_firstEdge_41 : decode cX2_firstEdge 41 = .ok (.getfield 31, 3) := by decide +kernel
theorem dX2_firstEdge_44 : decode cX2_firstEdge 44 = .ok (.iload_n 1, 1) := by decide +kernel
theorem dX2_firstEdge_45 : decode cX2_firstEdge 45 = .ok (.iaload, 1) := by decide +kernel
theorem dX2_firstEdge_46 : decode cX2_firstEdge 46 = .ok (.if_icmp .ne 7, 3) := by decide +kernel
theorem dX2_firstEdge_49 : decode cX2_firstEdge 49 = .ok (.iconst 1, 1) := by decide +kernel
theorem dX2_firstEdge_50 : decode cX2_firstEdge 50 = .ok (.goto 4, 3) := by decide +kernel
theorem dX2_firstEdge_53 : decode cX2_firstEdge 53 = .ok (.iconst 0, 1) := by decide +kernel
theorem dX2_firstEdge_54 : decode cX2_firstEdge 54 = .ok (.istore 4, 2) := by decide +kernel
theorem dX2_firstEdge_56 : decode cX2_firstEdge 56 = .ok (.iload 4, 2) := by decide +kernel
theorem dX2_firstEdge_58 : decode cX2_firstEdge 58 = .ok (.ifCond .eq 24, 3) := by decide +kernel
theorem dX2_firstEdge_61 : decode cX2_firstEdge 61 = .ok (.iload_n 2, 1) := by decide +kernel
theorem dX2_firstEdge_62 : decode cX2_firstEdge 62 = .ok (.ifCond .lt 18, 3) := by decide +kernel
theorem dX2_firstEdge_65 : decode cX2_firstEdge 65 = .ok (.aload_n 0, 1) := by decide +kernel
theorem dX2_firstEdge_66 : decode cX2_firstEdge 66 = .ok (.getfield 22, 3) := by decide +kernel
theorem dX2_firstEdge_69 : decode cX2_firstEdge 69 = .ok (.iload_n 3, 1) := by decide +kernel
theorem dX2_firstEdge_70 : decode cX2_firstEdge 70 = .ok (.iaload, 1) := by decide +kernel
theorem dX2_firstEdge_71 : decode cX2_firstEdge 71 = .ok (.aload_n 0, 1) := by decide +kernel
theorem dX2_firstEdge_72 : decode cX2_firstEdge 72 = .ok (.getfield 22, 3) := by decide +kernel
theorem dX2_firstEdge_75 : decode cX2_firstEdge 75 = .ok (.iload_n 2, 1) := by decide +kernel
theorem dX2_firstEdge_76 : decode cX2_firstEdge 76 = .ok (.iaload, 1) := by decide +kernel
theorem dX2_firstEdge_77 : decode cX2_firstEdge 77 = .ok (.if_icmp .ge 5, 3) := by decide +kernel
theorem dX2_firstEdge_80 : decode cX2_firstEdge 80 = .ok (.iload_n 3, 1) := by decide +kernel
theorem dX2_firstEdge_81 : decode cX2_firstEdge 81 = .ok (.istore_n 2, 1) := by decide +kernel
theorem dX2_firstEdge_82 : decode cX2_firstEdge 82 = .ok (.iinc 3 1, 3) := by decide +kernel
theorem dX2_firstEdge_85 : decode cX2_firstEdge 85 = .ok (.goto (-68), 3) := by decide +kernel
theorem dX2_firstEdge_88 : decode cX2_firstEdge 88 = .ok (.iload_n 2, 1) := by decide +kernel
theorem dX2_firstEdge_89 : decode cX2_firstEdge 89 = .ok (.ireturn, 1) := by decide +kernel
theorem dX3_init_0 : decode cX3_init 0 = .ok (.aload_n 0, 1) := by decide +kernel
theorem dX3_init_1 : decode cX3_init 1 = .ok (.invokespecial 3, 3) := by decide +kernel
theorem dX3_init_4 : decode cX3_init 4 = .ok (.aload_n 0, 1) := by decide +kernel
theorem dX3_init_5 : decode cX3_init 5 = .ok (.bipush 10, 2) := by decide +kernel
theorem dX3_init_7 : decode cX3_init 7 = .ok (.newarray .int, 2) := by decide +kernel
theorem dX3_init_9 : decode cX3_init 9 = .ok (.putfield 9, 3) := by decide +kernel
theorem dX3_init_12 : decode cX3_init 12 = .ok (.aload_n 0, 1) := by decide +kernel
theorem dX3_init_13 : decode cX3_init 13 = .ok (.bipush 16, 2) := by decide +kernel
theorem dX3_init_15 : decode cX3_init 15 = .ok (.newarray .int, 2) := by decide +kernel
theorem dX3_init_17 : decode cX3_init 17 = .ok (.putfield 15, 3) := by decide +kernel
theorem dX3_init_20 : decode cX3_init 20 = .ok (.aload_n 0, 1) := by decide +kernel
theorem dX3_init_21 : decode cX3_init 21 = .ok (.bipush 16, 2) := by decide +kernel
theorem dX3_init_23 : decode cX3_init 23 = .ok (.newarray .int, 2) := by decide +kernel
theorem dX3_init_25 : decode cX3_init 25 = .ok (.putfield 18, 3) := by decide +kernel
theorem dX3_init_28 : decode cX3_init 28 = .ok (.aload_n 0, 1) := by decide +kernel
theorem dX3_init_29 : decode cX3_init 29 = .ok (.bipush 16, 2) := by decide +kernel
theorem dX3_init_31 : decode cX3_init 31 = .ok (.newarray .int, 2) := by decide +kernel
theorem dX3_init_33 : decode cX3_init 33 = .ok (.putfield 21, 3) := by decide +kernel
theorem dX3_init_36 : decode cX3_init 36 = .ok (.aload_n 0, 1) := by decide +kernel
theorem dX3_init_37 : decode cX3_init 37 = .ok (.iconst 3, 1) := by decide +kernel
theorem dX3_init_38 : decode cX3_init 38 = .ok (.newarray .int, 2) := by decide +kernel
theorem dX3_init_40 : decode cX3_init 40 = .ok (.putfield 24, 3) := by decide +kernel
theorem dX3_init_43 : decode cX3_init 43 = .ok (.aload_n 0, 1) := by decide +kernel
theorem dX3_init_44 : decode cX3_init 44 = .ok (.iconst 3, 1) := by decide +kernel
theorem dX3_init_45 : decode cX3_init 45 = .ok (.newarray .int, 2) := by decide +kernel
theorem dX3_init_47 : decode cX3_init 47 = .ok (.putfield 27, 3) := by decide +kernel
theorem dX3_init_50 : decode cX3_init 50 = .ok (.aload_n 0, 1) := by decide +kernel
theorem dX3_init_51 : decode cX3_init 51 = .ok (.bipush 35, 2) := by decide +kernel
theorem dX3_init_53 : decode cX3_init 53 = .ok (.newarray .int, 2) := by decide +kernel
theorem dX3_init_55 : decode cX3_init 55 = .ok (.putfield 30, 3) := by decide +kernel
theorem dX3_init_58 : decode cX3_init 58 = .ok (.aload_n 0, 1) := by decide +kernel
theorem dX3_init_59 : decode cX3_init 59 = .ok (.sipush 350, 3) := by decide +kernel
theorem dX3_init_62 : decode cX3_init 62 = .ok (.newarray .int, 2) := by decide +kernel
theorem dX3_init_64 : decode cX3_init 64 = .ok (.putfield 33, 3) := by decide +kernel
theorem dX3_init_67 : decode cX3_init 67 = .ok (.aload_n 0, 1) := by decide +kernel
theorem dX3_init_68 : decode cX3_init 68 = .ok (.bipush 10, 2) := by decide +kernel
theorem dX3_init_70 : decode cX3_init 70 = .ok (.newarray .long, 2) := by decide +kernel
theorem dX3_init_72 : decode cX3_init 72 = .ok (.putfield 36, 3) := by decide +kernel
theorem dX3_init_75 : decode cX3_init 75 = .ok (.return_, 1) := by decide +kernel
theorem dX3_makeEmpty_0 : decode cX3_makeEmpty 0 = .ok (.aload_n 0, 1) := by decide +kernel
theorem dX3_makeEmpty_1 : decode cX3_makeEmpty 1 = .ok (.iconst 0, 1) := by decide +kernel
theorem dX3_makeEmpty_2 : decode cX3_makeEmpty 2 = .ok (.putfield 40, 3) := by decide +kernel
theorem dX3_makeEmpty_5 : decode cX3_makeEmpty 5 = .ok (.aload_n 0, 1) := by decide +kernel
theorem dX3_makeEmpty_6 : decode cX3_makeEmpty 6 = .ok (.iconst 0, 1) := by decide +kernel
theorem dX3_makeEmpty_7 : decode cX3_makeEmpty 7 = .ok (.putfield 44, 3) := by decide +kernel
theorem dX3_makeEmpty_10 : decode cX3_makeEmpty 10 = .ok (.aload_n 0, 1) := by decide +kernel
theorem dX3_makeEmpty_11 : decode cX3_makeEmpty 11 = .ok (.iconst 0, 1) := by decide +kernel
theorem dX3_makeEmpty_12 : decode cX3_makeEmpty 12 = .ok (.putfield 47, 3) := by decide +kernel
theorem dX3_makeEmpty_15 : decode cX3_makeEmpty 15 = .ok (.aload_n 0, 1) := by decide +kernel
theorem dX3_makeEmpty_16 : decode cX3_makeEmpty 16 = .ok (.iconst 0, 1) := by decide +kernel
theorem dX3_makeEmpty_17 : decode cX3_makeEmpty 17 = .ok (.putfield 50, 3) := by decide +kernel
theorem dX3_makeEmpty_20 : decode cX3_makeEmpty 20 = .ok (.aload_n 0, 1) := by decide +kernel
theorem dX3_makeEmpty_21 : decode cX3_makeEmpty 21 = .ok (.getfield 30, 3) := by decide +kernel
theorem dX3_makeEmpty_24 : decode cX3_makeEmpty 24 = .ok (.iconst 0, 1) := by decide +kernel
theorem dX3_makeEmpty_25 : decode cX3_makeEmpty 25 = .ok (.invokestatic 55, 3) := by decide +kernel
theorem dX3_makeEmpty_28 : decode cX3_makeEmpty 28 = .ok (.aload_n 0, 1) := by decide +kernel
theorem dX3_makeEmpty_29 : decode cX3_makeEmpty 29 = .ok (.getfield 33, 3) := by decide +kernel
theorem dX3_makeEmpty_32 : decode cX3_makeEmpty 32 = .ok (.iconst 0, 1) := by decide +kernel
theorem dX3_makeEmpty_33 : decode cX3_makeEmpty 33 = .ok (.invokestatic 55, 3) := by decide +kernel
theorem dX3_makeEmpty_36 : decode cX3_makeEmpty 36 = .ok (.aload_n 0, 1) := by decide +kernel
theorem dX3_makeEmpty_37 : decode cX3_makeEmpty 37 = .ok (.getfield 36, 3) := by decide +kernel
theorem dX3_makeEmpty_40 : decode cX3_makeEmpty 40 = .ok (.lconst 0, 1) := by decide +kernel
theorem dX3_makeEmpty_41 : decode cX3_makeEmpty 41 = .ok (.invokestatic 61, 3) := by decide +kernel
theorem dX3_makeEmpty_44 : decode cX3_makeEmpty 44 = .ok (.return_, 1) := by decide +kernel
theorem dX3_copyFrom_0 : decode cX3_copyFrom 0 = .ok (.aload_n 0, 1) := by decide +kernel
theorem dX3_copyFrom_1 : decode cX3_copyFrom 1 = .ok (.aload_n 1, 1) := by decide +kernel
theorem dX3_copyFrom_2 : decode cX3_copyFrom 2 = .ok (.getfield 40, 3) := by decide +kernel
theorem dX3_copyFrom_5 : decode cX3_copyFrom 5 = .ok (.putfield 40, 3) := by decide +kernel
theorem dX3_copyFrom_8 : decode cX3_copyFrom 8 = .ok (.aload_n 0, 1) := by decide +kernel
theorem dX3_copyFrom_9 : decode cX3_copyFrom 9 = .ok (.aload_n 1, 1) := by decide +kernel
theorem dX3_copyFrom_10 : decode cX3_copyFrom 10 = .ok (.getfield 44, 3) := by decide +kernel
theorem dX3_copyFrom_13 : decode cX3_copyFrom 13 = .ok (.putfield 44, 3) := by decide +kernel
theorem dX3_copyFrom_16 : decode cX3_copyFrom 16 = .ok (.aload_n 0, 1) := by decide +kernel
theorem dX3_copyFrom_17 : decode cX3_copyFrom 17 = .ok (.aload_n 1, 1) := by decide +kernel
theorem dX3_copyFrom_18 : decode cX3_copyFrom 18 = .ok (.getfield 47, 3) := by decide +kernel
theorem dX3_copyFrom_21 : decode cX3_copyFrom 21 = .ok (.putfield 47, 3) := by decide +kernel
theorem dX3_copyFrom_24 : decode cX3_copyFrom 24 = .ok (.aload_n 0, 1) := by decide +kernel
theorem dX3_copyFrom_25 : decode cX3_copyFrom 25 = .ok (.aload_n 1, 1) := by decide +kernel
theorem dX3_copyFrom_26 : decode cX3_copyFrom 26 = .ok (.getfield 50, 3) := by decide +kernel
theorem dX3_copyFrom_29 : decode cX3_copyFrom 29 = .ok (.putfield 50, 3) := by decide +kernel
theorem dX3_copyFrom_32 : decode cX3_copyFrom 32 = .ok (.aload_n 1, 1) := by decide +kernel
theorem dX3_copyFrom_33 : decode cX3_copyFrom 33 = .ok (.getfield 9, 3) := by decide +kernel
theorem dX3_copyFrom_36 : decode cX3_copyFrom 36 = .ok (.iconst 0, 1) := by decide +kernel
theorem dX3_copyFrom_37 : decode cX3_copyFrom 37 = .ok (.aload_n 0, 1) := by decide +kernel
theorem dX3_copyFrom_38 : decode cX3_copyFrom 38 = .ok (.getfield 9, 3) := by decide +kernel
theorem dX3_copyFrom_41 : decode cX3_copyFrom 41 = .ok (.iconst 0, 1) := by decide +kernel
theorem dX3_copyFrom_42 : decode cX3_copyFrom 42 = .ok (.bipush 10, 2) := by decide +kernel
theorem dX3_copyFrom_44 : decode cX3_copyFrom 44 = .ok (.invokestatic 64, 3) := by decide +kernel
theorem dX3_copyFrom_47 : decode cX3_copyFrom 47 = .ok (.aload_n 1, 1) := by decide +kernel
theorem dX3_copyFrom_48 : decode cX3_copyFrom 48 = .ok (.getfield 15, 3) := by decide +kernel
theorem dX3_copyFrom_51 : decode cX3_copyFrom 51 = .ok (.iconst 0, 1) := by decide +kernel
theorem dX3_copyFrom_52 : decode cX3_copyFrom 52 = .ok (.aload_n 0, 1) := by decide +kernel
theorem dX3_copyFrom_53 : decode cX3_copyFrom 53 = .ok (.getfield 15, 3) := by decide +kernel
theorem dX3_copyFrom_56 : decode cX3_copyFrom 56 = .ok (.iconst 0, 1) := by decide +kernel
theorem dX3_copyFrom_57 : decode cX3_copyFrom 57 = .ok (.bipush 16, 2) := by decide +kernel
theorem dX3_copyFrom_59 : decode cX3_copyFrom 59 = .ok (.invokestatic 64, 3) := by decide +kernel
theorem dX3_copyFrom_62 : decode cX3_copyFrom 62 = .ok (.aload_n 1, 1) := by decide +kernel
theorem dX3_copyFrom_63 : decode cX3_copyFrom 63 = .ok (.getfield 18, 3) := by decide +kernel
theorem dX3_copyFrom_66 : decode cX3_copyFrom 66 = .ok (.iconst 0, 1) := by decide +kernel
theorem dX3_copyFrom_67 : decode cX3_copyFrom 67 = .ok (.aload_n 0, 1) := by decide +kernel
theorem dX3_copyFrom_68 : decode cX3_copyFrom 68 = .ok (.getfield 18, 3) := by decide +kernel
theorem dX3_copyFrom_71 : decode cX3_copyFrom 71 = .ok (.iconst 0, 1) := by decide +kernel
theorem dX3_copyFrom_72 : decode cX3_copyFrom 72 = .ok (.bipush 16, 2) := by decide +kernel
theorem dX3_copyFrom_74 : decode cX3_copyFrom 74 = .ok (.invokestatic 64, 3) := by decide +kernel
theorem dX3_copyFrom_77 : decode cX3_copyFrom 77 = .ok (.aload_n 1, 1) := by decide +kernel
theorem dX3_copyFrom_78 : decode cX3_copyFrom 78 = .ok (.getfield 21, 3) := by decide +kernel
theorem dX3_copyFrom_81 : decode cX3_copyFrom 81 = .ok (.iconst 0, 1) := by decide +kernel
theorem dX3_copyFrom_82 : decode cX3_copyFrom 82 = .ok (.aload_n 0, 1) := by decide +kernel
theorem dX3_copyFrom_83 : decode cX3_copyFrom 83 = .ok (.getfield 21, 3) := by decide +kernel
theorem dX3_copyFrom_86 : decode cX3_copyFrom 86 = .ok (.iconst 0, 1) := by decide +kernel
theorem dX3_copyFrom_87 : decode cX3_copyFrom 87 = .ok (.bipush 16, 2) := by decide +kernel
theorem dX3_copyFrom_89 : decode cX3_copyFrom 89 = .ok (.invokestatic 64, 3) := by decide +kernel
theorem dX3_copyFrom_92 : decode cX3_copyFrom 92 = .ok (.aload_n 1, 1) := by decide +kernel
theorem dX3_copyFrom_93 : decode cX3_copyFrom 93 = .ok (.getfield 24, 3) := by decide +kernel
theorem dX3_copyFrom_96 : decode cX3_copyFrom 96 = .ok (.iconst 0, 1) := by decide +kernel
theorem dX3_copyFrom_97 : decode cX3_copyFrom 97 = .ok (.aload_n 0, 1) := by decide +kernel
theorem dX3_copyFrom_98 : decode cX3_copyFrom 98 = .ok (.getfield 24, 3) := by decide +kernel
theorem dX3_copyFrom_101 : decode cX3_copyFrom 101 = .ok (.iconst 0, 1) := by decide +kernel
theorem dX3_copyFrom_102 : decode cX3_copyFrom 102 = .ok (.iconst 3, 1) := by decide +kernel
theorem dX3_copyFrom_103 : decode cX3_copyFrom 103 = .ok (.invokestatic 64, 3) := by decide +kernel
theorem dX3_copyFrom_106 : decode cX3_copyFrom 106 = .ok (.aload_n 1, 1) := by decide +kernel
theorem dX3_copyFrom_107 : decode cX3_copyFrom 107 = .ok (.getfield 27, 3) := by decide +kernel
theorem dX3_copyFrom_110 : decode cX3_copyFrom 110 = .ok (.iconst 0, 1) := by decide +kernel
theorem dX3_copyFrom_111 : decode cX3_copyFrom 111 = .ok (.aload_n 0, 1) := by decide +kernel
theorem dX3_copyFrom_112 : decode cX3_copyFrom 112 = .ok (.getfield 27, 3) := by decide +kernel
theorem dX3_copyFrom_115 : decode cX3_copyFrom 115 = .ok (.iconst 0, 1) := by decide +kernel
theorem dX3_copyFrom_116 : decode cX3_copyFrom 116 = .ok (.iconst 3, 1) := by decide +kernel
theorem dX3_copyFrom_117 : decode cX3_copyFrom 117 = .ok (.invokestatic 64, 3) := by decide +kernel
theorem dX3_copyFrom_120 : decode cX3_copyFrom 120 = .ok (.aload_n 1, 1) := by decide +kernel
theorem dX3_copyFrom_121 : decode cX3_copyFrom 121 = .ok (.getfield 30, 3) := by decide +kernel
theorem dX3_copyFrom_124 : decode cX3_copyFrom 124 = .ok (.iconst 0, 1) := by decide +kernel
theorem dX3_copyFrom_125 : decode cX3_copyFrom 125 = .ok (.aload_n 0, 1) := by decide +kernel
theorem dX3_copyFrom_126 : decode cX3_copyFrom 126 = .ok (.getfield 30, 3) := by decide +kernel
theorem dX3_copyFrom_129 : decode cX3_copyFrom 129 = .ok (.iconst 0, 1) := by decide +kernel
theorem dX3_copyFrom_130 : decode cX3_copyFrom 130 = .ok (.bipush 35, 2) := by decide +kernel
theorem dX3_copyFrom_132 : decode cX3_copyFrom 132 = .ok (.invokestatic 64, 3) := by decide +kernel
theorem dX3_copyFrom_135 : decode cX3_copyFrom 135 = .ok (.aload_n 1, 1) := by decide +kernel
theorem dX3_copyFrom_136 : decode cX3_copyFrom 136 = .ok (.getfield 33, 3) := by decide +kernel
theorem dX3_copyFrom_139 : decode cX3_copyFrom 139 = .ok (.iconst 0, 1) := by decide +kernel
theorem dX3_copyFrom_140 : decode cX3_copyFrom 140 = .ok (.aload_n 0, 1) := by decide +kernel
theorem dX3_copyFrom_141 : decode cX3_copyFrom 141 = .ok (.getfield 33, 3) := by decide +kernel
theorem dX3_copyFrom_144 : decode cX3_copyFrom 144 = .ok (.iconst 0, 1) := by decide +kernel
theorem dX3_copyFrom_145 : decode cX3_copyFrom 145 = .ok (.sipush 350, 3) := by decide +kernel
theorem dX3_copyFrom_148 : decode cX3_copyFrom 148 = .ok (.invokestatic 64, 3) := by decide +kernel
theorem dX3_copyFrom_151 : decode cX3_copyFrom 151 = .ok (.aload_n 1, 1) := by decide +kernel
theorem dX3_copyFrom_152 : decode cX3_copyFrom 152 = .ok (.getfield 36, 3) := by decide +kernel
theorem dX3_copyFrom_155 : decode cX3_copyFrom 155 = .ok (.iconst 0, 1) := by decide +kernel
theorem dX3_copyFrom_156 : decode cX3_copyFrom 156 = .ok (.aload_n 0, 1) := by decide +kernel
theorem dX3_copyFrom_157 : decode cX3_copyFrom 157 = .ok (.getfield 36, 3) := by decide +kernel
theorem dX3_copyFrom_160 : decode cX3_copyFrom 160 = .ok (.iconst 0, 1) := by decide +kernel
theorem dX3_copyFrom_161 : decode cX3_copyFrom 161 = .ok (.bipush 10, 2) := by decide +kernel
theorem dX3_copyFrom_163 : decode cX3_copyFrom 163 = .ok (.invokestatic 64, 3) := by decide +kernel
theorem dX3_copyFrom_166 : decode cX3_copyFrom 166 = .ok (.return_, 1) := by decide +kernel
theorem dX3_createNode_0 : decode cX3_createNode 0 = .ok (.aload_n 0, 1) := by decide +kernel
theorem dX3_createNode_1 : decode cX3_createNode 1 = .ok (.getfield 9, 3) := by decide +kernel
theorem dX3_createNode_4 : decode cX3_createNode 4 = .ok (.aload_n 0, 1) := by decide +kernel
theorem dX3_createNode_5 : decode cX3_createNode 5 = .ok (.getfield 40, 3) := by decide +kernel
theorem dX3_createNode_8 : decode cX3_createNode 8 = .ok (.iload_n 1, 1) := by decide +kernel
theorem dX3_createNode_9 : decode cX3_createNode 9 = .ok (.iastore, 1) := by decide +kernel
theorem dX3_createNode_10 : decode cX3_createNode 10 = .ok (.aload_n 0, 1) := by decide +kernel
theorem dX3_createNode_11 : decode cX3_createNode 11 = .ok (.dup, 1) := by decide +kernel
theorem dX3_createNode_12 : decode cX3_createNode 12 = .ok (.getfield 40, 3) := by decide +kernel
theorem dX3_createNode_15 : decode cX3_createNode 15 = .ok (.iconst 1, 1) := by decide +kernel
theorem dX3_createNode_16 : decode cX3_createNode 16 = .ok (.iadd, 1) := by decide +kernel
theorem dX3_createNode_17 : decode cX3_createNode 17 = .ok (.putfield 40, 3) := by decide +kernel
theorem dX3_createNode_20 : decode cX3_createNode 20 = .ok (.aload_n 0, 1) := by decide +kernel
theorem dX3_createNode_21 : decode cX3_createNode 21 = .ok (.getfield 40, 3) := by decide +kernel
theorem dX3_createNode_24 : decode cX3_createNode 24 = .ok (.iconst 1, 1) := by decide +kernel
theorem dX3_createNode_25 : decode cX3_createNode 25 = .ok (.isub, 1) := by decide +kernel
theorem dX3_createNode_26 : decode cX3_createNode 26 = .ok (.ireturn, 1) := by decide +kernel
theorem dX3_createLink_0 : decode cX3_createLink 0 = .ok (.aload_n 0, 1) := by decide +kernel
theorem dX3_createLink_1 : decode cX3_createLink 1 = .ok (.getfield 44, 3) := by decide +kernel
theorem dX3_createLink_4 : decode cX3_createLink 4 = .ok (.istore 5, 2) := by decide +kernel
theorem dX3_createLink_6 : decode cX3_createLink 6 = .ok (.aload_n 0, 1) := by decide +kernel
theorem dX3_createLink_7 : decode cX3_createLink 7 = .ok (.getfield 15, 3) := by decide +kernel
theorem dX3_createLink_10 : decode cX3_createLink 10 = .ok (.iload 5, 2) := by decide +kernel
theorem dX3_createLink_12 : decode cX3_createLink 12 = .ok (.iload_n 1, 1) := by decide +kernel
theorem dX3_createLink_13 : decode cX3_createLink 13 = .ok (.iastore, 1) := by decide +kernel
theorem dX3_createLink_14 : decode cX3_createLink 14 = .ok (.aload_n 0, 1) := by decide +kernel
theorem dX3_createLink_15 : decode cX3_createLink 15 = .ok (.getfield 18, 3) := by decide +kernel
theorem dX3_createLink_18 : decode cX3_createLink 18 = .ok (.iload 5, 2) := by decide +kernel
theorem dX3_createLink_20 : decode cX3_createLink 20 = .ok (.iload_n 2, 1) := by decide +kernel
theorem dX3_createLink_21 : decode cX3_createLink 21 = .ok (.iastore, 1) := by decide +kernel
theorem dX3_createLink_22 : decode cX3_createLink 22 = .ok (.aload_n 0, 1) := by decide +kernel
theorem dX3_createLink_23 : decode cX3_createLink 23 = .ok (.getfield 21, 3) := by decide +kernel
theorem dX3_createLink_26 : decode cX3_createLink 26 = .ok (.iload 5, 2) := by decide +kernel
theorem dX3_createLink_28 : decode cX3_createLink 28 = .ok (.iload 4, 2) := by decide +kernel
theorem dX3_createLink_30 : decode cX3_createLink 30 = .ok (.iastore, 1) := by decide +kernel
theorem dX3_createLink_31 : decode cX3_createLink 31 = .ok (.aload_n 0, 1) := by decide +kernel
theorem dX3_createLink_32 : decode cX3_createLink 32 = .ok (.dup, 1) := by decide +kernel
theorem dX3_createLink_33 : decode cX3_createLink 33 = .ok (.getfield 44, 3) := by decide +kernel
theorem dX3_createLink_36 : decode cX3_createLink 36 = .ok (.iconst 1, 1) := by decide +kernel
theorem dX3_createLink_37 : decode cX3_createLink 37 = .ok (.iadd, 1) := by decide +kernel
theorem dX3_createLink_38 : decode cX3_createLink 38 = .ok (.putfield 44, 3) := by decide +kernel
theorem dX3_createLink_41 : decode cX3_createLink 41 = .ok (.aload_n 0, 1) := by decide +kernel
theorem dX3_createLink_42 : decode cX3_createLink 42 = .ok (.iload 5, 2) := by decide +kernel
theorem dX3_createLink_44 : decode cX3_createLink 44 = .ok (.iconst 1, 1) := by decide +kernel
theorem dX3_createLink_45 : decode cX3_createLink 45 = .ok (.iload_n 3, 1) := by decide +kernel
theorem dX3_createLink_46 : decode cX3_createLink 46 = .ok (.invokevirtual 70, 3) := by decide +kernel
theorem dX3_createLink_49 : decode cX3_createLink 49 = .ok (.pop, 1) := by decide +kernel
theorem dX3_createLink_50 : decode cX3_createLink 50 = .ok (.iload 5, 2) := by decide +kernel
theorem dX3_createLink_52 : decode cX3_createLink 52 = .ok (.ireturn, 1) := by decide +kernel
theorem dX3_changeLink_0 : decode cX3_changeLink 0 = .ok (.bipush 16, 2) := by decide +kernel
theorem dX3_changeLink_2 : decode cX3_changeLink 2 = .ok (.iload_n 1, 1) := by decide +kernel
theorem dX3_changeLink_3 : decode cX3_changeLink 3 = .ok (.iadd, 1) := by decide +kernel
theorem dX3_changeLink_4 : decode cX3_changeLink 4 = .ok (.istore 4, 2) := by decide +kernel
theorem dX3_changeLink_6 : decode cX3_changeLink 6 = .ok (.iload_n 2, 1) := by decide +kernel
theorem dX3_changeLink_7 : decode cX3_changeLink 7 = .ok (.iconst 1, 1) := by decide +kernel
theorem dX3_changeLink_8 : decode cX3_changeLink 8 = .ok (.if_icmp .ne 20, 3) := by decide +kernel
theorem dX3_changeLink_11 : decode cX3_changeLink 11 = .ok (.aload_n 0, 1) := by decide +kernel
theorem dX3_changeLink_12 : decode cX3_changeLink 12 = .ok (.getfield 30, 3) := by decide +kernel
theorem dX3_changeLink_15 : decode cX3_changeLink 15 = .ok (.iload 4, 2) := by decide +kernel
theorem dX3_changeLink_17 : decode cX3_changeLink 17 = .ok (.iaload, 1) := by decide +kernel
theorem dX3_changeLink_18 : decode cX3_changeLink 18 = .ok (.invokestatic 74, 3) := by decide +kernel
theorem dX3_changeLink_21 : decode cX3_changeLink 21 = .ok (.ifCond .ne 7, 3) := by decide +kernel
theorem dX3_changeLink_24 : decode cX3_changeLink 24 = .ok (.iconst 1, 1) := by decide +kernel
theorem dX3_changeLink_25 : decode cX3_changeLink 25 = .ok (.goto 4, 3) := by decide +kernel
theorem dX3_changeLink_28 : decode cX3_changeLink 28 = .ok (.iconst 0, 1) := by decide +kernel
theorem dX3_changeLink_29 : decode cX3_changeLink 29 = .ok (.istore 5, 2) := by decide +kernel
theorem dX3_changeLink_31 : decode cX3_changeLink 31 = .ok (.aload_n 0, 1) := by decide +kernel
theorem dX3_changeLink_32 : decode cX3_changeLink 32 = .ok (.iload 4, 2) := by decide +kernel
theorem dX3_changeLink_34 : decode cX3_changeLink 34 = .ok (.iload_n 2, 1) := by decide +kernel
theorem dX3_changeLink_35 : decode cX3_changeLink 35 = .ok (.iload_n 3, 1) := by decide +kernel
theorem dX3_changeLink_36 : decode cX3_changeLink 36 = .ok (.invokevirtual 78, 3) := by decide +kernel
theorem dX3_changeLink_39 : decode cX3_changeLink 39 = .ok (.istore 6, 2) := by decide +kernel
theorem dX3_changeLink_41 : decode cX3_changeLink 41 = .ok (.aload_n 0, 1) := by decide +kernel
theorem dX3_changeLink_42 : decode cX3_changeLink 42 = .ok (.aload_n 0, 1) := by decide +kernel
theorem dX3_changeLink_43 : decode cX3_changeLink 43 = .ok (.getfield 15, 3) := by decide +kernel
theorem dX3_changeLink_46 : decode cX3_changeLink 46 = .ok (.iload_n 1, 1) := by decide +kernel
theorem dX3_changeLink_47 : decode cX3_changeLink 47 = .ok (.iaload, 1) := by decide +kernel
theorem dX3_changeLink_48 : decode cX3_changeLink 48 = .ok (.iload 4, 2) := by decide +kernel
theorem dX3_changeLink_50 : decode cX3_changeLink 50 = .ok (.aload_n 0, 1) := by decide +kernel
theorem dX3_changeLink_51 : decode cX3_changeLink 51 = .ok (.getfield 30, 3) := by decide +kernel
theorem dX3_changeLink_54 : decode cX3_changeLink 54 = .ok (.iload 4, 2) := by decide +kernel
theorem dX3_changeLink_56 : decode cX3_changeLink 56 = .ok (.iaload, 1) := by decide +kernel
theorem dX3_changeLink_57 : decode cX3_changeLink 57 = .ok (.invokevirtual 81, 3) := by decide +kernel
theorem dX3_changeLink_60 : decode cX3_changeLink 60 = .ok (.aload_n 0, 1) := by decide +kernel
theorem dX3_changeLink_61 : decode cX3_changeLink 61 = .ok (.aload_n 0, 1) := by decide +kernel
theorem dX3_changeLink_62 : decode cX3_changeLink 62 = .ok (.getfield 18, 3) := by decide +kernel
theorem dX3_changeLink_65 : decode cX3_changeLink 65 = .ok (.iload_n 1, 1) := by decide +kernel
theorem dX3_changeLink_66 : decode cX3_changeLink 66 = .ok (.iaload, 1) := by decide +kernel
theorem dX3_changeLink_67 : decode cX3_changeLink 67 = .ok (.iload 4, 2) := by decide +kernel
theorem dX3_changeLink_69 : decode cX3_changeLink 69 = .ok (.aload_n 0, 1) := by decide +kernel
theorem dX3_changeLink_70 : decode cX3_changeLink 70 = .ok (.getfield 30, 3) := by decide +kernel
theorem dX3_changeLink_73 : decode cX3_changeLink 73 = .ok (.iload 4, 2) := by decide +kernel
theorem dX3_changeLink_75 : decode cX3_changeLink 75 = .ok (.iaload, 1) := by decide +kernel
theorem dX3_changeLink_76 : decode cX3_changeLink 76 = .ok (.invokevirtual 81, 3) := by decide +kernel
theorem dX3_changeLink_79 : decode cX3_changeLink 79 = .ok (.iload 5, 2) := by decide +kernel
theorem dX3_changeLink_81 : decode cX3_changeLink 81 = .ok (.ifCond .eq 23, 3) := by decide +kernel
theorem dX3_changeLink_84 : decode cX3_changeLink 84 = .ok (.aload_n 0, 1) := by decide +kernel
theorem dX3_changeLink_85 : decode cX3_changeLink 85 = .ok (.aload_n 0, 1) := by decide +kernel
theorem dX3_changeLink_86 : decode cX3_changeLink 86 = .ok (.getfield 15, 3) := by decide +kernel
theorem dX3_changeLink_89 : decode cX3_changeLink 89 = .ok (.iload_n 1, 1) := by decide +kernel
theorem dX3_changeLink_90 : decode cX3_changeLink 90 = .ok (.iaload, 1) := by decide +kernel
theorem dX3_changeLink_91 : decode cX3_changeLink 91 = .ok (.invokevirtual 85, 3) := by decide +kernel
theorem dX3_changeLink_94 : decode cX3_changeLink 94 = .ok (.aload_n 0, 1) := by decide +kernel
theorem dX3_changeLink_95 : decode cX3_changeLink 95 = .ok (.aload_n 0, 1) := by decide +kernel
theorem dX3_changeLink_96 : decode cX3_changeLink 96 = .ok (.getfield 18, 3) := by decide +kernel
theorem dX3_changeLink_99 : decode cX3_changeLink 99 = .ok (.iload_n 1, 1) := by decide +kernel
theorem dX3_changeLink_100 : decode cX3_changeLink 100 = .ok (.iaload, 1) := by decide +kernel
theorem dX3_changeLink_101 : decode cX3_changeLink 101 = .ok (.invokevirtual 85, 3) := by decide +kernel
theorem dX3_changeLink_104 : decode cX3_changeLink 104 = .ok (.iload 6, 2) := by decide +kernel
theorem dX3_changeLink_106 : decode cX3_changeLink 106 = .ok (.ireturn, 1) := by decide +kernel
theorem dX3_changeGrant_0 : decode cX3_changeGrant 0 = .ok (.iload_n 1, 1) := by decide +kernel
theorem dX3_changeGrant_1 : decode cX3_changeGrant 1 = .ok (.iload_n 2, 1) := by decide +kernel
theorem dX3_changeGrant_2 : decode cX3_changeGrant 2 = .ok (.invokestatic 89, 3) := by decide +kernel
theorem dX3_changeGrant_5 : decode cX3_changeGrant 5 = .ok (.istore 4, 2) := by decide +kernel
theorem dX3_changeGrant_7 : decode cX3_changeGrant 7 = .ok (.aload_n 0, 1) := by decide +kernel
theorem dX3_changeGrant_8 : decode cX3_changeGrant 8 = .ok (.iload 4, 2) := by decide +kernel
theorem dX3_changeGrant_10 : decode cX3_changeGrant 10 = .ok (.iload_n 3, 1) := by decide +kernel
theorem dX3_changeGrant_11 : decode cX3_changeGrant 11 = .ok (.iconst 0, 1) := by decide +kernel
theorem dX3_changeGrant_12 : decode cX3_changeGrant 12 = .ok (.invokevirtual 78, 3) := by decide +kernel
theorem dX3_changeGrant_15 : decode cX3_changeGrant 15 = .ok (.istore 5, 2) := by decide +kernel
theorem dX3_changeGrant_17 : decode cX3_changeGrant 17 = .ok (.iconst 0, 1) := by decide +kernel
theorem dX3_changeGrant_18 : decode cX3_changeGrant 18 = .ok (.istore 6, 2) := by decide +kernel
theorem dX3_changeGrant_20 : decode cX3_changeGrant 20 = .ok (.iload 6, 2) := by decide +kernel
theorem dX3_changeGrant_22 : decode cX3_changeGrant 22 = .ok (.aload_n 0, 1) := by decide +kernel
theorem dX3_changeGrant_23 : decode cX3_changeGrant 23 = .ok (.getfield 40, 3) := by decide +kernel
theorem dX3_changeGrant_26 : decode cX3_changeGrant 26 = .ok (.if_icmp .ge 35, 3) := by decide +kernel
theorem dX3_changeGrant_29 : decode cX3_changeGrant 29 = .ok (.aload_n 0, 1) := by decide +kernel
theorem dX3_changeGrant_30 : decode cX3_changeGrant 30 = .ok (.getfield 9, 3) := by decide +kernel
theorem dX3_changeGrant_33 : decode cX3_changeGrant 33 = .ok (.iload 6, 2) := by decide +kernel
theorem dX3_changeGrant_35 : decode cX3_changeGrant 35 = .ok (.iaload, 1) := by decide +kernel
theorem dX3_changeGrant_36 : decode cX3_changeGrant 36 = .ok (.iload_n 1, 1) := by decide +kernel
theorem dX3_changeGrant_37 : decode cX3_changeGrant 37 = .ok (.if_icmp .ne 18, 3) := by decide +kernel
theorem dX3_changeGrant_40 : decode cX3_changeGrant 40 = .ok (.aload_n 0, 1) := by decide +kernel
theorem dX3_changeGrant_41 : decode cX3_changeGrant 41 = .ok (.iload 6, 2) := by decide +kernel
theorem dX3_changeGrant_43 : decode cX3_changeGrant 43 = .ok (.iload 4, 2) := by decide +kernel
theorem dX3_changeGrant_45 : decode cX3_changeGrant 45 = .ok (.aload_n 0, 1) := by decide +kernel
theorem dX3_changeGrant_46 : decode cX3_changeGrant 46 = .ok (.getfield 30, 3) := by decide +kernel
theorem dX3_changeGrant_49 : decode cX3_changeGrant 49 = .ok (.iload 4, 2) := by decide +kernel
theorem dX3_changeGrant_51 : decode cX3_changeGrant 51 = .ok (.iaload, 1) := by decide +kernel
theorem dX3_changeGrant_52 : decode cX3_changeGrant 52 = .ok (.invokevirtual 81, 3) := by decide +kernel
theorem dX3_changeGrant_55 : decode cX3_changeGrant 55 = .ok (.iinc 6 1, 3) := by decide +kernel
theorem dX3_changeGrant_58 : decode cX3_changeGrant 58 = .ok (.goto (-38), 3) := by decide +kernel
theorem dX3_changeGrant_61 : decode cX3_changeGrant 61 = .ok (.iload 5, 2) := by decide +kernel
theorem dX3_changeGrant_63 : decode cX3_changeGrant 63 = .ok (.ireturn, 1) := by decide +kernel
theorem dX3_createTunnel_0 : decode cX3_createTunnel 0 = .ok (.aload_n 0, 1) := by decide +kernel
theorem dX3_createTunnel_1 : decode cX3_createTunnel 1 = .ok (.getfield 47, 3) := by decide +kernel
theorem dX3_createTunnel_4 : decode cX3_createTunnel 4 = .ok (.istore 4, 2) := by decide +kernel
theorem dX3_createTunnel_6 : decode cX3_createTunnel 6 = .ok (.aload_n 0, 1) := by decide +kernel
theorem dX3_createTunnel_7 : decode cX3_createTunnel 7 = .ok (.getfield 24, 3) := by decide +kernel
theorem dX3_createTunnel_10 : decode cX3_createTunnel 10 = .ok (.iload 4, 2) := by decide +kernel
theorem dX3_createTunnel_12 : decode cX3_createTunnel 12 = .ok (.iload_n 1, 1) := by decide +kernel
theorem dX3_createTunnel_13 : decode cX3_createTunnel 13 = .ok (.iastore, 1) := by decide +kernel
theorem dX3_createTunnel_14 : decode cX3_createTunnel 14 = .ok (.aload_n 0, 1) := by decide +kernel
theorem dX3_createTunnel_15 : decode cX3_createTunnel 15 = .ok (.getfield 27, 3) := by decide +kernel
theorem dX3_createTunnel_18 : decode cX3_createTunnel 18 = .ok (.iload 4, 2) := by decide +kernel
theorem dX3_createTunnel_20 : decode cX3_createTunnel 20 = .ok (.iload_n 2, 1) := by decide +kernel
theorem dX3_createTunnel_21 : decode cX3_createTunnel 21 = .ok (.iastore, 1) := by decide +kernel
theorem dX3_createTunnel_22 : decode cX3_createTunnel 22 = .ok (.aload_n 0, 1) := by decide +kernel
theorem dX3_createTunnel_23 : decode cX3_createTunnel 23 = .ok (.dup, 1) := by decide +kernel
theorem dX3_createTunnel_24 : decode cX3_createTunnel 24 = .ok (.getfield 47, 3) := by decide +kernel
theorem dX3_createTunnel_27 : decode cX3_createTunnel 27 = .ok (.iconst 1, 1) := by decide +kernel
theorem dX3_createTunnel_28 : decode cX3_createTunnel 28 = .ok (.iadd, 1) := by decide +kernel
theorem dX3_createTunnel_29 : decode cX3_createTunnel 29 = .ok (.putfield 47, 3) := by decide +kernel
theorem dX3_createTunnel_32 : decode cX3_createTunnel 32 = .ok (.aload_n 0, 1) := by decide +kernel
theorem dX3_createTunnel_33 : decode cX3_createTunnel 33 = .ok (.iload 4, 2) := by decide +kernel
theorem dX3_createTunnel_35 : decode cX3_createTunnel 35 = .ok (.iconst 1, 1) := by decide +kernel
theorem dX3_createTunnel_36 : decode cX3_createTunnel 36 = .ok (.iload_n 3, 1) := by decide +kernel
theorem dX3_createTunnel_37 : decode cX3_createTunnel 37 = .ok (.invokevirtual 93, 3) := by decide +kernel
theorem dX3_createTunnel_40 : decode cX3_createTunnel 40 = .ok (.pop, 1) := by decide +kernel
theorem dX3_createTunnel_41 : decode cX3_createTunnel 41 = .ok (.iload 4, 2) := by decide +kernel
theorem dX3_createTunnel_43 : decode cX3_createTunnel 43 = .ok (.ireturn, 1) := by decide +kernel
theorem dX3_changeTunnel_0 : decode cX3_changeTunnel 0 = .ok (.bipush 32, 2) := by decide +kernel
theorem dX3_changeTunnel_2 : decode cX3_changeTunnel 2 = .ok (.iload_n 1, 1) := by decide +kernel
theorem dX3_changeTunnel_3 : decode cX3_changeTunnel 3 = .ok (.iadd, 1) := by decide +kernel
theorem dX3_changeTunnel_4 : decode cX3_changeTunnel 4 = .ok (.istore 4, 2) := by decide +kernel
theorem dX3_changeTunnel_6 : decode cX3_changeTunnel 6 = .ok (.aload_n 0, 1) := by decide +kernel
theorem dX3_changeTunnel_7 : decode cX3_changeTunnel 7 = .ok (.iload 4, 2) := by decide +kernel
theorem dX3_changeTunnel_9 : decode cX3_changeTunnel 9 = .ok (.iload_n 2, 1) := by decide +kernel
theorem dX3_changeTunnel_10 : decode cX3_changeTunnel 10 = .ok (.iload_n 3, 1) := by decide +kernel
theorem dX3_changeTunnel_11 : decode cX3_changeTunnel 11 = .ok (.invokevirtual 78, 3) := by decide +kernel
theorem dX3_changeTunnel_14 : decode cX3_changeTunnel 14 = .ok (.istore 5, 2) := by decide +kernel
theorem dX3_changeTunnel_16 : decode cX3_changeTunnel 16 = .ok (.aload_n 0, 1) := by decide +kernel
theorem dX3_changeTunnel_17 : decode cX3_changeTunnel 17 = .ok (.aload_n 0, 1) := by decide +kernel
theorem dX3_changeTunnel_18 : decode cX3_changeTunnel 18 = .ok (.getfield 24, 3) := by decide +kernel
theorem dX3_changeTunnel_21 : decode cX3_changeTunnel 21 = .ok (.iload_n 1, 1) := by decide +kernel
theorem dX3_changeTunnel_22 : decode cX3_changeTunnel 22 = .ok (.iaload, 1) := by decide +kernel
theorem dX3_changeTunnel_23 : decode cX3_changeTunnel 23 = .ok (.iload 4, 2) := by decide +kernel
theorem dX3_changeTunnel_25 : decode cX3_changeTunnel 25 = .ok (.aload_n 0, 1) := by decide +kernel
theorem dX3_changeTunnel_26 : decode cX3_changeTunnel 26 = .ok (.getfield 30, 3) := by decide +kernel
theorem dX3_changeTunnel_29 : decode cX3_changeTunnel 29 = .ok (.iload 4, 2) := by decide +kernel
theorem dX3_changeTunnel_31 : decode cX3_changeTunnel 31 = .ok (.iaload, 1) := by decide +kernel
theorem dX3_changeTunnel_32 : decode cX3_changeTunnel 32 = .ok (.invokevirtual 81, 3) := by decide +kernel
theorem dX3_changeTunnel_35 : decode cX3_changeTunnel 35 = .ok (.iload 5, 2) := by decide +kernel
theorem dX3_changeTunnel_37 : decode cX3_changeTunnel 37 = .ok (.ireturn, 1) := by decide +kernel
theorem dX3_change_0 : decode cX3_change 0 = .ok (.aload_n 0, 1) := by decide +kernel
theorem dX3_change_1 : decode cX3_change 1 = .ok (.getfield 30, 3) := by decide +kernel
theorem dX3_change_4 : decode cX3_change 4 = .ok (.iload_n 1, 1) := by decide +kernel
theorem dX3_change_5 : decode cX3_change 5 = .ok (.iaload, 1) := by decide +kernel
theorem dX3_change_6 : decode cX3_change 6 = .ok (.invokestatic 96, 3) := by decide +kernel
theorem dX3_change_9 : decode cX3_change 9 = .ok (.iconst 1, 1) := by decide +kernel
theorem dX3_change_10 : decode cX3_change 10 = .ok (.iadd, 1) := by decide +kernel
theorem dX3_change_11 : decode cX3_change 11 = .ok (.istore 4, 2) := by decide +kernel
theorem dX3_change_13 : decode cX3_change 13 = .ok (.aload_n 0, 1) := by decide +kernel
theorem dX3_change_14 : decode cX3_change 14 = .ok (.getfield 30, 3) := by decide +kernel
theorem dX3_change_17 : decode cX3_change 17 = .ok (.iload_n 1, 1) := by decide +kernel
theorem dX3_change_18 : decode cX3_change 18 = .ok (.iload 4, 2) := by decide +kernel
theorem dX3_change_20 : decode cX3_change 20 = .ok (.iload_n 2, 1) := by decide +kernel
theorem dX3_change_21 : decode cX3_change 21 = .ok (.iload_n 3, 1) := by decide +kernel
theorem dX3_change_22 : decode cX3_change 22 = .ok (.invokestatic 99, 3) := by decide +kernel
theorem dX3_change_25 : decode cX3_change 25 = .ok (.iastore, 1) := by decide +kernel
theorem dX3_change_26 : decode cX3_change 26 = .ok (.iload 4, 2) := by decide +kernel
theorem dX3_change_28 : decode cX3_change 28 = .ok (.ireturn, 1) := by decide +kernel
theorem dX3_learn_0 : decode cX3_learn 0 = .ok (.iload_n 1, 1) := by decide +kernel
theorem dX3_learn_1 : decode cX3_learn 1 = .ok (.iload_n 2, 1) := by decide +kernel
theorem dX3_learn_2 : decode cX3_learn 2 = .ok (.invokestatic 102, 3) := by decide +kernel
theorem dX3_learn_5 : decode cX3_learn 5 = .ok (.istore 4, 2) := by decide +kernel
theorem dX3_learn_7 : decode cX3_learn 7 = .ok (.aload_n 0, 1) := by decide +kernel
theorem dX3_learn_8 : decode cX3_learn 8 = .ok (.iload_n 1, 1) := by decide +kernel
theorem dX3_learn_9 : decode cX3_learn 9 = .ok (.iload_n 2, 1) := by decide +kernel
theorem dX3_learn_10 : decode cX3_learn 10 = .ok (.invokevirtual 105, 3) := by decide +kernel
theorem dX3_learn_13 : decode cX3_learn 13 = .ok (.ifCond .eq 20, 3) := by decide +kernel
theorem dX3_learn_16 : decode cX3_learn 16 = .ok (.aload_n 0, 1) := by decide +kernel
theorem dX3_learn_17 : decode cX3_learn 17 = .ok (.getfield 33, 3) := by decide +kernel
theorem dX3_learn_20 : decode cX3_learn 20 = .ok (.iload 4, 2) := by decide +kernel
theorem dX3_learn_22 : decode cX3_learn 22 = .ok (.iaload, 1) := by decide +kernel
theorem dX3_learn_23 : decode cX3_learn 23 = .ok (.invokestatic 96, 3) := by decide +kernel
theorem dX3_learn_26 : decode cX3_learn 26 = .ok (.iload_n 3, 1) := by decide +kernel
theorem dX3_learn_27 : decode cX3_learn 27 = .ok (.invokestatic 96, 3) := by decide +kernel
theorem dX3_learn_30 : decode cX3_learn 30 = .ok (.if_icmp .lt 4, 3) := by decide +kernel
theorem dX3_learn_33 : decode cX3_learn 33 = .ok (.return_, 1) := by decide +kernel
theorem dX3_learn_34 : decode cX3_learn 34 = .ok (.aload_n 0, 1) := by decide +kernel
theorem dX3_learn_35 : decode cX3_learn 35 = .ok (.getfield 33, 3) := by decide +kernel
theorem dX3_learn_38 : decode cX3_learn 38 = .ok (.iload 4, 2) := by decide +kernel
theorem dX3_learn_40 : decode cX3_learn 40 = .ok (.iload_n 3, 1) := by decide +kernel
theorem dX3_learn_41 : decode cX3_learn 41 = .ok (.iastore, 1) := by decide +kernel
theorem dX3_learn_42 : decode cX3_learn 42 = .ok (.aload_n 0, 1) := by decide +kernel
theorem dX3_learn_43 : decode cX3_learn 43 = .ok (.getfield 36, 3) := by decide +kernel
theorem dX3_learn_46 : decode cX3_learn 46 = .ok (.iload_n 1, 1) := by decide +kernel
theorem dX3_learn_47 : decode cX3_learn 47 = .ok (.dup2, 1) := by decide +kernel
theorem dX3_learn_48 : decode cX3_learn 48 = .ok (.laload, 1) := by decide +kernel
theorem dX3_learn_49 : decode cX3_learn 49 = .ok (.lconst 1, 1) := by decide +kernel
theorem dX3_learn_50 : decode cX3_learn 50 = .ok (.iload_n 2, 1) := by decide +kernel
theorem dX3_learn_51 : decode cX3_learn 51 = .ok (.lshl, 1) := by decide +kernel
theorem dX3_learn_52 : decode cX3_learn 52 = .ok (.lor, 1) := by decide +kernel
theorem dX3_learn_53 : decode cX3_learn 53 = .ok (.lastore, 1) := by decide +kernel
theorem dX3_learn_54 : decode cX3_learn 54 = .ok (.iload_n 2, 1) := by decide +kernel
theorem dX3_learn_55 : decode cX3_learn 55 = .ok (.bipush 16, 2) := by decide +kernel
theorem dX3_learn_57 : decode cX3_learn 57 = .ok (.if_icmp .ge 45, 3) := by decide +kernel
theorem dX3_learn_60 : decode cX3_learn 60 = .ok (.iload_n 3, 1) := by decide +kernel
theorem dX3_learn_61 : decode cX3_learn 61 = .ok (.invokestatic 74, 3) := by decide +kernel
theorem dX3_learn_64 : decode cX3_learn 64 = .ok (.iconst 1, 1) := by decide +kernel
theorem dX3_learn_65 : decode cX3_learn 65 = .ok (.if_icmp .ne 15, 3) := by decide +kernel
theorem dX3_learn_68 : decode cX3_learn 68 = .ok (.aload_n 0, 1) := by decide +kernel
theorem dX3_learn_69 : decode cX3_learn 69 = .ok (.iload_n 1, 1) := by decide +kernel
theorem dX3_learn_70 : decode cX3_learn 70 = .ok (.iload_n 2, 1) := by decide +kernel
theorem dX3_learn_71 : decode cX3_learn 71 = .ok (.invokestatic 109, 3) := by decide +kernel
theorem dX3_learn_74 : decode cX3_learn 74 = .ok (.invokevirtual 112, 3) := by decide +kernel
theorem dX3_learn_77 : decode cX3_learn 77 = .ok (.goto 25, 3) := by decide +kernel
theorem dX3_learn_80 : decode cX3_learn 80 = .ok (.iload_n 2, 1) := by decide +kernel
theorem dX3_learn_81 : decode cX3_learn 81 = .ok (.invokestatic 116, 3) := by decide +kernel
theorem dX3_learn_84 : decode cX3_learn 84 = .ok (.aload_n 0, 1) := by decide +kernel
theorem dX3_learn_85 : decode cX3_learn 85 = .ok (.getfield 9, 3) := by decide +kernel
theorem dX3_learn_88 : decode cX3_learn 88 = .ok (.iload_n 1, 1) := by decide +kernel
theorem dX3_learn_89 : decode cX3_learn 89 = .ok (.iaload, 1) := by decide +kernel
theorem dX3_learn_90 : decode cX3_learn 90 = .ok (.if_icmp .ne 12, 3) := by decide +kernel
theorem dX3_learn_93 : decode cX3_learn 93 = .ok (.aload_n 0, 1) := by decide +kernel
theorem dX3_learn_94 : decode cX3_learn 94 = .ok (.iload_n 1, 1) := by decide +kernel
theorem dX3_learn_95 : decode cX3_learn 95 = .ok (.iload_n 2, 1) := by decide +kernel
theorem dX3_learn_96 : decode cX3_learn 96 = .ok (.invokestatic 109, 3) := by decide +kernel
theorem dX3_learn_99 : decode cX3_learn 99 = .ok (.invokevirtual 119, 3) := by decide +kernel
theorem dX3_learn_102 : decode cX3_learn 102 = .ok (.return_, 1) := by decide +kernel
theorem dX3_mayKnow_0 : decode cX3_mayKnow 0 = .ok (.aload_n 0, 1) := by decide +kernel
theorem dX3_mayKnow_1 : decode cX3_mayKnow 1 = .ok (.iload_n 2, 1) := by decide +kernel
theorem dX3_mayKnow_2 : decode cX3_mayKnow 2 = .ok (.invokevirtual 122, 3) := by decide +kernel
theorem dX3_mayKnow_5 : decode cX3_mayKnow 5 = .ok (.ifCond .ne 5, 3) := by decide +kernel
theorem dX3_mayKnow_8 : decode cX3_mayKnow 8 = .ok (.iconst 1, 1) := by decide +kernel
theorem dX3_mayKnow_9 : decode cX3_mayKnow 9 = .ok (.ireturn, 1) := by decide +kernel
theorem dX3_mayKnow_10 : decode cX3_mayKnow 10 = .ok (.iload_n 2, 1) := by decide +kernel
theorem dX3_mayKnow_11 : decode cX3_mayKnow 11 = .ok (.bipush 16, 2) := by decide +kernel
theorem dX3_mayKnow_13 : decode cX3_mayKnow 13 = .ok (.isub, 1) := by decide +kernel
theorem dX3_mayKnow_14 : decode cX3_mayKnow 14 = .ok (.istore_n 3, 1) := by decide +kernel
theorem dX3_mayKnow_15 : decode cX3_mayKnow 15 = .ok (.aload_n 0, 1) := by decide +kernel
theorem dX3_mayKnow_16 : decode cX3_mayKnow 16 = .ok (.iload_n 3, 1) := by decide +kernel
theorem dX3_mayKnow_17 : decode cX3_mayKnow 17 = .ok (.invokevirtual 126, 3) := by decide +kernel
theorem dX3_mayKnow_20 : decode cX3_mayKnow 20 = .ok (.istore 4, 2) := by decide +kernel
theorem dX3_mayKnow_22 : decode cX3_mayKnow 22 = .ok (.iload 4, 2) := by decide +kernel
theorem dX3_mayKnow_24 : decode cX3_mayKnow 24 = .ok (.aload_n 0, 1) := by decide +kernel
theorem dX3_mayKnow_25 : decode cX3_mayKnow 25 = .ok (.getfield 9, 3) := by decide +kernel
theorem dX3_mayKnow_28 : decode cX3_mayKnow 28 = .ok (.iload_n 1, 1) := by decide +kernel
theorem dX3_mayKnow_29 : decode cX3_mayKnow 29 = .ok (.iaload, 1) := by decide +kernel
theorem dX3_mayKnow_30 : decode cX3_mayKnow 30 = .ok (.invokestatic 89, 3) := by decide +kernel
theorem dX3_mayKnow_33 : decode cX3_mayKnow 33 = .ok (.istore 5, 2) := by decide +kernel
theorem dX3_mayKnow_35 : decode cX3_mayKnow 35 = .ok (.aload_n 0, 1) := by decide +kernel
theorem dX3_mayKnow_36 : decode cX3_mayKnow 36 = .ok (.iload_n 1, 1) := by decide +kernel
theorem dX3_mayKnow_37 : decode cX3_mayKnow 37 = .ok (.iload_n 3, 1) := by decide +kernel
theorem dX3_mayKnow_38 : decode cX3_mayKnow 38 = .ok (.invokevirtual 129, 3) := by decide +kernel
theorem dX3_mayKnow_41 : decode cX3_mayKnow 41 = .ok (.ifCond .ne 32, 3) := by decide +kernel
theorem dX3_mayKnow_44 : decode cX3_mayKnow 44 = .ok (.aload_n 0, 1) := by decide +kernel
theorem dX3_mayKnow_45 : decode cX3_mayKnow 45 = .ok (.getfield 9, 3) := by decide +kernel
theorem dX3_mayKnow_48 : decode cX3_mayKnow 48 = .ok (.iload_n 1, 1) := by decide +kernel
theorem dX3_mayKnow_49 : decode cX3_mayKnow 49 = .ok (.iaload, 1) := by decide +kernel
theorem dX3_mayKnow_50 : decode cX3_mayKnow 50 = .ok (.iload 4, 2) := by decide +kernel
theorem dX3_mayKnow_52 : decode cX3_mayKnow 52 = .ok (.if_icmp .eq 21, 3) := by decide +kernel
theorem dX3_mayKnow_55 : decode cX3_mayKnow 55 = .ok (.aload_n 0, 1) := by decide +kernel
theorem dX3_mayKnow_56 : decode cX3_mayKnow 56 = .ok (.getfield 33, 3) := by decide +kernel
theorem dX3_mayKnow_59 : decode cX3_mayKnow 59 = .ok (.iload_n 1, 1) := by decide +kernel
theorem dX3_mayKnow_60 : decode cX3_mayKnow 60 = .ok (.iload 5, 2) := by decide +kernel
theorem dX3_mayKnow_62 : decode cX3_mayKnow 62 = .ok (.invokestatic 102, 3) := by decide +kernel
theorem dX3_mayKnow_65 : decode cX3_mayKnow 65 = .ok (.iaload, 1) := by decide +kernel
theorem dX3_mayKnow_66 : decode cX3_mayKnow 66 = .ok (.invokestatic 74, 3) := by decide +kernel
theorem dX3_mayKnow_69 : decode cX3_mayKnow 69 = .ok (.iconst 1, 1) := by decide +kernel
theorem dX3_mayKnow_70 : decode cX3_mayKnow 70 = .ok (.if_icmp .ne 7, 3) := by decide +kernel
theorem dX3_mayKnow_73 : decode cX3_mayKnow 73 = .ok (.iconst 1, 1) := by decide +kernel
theorem dX3_mayKnow_74 : decode cX3_mayKnow 74 = .ok (.goto 4, 3) := by decide +kernel
theorem dX3_mayKnow_77 : decode cX3_mayKnow 77 = .ok (.iconst 0, 1) := by decide +kernel
theorem dX3_mayKnow_78 : decode cX3_mayKnow 78 = .ok (.ireturn, 1) := by decide +kernel
theorem dX3_makeAllNews_0 : decode cX3_makeAllNews 0 = .ok (.iconst 0, 1) := by decide +kernel
theorem dX3_makeAllNews_1 : decode cX3_makeAllNews 1 = .ok (.istore_n 2, 1) := by decide +kernel
theorem dX3_makeAllNews_2 : decode cX3_makeAllNews 2 = .ok (.iload_n 2, 1) := by decide +kernel
theorem dX3_makeAllNews_3 : decode cX3_makeAllNews 3 = .ok (.bipush 35, 2) := by decide +kernel
theorem dX3_makeAllNews_5 : decode cX3_makeAllNews 5 = .ok (.if_icmp .ge 34, 3) := by decide +kernel
theorem dX3_makeAllNews_8 : decode cX3_makeAllNews 8 = .ok (.aload_n 0, 1) := by decide +kernel
theorem dX3_makeAllNews_9 : decode cX3_makeAllNews 9 = .ok (.getfield 33, 3) := by decide +kernel
theorem dX3_makeAllNews_12 : decode cX3_makeAllNews 12 = .ok (.iload_n 1, 1) := by decide +kernel
theorem dX3_makeAllNews_13 : decode cX3_makeAllNews 13 = .ok (.iload_n 2, 1) := by decide +kernel
theorem dX3_makeAllNews_14 : decode cX3_makeAllNews 14 = .ok (.invokestatic 102, 3) := by decide +kernel
theorem dX3_makeAllNews_17 : decode cX3_makeAllNews 17 = .ok (.iaload, 1) := by decide +kernel
theorem dX3_makeAllNews_18 : decode cX3_makeAllNews 18 = .ok (.ifCond .eq 15, 3) := by decide +kernel
theorem dX3_makeAllNews_21 : decode cX3_makeAllNews 21 = .ok (.aload_n 0, 1) := by decide +kernel
theorem dX3_makeAllNews_22 : decode cX3_makeAllNews 22 = .ok (.getfield 36, 3) := by decide +kernel
theorem dX3_makeAllNews_25 : decode cX3_makeAllNews 25 = .ok (.iload_n 1, 1) := by decide +kernel
theorem dX3_makeAllNews_26 : decode cX3_makeAllNews 26 = .ok (.dup2, 1) := by decide +kernel
theorem dX3_makeAllNews_27 : decode cX3_makeAllNews 27 = .ok (.laload, 1) := by decide +kernel
theorem dX3_makeAllNews_28 : decode cX3_makeAllNews 28 = .ok (.lconst 1, 1) := by decide +kernel
theorem dX3_makeAllNews_29 : decode cX3_makeAllNews 29 = .ok (.iload_n 2, 1) := by decide +kernel
theorem dX3_makeAllNews_30 : decode cX3_makeAllNews 30 = .ok (.lshl, 1) := by decide +kernel
theorem dX3_makeAllNews_31 : decode cX3_makeAllNews 31 = .ok (.lor, 1) := by decide +kernel
theorem dX3_makeAllNews_32 : decode cX3_makeAllNews 32 = .ok (.lastore, 1) := by decide +kernel
theorem dX3_makeAllNews_33 : decode cX3_makeAllNews 33 = .ok (.iinc 2 1, 3) := by decide +kernel
theorem dX3_makeAllNews_36 : decode cX3_makeAllNews 36 = .ok (.goto (-34), 3) := by decide +kernel
theorem dX3_makeAllNews_39 : decode cX3_makeAllNews 39 = .ok (.return_, 1) := by decide +kernel
theorem dX3_makePrivateLinksNews_0 : decode cX3_makePrivateLinksNews 0 = .ok (.iconst 0, 1) := by decide +kernel
theorem dX3_makePrivateLinksNews_1 : decode cX3_makePrivateLinksNews 1 = .ok (.istore_n 3, 1) := by decide +kernel
theorem dX3_makePrivateLinksNews_2 : decode cX3_makePrivateLinksNews 2 = .ok (.iload_n 3, 1) := by decide +kernel
theorem dX3_makePrivateLinksNews_3 : decode cX3_makePrivateLinksNews 3 = .ok (.aload_n 0, 1) := by decide +kernel
theorem dX3_makePrivateLinksNews_4 : decode cX3_makePrivateLinksNews 4 = .ok (.getfield 44, 3) := by decide +kernel
theorem dX3_makePrivateLinksNews_7 : decode cX3_makePrivateLinksNews 7 = .ok (.if_icmp .ge 51, 3) := by decide +kernel
theorem dX3_makePrivateLinksNews_10 : decode cX3_makePrivateLinksNews 10 = .ok (.bipush 16, 2) := by decide +kernel
theorem dX3_makePrivateLinksNews_12 : decode cX3_makePrivateLinksNews 12 = .ok (.iload_n 3, 1) := by decide +kernel
theorem dX3_makePrivateLinksNews_13 : decode cX3_makePrivateLinksNews 13 = .ok (.iadd, 1) := by decide +kernel
theorem dX3_makePrivateLinksNews_14 : decode cX3_makePrivateLinksNews 14 = .ok (.istore 4, 2) := by decide +kernel
theorem dX3_makePrivateLinksNews_16 : decode cX3_makePrivateLinksNews 16 = .ok (.aload_n 0, 1) := by decide +kernel
theorem dX3_makePrivateLinksNews_17 : decode cX3_makePrivateLinksNews 17 = .ok (.iload_n 3, 1) := by decide +kernel
theorem dX3_makePrivateLinksNews_18 : decode cX3_makePrivateLinksNews 18 = .ok (.iload_n 2, 1) := by decide +kernel
theorem dX3_makePrivateLinksNews_19 : decode cX3_makePrivateLinksNews 19 = .ok (.invokevirtual 132, 3) := by decide +kernel
theorem dX3_makePrivateLinksNews_22 : decode cX3_makePrivateLinksNews 22 = .ok (.ifCond .eq 30, 3) := by decide +kernel
theorem dX3_makePrivateLinksNews_25 : decode cX3_makePrivateLinksNews 25 = .ok (.aload_n 0, 1) := by decide +kernel
theorem dX3_makePrivateLinksNews_26 : decode cX3_makePrivateLinksNews 26 = .ok (.getfield 33, 3) := by decide +kernel
theorem dX3_makePrivateLinksNews_29 : decode cX3_makePrivateLinksNews 29 = .ok (.iload_n 1, 1) := by decide +kernel
theorem dX3_makePrivateLinksNews_30 : decode cX3_makePrivateLinksNews 30 = .ok (.iload 4, 2) := by decide +kernel
theorem dX3_makePrivateLinksNews_32 : decode cX3_makePrivateLinksNews 32 = .ok (.invokestatic 102, 3) := by decide +kernel
theorem dX3_makePrivateLinksNews_35 : decode cX3_makePrivateLinksNews 35 = .ok (.iaload, 1) := by decide +kernel
theorem dX3_makePrivateLinksNews_36 : decode cX3_makePrivateLinksNews 36 = .ok (.ifCond .eq 16, 3) := by decide +kernel
theorem dX3_makePrivateLinksNews_39 : decode cX3_makePrivateLinksNews 39 = .ok (.aload_n 0, 1) := by decide +kernel
theorem dX3_makePrivateLinksNews_40 : decode cX3_makePrivateLinksNews 40 = .ok (.getfield 36, 3) := by decide +kernel
theorem dX3_makePrivateLinksNews_43 : decode cX3_makePrivateLinksNews 43 = .ok (.iload_n 1, 1) := by decide +kernel
theorem dX3_makePrivateLinksNews_44 : decode cX3_makePrivateLinksNews 44 = .ok (.dup2, 1) := by decide +kernel
theorem dX3_makePrivateLinksNews_45 : decode cX3_makePrivateLinksNews 45 = .ok (.laload, 1) := by decide +kernel
theorem dX3_makePrivateLinksNews_46 : decode cX3_makePrivateLinksNews 46 = .ok (.lconst 1, 1) := by decide +kernel
theorem dX3_makePrivateLinksNews_47 : decode cX3_makePrivateLinksNews 47 = .ok (.iload 4, 2) := by decide +kernel
theorem dX3_makePrivateLinksNews_49 : decode cX3_makePrivateLinksNews 49 = .ok (.lshl, 1) := by decide +kernel
theorem dX3_makePrivateLinksNews_50 : decode cX3_makePrivateLinksNews 50 = .ok (.lor, 1) := by decide +kernel
theorem dX3_makePrivateLinksNews_51 : decode cX3_makePrivateLinksNews 51 = .ok (.lastore, 1) := by decide +kernel
theorem dX3_makePrivateLinksNews_52 : decode cX3_makePrivateLinksNews 52 = .ok (.iinc 3 1, 3) := by decide +kernel
theorem dX3_makePrivateLinksNews_55 : decode cX3_makePrivateLinksNews 55 = .ok (.goto (-53), 3) := by decide +kernel
theorem dX3_makePrivateLinksNews_58 : decode cX3_makePrivateLinksNews 58 = .ok (.return_, 1) := by decide +kernel
theorem dX3_forgetPrivateLinks_0 : decode cX3_forgetPrivateLinks 0 = .ok (.iconst 0, 1) := by decide +kernel
theorem dX3_forgetPrivateLinks_1 : decode cX3_forgetPrivateLinks 1 = .ok (.istore_n 3, 1) := by decide +kernel
theorem dX3_forgetPrivateLinks_2 : decode cX3_forgetPrivateLinks 2 = .ok (.iload_n 3, 1) := by decide +kernel
theorem dX3_forgetPrivateLinks_3 : decode cX3_forgetPrivateLinks 3 = .ok (.aload_n 0, 1) := by decide +kernel
theorem dX3_forgetPrivateLinks_4 : decode cX3_forgetPrivateLinks 4 = .ok (.getfield 44, 3) := by decide +kernel
theorem dX3_forgetPrivateLinks_7 : decode cX3_forgetPrivateLinks 7 = .ok (.if_icmp .ge 62, 3) := by decide +kernel
theorem dX3_forgetPrivateLinks_10 : decode cX3_forgetPrivateLinks 10 = .ok (.bipush 16, 2) := by decide +kernel
theorem dX3_forgetPrivateLinks_12 : decode cX3_forgetPrivateLinks 12 = .ok (.iload_n 3, 1) := by decide +kernel
theorem dX3_forgetPrivateLinks_13 : decode cX3_forgetPrivateLinks 13 = .ok (.iadd, 1) := by decide +kernel
theorem dX3_forgetPrivateLinks_14 : decode cX3_forgetPrivateLinks 14 = .ok (.istore 4, 2) := by decide +kernel
theorem dX3_forgetPrivateLinks_16 : decode cX3_forgetPrivateLinks 16 = .ok (.aload_n 0, 1) := by decide +kernel
theorem dX3_forgetPrivateLinks_17 : decode cX3_forgetPrivateLinks 17 = .ok (.iload_n 3, 1) := by decide +kernel
theorem dX3_forgetPrivateLinks_18 : decode cX3_forgetPrivateLinks 18 = .ok (.iload_n 2, 1) := by decide +kernel
theorem dX3_forgetPrivateLinks_19 : decode cX3_forgetPrivateLinks 19 = .ok (.invokevirtual 132, 3) := by decide +kernel
theorem dX3_forgetPrivateLinks_22 : decode cX3_forgetPrivateLinks 22 = .ok (.ifCond .eq 41, 3) := by decide +kernel
theorem dX3_forgetPrivateLinks_25 : decode cX3_forgetPrivateLinks 25 = .ok (.aload_n 0, 1) := by decide +kernel
theorem dX3_forgetPrivateLinks_26 : decode cX3_forgetPrivateLinks 26 = .ok (.iload_n 1, 1) := by decide +kernel
theorem dX3_forgetPrivateLinks_27 : decode cX3_forgetPrivateLinks 27 = .ok (.iload_n 3, 1) := by decide +kernel
theorem dX3_forgetPrivateLinks_28 : decode cX3_forgetPrivateLinks 28 = .ok (.invokevirtual 129, 3) := by decide +kernel
theorem dX3_forgetPrivateLinks_31 : decode cX3_forgetPrivateLinks 31 = .ok (.ifCond .ne 32, 3) := by decide +kernel
theorem dX3_forgetPrivateLinks_34 : decode cX3_forgetPrivateLinks 34 = .ok (.aload_n 0, 1) := by decide +kernel
theorem dX3_forgetPrivateLinks_35 : decode cX3_forgetPrivateLinks 35 = .ok (.getfield 33, 3) := by decide +kernel
theorem dX3_forgetPrivateLinks_38 : decode cX3_forgetPrivateLinks 38 = .ok (.iload_n 1, 1) := by decide +kernel
theorem dX3_forgetPrivateLinks_39 : decode cX3_forgetPrivateLinks 39 = .ok (.iload 4, 2) := by decide +kernel
theorem dX3_forgetPrivateLinks_41 : decode cX3_forgetPrivateLinks 41 = .ok (.invokestatic 102, 3) := by decide +kernel
theorem dX3_forgetPrivateLinks_44 : decode cX3_forgetPrivateLinks 44 = .ok (.iconst 0, 1) := by decide +kernel
theorem dX3_forgetPrivateLinks_45 : decode cX3_forgetPrivateLinks 45 = .ok (.iastore, 1) := by decide +kernel
theorem dX3_forgetPrivateLinks_46 : decode cX3_forgetPrivateLinks 46 = .ok (.aload_n 0, 1) := by decide +kernel
theorem dX3_forgetPrivateLinks_47 : decode cX3_forgetPrivateLinks 47 = .ok (.getfield 36, 3) := by decide +kernel
theorem dX3_forgetPrivateLinks_50 : decode cX3_forgetPrivateLinks 50 = .ok (.iload_n 1, 1) := by decide +kernel
theorem dX3_forgetPrivateLinks_51 : decode cX3_forgetPrivateLinks 51 = .ok (.dup2, 1) := by decide +kernel
theorem dX3_forgetPrivateLinks_52 : decode cX3_forgetPrivateLinks 52 = .ok (.laload, 1) := by decide +kernel
theorem dX3_forgetPrivateLinks_53 : decode cX3_forgetPrivateLinks 53 = .ok (.lconst 1, 1) := by decide +kernel
theorem dX3_forgetPrivateLinks_54 : decode cX3_forgetPrivateLinks 54 = .ok (.iload 4, 2) := by decide +kernel
theorem dX3_forgetPrivateLinks_56 : decode cX3_forgetPrivateLinks 56 = .ok (.lshl, 1) := by decide +kernel
theorem dX3_forgetPrivateLinks_57 : decode cX3_forgetPrivateLinks 57 = .ok (.ldc2_w 135, 3) := by decide +kernel
theorem dX3_forgetPrivateLinks_60 : decode cX3_forgetPrivateLinks 60 = .ok (.lxor, 1) := by decide +kernel
theorem dX3_forgetPrivateLinks_61 : decode cX3_forgetPrivateLinks 61 = .ok (.land, 1) := by decide +kernel
theorem dX3_forgetPrivateLinks_62 : decode cX3_forgetPrivateLinks 62 = .ok (.lastore, 1) := by decide +kernel
theorem dX3_forgetPrivateLinks_63 : decode cX3_forgetPrivateLinks 63 = .ok (.iinc 3 1, 3) := by decide +kernel
theorem dX3_forgetPrivateLinks_66 : decode cX3_forgetPrivateLinks 66 = .ok (.goto (-64), 3) := by decide +kernel
theorem dX3_forgetPrivateLinks_69 : decode cX3_forgetPrivateLinks 69 = .ok (.return_, 1) := by decide +kernel
theorem dX3_isPrivateLink_0 : decode cX3_isPrivateLink 0 = .ok (.iload_n 1, 1) := by decide +kernel
theorem dX3_isPrivateLink_1 : decode cX3_isPrivateLink 1 = .ok (.bipush 16, 2) := by decide +kernel
theorem dX3_isPrivateLink_3 : decode cX3_isPrivateLink 3 = .ok (.if_icmp .lt 26, 3) := by decide +kernel
theorem dX3_isPrivateLink_6 : decode cX3_isPrivateLink 6 = .ok (.iload_n 1, 1) := by decide +kernel
theorem dX3_isPrivateLink_7 : decode cX3_isPrivateLink 7 = .ok (.bipush 32, 2) := by decide +kernel
theorem dX3_isPrivateLink_9 : decode cX3_isPrivateLink 9 = .ok (.if_icmp .ge 20, 3) := by decide +kernel
theorem dX3_isPrivateLink_12 : decode cX3_isPrivateLink 12 = .ok (.aload_n 0, 1) := by decide +kernel
theorem dX3_isPrivateLink_13 : decode cX3_isPrivateLink 13 = .ok (.getfield 21, 3) := by decide +kernel
theorem dX3_isPrivateLink_16 : decode cX3_isPrivateLink 16 = .ok (.iload_n 1, 1) := by decide +kernel
theorem dX3_isPrivateLink_17 : decode cX3_isPrivateLink 17 = .ok (.bipush 16, 2) := by decide +kernel
theorem dX3_isPrivateLink_19 : decode cX3_isPrivateLink 19 = .ok (.isub, 1) := by decide +kernel
theorem dX3_isPrivateLink_20 : decode cX3_isPrivateLink 20 = .ok (.iaload, 1) := by decide +kernel
theorem dX3_isPrivateLink_21 : decode cX3_isPrivateLink 21 = .ok (.iconst 1, 1) := by decide +kernel
theorem dX3_isPrivateLink_22 : decode cX3_isPrivateLink 22 = .ok (.if_icmp .ne 7, 3) := by decide +kernel
theorem dX3_isPrivateLink_25 : decode cX3_isPrivateLink 25 = .ok (.iconst 1, 1) := by decide +kernel
theorem dX3_isPrivateLink_26 : decode cX3_isPrivateLink 26 = .ok (.goto 4, 3) := by decide +kernel
theorem dX3_isPrivateLink_29 : decode cX3_isPrivateLink 29 = .ok (.iconst 0, 1) := by decide +kernel
theorem dX3_isPrivateLink_30 : decode cX3_isPrivateLink 30 = .ok (.ireturn, 1) := by decide +kernel
theorem dX3_isPrivateOf_0 : decode cX3_isPrivateOf 0 = .ok (.aload_n 0, 1) := by decide +kernel
theorem dX3_isPrivateOf_1 : decode cX3_isPrivateOf 1 = .ok (.getfield 21, 3) := by decide +kernel
theorem dX3_isPrivateOf_4 : decode cX3_isPrivateOf 4 = .ok (.iload_n 1, 1) := by decide +kernel
theorem dX3_isPrivateOf_5 : decode cX3_isPrivateOf 5 = .ok (.iaload, 1) := by decide +kernel
theorem dX3_isPrivateOf_6 : decode cX3_isPrivateOf 6 = .ok (.iconst 1, 1) := by decide +kernel
theorem dX3_isPrivateOf_7 : decode cX3_isPrivateOf 7 = .ok (.if_icmp .ne 22, 3) := by decide +kernel
theorem dX3_isPrivateOf_10 : decode cX3_isPrivateOf 10 = .ok (.aload_n 0, 1) := by decide +kernel
theorem dX3_isPrivateOf_11 : decode cX3_isPrivateOf 11 = .ok (.getfield 9, 3) := by decide +kernel
theorem dX3_isPrivateOf_14 : decode cX3_isPrivateOf 14 = .ok (.aload_n 0, 1) := by decide +kernel
theorem dX3_isPrivateOf_15 : decode cX3_isPrivateOf 15 = .ok (.getfield 15, 3) := by decide +kernel
theorem dX3_isPrivateOf_18 : decode cX3_isPrivateOf 18 = .ok (.iload_n 1, 1) := by decide +kernel
theorem dX3_isPrivateOf_19 : decode cX3_isPrivateOf 19 = .ok (.iaload, 1) := by decide +kernel
theorem dX3_isPrivateOf_20 : decode cX3_isPrivateOf 20 = .ok (.iaload, 1) := by decide +kernel
theorem dX3_isPrivateOf_21 : decode cX3_isPrivateOf 21 = .ok (.iload_n 2, 1) := by decide +kernel
theorem dX3_isPrivateOf_22 : decode cX3_isPrivateOf 22 = .ok (.if_icmp .ne 7, 3) := by decide +kernel
theorem dX3_isPrivateOf_25 : decode cX3_isPrivateOf 25 = .ok (.iconst 1, 1) := by decide +kernel
theorem dX3_isPrivateOf_26 : decode cX3_isPrivateOf 26 = .ok (.goto 4, 3) := by decide +kernel
theorem dX3_isPrivateOf_29 : decode cX3_isPrivateOf 29 = .ok (.iconst 0, 1) := by decide +kernel
theorem dX3_isPrivateOf_30 : decode cX3_isPrivateOf 30 = .ok (.ireturn, 1) := by decide +kernel
theorem dX3_owner_0 : decode cX3_owner 0 = .ok (.aload_n 0, 1) := by decide +kernel
theorem dX3_owner_1 : decode cX3_owner 1 = .ok (.getfield 9, 3) := by decide +kernel
theorem dX3_owner_4 : decode cX3_owner 4 = .ok (.aload_n 0, 1) := by decide +kernel
theorem dX3_owner_5 : decode cX3_owner 5 = .ok (.getfield 15, 3) := by decide +kernel
theorem dX3_owner_8 : decode cX3_owner 8 = .ok (.iload_n 1, 1) := by decide +kernel
theorem dX3_owner_9 : decode cX3_owner 9 = .ok (.iaload, 1) := by decide +kernel
theorem dX3_owner_10 : decode cX3_owner 10 = .ok (.iaload, 1) := by decide +kernel
theorem dX3_owner_11 : decode cX3_owner 11 = .ok (.ireturn, 1) := by decide +kernel
theorem dX3_isEnd_0 : decode cX3_isEnd 0 = .ok (.aload_n 0, 1) := by decide +kernel
theorem dX3_isEnd_1 : decode cX3_isEnd 1 = .ok (.getfield 15, 3) := by decide +kernel
theorem dX3_isEnd_4 : decode cX3_isEnd 4 = .ok (.iload_n 2, 1) := by decide +kernel
theorem dX3_isEnd_5 : decode cX3_isEnd 5 = .ok (.iaload, 1) := by decide +kernel
theorem dX3_isEnd_6 : decode cX3_isEnd 6 = .ok (.iload_n 1, 1) := by decide +kernel
theorem dX3_isEnd_7 : decode cX3_isEnd 7 = .ok (.if_icmp .eq 13, 3) := by decide +kernel
theorem dX3_isEnd_10 : decode cX3_isEnd 10 = .ok (.aload_n 0, 1) := by decide +kernel
theorem dX3_isEnd_11 : decode cX3_isEnd 11 = .ok (.getfield 18, 3) := by decide +kernel
theorem dX3_isEnd_14 : decode cX3_isEnd 14 = .ok (.iload_n 2, 1) := by decide +kernel
theorem dX3_isEnd_15 : decode cX3_isEnd 15 = .ok (.iaload, 1) := by decide +kernel
theorem dX3_isEnd_16 : decode cX3_isEnd 16 = .ok (.iload_n 1, 1) := by decide +kernel
theorem dX3_isEnd_17 : decode cX3_isEnd 17 = .ok (.if_icmp .ne 7, 3) := by decide +kernel
theorem dX3_isEnd_20 : decode cX3_isEnd 20 = .ok (.iconst 1, 1) := by decide +kernel
theorem dX3_isEnd_21 : decode cX3_isEnd 21 = .ok (.goto 4, 3) := by decide +kernel
theorem dX3_isEnd_24 : decode cX3_isEnd 24 = .ok (.iconst 0, 1) := by decide +kernel
theorem dX3_isEnd_25 : decode cX3_isEnd 25 = .ok (.ireturn, 1) := by decide +kernel
theorem dX3_isUp_0 : decode cX3_isUp 0 = .ok (.aload_n 0, 1) := by decide +kernel
theorem dX3_isUp_1 : decode cX3_isUp 1 = .ok (.getfield 30, 3) := by decide +kernel
theorem dX3_isUp_4 : decode cX3_isUp 4 = .ok (.iload_n 1, 1) := by decide +kernel
theorem dX3_isUp_5 : decode cX3_isUp 5 = .ok (.iaload, 1) := by decide +kernel
theorem dX3_isUp_6 : decode cX3_isUp 6 = .ok (.invokestatic 74, 3) := by decide +kernel
theorem dX3_isUp_9 : decode cX3_isUp 9 = .ok (.iconst 1, 1) := by decide +kernel
theorem dX3_isUp_10 : decode cX3_isUp 10 = .ok (.if_icmp .ne 7, 3) := by decide +kernel
theorem dX3_isUp_13 : decode cX3_isUp 13 = .ok (.iconst 1, 1) := by decide +kernel
theorem dX3_isUp_14 : decode cX3_isUp 14 = .ok (.goto 4, 3) := by decide +kernel
theorem dX3_isUp_17 : decode cX3_isUp 17 = .ok (.iconst 0, 1) := by decide +kernel
theorem dX3_isUp_18 : decode cX3_isUp 18 = .ok (.ireturn, 1) := by decide +kernel
theorem dX3_entitlements_0 : decode cX3_entitlements 0 = .ok (.iload_n 1, 1) := by decide +kernel
theorem dX3_entitlements_1 : decode cX3_entitlements 1 = .ok (.aload_n 0, 1) := by decide +kernel
theorem dX3_entitlements_2 : decode cX3_entitlements 2 = .ok (.getfield 30, 3) := by decide +kernel
theorem dX3_entitlements_5 : decode cX3_entitlements 5 = .ok (.iconst 0, 1) := by decide +kernel
theorem dX3_entitlements_6 : decode cX3_entitlements 6 = .ok (.invokestatic 137, 3) := by decide +kernel
theorem dX3_entitlements_9 : decode cX3_entitlements 9 = .ok (.ireturn, 1) := by decide +kernel
theorem dX3_disclosures_0 : decode cX3_disclosures 0 = .ok (.iload_n 2, 1) := by decide +kernel
theorem dX3_disclosures_1 : decode cX3_disclosures 1 = .ok (.aload_n 0, 1) := by decide +kernel
theorem dX3_disclosures_2 : decode cX3_disclosures 2 = .ok (.getfield 33, 3) := by decide +kernel
theorem dX3_disclosures_5 : decode cX3_disclosures 5 = .ok (.iload_n 1, 1) := by decide +kernel
theorem dX3_disclosures_6 : decode cX3_disclosures 6 = .ok (.iconst 0, 1) := by decide +kernel
theorem dX3_disclosures_7 : decode cX3_disclosures 7 = .ok (.invokestatic 102, 3) := by decide +kernel
theorem dX3_disclosures_10 : decode cX3_disclosures 10 = .ok (.invokestatic 137, 3) := by decide +kernel
theorem dX3_disclosures_13 : decode cX3_disclosures 13 = .ok (.ireturn, 1) := by decide +kernel
theorem dX3_ownersOpenTo_0 : decode cX3_ownersOpenTo 0 = .ok (.iconst 1, 1) := by decide +kernel
theorem dX3_ownersOpenTo_1 : decode cX3_ownersOpenTo 1 = .ok (.iload_n 0, 1) := by decide +kernel
theorem dX3_ownersOpenTo_2 : decode cX3_ownersOpenTo 2 = .ok (.ishl, 1) := by decide +kernel
theorem dX3_ownersOpenTo_3 : decode cX3_ownersOpenTo 3 = .ok (.istore_n 3, 1) := by decide +kernel
theorem dX3_ownersOpenTo_4 : decode cX3_ownersOpenTo 4 = .ok (.iconst 0, 1) := by decide +kernel
theorem dX3_ownersOpenTo_5 : decode cX3_ownersOpenTo 5 = .ok (.istore 4, 2) := by decide +kernel
theorem dX3_ownersOpenTo_7 : decode cX3_ownersOpenTo 7 = .ok (.iload 4, 2) := by decide +kernel
theorem dX3_ownersOpenTo_9 : decode cX3_ownersOpenTo 9 = .ok (.iconst 4, 1) := by decide +kernel
theorem dX3_ownersOpenTo_10 : decode cX3_ownersOpenTo 10 = .ok (.if_icmp .ge 33, 3) := by decide +kernel
theorem dX3_ownersOpenTo_13 : decode cX3_ownersOpenTo 13 = .ok (.aload_n 1, 1) := by decide +kernel
theorem dX3_ownersOpenTo_14 : decode cX3_ownersOpenTo 14 = .ok (.iload_n 2, 1) := by decide +kernel
theorem dX3_ownersOpenTo_15 : decode cX3_ownersOpenTo 15 = .ok (.iload 4, 2) := by decide +kernel
theorem dX3_ownersOpenTo_17 : decode cX3_ownersOpenTo 17 = .ok (.iload_n 0, 1) := by decide +kernel
theorem dX3_ownersOpenTo_18 : decode cX3_ownersOpenTo 18 = .ok (.invokestatic 89, 3) := by decide +kernel
theorem dX3_ownersOpenTo_21 : decode cX3_ownersOpenTo 21 = .ok (.iadd, 1) := by decide +kernel
theorem dX3_ownersOpenTo_22 : decode cX3_ownersOpenTo 22 = .ok (.iaload, 1) := by decide +kernel
theorem dX3_ownersOpenTo_23 : decode cX3_ownersOpenTo 23 = .ok (.invokestatic 74, 3) := by decide +kernel
theorem dX3_ownersOpenTo_26 : decode cX3_ownersOpenTo 26 = .ok (.iconst 1, 1) := by decide +kernel
theorem dX3_ownersOpenTo_27 : decode cX3_ownersOpenTo 27 = .ok (.if_icmp .ne 10, 3) := by decide +kernel
theorem dX3_ownersOpenTo_30 : decode cX3_ownersOpenTo 30 = .ok (.iload_n 3, 1) := by decide +kernel
theorem dX3_ownersOpenTo_31 : decode cX3_ownersOpenTo 31 = .ok (.iconst 1, 1) := by decide +kernel
theorem dX3_ownersOpenTo_32 : decode cX3_ownersOpenTo 32 = .ok (.iload 4, 2) := by decide +kernel
theorem dX3_ownersOpenTo_34 : decode cX3_ownersOpenTo 34 = .ok (.ishl, 1) := by decide +kernel
theorem dX3_ownersOpenTo_35 : decode cX3_ownersOpenTo 35 = .ok (.ior, 1) := by decide +kernel
theorem dX3_ownersOpenTo_36 : decode cX3_ownersOpenTo 36 = .ok (.istore_n 3, 1) := by decide +kernel
theorem dX3_ownersOpenTo_37 : decode cX3_ownersOpenTo 37 = .ok (.iinc 4 1, 3) := by decide +kernel
theorem dX3_ownersOpenTo_40 : decode cX3_ownersOpenTo 40 = .ok (.goto (-33), 3) := by decide +kernel
theorem dX3_ownersOpenTo_43 : decode cX3_ownersOpenTo 43 = .ok (.iload_n 3, 1) := by decide +kernel
theorem dX3_ownersOpenTo_44 : decode cX3_ownersOpenTo 44 = .ok (.ireturn, 1) := by decide +kernel
theorem dX3_has_0 : decode cX3_has 0 = .ok (.iload_n 0, 1) := by decide +kernel
theorem dX3_has_1 : decode cX3_has 1 = .ok (.iload_n 1, 1) := by decide +kernel
theorem dX3_has_2 : decode cX3_has 2 = .ok (.ishr, 1) := by decide +kernel
theorem dX3_has_3 : decode cX3_has 3 = .ok (.iconst 1, 1) := by decide +kernel
theorem dX3_has_4 : decode cX3_has 4 = .ok (.iand, 1) := by decide +kernel
theorem dX3_has_5 : decode cX3_has 5 = .ok (.iconst 1, 1) := by decide +kernel
theorem dX3_has_6 : decode cX3_has 6 = .ok (.if_icmp .ne 7, 3) := by decide +kernel
theorem dX3_has_9 : decode cX3_has 9 = .ok (.iconst 1, 1) := by decide +kernel
theorem dX3_has_10 : decode cX3_has 10 = .ok (.goto 4, 3) := by decide +kernel
theorem dX3_has_13 : decode cX3_has 13 = .ok (.iconst 0, 1) := by decide +kernel
theorem dX3_has_14 : decode cX3_has 14 = .ok (.ireturn, 1) := by decide +kernel
theorem dX3_isNews_0 : decode cX3_isNews 0 = .ok (.aload_n 0, 1) := by decide +kernel
theorem dX3_isNews_1 : decode cX3_isNews 1 = .ok (.getfield 36, 3) := by decide +kernel
theorem dX3_isNews_4 : decode cX3_isNews 4 = .ok (.iload_n 1, 1) := by decide +kernel
theorem dX3_isNews_5 : decode cX3_isNews 5 = .ok (.laload, 1) := by decide +kernel
theorem dX3_isNews_6 : decode cX3_isNews 6 = .ok (.iload_n 2, 1) := by decide +kernel
theorem dX3_isNews_7 : decode cX3_isNews 7 = .ok (.lshr, 1) := by decide +kernel
theorem dX3_isNews_8 : decode cX3_isNews 8 = .ok (.lconst 1, 1) := by decide +kernel
theorem dX3_isNews_9 : decode cX3_isNews 9 = .ok (.land, 1) := by decide +kernel
theorem dX3_isNews_10 : decode cX3_isNews 10 = .ok (.lconst 1, 1) := by decide +kernel
theorem dX3_isNews_11 : decode cX3_isNews 11 = .ok (.lcmp, 1) := by decide +kernel
theorem dX3_isNews_12 : decode cX3_isNews 12 = .ok (.ifCond .ne 7, 3) := by decide +kernel
theorem dX3_isNews_15 : decode cX3_isNews 15 = .ok (.iconst 1, 1) := by decide +kernel
theorem dX3_isNews_16 : decode cX3_isNews 16 = .ok (.goto 4, 3) := by decide +kernel
theorem dX3_isNews_19 : decode cX3_isNews 19 = .ok (.iconst 0, 1) := by decide +kernel
theorem dX3_isNews_20 : decode cX3_isNews 20 = .ok (.ireturn, 1) := by decide +kernel
theorem dX3_isQuiet_0 : decode cX3_isQuiet 0 = .ok (.iconst 0, 1) := by decide +kernel
theorem dX3_isQuiet_1 : decode cX3_isQuiet 1 = .ok (.istore_n 1, 1) := by decide +kernel
theorem dX3_isQuiet_2 : decode cX3_isQuiet 2 = .ok (.iload_n 1, 1) := by decide +kernel
theorem dX3_isQuiet_3 : decode cX3_isQuiet 3 = .ok (.aload_n 0, 1) := by decide +kernel
theorem dX3_isQuiet_4 : decode cX3_isQuiet 4 = .ok (.getfield 40, 3) := by decide +kernel
theorem dX3_isQuiet_7 : decode cX3_isQuiet 7 = .ok (.if_icmp .ge 22, 3) := by decide +kernel
theorem dX3_isQuiet_10 : decode cX3_isQuiet 10 = .ok (.aload_n 0, 1) := by decide +kernel
theorem dX3_isQuiet_11 : decode cX3_isQuiet 11 = .ok (.getfield 36, 3) := by decide +kernel
theorem dX3_isQuiet_14 : decode cX3_isQuiet 14 = .ok (.iload_n 1, 1) := by decide +kernel
theorem dX3_isQuiet_15 : decode cX3_isQuiet 15 = .ok (.laload, 1) := by decide +kernel
theorem dX3_isQuiet_16 : decode cX3_isQuiet 16 = .ok (.lconst 0, 1) := by decide +kernel
theorem dX3_isQuiet_17 : decode cX3_isQuiet 17 = .ok (.lcmp, 1) := by decide +kernel
theorem dX3_isQuiet_18 : decode cX3_isQuiet 18 = .ok (.ifCond .eq 5, 3) := by decide +kernel
theorem dX3_isQuiet_21 : decode cX3_isQuiet 21 = .ok (.iconst 0, 1) := by decide +kernel
theorem dX3_isQuiet_22 : decode cX3_isQuiet 22 = .ok (.ireturn, 1) := by decide +kernel
theorem dX3_isQuiet_23 : decode cX3_isQuiet 23 = .ok (.iinc 1 1, 3) := by decide +kernel
theorem dX3_isQuiet_26 : decode cX3_isQuiet 26 = .ok (.goto (-24), 3) := by decide +kernel
theorem dX3_isQuiet_29 : decode cX3_isQuiet 29 = .ok (.iconst 1, 1) := by decide +kernel
theorem dX3_isQuiet_30 : decode cX3_isQuiet 30 = .ok (.ireturn, 1) := by decide +kernel
theorem dX3_countGrants_0 : decode cX3_countGrants 0 = .ok (.iconst 0, 1) := by decide +kernel
theorem dX3_countGrants_1 : decode cX3_countGrants 1 = .ok (.istore_n 1, 1) := by decide +kernel
theorem dX3_countGrants_2 : decode cX3_countGrants 2 = .ok (.iconst 0, 1) := by decide +kernel
theorem dX3_countGrants_3 : decode cX3_countGrants 3 = .ok (.istore_n 2, 1) := by decide +kernel
theorem dX3_countGrants_4 : decode cX3_countGrants 4 = .ok (.iload_n 2, 1) := by decide +kernel
theorem dX3_countGrants_5 : decode cX3_countGrants 5 = .ok (.bipush 16, 2) := by decide +kernel
theorem dX3_countGrants_7 : decode cX3_countGrants 7 = .ok (.if_icmp .ge 21, 3) := by decide +kernel
theorem dX3_countGrants_10 : decode cX3_countGrants 10 = .ok (.iload_n 1, 1) := by decide +kernel
theorem dX3_countGrants_11 : decode cX3_countGrants 11 = .ok (.aload_n 0, 1) := by decide +kernel
theorem dX3_countGrants_12 : decode cX3_countGrants 12 = .ok (.getfield 30, 3) := by decide +kernel
theorem dX3_countGrants_15 : decode cX3_countGrants 15 = .ok (.iload_n 2, 1) := by decide +kernel
theorem dX3_countGrants_16 : decode cX3_countGrants 16 = .ok (.iaload, 1) := by decide +kernel
theorem dX3_countGrants_17 : decode cX3_countGrants 17 = .ok (.invokestatic 74, 3) := by decide +kernel
theorem dX3_countGrants_20 : decode cX3_countGrants 20 = .ok (.iadd, 1) := by decide +kernel
theorem dX3_countGrants_21 : decode cX3_countGrants 21 = .ok (.istore_n 1, 1) := by decide +kernel
theorem dX3_countGrants_22 : decode cX3_countGrants 22 = .ok (.iinc 2 1, 3) := by decide +kernel
theorem dX3_countGrants_25 : decode cX3_countGrants 25 = .ok (.goto (-21), 3) := by decide +kernel
theorem dX3_countGrants_28 : decode cX3_countGrants 28 = .ok (.iload_n 1, 1) := by decide +kernel
theorem dX3_countGrants_29 : decode cX3_countGrants 29 = .ok (.ireturn, 1) := by decide +kernel
theorem dX3_countFacts_0 : decode cX3_countFacts 0 = .ok (.iconst 0, 1) := by decide +kernel
theorem dX3_countFacts_1 : decode cX3_countFacts 1 = .ok (.istore_n 2, 1) := by decide +kernel
theorem dX3_countFacts_2 : decode cX3_countFacts 2 = .ok (.iconst 0, 1) := by decide +kernel
theorem dX3_countFacts_3 : decode cX3_countFacts 3 = .ok (.istore_n 3, 1) := by decide +kernel
theorem dX3_countFacts_4 : decode cX3_countFacts 4 = .ok (.iload_n 3, 1) := by decide +kernel
theorem dX3_countFacts_5 : decode cX3_countFacts 5 = .ok (.bipush 35, 2) := by decide +kernel
theorem dX3_countFacts_7 : decode cX3_countFacts 7 = .ok (.if_icmp .ge 25, 3) := by decide +kernel
theorem dX3_countFacts_10 : decode cX3_countFacts 10 = .ok (.aload_n 0, 1) := by decide +kernel
theorem dX3_countFacts_11 : decode cX3_countFacts 11 = .ok (.getfield 33, 3) := by decide +kernel
theorem dX3_countFacts_14 : decode cX3_countFacts 14 = .ok (.iload_n 1, 1) := by decide +kernel
theorem dX3_countFacts_15 : decode cX3_countFacts 15 = .ok (.iload_n 3, 1) := by decide +kernel
theorem dX3_countFacts_16 : decode cX3_countFacts 16 = .ok (.invokestatic 102, 3) := by decide +kernel
theorem dX3_countFacts_19 : decode cX3_countFacts 19 = .ok (.iaload, 1) := by decide +kernel
theorem dX3_countFacts_20 : decode cX3_countFacts 20 = .ok (.ifCond .eq 6, 3) := by decide +kernel
theorem dX3_countFacts_23 : decode cX3_countFacts 23 = .ok (.iinc 2 1, 3) := by decide +kernel
theorem dX3_countFacts_26 : decode cX3_countFacts 26 = .ok (.iinc 3 1, 3) := by decide +kernel
theorem dX3_countFacts_29 : decode cX3_countFacts 29 = .ok (.goto (-25), 3) := by decide +kernel
theorem dX3_countFacts_32 : decode cX3_countFacts 32 = .ok (.iload_n 2, 1) := by decide +kernel
theorem dX3_countFacts_33 : decode cX3_countFacts 33 = .ok (.ireturn, 1) := by decide +kernel
theorem dX3_countBehind_0 : decode cX3_countBehind 0 = .ok (.iconst 0, 1) := by decide +kernel
theorem dX3_countBehind_1 : decode cX3_countBehind 1 = .ok (.istore_n 2, 1) := by decide +kernel
theorem dX3_countBehind_2 : decode cX3_countBehind 2 = .ok (.iconst 0, 1) := by decide +kernel
theorem dX3_countBehind_3 : decode cX3_countBehind 3 = .ok (.istore_n 3, 1) := by decide +kernel
theorem dX3_countBehind_4 : decode cX3_countBehind 4 = .ok (.iload_n 3, 1) := by decide +kernel
theorem dX3_countBehind_5 : decode cX3_countBehind 5 = .ok (.bipush 35, 2) := by decide +kernel
theorem dX3_countBehind_7 : decode cX3_countBehind 7 = .ok (.if_icmp .ge 58, 3) := by decide +kernel
theorem dX3_countBehind_10 : decode cX3_countBehind 10 = .ok (.aload_n 0, 1) := by decide +kernel
theorem dX3_countBehind_11 : decode cX3_countBehind 11 = .ok (.getfield 30, 3) := by decide +kernel
theorem dX3_countBehind_14 : decode cX3_countBehind 14 = .ok (.iload_n 3, 1) := by decide +kernel
theorem dX3_countBehind_15 : decode cX3_countBehind 15 = .ok (.iaload, 1) := by decide +kernel
theorem dX3_countBehind_16 : decode cX3_countBehind 16 = .ok (.invokestatic 96, 3) := by decide +kernel
theorem dX3_countBehind_19 : decode cX3_countBehind 19 = .ok (.aload_n 0, 1) := by decide +kernel
theorem dX3_countBehind_20 : decode cX3_countBehind 20 = .ok (.getfield 33, 3) := by decide +kernel
theorem dX3_countBehind_23 : decode cX3_countBehind 23 = .ok (.iload_n 1, 1) := by decide +kernel
theorem dX3_countBehind_24 : decode cX3_countBehind 24 = .ok (.iload_n 3, 1) := by decide +kernel
theorem dX3_countBehind_25 : decode cX3_countBehind 25 = .ok (.invokestatic 102, 3) := by decide +kernel
theorem dX3_countBehind_28 : decode cX3_countBehind 28 = .ok (.iaload, 1) := by decide +kernel
theorem dX3_countBehind_29 : decode cX3_countBehind 29 = .ok (.invokestatic 96, 3) := by decide +kernel
theorem dX3_countBehind_32 : decode cX3_countBehind 32 = .ok (.if_icmp .le 7, 3) := by decide +kernel
theorem dX3_countBehind_35 : decode cX3_countBehind 35 = .ok (.iconst 1, 1) := by decide +kernel
theorem dX3_countBehind_36 : decode cX3_countBehind 36 = .ok (.goto 4, 3) := by decide +kernel
theorem dX3_countBehind_39 : decode cX3_countBehind 39 = .ok (.iconst 0, 1) := by decide +kernel
theorem dX3_countBehind_40 : decode cX3_countBehind 40 = .ok (.istore 4, 2) := by decide +kernel
theorem dX3_countBehind_42 : decode cX3_countBehind 42 = .ok (.iload 4, 2) := by decide +kernel
theorem dX3_countBehind_44 : decode cX3_countBehind 44 = .ok (.ifCond .eq 15, 3) := by decide +kernel
theorem dX3_countBehind_47 : decode cX3_countBehind 47 = .ok (.aload_n 0, 1) := by decide +kernel
theorem dX3_countBehind_48 : decode cX3_countBehind 48 = .ok (.iload_n 1, 1) := by decide +kernel
theorem dX3_countBehind_49 : decode cX3_countBehind 49 = .ok (.iload_n 3, 1) := by decide +kernel
theorem dX3_countBehind_50 : decode cX3_countBehind 50 = .ok (.invokevirtual 141, 3) := by decide +kernel
theorem dX3_countBehind_53 : decode cX3_countBehind 53 = .ok (.ifCond .ne 6, 3) := by decide +kernel
theorem dX3_countBehind_56 : decode cX3_countBehind 56 = .ok (.iinc 2 1, 3) := by decide +kernel
theorem dX3_countBehind_59 : decode cX3_countBehind 59 = .ok (.iinc 3 1, 3) := by decide +kernel
theorem dX3_countBehind_62 : decode cX3_countBehind 62 = .ok (.goto (-58), 3) := by decide +kernel
theorem dX3_countBehind_65 : decode cX3_countBehind 65 = .ok (.iload_n 2, 1) := by decide +kernel
theorem dX3_countBehind_66 : decode cX3_countBehind 66 = .ok (.ireturn, 1) := by decide +kernel
theorem dX3_countSecrets_0 : decode cX3_countSecrets 0 = .ok (.iconst 0, 1) := by decide +kernel
theorem dX3_countSecrets_1 : decode cX3_countSecrets 1 = .ok (.istore_n 2, 1) := by decide +kernel
theorem dX3_countSecrets_2 : decode cX3_countSecrets 2 = .ok (.bipush 16, 2) := by decide +kernel
theorem dX3_countSecrets_4 : decode cX3_countSecrets 4 = .ok (.istore_n 3, 1) := by decide +kernel
theorem dX3_countSecrets_5 : decode cX3_countSecrets 5 = .ok (.iload_n 3, 1) := by decide +kernel
theorem dX3_countSecrets_6 : decode cX3_countSecrets 6 = .ok (.bipush 32, 2) := by decide +kernel
theorem dX3_countSecrets_8 : decode cX3_countSecrets 8 = .ok (.if_icmp .ge 34, 3) := by decide +kernel
theorem dX3_countSecrets_11 : decode cX3_countSecrets 11 = .ok (.aload_n 0, 1) := by decide +kernel
theorem dX3_countSecrets_12 : decode cX3_countSecrets 12 = .ok (.getfield 33, 3) := by decide +kernel
theorem dX3_countSecrets_15 : decode cX3_countSecrets 15 = .ok (.iload_n 1, 1) := by decide +kernel
theorem dX3_countSecrets_16 : decode cX3_countSecrets 16 = .ok (.iload_n 3, 1) := by decide +kernel
theorem dX3_countSecrets_17 : decode cX3_countSecrets 17 = .ok (.invokestatic 102, 3) := by decide +kernel
theorem dX3_countSecrets_20 : decode cX3_countSecrets 20 = .ok (.iaload, 1) := by decide +kernel
theorem dX3_countSecrets_21 : decode cX3_countSecrets 21 = .ok (.ifCond .eq 15, 3) := by decide +kernel
theorem dX3_countSecrets_24 : decode cX3_countSecrets 24 = .ok (.aload_n 0, 1) := by decide +kernel
theorem dX3_countSecrets_25 : decode cX3_countSecrets 25 = .ok (.iload_n 1, 1) := by decide +kernel
theorem dX3_countSecrets_26 : decode cX3_countSecrets 26 = .ok (.iload_n 3, 1) := by decide +kernel
theorem dX3_countSecrets_27 : decode cX3_countSecrets 27 = .ok (.invokevirtual 141, 3) := by decide +kernel
theorem dX3_countSecrets_30 : decode cX3_countSecrets 30 = .ok (.ifCond .eq 6, 3) := by decide +kernel
theorem dX3_countSecrets_33 : decode cX3_countSecrets 33 = .ok (.iinc 2 1, 3) := by decide +kernel
theorem dX3_countSecrets_36 : decode cX3_countSecrets 36 = .ok (.iinc 3 1, 3) := by decide +kernel
theorem dX3_countSecrets_39 : decode cX3_countSecrets 39 = .ok (.goto (-34), 3) := by decide +kernel
theorem dX3_countSecrets_42 : decode cX3_countSecrets 42 = .ok (.iload_n 2, 1) := by decide +kernel
theorem dX3_countSecrets_43 : decode cX3_countSecrets 43 = .ok (.ireturn, 1) := by decide +kernel
theorem dX3_isHidden_0 : decode cX3_isHidden 0 = .ok (.aload_n 0, 1) := by decide +kernel
theorem dX3_isHidden_1 : decode cX3_isHidden 1 = .ok (.iload_n 2, 1) := by decide +kernel
theorem dX3_isHidden_2 : decode cX3_isHidden 2 = .ok (.invokevirtual 122, 3) := by decide +kernel
theorem dX3_isHidden_5 : decode cX3_isHidden 5 = .ok (.ifCond .ne 5, 3) := by decide +kernel
theorem dX3_isHidden_8 : decode cX3_isHidden 8 = .ok (.iconst 0, 1) := by decide +kernel
theorem dX3_isHidden_9 : decode cX3_isHidden 9 = .ok (.ireturn, 1) := by decide +kernel
theorem dX3_isHidden_10 : decode cX3_isHidden 10 = .ok (.iload_n 2, 1) := by decide +kernel
theorem dX3_isHidden_11 : decode cX3_isHidden 11 = .ok (.bipush 16, 2) := by decide +kernel
theorem dX3_isHidden_13 : decode cX3_isHidden 13 = .ok (.isub, 1) := by decide +kernel
theorem dX3_isHidden_14 : decode cX3_isHidden 14 = .ok (.istore_n 3, 1) := by decide +kernel
theorem dX3_isHidden_15 : decode cX3_isHidden 15 = .ok (.aload_n 0, 1) := by decide +kernel
theorem dX3_isHidden_16 : decode cX3_isHidden 16 = .ok (.iload_n 1, 1) := by decide +kernel
theorem dX3_isHidden_17 : decode cX3_isHidden 17 = .ok (.iload_n 3, 1) := by decide +kernel
theorem dX3_isHidden_18 : decode cX3_isHidden 18 = .ok (.invokevirtual 129, 3) := by decide +kernel
theorem dX3_isHidden_21 : decode cX3_isHidden 21 = .ok (.ifCond .ne 28, 3) := by decide +kernel
theorem dX3_isHidden_24 : decode cX3_isHidden 24 = .ok (.aload_n 0, 1) := by decide +kernel
theorem dX3_isHidden_25 : decode cX3_isHidden 25 = .ok (.aload_n 0, 1) := by decide +kernel
theorem dX3_isHidden_26 : decode cX3_isHidden 26 = .ok (.getfield 9, 3) := by decide +kernel
theorem dX3_isHidden_29 : decode cX3_isHidden 29 = .ok (.iload_n 1, 1) := by decide +kernel
theorem dX3_isHidden_30 : decode cX3_isHidden 30 = .ok (.iaload, 1) := by decide +kernel
theorem dX3_isHidden_31 : decode cX3_isHidden 31 = .ok (.invokevirtual 144, 3) := by decide +kernel
theorem dX3_isHidden_34 : decode cX3_isHidden 34 = .ok (.aload_n 0, 1) := by decide +kernel
theorem dX3_isHidden_35 : decode cX3_isHidden 35 = .ok (.iload_n 3, 1) := by decide +kernel
theorem dX3_isHidden_36 : decode cX3_isHidden 36 = .ok (.invokevirtual 126, 3) := by decide +kernel
theorem dX3_isHidden_39 : decode cX3_isHidden 39 = .ok (.invokestatic 147, 3) := by decide +kernel
theorem dX3_isHidden_42 : decode cX3_isHidden 42 = .ok (.ifCond .ne 7, 3) := by decide +kernel
theorem dX3_isHidden_45 : decode cX3_isHidden 45 = .ok (.iconst 1, 1) := by decide +kernel
theorem dX3_isHidden_46 : decode cX3_isHidden 46 = .ok (.goto 4, 3) := by decide +kernel
theorem dX3_isHidden_49 : decode cX3_isHidden 49 = .ok (.iconst 0, 1) := by decide +kernel
theorem dX3_isHidden_50 : decode cX3_isHidden 50 = .ok (.ireturn, 1) := by decide +kernel
theorem dX4_init_0 : decode cX4_init 0 = .ok (.aload_n 0, 1) := by decide +kernel
theorem dX4_init_1 : decode cX4_init 1 = .ok (.invokespecial 3, 3) := by decide +kernel
theorem dX4_init_4 : decode cX4_init 4 = .ok (.aload_n 0, 1) := by decide +kernel
theorem dX4_init_5 : decode cX4_init 5 = .ok (.iconst 0, 1) := by decide +kernel
theorem dX4_init_6 : decode cX4_init 6 = .ok (.putfield 9, 3) := by decide +kernel
theorem dX4_init_9 : decode cX4_init 9 = .ok (.aload_n 0, 1) := by decide +kernel
theorem dX4_init_10 : decode cX4_init 10 = .ok (.iconst 0, 1) := by decide +kernel
theorem dX4_init_11 : decode cX4_init 11 = .ok (.putfield 15, 3) := by decide +kernel
theorem dX4_init_14 : decode cX4_init 14 = .ok (.aload_n 0, 1) := by decide +kernel
theorem dX4_init_15 : decode cX4_init 15 = .ok (.bipush 21, 2) := by decide +kernel
theorem dX4_init_17 : decode cX4_init 17 = .ok (.newarray .int, 2) := by decide +kernel
theorem dX4_init_19 : decode cX4_init 19 = .ok (.putfield 18, 3) := by decide +kernel
theorem dX4_init_22 : decode cX4_init 22 = .ok (.aload_n 0, 1) := by decide +kernel
theorem dX4_init_23 : decode cX4_init 23 = .ok (.iconst 0, 1) := by decide +kernel
theorem dX4_init_24 : decode cX4_init 24 = .ok (.putfield 22, 3) := by decide +kernel
theorem dX4_init_27 : decode cX4_init 27 = .ok (.aload_n 0, 1) := by decide +kernel
theorem dX4_init_28 : decode cX4_init 28 = .ok (.iconst 0, 1) := by decide +kernel
theorem dX4_init_29 : decode cX4_init 29 = .ok (.putfield 25, 3) := by decide +kernel
theorem dX4_init_32 : decode cX4_init 32 = .ok (.aload_n 0, 1) := by decide +kernel
theorem dX4_init_33 : decode cX4_init 33 = .ok (.iconst (-1), 1) := by decide +kernel
theorem dX4_init_34 : decode cX4_init 34 = .ok (.putfield 28, 3) := by decide +kernel
theorem dX4_init_37 : decode cX4_init 37 = .ok (.return_, 1) := by decide +kernel
theorem dX4_travel_0 : decode cX4_travel 0 = .ok (.aload_n 0, 1) := by decide +kernel
theorem dX4_travel_1 : decode cX4_travel 1 = .ok (.iconst 0, 1) := by decide +kernel
theorem dX4_travel_2 : decode cX4_travel 2 = .ok (.putfield 9, 3) := by decide +kernel
theorem dX4_travel_5 : decode cX4_travel 5 = .ok (.aload_n 0, 1) := by decide +kernel
theorem dX4_travel_6 : decode cX4_travel 6 = .ok (.iconst 0, 1) := by decide +kernel
theorem dX4_travel_7 : decode cX4_travel 7 = .ok (.putfield 15, 3) := by decide +kernel
theorem dX4_travel_10 : decode cX4_travel 10 = .ok (.aload_n 0, 1) := by decide +kernel
theorem dX4_travel_11 : decode cX4_travel 11 = .ok (.getfield 18, 3) := by decide +kernel
theorem dX4_travel_14 : decode cX4_travel 14 = .ok (.iconst 0, 1) := by decide +kernel
theorem dX4_travel_15 : decode cX4_travel 15 = .ok (.iload_n 3, 1) := by decide +kernel
theorem dX4_travel_16 : decode cX4_travel 16 = .ok (.iastore, 1) := by decide +kernel
theorem dX4_travel_17 : decode cX4_travel 17 = .ok (.aload_n 0, 1) := by decide +kernel
theorem dX4_travel_18 : decode cX4_travel 18 = .ok (.iload_n 3, 1) := by decide +kernel
theorem dX4_travel_19 : decode cX4_travel 19 = .ok (.putfield 22, 3) := by decide +kernel
theorem dX4_travel_22 : decode cX4_travel 22 = .ok (.aload_n 0, 1) := by decide +kernel
theorem dX4_travel_23 : decode cX4_travel 23 = .ok (.iconst (-1), 1) := by decide +kernel
theorem dX4_travel_24 : decode cX4_travel 24 = .ok (.putfield 28, 3) := by decide +kernel
theorem dX4_travel_27 : decode cX4_travel 27 = .ok (.aload_n 0, 1) := by decide +kernel
theorem dX4_travel_28 : decode cX4_travel 28 = .ok (.aload_n 1, 1) := by decide +kernel
theorem dX4_travel_29 : decode cX4_travel 29 = .ok (.getfield 31, 3) := by decide +kernel
theorem dX4_travel_32 : decode cX4_travel 32 = .ok (.iload_n 3, 1) := by decide +kernel
theorem dX4_travel_33 : decode cX4_travel 33 = .ok (.iaload, 1) := by decide +kernel
theorem dX4_travel_34 : decode cX4_travel 34 = .ok (.putfield 25, 3) := by decide +kernel
theorem dX4_travel_37 : decode cX4_travel 37 = .ok (.iconst 0, 1) := by decide +kernel
theorem dX4_travel_38 : decode cX4_travel 38 = .ok (.istore 5, 2) := by decide +kernel
theorem dX4_travel_40 : decode cX4_travel 40 = .ok (.iload 5, 2) := by decide +kernel
theorem dX4_travel_42 : decode cX4_travel 42 = .ok (.bipush 42, 2) := by decide +kernel
theorem dX4_travel_44 : decode cX4_travel 44 = .ok (.if_icmp .ge 85, 3) := by decide +kernel
theorem dX4_travel_47 : decode cX4_travel 47 = .ok (.aload_n 0, 1) := by decide +kernel
theorem dX4_travel_48 : decode cX4_travel 48 = .ok (.iload 4, 2) := by decide +kernel
theorem dX4_travel_50 : decode cX4_travel 50 = .ok (.invokevirtual 36, 3) := by decide +kernel
theorem dX4_travel_53 : decode cX4_travel 53 = .ok (.ifCond .ne 76, 3) := by decide +kernel
theorem dX4_travel_56 : decode cX4_travel 56 = .ok (.aload_n 0, 1) := by decide +kernel
theorem dX4_travel_57 : decode cX4_travel 57 = .ok (.aload_n 1, 1) := by decide +kernel
theorem dX4_travel_58 : decode cX4_travel 58 = .ok (.aload_n 2, 1) := by decide +kernel
theorem dX4_travel_59 : decode cX4_travel 59 = .ok (.iload 4, 2) := by decide +kernel
theorem dX4_travel_61 : decode cX4_travel 61 = .ok (.invokevirtual 40, 3) := by decide +kernel
theorem dX4_travel_64 : decode cX4_travel 64 = .ok (.istore 6, 2) := by decide +kernel
theorem dX4_travel_66 : decode cX4_travel 66 = .ok (.iload 6, 2) := by decide +kernel
theorem dX4_travel_68 : decode cX4_travel 68 = .ok (.ifCond .ge 5, 3) := by decide +kernel
theorem dX4_travel_71 : decode cX4_travel 71 = .ok (.iconst 1, 1) := by decide +kernel
theorem dX4_travel_72 : decode cX4_travel 72 = .ok (.ireturn, 1) := by decide +kernel
theorem dX4_travel_73 : decode cX4_travel 73 = .ok (.aload_n 2, 1) := by decide +kernel
theorem dX4_travel_74 : decode cX4_travel 74 = .ok (.getfield 44, 3) := by decide +kernel
theorem dX4_travel_77 : decode cX4_travel 77 = .ok (.iload 6, 2) := by decide +kernel
theorem dX4_travel_79 : decode cX4_travel 79 = .ok (.iaload, 1) := by decide +kernel
theorem dX4_travel_80 : decode cX4_travel 80 = .ok (.istore 7, 2) := by decide +kernel
theorem dX4_travel_82 : decode cX4_travel 82 = .ok (.aload_n 0, 1) := by decide +kernel
theorem dX4_travel_83 : decode cX4_travel 83 = .ok (.aload_n 1, 1) := by decide +kernel
theorem dX4_travel_84 : decode cX4_travel 84 = .ok (.iload 7, 2) := by decide +kernel
theorem dX4_travel_86 : decode cX4_travel 86 = .ok (.invokevirtual 49, 3) := by decide +kernel
theorem dX4_travel_89 : decode cX4_travel 89 = .ok (.istore 8, 2) := by decide +kernel
theorem dX4_travel_91 : decode cX4_travel 91 = .ok (.iload 8, 2) := by decide +kernel
theorem dX4_travel_93 : decode cX4_travel 93 = .ok (.ifCond .eq 6, 3) := by decide +kernel
theorem dX4_travel_96 : decode cX4_travel 96 = .ok (.iload 8, 2) := by decide +kernel
theorem dX4_travel_98 : decode cX4_travel 98 = .ok (.ireturn, 1) := by decide +kernel
theorem dX4_travel_99 : decode cX4_travel 99 = .ok (.aload_n 0, 1) := by decide +kernel
theorem dX4_travel_100 : decode cX4_travel 100 = .ok (.aload_n 1, 1) := by decide +kernel
theorem dX4_travel_101 : decode cX4_travel 101 = .ok (.iload 7, 2) := by decide +kernel
theorem dX4_travel_103 : decode cX4_travel 103 = .ok (.aload_n 2, 1) := by decide +kernel
theorem dX4_travel_104 : decode cX4_travel 104 = .ok (.getfield 53, 3) := by decide +kernel
theorem dX4_travel_107 : decode cX4_travel 107 = .ok (.iload 6, 2) := by decide +kernel
theorem dX4_travel_109 : decode cX4_travel 109 = .ok (.iaload, 1) := by decide +kernel
theorem dX4_travel_110 : decode cX4_travel 110 = .ok (.invokevirtual 56, 3) := by decide +kernel
theorem dX4_travel_113 : decode cX4_travel 113 = .ok (.aload_n 0, 1) := by decide +kernel
theorem dX4_travel_114 : decode cX4_travel 114 = .ok (.aload_n 1, 1) := by decide +kernel
theorem dX4_travel_115 : decode cX4_travel 115 = .ok (.getfield 31, 3) := by decide +kernel
theorem dX4_travel_118 : decode cX4_travel 118 = .ok (.iload_n 3, 1) := by decide +kernel
theorem dX4_travel_119 : decode cX4_travel 119 = .ok (.iaload, 1) := by decide +kernel
theorem dX4_travel_120 : decode cX4_travel 120 = .ok (.invokevirtual 60, 3) := by decide +kernel
theorem dX4_travel_123 : decode cX4_travel 123 = .ok (.iinc 5 1, 3) := by decide +kernel
theorem dX4_travel_126 : decode cX4_travel 126 = .ok (.goto (-86), 3) := by decide +kernel
theorem dX4_travel_129 : decode cX4_travel 129 = .ok (.aload_n 0, 1) := by decide +kernel
theorem dX4_travel_130 : decode cX4_travel 130 = .ok (.iload 4, 2) := by decide +kernel
theorem dX4_travel_132 : decode cX4_travel 132 = .ok (.invokevirtual 36, 3) := by decide +kernel
theorem dX4_travel_135 : decode cX4_travel 135 = .ok (.ifCond .eq 7, 3) := by decide +kernel
theorem dX4_travel_138 : decode cX4_travel 138 = .ok (.iconst 0, 1) := by decide +kernel
theorem dX4_travel_139 : decode cX4_travel 139 = .ok (.goto 4, 3) := by decide +kernel
theorem dX4_travel_142 : decode cX4_travel 142 = .ok (.iconst 4, 1) := by decide +kernel
theorem dX4_travel_143 : decode cX4_travel 143 = .ok (.ireturn, 1) := by decide +kernel
theorem dX4_isDelivered_0 : decode cX4_isDelivered 0 = .ok (.aload_n 0, 1) := by decide +kernel
theorem dX4_isDelivered_1 : decode cX4_isDelivered 1 = .ok (.getfield 22, 3) := by decide +kernel
theorem dX4_isDelivered_4 : decode cX4_isDelivered 4 = .ok (.iload_n 1, 1) := by decide +kernel
theorem dX4_isDelivered_5 : decode cX4_isDelivered 5 = .ok (.if_icmp .ne 15, 3) := by decide +kernel
theorem dX4_isDelivered_8 : decode cX4_isDelivered 8 = .ok (.aload_n 0, 1) := by decide +kernel
theorem dX4_isDelivered_9 : decode cX4_isDelivered 9 = .ok (.getfield 28, 3) := by decide +kernel
theorem dX4_isDelivered_12 : decode cX4_isDelivered 12 = .ok (.iconst (-1), 1) := by decide +kernel
theorem dX4_isDelivered_13 : decode cX4_isDelivered 13 = .ok (.if_icmp .ne 7, 3) := by decide +kernel
theorem dX4_isDelivered_16 : decode cX4_isDelivered 16 = .ok (.iconst 1, 1) := by decide +kernel
theorem dX4_isDelivered_17 : decode cX4_isDelivered 17 = .ok (.goto 4, 3) := by decide +kernel
theorem dX4_isDelivered_20 : decode cX4_isDelivered 20 = .ok (.iconst 0, 1) := by decide +kernel
theorem dX4_isDelivered_21 : decode cX4_isDelivered 21 = .ok (.ireturn, 1) := by decide +kernel
theorem dX4_chooseEdge_0 : decode cX4_chooseEdge 0 = .ok (.aload_n 2, 1) := by decide +kernel
theorem dX4_chooseEdge_1 : decode cX4_chooseEdge 1 = .ok (.aload_n 1, 1) := by decide +kernel
theorem dX4_chooseEdge_2 : decode cX4_chooseEdge 2 = .ok (.aload_n 0, 1) := by decide +kernel
theorem dX4_chooseEdge_3 : decode cX4_chooseEdge 3 = .ok (.getfield 22, 3) := by decide +kernel
theorem dX4_chooseEdge_6 : decode cX4_chooseEdge 6 = .ok (.aload_n 0, 1) := by decide +kernel
theorem dX4_chooseEdge_7 : decode cX4_chooseEdge 7 = .ok (.getfield 25, 3) := by decide +kernel
theorem dX4_chooseEdge_10 : decode cX4_chooseEdge 10 = .ok (.aload_n 0, 1) := by decide +kernel
theorem dX4_chooseEdge_11 : decode cX4_chooseEdge 11 = .ok (.getfield 28, 3) := by decide +kernel
theorem dX4_chooseEdge_14 : decode cX4_chooseEdge 14 = .ok (.iconst (-1), 1) := by decide +kernel
theorem dX4_chooseEdge_15 : decode cX4_chooseEdge 15 = .ok (.if_icmp .ne 7, 3) := by decide +kernel
theorem dX4_chooseEdge_18 : decode cX4_chooseEdge 18 = .ok (.iconst 1, 1) := by decide +kernel
theorem dX4_chooseEdge_19 : decode cX4_chooseEdge 19 = .ok (.goto 4, 3) := by decide +kernel
theorem dX4_chooseEdge_22 : decode cX4_chooseEdge 22 = .ok (.iconst 0, 1) := by decide +kernel
theorem dX4_chooseEdge_23 : decode cX4_chooseEdge 23 = .ok (.invokevirtual 64, 3) := by decide +kernel
theorem dX4_chooseEdge_26 : decode cX4_chooseEdge 26 = .ok (.aload_n 2, 1) := by decide +kernel
theorem dX4_chooseEdge_27 : decode cX4_chooseEdge 27 = .ok (.aload_n 0, 1) := by decide +kernel
theorem dX4_chooseEdge_28 : decode cX4_chooseEdge 28 = .ok (.getfield 28, 3) := by decide +kernel
theorem dX4_chooseEdge_31 : decode cX4_chooseEdge 31 = .ok (.iconst (-1), 1) := by decide +kernel
theorem dX4_chooseEdge_32 : decode cX4_chooseEdge 32 = .ok (.if_icmp .ne 7, 3) := by decide +kernel
theorem dX4_chooseEdge_35 : decode cX4_chooseEdge 35 = .ok (.iload_n 3, 1) := by decide +kernel
theorem dX4_chooseEdge_36 : decode cX4_chooseEdge 36 = .ok (.goto 7, 3) := by decide +kernel
theorem dX4_chooseEdge_39 : decode cX4_chooseEdge 39 = .ok (.aload_n 0, 1) := by decide +kernel
theorem dX4_chooseEdge_40 : decode cX4_chooseEdge 40 = .ok (.getfield 28, 3) := by decide +kernel
theorem dX4_chooseEdge_43 : decode cX4_chooseEdge 43 = .ok (.invokevirtual 68, 3) := by decide +kernel
theorem dX4_chooseEdge_46 : decode cX4_chooseEdge 46 = .ok (.aload_n 2, 1) := by decide +kernel
theorem dX4_chooseEdge_47 : decode cX4_chooseEdge 47 = .ok (.aload_n 0, 1) := by decide +kernel
theorem dX4_chooseEdge_48 : decode cX4_chooseEdge 48 = .ok (.getfield 22, 3) := by decide +kernel
theorem dX4_chooseEdge_51 : decode cX4_chooseEdge 51 = .ok (.invokevirtual 71, 3) := by decide +kernel
theorem dX4_chooseEdge_54 : decode cX4_chooseEdge 54 = .ok (.ireturn, 1) := by decide +kernel
theorem dX4_obstacleAt_0 : decode cX4_obstacleAt 0 = .ok (.aload_n 1, 1) := by decide +kernel
theorem dX4_obstacleAt_1 : decode cX4_obstacleAt 1 = .ok (.iload_n 2, 1) := by decide +kernel
theorem dX4_obstacleAt_2 : decode cX4_obstacleAt 2 = .ok (.invokevirtual 75, 3) := by decide +kernel
theorem dX4_obstacleAt_5 : decode cX4_obstacleAt 5 = .ok (.ifCond .ne 5, 3) := by decide +kernel
theorem dX4_obstacleAt_8 : decode cX4_obstacleAt 8 = .ok (.iconst 2, 1) := by decide +kernel
theorem dX4_obstacleAt_9 : decode cX4_obstacleAt 9 = .ok (.ireturn, 1) := by decide +kernel
theorem dX4_obstacleAt_10 : decode cX4_obstacleAt 10 = .ok (.iload_n 2, 1) := by decide +kernel
theorem dX4_obstacleAt_11 : decode cX4_obstacleAt 11 = .ok (.bipush 32, 2) := by decide +kernel
theorem dX4_obstacleAt_13 : decode cX4_obstacleAt 13 = .ok (.if_icmp .lt 5, 3) := by decide +kernel
theorem dX4_obstacleAt_16 : decode cX4_obstacleAt 16 = .ok (.iconst 0, 1) := by decide +kernel
theorem dX4_obstacleAt_17 : decode cX4_obstacleAt 17 = .ok (.ireturn, 1) := by decide +kernel
theorem dX4_obstacleAt_18 : decode cX4_obstacleAt 18 = .ok (.aload_n 1, 1) := by decide +kernel
theorem dX4_obstacleAt_19 : decode cX4_obstacleAt 19 = .ok (.aload_n 0, 1) := by decide +kernel
theorem dX4_obstacleAt_20 : decode cX4_obstacleAt 20 = .ok (.getfield 25, 3) := by decide +kernel
theorem dX4_obstacleAt_23 : decode cX4_obstacleAt 23 = .ok (.invokevirtual 78, 3) := by decide +kernel
theorem dX4_obstacleAt_26 : decode cX4_obstacleAt 26 = .ok (.aload_n 1, 1) := by decide +kernel
theorem dX4_obstacleAt_27 : decode cX4_obstacleAt 27 = .ok (.iload_n 2, 1) := by decide +kernel
theorem dX4_obstacleAt_28 : decode cX4_obstacleAt 28 = .ok (.bipush 16, 2) := by decide +kernel
theorem dX4_obstacleAt_30 : decode cX4_obstacleAt 30 = .ok (.isub, 1) := by decide +kernel
theorem dX4_obstacleAt_31 : decode cX4_obstacleAt 31 = .ok (.invokevirtual 81, 3) := by decide +kernel
theorem dX4_obstacleAt_34 : decode cX4_obstacleAt 34 = .ok (.invokestatic 84, 3) := by decide +kernel
theorem dX4_obstacleAt_37 : decode cX4_obstacleAt 37 = .ok (.istore_n 3, 1) := by decide +kernel
theorem dX4_obstacleAt_38 : decode cX4_obstacleAt 38 = .ok (.aload_n 1, 1) := by decide +kernel
theorem dX4_obstacleAt_39 : decode cX4_obstacleAt 39 = .ok (.iload_n 2, 1) := by decide +kernel
theorem dX4_obstacleAt_40 : decode cX4_obstacleAt 40 = .ok (.invokevirtual 88, 3) := by decide +kernel
theorem dX4_obstacleAt_43 : decode cX4_obstacleAt 43 = .ok (.ifCond .eq 9, 3) := by decide +kernel
theorem dX4_obstacleAt_46 : decode cX4_obstacleAt 46 = .ok (.iload_n 3, 1) := by decide +kernel
theorem dX4_obstacleAt_47 : decode cX4_obstacleAt 47 = .ok (.ifCond .ne 5, 3) := by decide +kernel
theorem dX4_obstacleAt_50 : decode cX4_obstacleAt 50 = .ok (.iconst 3, 1) := by decide +kernel
theorem dX4_obstacleAt_51 : decode cX4_obstacleAt 51 = .ok (.ireturn, 1) := by decide +kernel
theorem dX4_obstacleAt_52 : decode cX4_obstacleAt 52 = .ok (.aload_n 0, 1) := by decide +kernel
theorem dX4_obstacleAt_53 : decode cX4_obstacleAt 53 = .ok (.getfield 9, 3) := by decide +kernel
theorem dX4_obstacleAt_56 : decode cX4_obstacleAt 56 = .ok (.bipush 20, 2) := by decide +kernel
theorem dX4_obstacleAt_58 : decode cX4_obstacleAt 58 = .ok (.if_icmp .lt 7, 3) := by decide +kernel
theorem dX4_obstacleAt_61 : decode cX4_obstacleAt 61 = .ok (.iconst 4, 1) := by decide +kernel
theorem dX4_obstacleAt_62 : decode cX4_obstacleAt 62 = .ok (.goto 4, 3) := by decide +kernel
theorem dX4_obstacleAt_65 : decode cX4_obstacleAt 65 = .ok (.iconst 0, 1) := by decide +kernel
theorem dX4_obstacleAt_66 : decode cX4_obstacleAt 66 = .ok (.ireturn, 1) := by decide +kernel
theorem dX4_move_0 : decode cX4_move 0 = .ok (.iload_n 2, 1) := by decide +kernel
theorem dX4_move_1 : decode cX4_move 1 = .ok (.bipush 32, 2) := by decide +kernel
theorem dX4_move_3 : decode cX4_move 3 = .ok (.if_icmp .lt 22, 3) := by decide +kernel
theorem dX4_move_6 : decode cX4_move 6 = .ok (.aload_n 0, 1) := by decide +kernel
theorem dX4_move_7 : decode cX4_move 7 = .ok (.iload_n 3, 1) := by decide +kernel
theorem dX4_move_8 : decode cX4_move 8 = .ok (.putfield 28, 3) := by decide +kernel
theorem dX4_move_11 : decode cX4_move 11 = .ok (.aload_n 0, 1) := by decide +kernel
theorem dX4_move_12 : decode cX4_move 12 = .ok (.aload_n 1, 1) := by decide +kernel
theorem dX4_move_13 : decode cX4_move 13 = .ok (.getfield 31, 3) := by decide +kernel
theorem dX4_move_16 : decode cX4_move 16 = .ok (.aload_n 0, 1) := by decide +kernel
theorem dX4_move_17 : decode cX4_move 17 = .ok (.getfield 22, 3) := by decide +kernel
theorem dX4_move_20 : decode cX4_move 20 = .ok (.iaload, 1) := by decide +kernel
theorem dX4_move_21 : decode cX4_move 21 = .ok (.putfield 25, 3) := by decide +kernel
theorem dX4_move_24 : decode cX4_move 24 = .ok (.return_, 1) := by decide +kernel
theorem dX4_move_25 : decode cX4_move 25 = .ok (.aload_n 0, 1) := by decide +kernel
theorem dX4_move_26 : decode cX4_move 26 = .ok (.dup, 1) := by decide +kernel
theorem dX4_move_27 : decode cX4_move 27 = .ok (.getfield 15, 3) := by decide +kernel
theorem dX4_move_30 : decode cX4_move 30 = .ok (.aload_n 1, 1) := by decide +kernel
theorem dX4_move_31 : decode cX4_move 31 = .ok (.getfield 91, 3) := by decide +kernel
theorem dX4_move_34 : decode cX4_move 34 = .ok (.iload_n 2, 1) := by decide +kernel
theorem dX4_move_35 : decode cX4_move 35 = .ok (.iaload, 1) := by decide +kernel
theorem dX4_move_36 : decode cX4_move 36 = .ok (.invokestatic 94, 3) := by decide +kernel
theorem dX4_move_39 : decode cX4_move 39 = .ok (.iadd, 1) := by decide +kernel
theorem dX4_move_40 : decode cX4_move 40 = .ok (.putfield 15, 3) := by decide +kernel
theorem dX4_move_43 : decode cX4_move 43 = .ok (.aload_n 0, 1) := by decide +kernel
theorem dX4_move_44 : decode cX4_move 44 = .ok (.dup, 1) := by decide +kernel
theorem dX4_move_45 : decode cX4_move 45 = .ok (.getfield 9, 3) := by decide +kernel
theorem dX4_move_48 : decode cX4_move 48 = .ok (.iconst 1, 1) := by decide +kernel
theorem dX4_move_49 : decode cX4_move 49 = .ok (.iadd, 1) := by decide +kernel
theorem dX4_move_50 : decode cX4_move 50 = .ok (.putfield 9, 3) := by decide +kernel
theorem dX4_move_53 : decode cX4_move 53 = .ok (.aload_n 0, 1) := by decide +kernel
theorem dX4_move_54 : decode cX4_move 54 = .ok (.getfield 18, 3) := by decide +kernel
theorem dX4_move_57 : decode cX4_move 57 = .ok (.aload_n 0, 1) := by decide +kernel
theorem dX4_move_58 : decode cX4_move 58 = .ok (.getfield 9, 3) := by decide +kernel
theorem dX4_move_61 : decode cX4_move 61 = .ok (.iload_n 3, 1) := by decide +kernel
theorem dX4_move_62 : decode cX4_move 62 = .ok (.iastore, 1) := by decide +kernel
theorem dX4_move_63 : decode cX4_move 63 = .ok (.aload_n 0, 1) := by decide +kernel
theorem dX4_move_64 : decode cX4_move 64 = .ok (.iload_n 3, 1) := by decide +kernel
theorem dX4_move_65 : decode cX4_move 65 = .ok (.putfield 22, 3) := by decide +kernel
theorem dX4_move_68 : decode cX4_move 68 = .ok (.return_, 1) := by decide +kernel
theorem dX4_leaveTunnelAtExit_0 : decode cX4_leaveTunnelAtExit 0 = .ok (.aload_n 0, 1) := by decide +kernel
theorem dX4_leaveTunnelAtExit_1 : decode cX4_leaveTunnelAtExit 1 = .ok (.getfield 22, 3) := by decide +kernel
theorem dX4_leaveTunnelAtExit_4 : decode cX4_leaveTunnelAtExit 4 = .ok (.aload_n 0, 1) := by decide +kernel
theorem dX4_leaveTunnelAtExit_5 : decode cX4_leaveTunnelAtExit 5 = .ok (.getfield 28, 3) := by decide +kernel
theorem dX4_leaveTunnelAtExit_8 : decode cX4_leaveTunnelAtExit 8 = .ok (.if_icmp .ne 13, 3) := by decide +kernel
theorem dX4_leaveTunnelAtExit_11 : decode cX4_leaveTunnelAtExit 11 = .ok (.aload_n 0, 1) := by decide +kernel
theorem dX4_leaveTunnelAtExit_12 : decode cX4_leaveTunnelAtExit 12 = .ok (.iconst (-1), 1) := by decide +kernel
theorem dX4_leaveTunnelAtExit_13 : decode cX4_leaveTunnelAtExit 13 = .ok (.putfield 28, 3) := by decide +kernel
theorem dX4_leaveTunnelAtExit_16 : decode cX4_leaveTunnelAtExit 16 = .ok (.aload_n 0, 1) := by decide +kernel
theorem dX4_leaveTunnelAtExit_17 : decode cX4_leaveTunnelAtExit 17 = .ok (.iload_n 1, 1) := by decide +kernel
theorem dX4_leaveTunnelAtExit_18 : decode cX4_leaveTunnelAtExit 18 = .ok (.putfield 25, 3) := by decide +kernel
theorem dX4_leaveTunnelAtExit_21 : decode cX4_leaveTunnelAtExit 21 = .ok (.return_, 1) := by decide +kernel
theorem dX5_init_0 : decode cX5_init 0 = .ok (.aload_n 0, 1) := by decide +kernel
theorem dX5_init_1 : decode cX5_init 1 = .ok (.invokespecial 3, 3) := by decide +kernel
theorem dX5_init_4 : decode cX5_init 4 = .ok (.aload_n 0, 1) := by decide +kernel
theorem dX5_init_5 : decode cX5_init 5 = .ok (.bipush 120, 2) := by decide +kernel
theorem dX5_init_7 : decode cX5_init 7 = .ok (.newarray .char, 2) := by decide +kernel
theorem dX5_init_9 : decode cX5_init 9 = .ok (.putfield 9, 3) := by decide +kernel
theorem dX5_init_12 : decode cX5_init 12 = .ok (.aload_n 0, 1) := by decide +kernel
theorem dX5_init_13 : decode cX5_init 13 = .ok (.iconst 0, 1) := by decide +kernel
theorem dX5_init_14 : decode cX5_init 14 = .ok (.putfield 15, 3) := by decide +kernel
theorem dX5_init_17 : decode cX5_init 17 = .ok (.aload_n 0, 1) := by decide +kernel
theorem dX5_init_18 : decode cX5_init 18 = .ok (.iconst 0, 1) := by decide +kernel
theorem dX5_init_19 : decode cX5_init 19 = .ok (.putfield 19, 3) := by decide +kernel
theorem dX5_init_22 : decode cX5_init 22 = .ok (.aload_n 0, 1) := by decide +kernel
theorem dX5_init_23 : decode cX5_init 23 = .ok (.iconst 0, 1) := by decide +kernel
theorem dX5_init_24 : decode cX5_init 24 = .ok (.putfield 22, 3) := by decide +kernel
theorem dX5_init_27 : decode cX5_init 27 = .ok (.aload_n 0, 1) := by decide +kernel
theorem dX5_init_28 : decode cX5_init 28 = .ok (.iconst 0, 1) := by decide +kernel
theorem dX5_init_29 : decode cX5_init 29 = .ok (.putfield 25, 3) := by decide +kernel
theorem dX5_init_32 : decode cX5_init 32 = .ok (.aload_n 0, 1) := by decide +kernel
theorem dX5_init_33 : decode cX5_init 33 = .ok (.iconst (-1), 1) := by decide +kernel
theorem dX5_init_34 : decode cX5_init 34 = .ok (.putfield 28, 3) := by decide +kernel
theorem dX5_init_37 : decode cX5_init 37 = .ok (.aload_n 0, 1) := by decide +kernel
theorem dX5_init_38 : decode cX5_init 38 = .ok (.iconst 0, 1) := by decide +kernel
theorem dX5_init_39 : decode cX5_init 39 = .ok (.putfield 31, 3) := by decide +kernel
theorem dX5_init_42 : decode cX5_init 42 = .ok (.aload_n 0, 1) := by decide +kernel
theorem dX5_init_43 : decode cX5_init 43 = .ok (.iconst 0, 1) := by decide +kernel
theorem dX5_init_44 : decode cX5_init 44 = .ok (.putfield 34, 3) := by decide +kernel
theorem dX5_init_47 : decode cX5_init 47 = .ok (.aload_n 0, 1) := by decide +kernel
theorem dX5_init_48 : decode cX5_init 48 = .ok (.iconst 0, 1) := by decide +kernel
theorem dX5_init_49 : decode cX5_init 49 = .ok (.putfield 37, 3) := by decide +kernel
theorem dX5_init_52 : decode cX5_init 52 = .ok (.aload_n 0, 1) := by decide +kernel
theorem dX5_init_53 : decode cX5_init 53 = .ok (.iconst 0, 1) := by decide +kernel
theorem dX5_init_54 : decode cX5_init 54 = .ok (.putfield 40, 3) := by decide +kernel
theorem dX5_init_57 : decode cX5_init 57 = .ok (.return_, 1) := by decide +kernel
theorem dX5_readNetwork_0 : decode cX5_readNetwork 0 = .ok (.aload_n 1, 1) := by decide +kernel
theorem dX5_readNetwork_1 : decode cX5_readNetwork 1 = .ok (.invokevirtual 43, 3) := by decide +kernel
theorem dX5_readNetwork_4 : decode cX5_readNetwork 4 = .ok (.aload_n 0, 1) := by decide +kernel
theorem dX5_readNetwork_5 : decode cX5_readNetwork 5 = .ok (.iconst 0, 1) := by decide +kernel
theorem dX5_readNetwork_6 : decode cX5_readNetwork 6 = .ok (.putfield 22, 3) := by decide +kernel
theorem dX5_readNetwork_9 : decode cX5_readNetwork 9 = .ok (.aload_n 0, 1) := by decide +kernel
theorem dX5_readNetwork_10 : decode cX5_readNetwork 10 = .ok (.iconst (-1), 1) := by decide +kernel
theorem dX5_readNetwork_11 : decode cX5_readNetwork 11 = .ok (.putfield 28, 3) := by decide +kernel
theorem dX5_readNetwork_14 : decode cX5_readNetwork 14 = .ok (.iconst 0, 1) := by decide +kernel
theorem dX5_readNetwork_15 : decode cX5_readNetwork 15 = .ok (.istore_n 2, 1) := by decide +kernel
theorem dX5_readNetwork_16 : decode cX5_readNetwork 16 = .ok (.aload_n 0, 1) := by decide +kernel
theorem dX5_readNetwork_17 : decode cX5_readNetwork 17 = .ok (.invokevirtual 48, 3) := by decide +kernel
theorem dX5_readNetwork_20 : decode cX5_readNetwork 20 = .ok (.iload_n 2, 1) := by decide +kernel
theorem dX5_readNetwork_21 : decode cX5_readNetwork 21 = .ok (.bipush 120, 2) := by decide +kernel
theorem dX5_readNetwork_23 : decode cX5_readNetwork 23 = .ok (.if_icmp .ge 46, 3) := by decide +kernel
theorem dX5_readNetwork_26 : decode cX5_readNetwork 26 = .ok (.aload_n 0, 1) := by decide +kernel
theorem dX5_readNetwork_27 : decode cX5_readNetwork 27 = .ok (.getfield 25, 3) := by decide +kernel
theorem dX5_readNetwork_30 : decode cX5_readNetwork 30 = .ok (.ifCond .eq 39, 3) := by decide +kernel
theorem dX5_readNetwork_33 : decode cX5_readNetwork 33 = .ok (.aload_n 0, 1) := by decide +kernel
theorem dX5_readNetwork_34 : decode cX5_readNetwork 34 = .ok (.aload_n 1, 1) := by decide +kernel
theorem dX5_readNetwork_35 : decode cX5_readNetwork 35 = .ok (.invokevirtual 51, 3) := by decide +kernel
theorem dX5_readNetwork_38 : decode cX5_readNetwork 38 = .ok (.aload_n 0, 1) := by decide +kernel
theorem dX5_readNetwork_39 : decode cX5_readNetwork 39 = .ok (.getfield 28, 3) := by decide +kernel
theorem dX5_readNetwork_42 : decode cX5_readNetwork 42 = .ok (.iconst (-1), 1) := by decide +kernel
theorem dX5_readNetwork_43 : decode cX5_readNetwork 43 = .ok (.if_icmp .eq 11, 3) := by decide +kernel
theorem dX5_readNetwork_46 : decode cX5_readNetwork 46 = .ok (.bipush (-10), 2) := by decide +kernel
theorem dX5_readNetwork_48 : decode cX5_readNetwork 48 = .ok (.aload_n 0, 1) := by decide +kernel
theorem dX5_readNetwork_49 : decode cX5_readNetwork 49 = .ok (.getfield 28, 3) := by decide +kernel
theorem dX5_readNetwork_52 : decode cX5_readNetwork 52 = .ok (.isub, 1) := by decide +kernel
theorem dX5_readNetwork_53 : decode cX5_readNetwork 53 = .ok (.ireturn, 1) := by decide +kernel
theorem dX5_readNetwork_54 : decode cX5_readNetwork 54 = .ok (.aload_n 0, 1) := by decide +kernel
theorem dX5_readNetwork_55 : decode cX5_readNetwork 55 = .ok (.aload_n 1, 1) := by decide +kernel
theorem dX5_readNetwork_56 : decode cX5_readNetwork 56 = .ok (.invokevirtual 55, 3) := by decide +kernel
theorem dX5_readNetwork_59 : decode cX5_readNetwork 59 = .ok (.iinc 2 1, 3) := by decide +kernel
theorem dX5_readNetwork_62 : decode cX5_readNetwork 62 = .ok (.aload_n 0, 1) := by decide +kernel
theorem dX5_readNetwork_63 : decode cX5_readNetwork 63 = .ok (.invokevirtual 48, 3) := by decide +kernel
theorem dX5_readNetwork_66 : decode cX5_readNetwork 66 = .ok (.goto (-46), 3) := by decide +kernel
theorem dX5_readNetwork_69 : decode cX5_readNetwork 69 = .ok (.iload_n 2, 1) := by decide +kernel
theorem dX5_readNetwork_70 : decode cX5_readNetwork 70 = .ok (.ireturn, 1) := by decide +kernel
theorem dX5_addThing_0 : decode cX5_addThing 0 = .ok (.aload_n 0, 1) := by decide +kernel
theorem dX5_addThing_1 : decode cX5_addThing 1 = .ok (.getfield 31, 3) := by decide +kernel
theorem dX5_addThing_4 : decode cX5_addThing 4 = .ok (.tableswitch 127 1 5 #[36, 48, 69, 90, 107], 36) := by decide +kernel
theorem dX5_addThing_40 : decode cX5_addThing 40 = .ok (.aload_n 1, 1) := by decide +kernel
theorem dX5_addThing_41 : decode cX5_addThing 41 = .ok (.aload_n 0, 1) := by decide +kernel
theorem dX5_addThing_42 : decode cX5_addThing 42 = .ok (.getfield 34, 3) := by decide +kernel
theorem dX5_addThing_45 : decode cX5_addThing 45 = .ok (.invokevirtual 58, 3) := by decide +kernel
theorem dX5_addThing_48 : decode cX5_addThing 48 = .ok (.pop, 1) := by decide +kernel
theorem dX5_addThing_49 : decode cX5_addThing 49 = .ok (.goto 82, 3) := by decide +kernel
theorem dX5_addThing_52 : decode cX5_addThing 52 = .ok (.aload_n 1, 1) := by decide +kernel
theorem dX5_addThing_53 : decode cX5_addThing 53 = .ok (.aload_n 0, 1) := by decide +kernel
theorem dX5_addThing_54 : decode cX5_addThing 54 = .ok (.getfield 34, 3) := by decide +kernel
theorem dX5_addThing_57 : decode cX5_addThing 57 = .ok (.aload_n 0, 1) := by decide +kernel
theorem dX5_addThing_58 : decode cX5_addThing 58 = .ok (.getfield 37, 3) := by decide +kernel
theorem dX5_addThing_61 : decode cX5_addThing 61 = .ok (.aload_n 0, 1) := by decide +kernel
theorem dX5_addThing_62 : decode cX5_addThing 62 = .ok (.getfield 40, 3) := by decide +kernel
theorem dX5_addThing_65 : decode cX5_addThing 65 = .ok (.iconst 0, 1) := by decide +kernel
theorem dX5_addThing_66 : decode cX5_addThing 66 = .ok (.invokevirtual 62, 3) := by decide +kernel
theorem dX5_addThing_69 : decode cX5_addThing 69 = .ok (.pop, 1) := by decide +kernel
theorem dX5_addThing_70 : decode cX5_addThing 70 = .ok (.goto 61, 3) := by decide +kernel
theorem dX5_addThing_73 : decode cX5_addThing 73 = .ok (.aload_n 1, 1) := by decide +kernel
theorem dX5_addThing_74 : decode cX5_addThing 74 = .ok (.aload_n 0, 1) := by decide +kernel
theorem dX5_addThing_75 : decode cX5_addThing 75 = .ok (.getfield 34, 3) := by decide +kernel
theorem dX5_addThing_78 : decode cX5_addThing 78 = .ok (.aload_n 0, 1) := by decide +kernel
theorem dX5_addThing_79 : decode cX5_addThing 79 = .ok (.getfield 37, 3) := by decide +kernel
theorem dX5_addThing_82 : decode cX5_addThing 82 = .ok (.aload_n 0, 1) := by decide +kernel
theorem dX5_addThing_83 : decode cX5_addThing 83 = .ok (.getfield 40, 3) := by decide +kernel
theorem dX5_addThing_86 : decode cX5_addThing 86 = .ok (.iconst 1, 1) := by decide +kernel
theorem dX5_addThing_87 : decode cX5_addThing 87 = .ok (.invokevirtual 62, 3) := by decide +kernel
theorem dX5_addThing_90 : decode cX5_addThing 90 = .ok (.pop, 1) := by decide +kernel
theorem dX5_addThing_91 : decode cX5_addThing 91 = .ok (.goto 40, 3) := by decide +kernel
theorem dX5_addThing_94 : decode cX5_addThing 94 = .ok (.aload_n 1, 1) := by decide +kernel
theorem dX5_addThing_95 : decode cX5_addThing 95 = .ok (.aload_n 0, 1) := by decide +kernel
theorem dX5_addThing_96 : decode cX5_addThing 96 = .ok (.getfield 34, 3) := by decide +kernel
theorem dX5_addThing_99 : decode cX5_addThing 99 = .ok (.aload_n 0, 1) := by decide +kernel
theorem dX5_addThing_100 : decode cX5_addThing 100 = .ok (.getfield 37, 3) := by decide +kernel
theorem dX5_addThing_103 : decode cX5_addThing 103 = .ok (.iconst 1, 1) := by decide +kernel
theorem dX5_addThing_104 : decode cX5_addThing 104 = .ok (.invokevirtual 66, 3) := by decide +kernel
theorem dX5_addThing_107 : decode cX5_addThing 107 = .ok (.pop, 1) := by decide +kernel
theorem dX5_addThing_108 : decode cX5_addThing 108 = .ok (.goto 23, 3) := by decide +kernel
theorem dX5_addThing_111 : decode cX5_addThing 111 = .ok (.aload_n 1, 1) := by decide +kernel
theorem dX5_addThing_112 : decode cX5_addThing 112 = .ok (.aload_n 0, 1) := by decide +kernel
theorem dX5_addThing_113 : decode cX5_addThing 113 = .ok (.getfield 34, 3) := by decide +kernel
theorem dX5_addThing_116 : decode cX5_addThing 116 = .ok (.aload_n 0, 1) := by decide +kernel
theorem dX5_addThing_117 : decode cX5_addThing 117 = .ok (.getfield 37, 3) := by decide +kernel
theorem dX5_addThing_120 : decode cX5_addThing 120 = .ok (.aload_n 0, 1) := by decide +kernel
theorem dX5_addThing_121 : decode cX5_addThing 121 = .ok (.getfield 40, 3) := by decide +kernel
theorem dX5_addThing_124 : decode cX5_addThing 124 = .ok (.invokevirtual 70, 3) := by decide +kernel
theorem dX5_addThing_127 : decode cX5_addThing 127 = .ok (.pop, 1) := by decide +kernel
theorem dX5_addThing_128 : decode cX5_addThing 128 = .ok (.goto 3, 3) := by decide +kernel
theorem dX5_addThing_131 : decode cX5_addThing 131 = .ok (.return_, 1) := by decide +kernel
theorem dX5_readItem_0 : decode cX5_readItem 0 = .ok (.aload_n 0, 1) := by decide +kernel
theorem dX5_readItem_1 : decode cX5_readItem 1 = .ok (.aload_n 0, 1) := by decide +kernel
theorem dX5_readItem_2 : decode cX5_readItem 2 = .ok (.invokevirtual 73, 3) := by decide +kernel
theorem dX5_readItem_5 : decode cX5_readItem 5 = .ok (.putfield 31, 3) := by decide +kernel
theorem dX5_readItem_8 : decode cX5_readItem 8 = .ok (.aload_n 0, 1) := by decide +kernel
theorem dX5_readItem_9 : decode cX5_readItem 9 = .ok (.getfield 31, 3) := by decide +kernel
theorem dX5_readItem_12 : decode cX5_readItem 12 = .ok (.tableswitch 123 1 5 #[36, 44, 68, 92, 100], 36) := by decide +kernel
theorem dX5_readItem_48 : decode cX5_readItem 48 = .ok (.aload_n 0, 1) := by decide +kernel
theorem dX5_readItem_49 : decode cX5_readItem 49 = .ok (.aload_n 1, 1) := by decide +kernel
theorem dX5_readItem_50 : decode cX5_readItem 50 = .ok (.invokevirtual 77, 3) := by decide +kernel
theorem dX5_readItem_53 : decode cX5_readItem 53 = .ok (.goto 86, 3) := by decide +kernel
theorem dX5_readItem_56 : decode cX5_readItem 56 = .ok (.aload_n 0, 1) := by decide +kernel
theorem dX5_readItem_57 : decode cX5_readItem 57 = .ok (.aload_n 1, 1) := by decide +kernel
theorem dX5_readItem_58 : decode cX5_readItem 58 = .ok (.aload_n 1, 1) := by decide +kernel
theorem dX5_readItem_59 : decode cX5_readItem 59 = .ok (.getfield 80, 3) := by decide +kernel
theorem dX5_readItem_62 : decode cX5_readItem 62 = .ok (.bipush 16, 2) := by decide +kernel
theorem dX5_readItem_64 : decode cX5_readItem 64 = .ok (.if_icmp .ge 7, 3) := by decide +kernel
theorem dX5_readItem_67 : decode cX5_readItem 67 = .ok (.iconst 1, 1) := by decide +kernel
theorem dX5_readItem_68 : decode cX5_readItem 68 = .ok (.goto 4, 3) := by decide +kernel
theorem dX5_readItem_71 : decode cX5_readItem 71 = .ok (.iconst 0, 1) := by decide +kernel
theorem dX5_readItem_72 : decode cX5_readItem 72 = .ok (.bipush 20, 2) := by decide +kernel
theorem dX5_readItem_74 : decode cX5_readItem 74 = .ok (.invokevirtual 83, 3) := by decide +kernel
theorem dX5_readItem_77 : decode cX5_readItem 77 = .ok (.goto 62, 3) := by decide +kernel
theorem dX5_readItem_80 : decode cX5_readItem 80 = .ok (.aload_n 0, 1) := by decide +kernel
theorem dX5_readItem_81 : decode cX5_readItem 81 = .ok (.aload_n 1, 1) := by decide +kernel
theorem dX5_readItem_82 : decode cX5_readItem 82 = .ok (.aload_n 1, 1) := by decide +kernel
theorem dX5_readItem_83 : decode cX5_readItem 83 = .ok (.getfield 80, 3) := by decide +kernel
theorem dX5_readItem_86 : decode cX5_readItem 86 = .ok (.bipush 16, 2) := by decide +kernel
theorem dX5_readItem_88 : decode cX5_readItem 88 = .ok (.if_icmp .ge 7, 3) := by decide +kernel
theorem dX5_readItem_91 : decode cX5_readItem 91 = .ok (.iconst 1, 1) := by decide +kernel
theorem dX5_readItem_92 : decode cX5_readItem 92 = .ok (.goto 4, 3) := by decide +kernel
theorem dX5_readItem_95 : decode cX5_readItem 95 = .ok (.iconst 0, 1) := by decide +kernel
theorem dX5_readItem_96 : decode cX5_readItem 96 = .ok (.bipush 20, 2) := by decide +kernel
theorem dX5_readItem_98 : decode cX5_readItem 98 = .ok (.invokevirtual 83, 3) := by decide +kernel
theorem dX5_readItem_101 : decode cX5_readItem 101 = .ok (.goto 38, 3) := by decide +kernel
theorem dX5_readItem_104 : decode cX5_readItem 104 = .ok (.aload_n 0, 1) := by decide +kernel
theorem dX5_readItem_105 : decode cX5_readItem 105 = .ok (.aload_n 1, 1) := by decide +kernel
theorem dX5_readItem_106 : decode cX5_readItem 106 = .ok (.invokevirtual 87, 3) := by decide +kernel
theorem dX5_readItem_109 : decode cX5_readItem 109 = .ok (.goto 30, 3) := by decide +kernel
theorem dX5_readItem_112 : decode cX5_readItem 112 = .ok (.aload_n 0, 1) := by decide +kernel
theorem dX5_readItem_113 : decode cX5_readItem 113 = .ok (.aload_n 1, 1) := by decide +kernel
theorem dX5_readItem_114 : decode cX5_readItem 114 = .ok (.aload_n 1, 1) := by decide +kernel
theorem dX5_readItem_115 : decode cX5_readItem 115 = .ok (.getfield 90, 3) := by decide +kernel
theorem dX5_readItem_118 : decode cX5_readItem 118 = .ok (.iconst 3, 1) := by decide +kernel
theorem dX5_readItem_119 : decode cX5_readItem 119 = .ok (.if_icmp .ge 7, 3) := by decide +kernel
theorem dX5_readItem_122 : decode cX5_readItem 122 = .ok (.iconst 1, 1) := by decide +kernel
theorem dX5_readItem_123 : decode cX5_readItem 123 = .ok (.goto 4, 3) := by decide +kernel
theorem dX5_readItem_126 : decode cX5_readItem 126 = .ok (.iconst 0, 1) := by decide +kernel
theorem dX5_readItem_127 : decode cX5_readItem 127 = .ok (.bipush 40, 2) := by decide +kernel
theorem dX5_readItem_129 : decode cX5_readItem 129 = .ok (.invokevirtual 83, 3) := by decide +kernel
theorem dX5_readItem_132 : decode cX5_readItem 132 = .ok (.goto 7, 3) := by decide +kernel
theorem dX5_readItem_135 : decode cX5_readItem 135 = .ok (.aload_n 0, 1) := by decide +kernel
theorem dX5_readItem_136 : decode cX5_readItem 136 = .ok (.invokevirtual 93, 3) := by decide +kernel
theorem dX5_readItem_139 : decode cX5_readItem 139 = .ok (.aload_n 0, 1) := by decide +kernel
theorem dX5_readItem_140 : decode cX5_readItem 140 = .ok (.invokevirtual 96, 3) := by decide +kernel
theorem dX5_readItem_143 : decode cX5_readItem 143 = .ok (.return_, 1) := by decide +kernel
theorem dX5_readNode_0 : decode cX5_readNode 0 = .ok (.aload_n 1, 1) := by decide +kernel
theorem dX5_readNode_1 : decode cX5_readNode 1 = .ok (.getfield 99, 3) := by decide +kernel
theorem dX5_readNode_4 : decode cX5_readNode 4 = .ok (.bipush 10, 2) := by decide +kernel
theorem dX5_readNode_6 : decode cX5_readNode 6 = .ok (.if_icmp .lt 7, 3) := by decide +kernel
theorem dX5_readNode_9 : decode cX5_readNode 9 = .ok (.aload_n 0, 1) := by decide +kernel
theorem dX5_readNode_10 : decode cX5_readNode 10 = .ok (.invokevirtual 93, 3) := by decide +kernel
theorem dX5_readNode_13 : decode cX5_readNode 13 = .ok (.aload_n 0, 1) := by decide +kernel
theorem dX5_readNode_14 : decode cX5_readNode 14 = .ok (.aload_n 0, 1) := by decide +kernel
theorem dX5_readNode_15 : decode cX5_readNode 15 = .ok (.iconst 0, 1) := by decide +kernel
theorem dX5_readNode_16 : decode cX5_readNode 16 = .ok (.iconst 3, 1) := by decide +kernel
theorem dX5_readNode_17 : decode cX5_readNode 17 = .ok (.iconst (-1), 1) := by decide +kernel
theorem dX5_readNode_18 : decode cX5_readNode 18 = .ok (.invokevirtual 102, 3) := by decide +kernel
theorem dX5_readNode_21 : decode cX5_readNode 21 = .ok (.putfield 34, 3) := by decide +kernel
theorem dX5_readNode_24 : decode cX5_readNode 24 = .ok (.return_, 1) := by decide +kernel
theorem dX5_readLine_0 : decode cX5_readLine 0 = .ok (.iload_n 2, 1) := by decide +kernel
theorem dX5_readLine_1 : decode cX5_readLine 1 = .ok (.ifCond .ne 7, 3) := by decide +kernel
theorem dX5_readLine_4 : decode cX5_readLine 4 = .ok (.aload_n 0, 1) := by decide +kernel
theorem dX5_readLine_5 : decode cX5_readLine 5 = .ok (.invokevirtual 93, 3) := by decide +kernel
theorem dX5_readLine_8 : decode cX5_readLine 8 = .ok (.aload_n 0, 1) := by decide +kernel
theorem dX5_readLine_9 : decode cX5_readLine 9 = .ok (.aload_n 0, 1) := by decide +kernel
theorem dX5_readLine_10 : decode cX5_readLine 10 = .ok (.iconst 0, 1) := by decide +kernel
theorem dX5_readLine_11 : decode cX5_readLine 11 = .ok (.aload_n 1, 1) := by decide +kernel
theorem dX5_readLine_12 : decode cX5_readLine 12 = .ok (.getfield 99, 3) := by decide +kernel
theorem dX5_readLine_15 : decode cX5_readLine 15 = .ok (.iconst 1, 1) := by decide +kernel
theorem dX5_readLine_16 : decode cX5_readLine 16 = .ok (.isub, 1) := by decide +kernel
theorem dX5_readLine_17 : decode cX5_readLine 17 = .ok (.iconst (-1), 1) := by decide +kernel
theorem dX5_readLine_18 : decode cX5_readLine 18 = .ok (.invokevirtual 102, 3) := by decide +kernel
theorem dX5_readLine_21 : decode cX5_readLine 21 = .ok (.putfield 34, 3) := by decide +kernel
theorem dX5_readLine_24 : decode cX5_readLine 24 = .ok (.aload_n 0, 1) := by decide +kernel
theorem dX5_readLine_25 : decode cX5_readLine 25 = .ok (.aload_n 0, 1) := by decide +kernel
theorem dX5_readLine_26 : decode cX5_readLine 26 = .ok (.iconst 0, 1) := by decide +kernel
theorem dX5_readLine_27 : decode cX5_readLine 27 = .ok (.aload_n 1, 1) := by decide +kernel
theorem dX5_readLine_28 : decode cX5_readLine 28 = .ok (.getfield 99, 3) := by decide +kernel
theorem dX5_readLine_31 : decode cX5_readLine 31 = .ok (.iconst 1, 1) := by decide +kernel
theorem dX5_readLine_32 : decode cX5_readLine 32 = .ok (.isub, 1) := by decide +kernel
theorem dX5_readLine_33 : decode cX5_readLine 33 = .ok (.aload_n 0, 1) := by decide +kernel
theorem dX5_readLine_34 : decode cX5_readLine 34 = .ok (.getfield 34, 3) := by decide +kernel
theorem dX5_readLine_37 : decode cX5_readLine 37 = .ok (.invokevirtual 102, 3) := by decide +kernel
theorem dX5_readLine_40 : decode cX5_readLine 40 = .ok (.putfield 37, 3) := by decide +kernel
theorem dX5_readLine_43 : decode cX5_readLine 43 = .ok (.aload_n 0, 1) := by decide +kernel
theorem dX5_readLine_44 : decode cX5_readLine 44 = .ok (.aload_n 0, 1) := by decide +kernel
theorem dX5_readLine_45 : decode cX5_readLine 45 = .ok (.iconst 1, 1) := by decide +kernel
theorem dX5_readLine_46 : decode cX5_readLine 46 = .ok (.iload_n 3, 1) := by decide +kernel
theorem dX5_readLine_47 : decode cX5_readLine 47 = .ok (.iconst (-1), 1) := by decide +kernel
theorem dX5_readLine_48 : decode cX5_readLine 48 = .ok (.invokevirtual 102, 3) := by decide +kernel
theorem dX5_readLine_51 : decode cX5_readLine 51 = .ok (.putfield 40, 3) := by decide +kernel
theorem dX5_readLine_54 : decode cX5_readLine 54 = .ok (.return_, 1) := by decide +kernel
theorem dX5_readGrant_0 : decode cX5_readGrant 0 = .ok (.aload_n 0, 1) := by decide +kernel
theorem dX5_readGrant_1 : decode cX5_readGrant 1 = .ok (.aload_n 0, 1) := by decide +kernel
theorem dX5_readGrant_2 : decode cX5_readGrant 2 = .ok (.iconst 0, 1) := by decide +kernel
theorem dX5_readGrant_3 : decode cX5_readGrant 3 = .ok (.iconst 3, 1) := by decide +kernel
theorem dX5_readGrant_4 : decode cX5_readGrant 4 = .ok (.iconst (-1), 1) := by decide +kernel
theorem dX5_readGrant_5 : decode cX5_readGrant 5 = .ok (.invokevirtual 102, 3) := by decide +kernel
theorem dX5_readGrant_8 : decode cX5_readGrant 8 = .ok (.putfield 34, 3) := by decide +kernel
theorem dX5_readGrant_11 : decode cX5_readGrant 11 = .ok (.aload_n 0, 1) := by decide +kernel
theorem dX5_readGrant_12 : decode cX5_readGrant 12 = .ok (.aload_n 0, 1) := by decide +kernel
theorem dX5_readGrant_13 : decode cX5_readGrant 13 = .ok (.iconst 0, 1) := by decide +kernel
theorem dX5_readGrant_14 : decode cX5_readGrant 14 = .ok (.iconst 3, 1) := by decide +kernel
theorem dX5_readGrant_15 : decode cX5_readGrant 15 = .ok (.aload_n 0, 1) := by decide +kernel
theorem dX5_readGrant_16 : decode cX5_readGrant 16 = .ok (.getfield 34, 3) := by decide +kernel
theorem dX5_readGrant_19 : decode cX5_readGrant 19 = .ok (.invokevirtual 102, 3) := by decide +kernel
theorem dX5_readGrant_22 : decode cX5_readGrant 22 = .ok (.putfield 37, 3) := by decide +kernel
theorem dX5_readGrant_25 : decode cX5_readGrant 25 = .ok (.aload_n 0, 1) := by decide +kernel
theorem dX5_readGrant_26 : decode cX5_readGrant 26 = .ok (.getfield 28, 3) := by decide +kernel
theorem dX5_readGrant_29 : decode cX5_readGrant 29 = .ok (.iconst (-1), 1) := by decide +kernel
theorem dX5_readGrant_30 : decode cX5_readGrant 30 = .ok (.if_icmp .ne 25, 3) := by decide +kernel
theorem dX5_readGrant_33 : decode cX5_readGrant 33 = .ok (.aload_n 1, 1) := by decide +kernel
theorem dX5_readGrant_34 : decode cX5_readGrant 34 = .ok (.aload_n 0, 1) := by decide +kernel
theorem dX5_readGrant_35 : decode cX5_readGrant 35 = .ok (.getfield 34, 3) := by decide +kernel
theorem dX5_readGrant_38 : decode cX5_readGrant 38 = .ok (.aload_n 0, 1) := by decide +kernel
theorem dX5_readGrant_39 : decode cX5_readGrant 39 = .ok (.getfield 37, 3) := by decide +kernel
theorem dX5_readGrant_42 : decode cX5_readGrant 42 = .ok (.invokestatic 105, 3) := by decide +kernel
theorem dX5_readGrant_45 : decode cX5_readGrant 45 = .ok (.invokevirtual 109, 3) := by decide +kernel
theorem dX5_readGrant_48 : decode cX5_readGrant 48 = .ok (.ifCond .eq 7, 3) := by decide +kernel
theorem dX5_readGrant_51 : decode cX5_readGrant 51 = .ok (.aload_n 0, 1) := by decide +kernel
theorem dX5_readGrant_52 : decode cX5_readGrant 52 = .ok (.invokevirtual 93, 3) := by decide +kernel
theorem dX5_readGrant_55 : decode cX5_readGrant 55 = .ok (.return_, 1) := by decide +kernel
theorem dX5_readNumber_0 : decode cX5_readNumber 0 = .ok (.aload_n 0, 1) := by decide +kernel
theorem dX5_readNumber_1 : decode cX5_readNumber 1 = .ok (.getfield 28, 3) := by decide +kernel
theorem dX5_readNumber_4 : decode cX5_readNumber 4 = .ok (.iconst (-1), 1) := by decide +kernel
theorem dX5_readNumber_5 : decode cX5_readNumber 5 = .ok (.if_icmp .eq 5, 3) := by decide +kernel
theorem dX5_readNumber_8 : decode cX5_readNumber 8 = .ok (.iconst (-1), 1) := by decide +kernel
theorem dX5_readNumber_9 : decode cX5_readNumber 9 = .ok (.ireturn, 1) := by decide +kernel
theorem dX5_readNumber_10 : decode cX5_readNumber 10 = .ok (.aload_n 0, 1) := by decide +kernel
theorem dX5_readNumber_11 : decode cX5_readNumber 11 = .ok (.invokevirtual 48, 3) := by decide +kernel
theorem dX5_readNumber_14 : decode cX5_readNumber 14 = .ok (.aload_n 0, 1) := by decide +kernel
theorem dX5_readNumber_15 : decode cX5_readNumber 15 = .ok (.invokevirtual 113, 3) := by decide +kernel
theorem dX5_readNumber_18 : decode cX5_readNumber 18 = .ok (.istore 4, 2) := by decide +kernel
theorem dX5_readNumber_20 : decode cX5_readNumber 20 = .ok (.iload 4, 2) := by decide +kernel
theorem dX5_readNumber_22 : decode cX5_readNumber 22 = .ok (.iload_n 1, 1) := by decide +kernel
theorem dX5_readNumber_23 : decode cX5_readNumber 23 = .ok (.if_icmp .lt 15, 3) := by decide +kernel
theorem dX5_readNumber_26 : decode cX5_readNumber 26 = .ok (.iload 4, 2) := by decide +kernel
theorem dX5_readNumber_28 : decode cX5_readNumber 28 = .ok (.iload_n 2, 1) := by decide +kernel
theorem dX5_readNumber_29 : decode cX5_readNumber 29 = .ok (.if_icmp .gt 9, 3) := by decide +kernel
theorem dX5_readNumber_32 : decode cX5_readNumber 32 = .ok (.iload 4, 2) := by decide +kernel
theorem dX5_readNumber_34 : decode cX5_readNumber 34 = .ok (.iload_n 3, 1) := by decide +kernel
theorem dX5_readNumber_35 : decode cX5_readNumber 35 = .ok (.if_icmp .ne 7, 3) := by decide +kernel
theorem dX5_readNumber_38 : decode cX5_readNumber 38 = .ok (.aload_n 0, 1) := by decide +kernel
theorem dX5_readNumber_39 : decode cX5_readNumber 39 = .ok (.invokevirtual 93, 3) := by decide +kernel
theorem dX5_readNumber_42 : decode cX5_readNumber 42 = .ok (.iload 4, 2) := by decide +kernel
theorem dX5_readNumber_44 : decode cX5_readNumber 44 = .ok (.ireturn, 1) := by decide +kernel
theorem dX5_readSemicolon_0 : decode cX5_readSemicolon 0 = .ok (.aload_n 0, 1) := by decide +kernel
theorem dX5_readSemicolon_1 : decode cX5_readSemicolon 1 = .ok (.getfield 28, 3) := by decide +kernel
theorem dX5_readSemicolon_4 : decode cX5_readSemicolon 4 = .ok (.iconst (-1), 1) := by decide +kernel
theorem dX5_readSemicolon_5 : decode cX5_readSemicolon 5 = .ok (.if_icmp .eq 4, 3) := by decide +kernel
theorem dX5_readSemicolon_8 : decode cX5_readSemicolon 8 = .ok (.return_, 1) := by decide +kernel
theorem dX5_readSemicolon_9 : decode cX5_readSemicolon 9 = .ok (.aload_n 0, 1) := by decide +kernel
theorem dX5_readSemicolon_10 : decode cX5_readSemicolon 10 = .ok (.invokevirtual 48, 3) := by decide +kernel
theorem dX5_readSemicolon_13 : decode cX5_readSemicolon 13 = .ok (.aload_n 0, 1) := by decide +kernel
theorem dX5_readSemicolon_14 : decode cX5_readSemicolon 14 = .ok (.getfield 25, 3) := by decide +kernel
theorem dX5_readSemicolon_17 : decode cX5_readSemicolon 17 = .ok (.iconst 3, 1) := by decide +kernel
theorem dX5_readSemicolon_18 : decode cX5_readSemicolon 18 = .ok (.if_icmp .ne 17, 3) := by decide +kernel
theorem dX5_readSemicolon_21 : decode cX5_readSemicolon 21 = .ok (.aload_n 0, 1) := by decide +kernel
theorem dX5_readSemicolon_22 : decode cX5_readSemicolon 22 = .ok (.getfield 9, 3) := by decide +kernel
theorem dX5_readSemicolon_25 : decode cX5_readSemicolon 25 = .ok (.aload_n 0, 1) := by decide +kernel
theorem dX5_readSemicolon_26 : decode cX5_readSemicolon 26 = .ok (.getfield 19, 3) := by decide +kernel
theorem dX5_readSemicolon_29 : decode cX5_readSemicolon 29 = .ok (.caload, 1) := by decide +kernel
theorem dX5_readSemicolon_30 : decode cX5_readSemicolon 30 = .ok (.bipush 59, 2) := by decide +kernel
theorem dX5_readSemicolon_32 : decode cX5_readSemicolon 32 = .ok (.if_icmp .eq 7, 3) := by decide +kernel
theorem dX5_readSemicolon_35 : decode cX5_readSemicolon 35 = .ok (.aload_n 0, 1) := by decide +kernel
theorem dX5_readSemicolon_36 : decode cX5_readSemicolon 36 = .ok (.invokevirtual 93, 3) := by decide +kernel
theorem dX5_readSemicolon_39 : decode cX5_readSemicolon 39 = .ok (.return_, 1) := by decide +kernel
theorem dX5_fail_0 : decode cX5_fail 0 = .ok (.aload_n 0, 1) := by decide +kernel
theorem dX5_fail_1 : decode cX5_fail 1 = .ok (.aload_n 0, 1) := by decide +kernel
theorem dX5_fail_2 : decode cX5_fail 2 = .ok (.getfield 19, 3) := by decide +kernel
theorem dX5_fail_5 : decode cX5_fail 5 = .ok (.putfield 28, 3) := by decide +kernel
theorem dX5_fail_8 : decode cX5_fail 8 = .ok (.return_, 1) := by decide +kernel
theorem dX5_takeToken_0 : decode cX5_takeToken 0 = .ok (.aload_n 0, 1) := by decide +kernel
theorem dX5_takeToken_1 : decode cX5_takeToken 1 = .ok (.aload_n 0, 1) := by decide +kernel
theorem dX5_takeToken_2 : decode cX5_takeToken 2 = .ok (.getfield 22, 3) := by decide +kernel
theorem dX5_takeToken_5 : decode cX5_takeToken 5 = .ok (.putfield 19, 3) := by decide +kernel
theorem dX5_takeToken_8 : decode cX5_takeToken 8 = .ok (.aload_n 0, 1) := by decide +kernel
theorem dX5_takeToken_9 : decode cX5_takeToken 9 = .ok (.getfield 19, 3) := by decide +kernel
theorem dX5_takeToken_12 : decode cX5_takeToken 12 = .ok (.aload_n 0, 1) := by decide +kernel
theorem dX5_takeToken_13 : decode cX5_takeToken 13 = .ok (.getfield 15, 3) := by decide +kernel
theorem dX5_takeToken_16 : decode cX5_takeToken 16 = .ok (.if_icmp .ge 30, 3) := by decide +kernel
theorem dX5_takeToken_19 : decode cX5_takeToken 19 = .ok (.aload_n 0, 1) := by decide +kernel
theorem dX5_takeToken_20 : decode cX5_takeToken 20 = .ok (.getfield 9, 3) := by decide +kernel
theorem dX5_takeToken_23 : decode cX5_takeToken 23 = .ok (.aload_n 0, 1) := by decide +kernel
theorem dX5_takeToken_24 : decode cX5_takeToken 24 = .ok (.getfield 19, 3) := by decide +kernel
theorem dX5_takeToken_27 : decode cX5_takeToken 27 = .ok (.caload, 1) := by decide +kernel
theorem dX5_takeToken_28 : decode cX5_takeToken 28 = .ok (.bipush 32, 2) := by decide +kernel
theorem dX5_takeToken_30 : decode cX5_takeToken 30 = .ok (.if_icmp .ne 16, 3) := by decide +kernel
theorem dX5_takeToken_33 : decode cX5_takeToken 33 = .ok (.aload_n 0, 1) := by decide +kernel
theorem dX5_takeToken_34 : decode cX5_takeToken 34 = .ok (.dup, 1) := by decide +kernel
theorem dX5_takeToken_35 : decode cX5_takeToken 35 = .ok (.getfield 19, 3) := by decide +kernel
theorem dX5_takeToken_38 : decode cX5_takeToken 38 = .ok (.iconst 1, 1) := by decide +kernel
theorem dX5_takeToken_39 : decode cX5_takeToken 39 = .ok (.iadd, 1) := by decide +kernel
theorem dX5_takeToken_40 : decode cX5_takeToken 40 = .ok (.putfield 19, 3) := by decide +kernel
theorem dX5_takeToken_43 : decode cX5_takeToken 43 = .ok (.goto (-35), 3) := by decide +kernel
theorem dX5_takeToken_46 : decode cX5_takeToken 46 = .ok (.aload_n 0, 1) := by decide +kernel
theorem dX5_takeToken_47 : decode cX5_takeToken 47 = .ok (.aload_n 0, 1) := by decide +kernel
theorem dX5_takeToken_48 : decode cX5_takeToken 48 = .ok (.aload_n 0, 1) := by decide +kernel
theorem dX5_takeToken_49 : decode cX5_takeToken 49 = .ok (.getfield 19, 3) := by decide +kernel
theorem dX5_takeToken_52 : decode cX5_takeToken 52 = .ok (.invokevirtual 116, 3) := by decide +kernel
theorem dX5_takeToken_55 : decode cX5_takeToken 55 = .ok (.putfield 25, 3) := by decide +kernel
theorem dX5_takeToken_58 : decode cX5_takeToken 58 = .ok (.aload_n 0, 1) := by decide +kernel
theorem dX5_takeToken_59 : decode cX5_takeToken 59 = .ok (.aload_n 0, 1) := by decide +kernel
theorem dX5_takeToken_60 : decode cX5_takeToken 60 = .ok (.getfield 19, 3) := by decide +kernel
theorem dX5_takeToken_63 : decode cX5_takeToken 63 = .ok (.putfield 22, 3) := by decide +kernel
theorem dX5_takeToken_66 : decode cX5_takeToken 66 = .ok (.aload_n 0, 1) := by decide +kernel
theorem dX5_takeToken_67 : decode cX5_takeToken 67 = .ok (.getfield 25, 3) := by decide +kernel
theorem dX5_takeToken_70 : decode cX5_takeToken 70 = .ok (.iconst 3, 1) := by decide +kernel
theorem dX5_takeToken_71 : decode cX5_takeToken 71 = .ok (.if_icmp .ne 16, 3) := by decide +kernel
theorem dX5_takeToken_74 : decode cX5_takeToken 74 = .ok (.aload_n 0, 1) := by decide +kernel
theorem dX5_takeToken_75 : decode cX5_takeToken 75 = .ok (.dup, 1) := by decide +kernel
theorem dX5_takeToken_76 : decode cX5_takeToken 76 = .ok (.getfield 22, 3) := by decide +kernel
theorem dX5_takeToken_79 : decode cX5_takeToken 79 = .ok (.iconst 1, 1) := by decide +kernel
theorem dX5_takeToken_80 : decode cX5_takeToken 80 = .ok (.iadd, 1) := by decide +kernel
theorem dX5_takeToken_81 : decode cX5_takeToken 81 = .ok (.putfield 22, 3) := by decide +kernel
theorem dX5_takeToken_84 : decode cX5_takeToken 84 = .ok (.goto 49, 3) := by decide +kernel
theorem dX5_takeToken_87 : decode cX5_takeToken 87 = .ok (.aload_n 0, 1) := by decide +kernel
theorem dX5_takeToken_88 : decode cX5_takeToken 88 = .ok (.getfield 25, 3) := by decide +kernel
theorem dX5_takeToken_91 : decode cX5_takeToken 91 = .ok (.ifCond .eq 42, 3) := by decide +kernel
theorem dX5_takeToken_94 : decode cX5_takeToken 94 = .ok (.aload_n 0, 1) := by decide +kernel
theorem dX5_takeToken_95 : decode cX5_takeToken 95 = .ok (.getfield 22, 3) := by decide +kernel
theorem dX5_takeToken_98 : decode cX5_takeToken 98 = .ok (.aload_n 0, 1) := by decide +kernel
theorem dX5_takeToken_99 : decode cX5_takeToken 99 = .ok (.getfield 15, 3) := by decide +kernel
theorem dX5_takeToken_102 : decode cX5_takeToken 102 = .ok (.if_icmp .ge 31, 3) := by decide +kernel
theorem dX5_takeToken_105 : decode cX5_takeToken 105 = .ok (.aload_n 0, 1) := by decide +kernel
theorem dX5_takeToken_106 : decode cX5_takeToken 106 = .ok (.aload_n 0, 1) := by decide +kernel
theorem dX5_takeToken_107 : decode cX5_takeToken 107 = .ok (.getfield 22, 3) := by decide +kernel
theorem dX5_takeToken_110 : decode cX5_takeToken 110 = .ok (.invokevirtual 116, 3) := by decide +kernel
theorem dX5_takeToken_113 : decode cX5_takeToken 113 = .ok (.aload_n 0, 1) := by decide +kernel
theorem dX5_takeToken_114 : decode cX5_takeToken 114 = .ok (.getfield 25, 3) := by decide +kernel
theorem dX5_takeToken_117 : decode cX5_takeToken 117 = .ok (.if_icmp .ne 16, 3) := by decide +kernel
theorem dX5_takeToken_120 : decode cX5_takeToken 120 = .ok (.aload_n 0, 1) := by decide +kernel
theorem dX5_takeToken_121 : decode cX5_takeToken 121 = .ok (.dup, 1) := by decide +kernel
theorem dX5_takeToken_122 : decode cX5_takeToken 122 = .ok (.getfield 22, 3) := by decide +kernel
theorem dX5_takeToken_125 : decode cX5_takeToken 125 = .ok (.iconst 1, 1) := by decide +kernel
theorem dX5_takeToken_126 : decode cX5_takeToken 126 = .ok (.iadd, 1) := by decide +kernel
theorem dX5_takeToken_127 : decode cX5_takeToken 127 = .ok (.putfield 22, 3) := by decide +kernel
theorem dX5_takeToken_130 : decode cX5_takeToken 130 = .ok (.goto (-36), 3) := by decide +kernel
theorem dX5_takeToken_133 : decode cX5_takeToken 133 = .ok (.return_, 1) := by decide +kernel
theorem dX5_kindAt_0 : decode cX5_kindAt 0 = .ok (.iload_n 1, 1) := by decide +kernel
theorem dX5_kindAt_1 : decode cX5_kindAt 1 = .ok (.aload_n 0, 1) := by decide +kernel
theorem dX5_kindAt_2 : decode cX5_kindAt 2 = .ok (.getfield 15, 3) := by decide +kernel
theorem dX5_kindAt_5 : decode cX5_kindAt 5 = .ok (.if_icmp .lt 5, 3) := by decide +kernel
theorem dX5_kindAt_8 : decode cX5_kindAt 8 = .ok (.iconst 0, 1) := by decide +kernel
theorem dX5_kindAt_9 : decode cX5_kindAt 9 = .ok (.ireturn, 1) := by decide +kernel
theorem dX5_kindAt_10 : decode cX5_kindAt 10 = .ok (.aload_n 0, 1) := by decide +kernel
theorem dX5_kindAt_11 : decode cX5_kindAt 11 = .ok (.getfield 9, 3) := by decide +kernel
theorem dX5_kindAt_14 : decode cX5_kindAt 14 = .ok (.iload_n 1, 1) := by decide +kernel
theorem dX5_kindAt_15 : decode cX5_kindAt 15 = .ok (.caload, 1) := by decide +kernel
theorem dX5_kindAt_16 : decode cX5_kindAt 16 = .ok (.istore_n 2, 1) := by decide +kernel
theorem dX5_kindAt_17 : decode cX5_kindAt 17 = .ok (.iload_n 2, 1) := by decide +kernel
theorem dX5_kindAt_18 : decode cX5_kindAt 18 = .ok (.bipush 97, 2) := by decide +kernel
theorem dX5_kindAt_20 : decode cX5_kindAt 20 = .ok (.if_icmp .lt 11, 3) := by decide +kernel
theorem dX5_kindAt_23 : decode cX5_kindAt 23 = .ok (.iload_n 2, 1) := by decide +kernel
theorem dX5_kindAt_24 : decode cX5_kindAt 24 = .ok (.bipush 122, 2) := by decide +kernel
theorem dX5_kindAt_26 : decode cX5_kindAt 26 = .ok (.if_icmp .gt 5, 3) := by decide +kernel
theorem dX5_kindAt_29 : decode cX5_kindAt 29 = .ok (.iconst 1, 1) := by decide +kernel
theorem dX5_kindAt_30 : decode cX5_kindAt 30 = .ok (.ireturn, 1) := by decide +kernel
theorem dX5_kindAt_31 : decode cX5_kindAt 31 = .ok (.iload_n 2, 1) := by decide +kernel
theorem dX5_kindAt_32 : decode cX5_kindAt 32 = .ok (.bipush 48, 2) := by decide +kernel
theorem dX5_kindAt_34 : decode cX5_kindAt 34 = .ok (.if_icmp .lt 13, 3) := by decide +kernel
theorem dX5_kindAt_37 : decode cX5_kindAt 37 = .ok (.iload_n 2, 1) := by decide +kernel
theorem dX5_kindAt_38 : decode cX5_kindAt 38 = .ok (.bipush 57, 2) := by decide +kernel
theorem dX5_kindAt_40 : decode cX5_kindAt 40 = .ok (.if_icmp .gt 7, 3) := by decide +kernel
theorem dX5_kindAt_43 : decode cX5_kindAt 43 = .ok (.iconst 2, 1) := by decide +kernel
theorem dX5_kindAt_44 : decode cX5_kindAt 44 = .ok (.goto 4, 3) := by decide +kernel
theorem dX5_kindAt_47 : decode cX5_kindAt 47 = .ok (.iconst 3, 1) := by decide +kernel
theorem dX5_kindAt_48 : decode cX5_kindAt 48 = .ok (.ireturn, 1) := by decide +kernel
theorem dX5_tokenThing_0 : decode cX5_tokenThing 0 = .ok (.aload_n 0, 1) := by decide +kernel
theorem dX5_tokenThing_1 : decode cX5_tokenThing 1 = .ok (.ldc 119, 2) := by decide +kernel
theorem dX5_tokenThing_3 : decode cX5_tokenThing 3 = .ok (.invokevirtual 121, 3) := by decide +kernel
theorem dX5_tokenThing_6 : decode cX5_tokenThing 6 = .ok (.ifCond .eq 5, 3) := by decide +kernel
theorem dX5_tokenThing_9 : decode cX5_tokenThing 9 = .ok (.iconst 1, 1) := by decide +kernel
theorem dX5_tokenThing_10 : decode cX5_tokenThing 10 = .ok (.ireturn, 1) := by decide +kernel
theorem dX5_tokenThing_11 : decode cX5_tokenThing 11 = .ok (.aload_n 0, 1) := by decide +kernel
theorem dX5_tokenThing_12 : decode cX5_tokenThing 12 = .ok (.ldc 125, 2) := by decide +kernel
theorem dX5_tokenThing_14 : decode cX5_tokenThing 14 = .ok (.invokevirtual 121, 3) := by decide +kernel
theorem dX5_tokenThing_17 : decode cX5_tokenThing 17 = .ok (.ifCond .eq 5, 3) := by decide +kernel
theorem dX5_tokenThing_20 : decode cX5_tokenThing 20 = .ok (.iconst 2, 1) := by decide +kernel
theorem dX5_tokenThing_21 : decode cX5_tokenThing 21 = .ok (.ireturn, 1) := by decide +kernel
theorem dX5_tokenThing_22 : decode cX5_tokenThing 22 = .ok (.aload_n 0, 1) := by decide +kernel
theorem dX5_tokenThing_23 : decode cX5_tokenThing 23 = .ok (.ldc 127, 2) := by decide +kernel
theorem dX5_tokenThing_25 : decode cX5_tokenThing 25 = .ok (.invokevirtual 121, 3) := by decide +kernel
theorem dX5_tokenThing_28 : decode cX5_tokenThing 28 = .ok (.ifCond .eq 5, 3) := by decide +kernel
theorem dX5_tokenThing_31 : decode cX5_tokenThing 31 = .ok (.iconst 3, 1) := by decide +kernel
theorem dX5_tokenThing_32 : decode cX5_tokenThing 32 = .ok (.ireturn, 1) := by decide +kernel
theorem dX5_tokenThing_33 : decode cX5_tokenThing 33 = .ok (.aload_n 0, 1) := by decide +kernel
theorem dX5_tokenThing_34 : decode cX5_tokenThing 34 = .ok (.ldc 129, 2) := by decide +kernel
theorem dX5_tokenThing_36 : decode cX5_tokenThing 36 = .ok (.invokevirtual 121, 3) := by decide +kernel
theorem dX5_tokenThing_39 : decode cX5_tokenThing 39 = .ok (.ifCond .eq 5, 3) := by decide +kernel
theorem dX5_tokenThing_42 : decode cX5_tokenThing 42 = .ok (.iconst 4, 1) := by decide +kernel
theorem dX5_tokenThing_43 : decode cX5_tokenThing 43 = .ok (.ireturn, 1) := by decide +kernel
theorem dX5_tokenThing_44 : decode cX5_tokenThing 44 = .ok (.aload_n 0, 1) := by decide +kernel
theorem dX5_tokenThing_45 : decode cX5_tokenThing 45 = .ok (.ldc 131, 2) := by decide +kernel
theorem dX5_tokenThing_47 : decode cX5_tokenThing 47 = .ok (.invokevirtual 121, 3) := by decide +kernel
theorem dX5_tokenThing_50 : decode cX5_tokenThing 50 = .ok (.ifCond .eq 7, 3) := by decide +kernel
theorem dX5_tokenThing_53 : decode cX5_tokenThing 53 = .ok (.iconst 5, 1) := by decide +kernel
theorem dX5_tokenThing_54 : decode cX5_tokenThing 54 = .ok (.goto 4, 3) := by decide +kernel
theorem dX5_tokenThing_57 : decode cX5_tokenThing 57 = .ok (.iconst 0, 1) := by decide +kernel
theorem dX5_tokenThing_58 : decode cX5_tokenThing 58 = .ok (.ireturn, 1) := by decide +kernel
theorem dX5_isWord_0 : decode cX5_isWord 0 = .ok (.aload_n 0, 1) := by decide +kernel
theorem dX5_isWord_1 : decode cX5_isWord 1 = .ok (.getfield 25, 3) := by decide +kernel
theorem dX5_isWord_4 : decode cX5_isWord 4 = .ok (.iconst 1, 1) := by decide +kernel
theorem dX5_isWord_5 : decode cX5_isWord 5 = .ok (.if_icmp .ne 19, 3) := by decide +kernel
theorem dX5_isWord_8 : decode cX5_isWord 8 = .ok (.aload_n 0, 1) := by decide +kernel
theorem dX5_isWord_9 : decode cX5_isWord 9 = .ok (.getfield 22, 3) := by decide +kernel
theorem dX5_isWord_12 : decode cX5_isWord 12 = .ok (.aload_n 0, 1) := by decide +kernel
theorem dX5_isWord_13 : decode cX5_isWord 13 = .ok (.getfield 19, 3) := by decide +kernel
theorem dX5_isWord_16 : decode cX5_isWord 16 = .ok (.isub, 1) := by decide +kernel
theorem dX5_isWord_17 : decode cX5_isWord 17 = .ok (.aload_n 1, 1) := by decide +kernel
theorem dX5_isWord_18 : decode cX5_isWord 18 = .ok (.invokevirtual 133, 3) := by decide +kernel
theorem dX5_isWord_21 : decode cX5_isWord 21 = .ok (.if_icmp .eq 5, 3) := by decide +kernel
theorem dX5_isWord_24 : decode cX5_isWord 24 = .ok (.iconst 0, 1) := by decide +kernel
theorem dX5_isWord_25 : decode cX5_isWord 25 = .ok (.ireturn, 1) := by decide +kernel
theorem dX5_isWord_26 : decode cX5_isWord 26 = .ok (.iconst 0, 1) := by decide +kernel
theorem dX5_isWord_27 : decode cX5_isWord 27 = .ok (.istore_n 2, 1) := by decide +kernel
theorem dX5_isWord_28 : decode cX5_isWord 28 = .ok (.iload_n 2, 1) := by decide +kernel
theorem dX5_isWord_29 : decode cX5_isWord 29 = .ok (.aload_n 1, 1) := by decide +kernel
theorem dX5_isWord_30 : decode cX5_isWord 30 = .ok (.invokevirtual 133, 3) := by decide +kernel
theorem dX5_isWord_33 : decode cX5_isWord 33 = .ok (.if_icmp .ge 30, 3) := by decide +kernel
theorem dX5_isWord_36 : decode cX5_isWord 36 = .ok (.aload_n 0, 1) := by decide +kernel
theorem dX5_isWord_37 : decode cX5_isWord 37 = .ok (.getfield 9, 3) := by decide +kernel
theorem dX5_isWord_40 : decode cX5_isWord 40 = .ok (.aload_n 0, 1) := by decide +kernel
theorem dX5_isWord_41 : decode cX5_isWord 41 = .ok (.getfield 19, 3) := by decide +kernel
theorem dX5_isWord_44 : decode cX5_isWord 44 = .ok (.iload_n 2, 1) := by decide +kernel
theorem dX5_isWord_45 : decode cX5_isWord 45 = .ok (.iadd, 1) := by decide +kernel
theorem dX5_isWord_46 : decode cX5_isWord 46 = .ok (.caload, 1) := by decide +kernel
theorem dX5_isWord_47 : decode cX5_isWord 47 = .ok (.aload_n 1, 1) := by decide +kernel
theorem dX5_isWord_48 : decode cX5_isWord 48 = .ok (.iload_n 2, 1) := by decide +kernel
theorem dX5_isWord_49 : decode cX5_isWord 49 = .ok (.invokevirtual 137, 3) := by decide +kernel
theorem dX5_isWord_52 : decode cX5_isWord 52 = .ok (.if_icmp .eq 5, 3) := by decide +kernel
theorem dX5_isWord_55 : decode cX5_isWord 55 = .ok (.iconst 0, 1) := by decide +kernel
theorem dX5_isWord_56 : decode cX5_isWord 56 = .ok (.ireturn, 1) := by decide +kernel
theorem dX5_isWord_57 : decode cX5_isWord 57 = .ok (.iinc 2 1, 3) := by decide +kernel
theorem dX5_isWord_60 : decode cX5_isWord 60 = .ok (.goto (-32), 3) := by decide +kernel
theorem dX5_isWord_63 : decode cX5_isWord 63 = .ok (.iconst 1, 1) := by decide +kernel
theorem dX5_isWord_64 : decode cX5_isWord 64 = .ok (.ireturn, 1) := by decide +kernel
theorem dX5_tokenNumber_0 : decode cX5_tokenNumber 0 = .ok (.aload_n 0, 1) := by decide +kernel
theorem dX5_tokenNumber_1 : decode cX5_tokenNumber 1 = .ok (.getfield 22, 3) := by decide +kernel
theorem dX5_tokenNumber_4 : decode cX5_tokenNumber 4 = .ok (.aload_n 0, 1) := by decide +kernel
theorem dX5_tokenNumber_5 : decode cX5_tokenNumber 5 = .ok (.getfield 19, 3) := by decide +kernel
theorem dX5_tokenNumber_8 : decode cX5_tokenNumber 8 = .ok (.isub, 1) := by decide +kernel
theorem dX5_tokenNumber_9 : decode cX5_tokenNumber 9 = .ok (.istore_n 1, 1) := by decide +kernel
theorem dX5_tokenNumber_10 : decode cX5_tokenNumber 10 = .ok (.aload_n 0, 1) := by decide +kernel
theorem dX5_tokenNumber_11 : decode cX5_tokenNumber 11 = .ok (.getfield 25, 3) := by decide +kernel
theorem dX5_tokenNumber_14 : decode cX5_tokenNumber 14 = .ok (.iconst 2, 1) := by decide +kernel
theorem dX5_tokenNumber_15 : decode cX5_tokenNumber 15 = .ok (.if_icmp .ne 27, 3) := by decide +kernel
theorem dX5_tokenNumber_18 : decode cX5_tokenNumber 18 = .ok (.iload_n 1, 1) := by decide +kernel
theorem dX5_tokenNumber_19 : decode cX5_tokenNumber 19 = .ok (.iconst 2, 1) := by decide +kernel
theorem dX5_tokenNumber_20 : decode cX5_tokenNumber 20 = .ok (.if_icmp .gt 22, 3) := by decide +kernel
theorem dX5_tokenNumber_23 : decode cX5_tokenNumber 23 = .ok (.iload_n 1, 1) := by decide +kernel
theorem dX5_tokenNumber_24 : decode cX5_tokenNumber 24 = .ok (.iconst 2, 1) := by decide +kernel
theorem dX5_tokenNumber_25 : decode cX5_tokenNumber 25 = .ok (.if_icmp .ne 19, 3) := by decide +kernel
theorem dX5_tokenNumber_28 : decode cX5_tokenNumber 28 = .ok (.aload_n 0, 1) := by decide +kernel
theorem dX5_tokenNumber_29 : decode cX5_tokenNumber 29 = .ok (.getfield 9, 3) := by decide +kernel
theorem dX5_tokenNumber_32 : decode cX5_tokenNumber 32 = .ok (.aload_n 0, 1) := by decide +kernel
theorem dX5_tokenNumber_33 : decode cX5_tokenNumber 33 = .ok (.getfield 19, 3) := by decide +kernel
theorem dX5_tokenNumber_36 : decode cX5_tokenNumber 36 = .ok (.caload, 1) := by decide +kernel
theorem dX5_tokenNumber_37 : decode cX5_tokenNumber 37 = .ok (.bipush 48, 2) := by decide +kernel
theorem dX5_tokenNumber_39 : decode cX5_tokenNumber 39 = .ok (.if_icmp .ne 5, 3) := by decide +kernel
theorem dX5_tokenNumber_42 : decode cX5_tokenNumber 42 = .ok (.iconst (-1), 1) := by decide +kernel
theorem dX5_tokenNumber_43 : decode cX5_tokenNumber 43 = .ok (.ireturn, 1) := by decide +kernel
theorem dX5_tokenNumber_44 : decode cX5_tokenNumber 44 = .ok (.iconst 0, 1) := by decide +kernel
theorem dX5_tokenNumber_45 : decode cX5_tokenNumber 45 = .ok (.istore_n 2, 1) := by decide +kernel
theorem dX5_tokenNumber_46 : decode cX5_tokenNumber 46 = .ok (.aload_n 0, 1) := by decide +kernel
theorem dX5_tokenNumber_47 : decode cX5_tokenNumber 47 = .ok (.getfield 19, 3) := by decide +kernel
theorem dX5_tokenNumber_50 : decode cX5_tokenNumber 50 = .ok (.istore_n 3, 1) := by decide +kernel
theorem dX5_tokenNumber_51 : decode cX5_tokenNumber 51 = .ok (.iload_n 3, 1) := by decide +kernel
theorem dX5_tokenNumber_52 : decode cX5_tokenNumber 52 = .ok (.aload_n 0, 1) := by decide +kernel
theorem dX5_tokenNumber_53 : decode cX5_tokenNumber 53 = .ok (.getfield 22, 3) := by decide +kernel
theorem dX5_tokenNumber_56 : decode cX5_tokenNumber 56 = .ok (.if_icmp .ge 24, 3) := by decide +kernel
theorem dX5_tokenNumber_59 : decode cX5_tokenNumber 59 = .ok (.iload_n 2, 1) := by decide +kernel
theorem dX5_tokenNumber_60 : decode cX5_tokenNumber 60 = .ok (.bipush 10, 2) := by decide +kernel
theorem dX5_tokenNumber_62 : decode cX5_tokenNumber 62 = .ok (.imul, 1) := by decide +kernel
theorem dX5_tokenNumber_63 : decode cX5_tokenNumber 63 = .ok (.aload_n 0, 1) := by decide +kernel
theorem dX5_tokenNumber_64 : decode cX5_tokenNumber 64 = .ok (.getfield 9, 3) := by decide +kernel
theorem dX5_tokenNumber_67 : decode cX5_tokenNumber 67 = .ok (.iload_n 3, 1) := by decide +kernel
theorem dX5_tokenNumber_68 : decode cX5_tokenNumber 68 = .ok (.caload, 1) := by decide +kernel
theorem dX5_tokenNumber_69 : decode cX5_tokenNumber 69 = .ok (.bipush 48, 2) := by decide +kernel
theorem dX5_tokenNumber_71 : decode cX5_tokenNumber 71 = .ok (.isub, 1) := by decide +kernel
theorem dX5_tokenNumber_72 : decode cX5_tokenNumber 72 = .ok (.iadd, 1) := by decide +kernel
theorem dX5_tokenNumber_73 : decode cX5_tokenNumber 73 = .ok (.istore_n 2, 1) := by decide +kernel
theorem dX5_tokenNumber_74 : decode cX5_tokenNumber 74 = .ok (.iinc 3 1, 3) := by decide +kernel
theorem dX5_tokenNumber_77 : decode cX5_tokenNumber 77 = .ok (.goto (-26), 3) := by decide +kernel
theorem dX5_tokenNumber_80 : decode cX5_tokenNumber 80 = .ok (.iload_n 2, 1) := by decide +kernel
theorem dX5_tokenNumber_81 : decode cX5_tokenNumber 81 = .ok (.ireturn, 1) := by decide +kernel
theorem dX6_init_0 : decode cX6_init 0 = .ok (.aload_n 0, 1) := by decide +kernel
theorem dX6_init_1 : decode cX6_init 1 = .ok (.invokespecial 3, 3) := by decide +kernel
theorem dX6_init_4 : decode cX6_init 4 = .ok (.aload_n 0, 1) := by decide +kernel
theorem dX6_init_5 : decode cX6_init 5 = .ok (.new 9, 3) := by decide +kernel
theorem dX6_init_8 : decode cX6_init 8 = .ok (.dup, 1) := by decide +kernel
theorem dX6_init_9 : decode cX6_init 9 = .ok (.invokespecial 11, 3) := by decide +kernel
theorem dX6_init_12 : decode cX6_init 12 = .ok (.putfield 12, 3) := by decide +kernel
theorem dX6_init_15 : decode cX6_init 15 = .ok (.aload_n 0, 1) := by decide +kernel
theorem dX6_init_16 : decode cX6_init 16 = .ok (.new 9, 3) := by decide +kernel
theorem dX6_init_19 : decode cX6_init 19 = .ok (.dup, 1) := by decide +kernel
theorem dX6_init_20 : decode cX6_init 20 = .ok (.invokespecial 11, 3) := by decide +kernel
theorem dX6_init_23 : decode cX6_init 23 = .ok (.putfield 16, 3) := by decide +kernel
theorem dX6_init_26 : decode cX6_init 26 = .ok (.aload_n 0, 1) := by decide +kernel
theorem dX6_init_27 : decode cX6_init 27 = .ok (.iconst 5, 1) := by decide +kernel
theorem dX6_init_28 : decode cX6_init 28 = .ok (.anewarray 9, 3) := by decide +kernel
theorem dX6_init_31 : decode cX6_init 31 = .ok (.putfield 19, 3) := by decide +kernel
theorem dX6_init_34 : decode cX6_init 34 = .ok (.aload_n 0, 1) := by decide +kernel
theorem dX6_init_35 : decode cX6_init 35 = .ok (.iconst 0, 1) := by decide +kernel
theorem dX6_init_36 : decode cX6_init 36 = .ok (.putfield 23, 3) := by decide +kernel
theorem dX6_init_39 : decode cX6_init 39 = .ok (.aload_n 0, 1) := by decide +kernel
theorem dX6_init_40 : decode cX6_init 40 = .ok (.new 27, 3) := by decide +kernel
theorem dX6_init_43 : decode cX6_init 43 = .ok (.dup, 1) := by decide +kernel
theorem dX6_init_44 : decode cX6_init 44 = .ok (.invokespecial 29, 3) := by decide +kernel
theorem dX6_init_47 : decode cX6_init 47 = .ok (.putfield 30, 3) := by decide +kernel
theorem dX6_init_50 : decode cX6_init 50 = .ok (.aload_n 0, 1) := by decide +kernel
theorem dX6_init_51 : decode cX6_init 51 = .ok (.new 34, 3) := by decide +kernel
theorem dX6_init_54 : decode cX6_init 54 = .ok (.dup, 1) := by decide +kernel
theorem dX6_init_55 : decode cX6_init 55 = .ok (.invokespecial 36, 3) := by decide +kernel
theorem dX6_init_58 : decode cX6_init 58 = .ok (.putfield 37, 3) := by decide +kernel
theorem dX6_init_61 : decode cX6_init 61 = .ok (.aload_n 0, 1) := by decide +kernel
theorem dX6_init_62 : decode cX6_init 62 = .ok (.new 41, 3) := by decide +kernel
theorem dX6_init_65 : decode cX6_init 65 = .ok (.dup, 1) := by decide +kernel
theorem dX6_init_66 : decode cX6_init 66 = .ok (.invokespecial 43, 3) := by decide +kernel
theorem dX6_init_69 : decode cX6_init 69 = .ok (.putfield 44, 3) := by decide +kernel
theorem dX6_init_72 : decode cX6_init 72 = .ok (.aload_n 0, 1) := by decide +kernel
theorem dX6_init_73 : decode cX6_init 73 = .ok (.new 48, 3) := by decide +kernel
theorem dX6_init_76 : decode cX6_init 76 = .ok (.dup, 1) := by decide +kernel
theorem dX6_init_77 : decode cX6_init 77 = .ok (.invokespecial 50, 3) := by decide +kernel
theorem dX6_init_80 : decode cX6_init 80 = .ok (.putfield 51, 3) := by decide +kernel
theorem dX6_init_83 : decode cX6_init 83 = .ok (.aload_n 0, 1) := by decide +kernel
theorem dX6_init_84 : decode cX6_init 84 = .ok (.new 48, 3) := by decide +kernel
theorem dX6_init_87 : decode cX6_init 87 = .ok (.dup, 1) := by decide +kernel
theorem dX6_init_88 : decode cX6_init 88 = .ok (.invokespecial 50, 3) := by decide +kernel
theorem dX6_init_91 : decode cX6_init 91 = .ok (.putfield 55, 3) := by decide +kernel
theorem dX6_init_94 : decode cX6_init 94 = .ok (.aload_n 0, 1) := by decide +kernel
theorem dX6_init_95 : decode cX6_init 95 = .ok (.iconst 0, 1) := by decide +kernel
theorem dX6_init_96 : decode cX6_init 96 = .ok (.putfield 58, 3) := by decide +kernel
theorem dX6_init_99 : decode cX6_init 99 = .ok (.iconst 0, 1) := by decide +kernel
theorem dX6_init_100 : decode cX6_init 100 = .ok (.istore_n 1, 1) := by decide +kernel
theorem dX6_init_101 : decode cX6_init 101 = .ok (.iload_n 1, 1) := by decide +kernel
theorem dX6_init_102 : decode cX6_init 102 = .ok (.iconst 5, 1) := by decide +kernel
theorem dX6_init_103 : decode cX6_init 103 = .ok (.if_icmp .ge 22, 3) := by decide +kernel
theorem dX6_init_106 : decode cX6_init 106 = .ok (.aload_n 0, 1) := by decide +kernel
theorem dX6_init_107 : decode cX6_init 107 = .ok (.getfield 19, 3) := by decide +kernel
theorem dX6_init_110 : decode cX6_init 110 = .ok (.iload_n 1, 1) := by decide +kernel
theorem dX6_init_111 : decode cX6_init 111 = .ok (.new 9, 3) := by decide +kernel
theorem dX6_init_114 : decode cX6_init 114 = .ok (.dup, 1) := by decide +kernel
theorem dX6_init_115 : decode cX6_init 115 = .ok (.invokespecial 11, 3) := by decide +kernel
theorem dX6_init_118 : decode cX6_init 118 = .ok (.aastore, 1) := by decide +kernel
theorem dX6_init_119 : decode cX6_init 119 = .ok (.iinc 1 1, 3) := by decide +kernel
theorem dX6_init_122 : decode cX6_init 122 = .ok (.goto (-21), 3) := by decide +kernel
theorem dX6_init_125 : decode cX6_init 125 = .ok (.return_, 1) := by decide +kernel
theorem dX6_addNode_0 : decode cX6_addNode 0 = .ok (.iload_n 1, 1) := by decide +kernel
theorem dX6_addNode_1 : decode cX6_addNode 1 = .ok (.invokestatic 62, 3) := by decide +kernel
theorem dX6_addNode_4 : decode cX6_addNode 4 = .ok (.ifCond .ne 5, 3) := by decide +kernel
theorem dX6_addNode_7 : decode cX6_addNode 7 = .ok (.iconst (-1), 1) := by decide +kernel
theorem dX6_addNode_8 : decode cX6_addNode 8 = .ok (.ireturn, 1) := by decide +kernel
theorem dX6_addNode_9 : decode cX6_addNode 9 = .ok (.aload_n 0, 1) := by decide +kernel
theorem dX6_addNode_10 : decode cX6_addNode 10 = .ok (.getfield 12, 3) := by decide +kernel
theorem dX6_addNode_13 : decode cX6_addNode 13 = .ok (.getfield 66, 3) := by decide +kernel
theorem dX6_addNode_16 : decode cX6_addNode 16 = .ok (.bipush 10, 2) := by decide +kernel
theorem dX6_addNode_18 : decode cX6_addNode 18 = .ok (.if_icmp .lt 6, 3) := by decide +kernel
theorem dX6_addNode_21 : decode cX6_addNode 21 = .ok (.bipush (-3), 2) := by decide +kernel
theorem dX6_addNode_23 : decode cX6_addNode 23 = .ok (.ireturn, 1) := by decide +kernel
theorem dX6_addNode_24 : decode cX6_addNode 24 = .ok (.aload_n 0, 1) := by decide +kernel
theorem dX6_addNode_25 : decode cX6_addNode 25 = .ok (.invokevirtual 69, 3) := by decide +kernel
theorem dX6_addNode_28 : decode cX6_addNode 28 = .ok (.aload_n 0, 1) := by decide +kernel
theorem dX6_addNode_29 : decode cX6_addNode 29 = .ok (.getfield 12, 3) := by decide +kernel
theorem dX6_addNode_32 : decode cX6_addNode 32 = .ok (.iload_n 1, 1) := by decide +kernel
theorem dX6_addNode_33 : decode cX6_addNode 33 = .ok (.invokevirtual 72, 3) := by decide +kernel
theorem dX6_addNode_36 : decode cX6_addNode 36 = .ok (.ireturn, 1) := by decide +kernel
theorem dX6_addLink_0 : decode cX6_addLink 0 = .ok (.aload_n 0, 1) := by decide +kernel
theorem dX6_addLink_1 : decode cX6_addLink 1 = .ok (.iload_n 1, 1) := by decide +kernel
theorem dX6_addLink_2 : decode cX6_addLink 2 = .ok (.iload_n 2, 1) := by decide +kernel
theorem dX6_addLink_3 : decode cX6_addLink 3 = .ok (.invokevirtual 76, 3) := by decide +kernel
theorem dX6_addLink_6 : decode cX6_addLink 6 = .ok (.ifCond .eq 20, 3) := by decide +kernel
theorem dX6_addLink_9 : decode cX6_addLink 9 = .ok (.iload_n 3, 1) := by decide +kernel
theorem dX6_addLink_10 : decode cX6_addLink 10 = .ok (.bipush 20, 2) := by decide +kernel
theorem dX6_addLink_12 : decode cX6_addLink 12 = .ok (.invokestatic 80, 3) := by decide +kernel
theorem dX6_addLink_15 : decode cX6_addLink 15 = .ok (.ifCond .eq 11, 3) := by decide +kernel
theorem dX6_addLink_18 : decode cX6_addLink 18 = .ok (.iload 4, 2) := by decide +kernel
theorem dX6_addLink_20 : decode cX6_addLink 20 = .ok (.invokestatic 83, 3) := by decide +kernel
theorem dX6_addLink_23 : decode cX6_addLink 23 = .ok (.ifCond .ne 5, 3) := by decide +kernel
theorem dX6_addLink_26 : decode cX6_addLink 26 = .ok (.iconst (-1), 1) := by decide +kernel
theorem dX6_addLink_27 : decode cX6_addLink 27 = .ok (.ireturn, 1) := by decide +kernel
theorem dX6_addLink_28 : decode cX6_addLink 28 = .ok (.aload_n 0, 1) := by decide +kernel
theorem dX6_addLink_29 : decode cX6_addLink 29 = .ok (.getfield 12, 3) := by decide +kernel
theorem dX6_addLink_32 : decode cX6_addLink 32 = .ok (.getfield 86, 3) := by decide +kernel
theorem dX6_addLink_35 : decode cX6_addLink 35 = .ok (.bipush 16, 2) := by decide +kernel
theorem dX6_addLink_37 : decode cX6_addLink 37 = .ok (.if_icmp .lt 6, 3) := by decide +kernel
theorem dX6_addLink_40 : decode cX6_addLink 40 = .ok (.bipush (-3), 2) := by decide +kernel
theorem dX6_addLink_42 : decode cX6_addLink 42 = .ok (.ireturn, 1) := by decide +kernel
theorem dX6_addLink_43 : decode cX6_addLink 43 = .ok (.aload_n 0, 1) := by decide +kernel
theorem dX6_addLink_44 : decode cX6_addLink 44 = .ok (.invokevirtual 69, 3) := by decide +kernel
theorem dX6_addLink_47 : decode cX6_addLink 47 = .ok (.aload_n 0, 1) := by decide +kernel
theorem dX6_addLink_48 : decode cX6_addLink 48 = .ok (.getfield 12, 3) := by decide +kernel
theorem dX6_addLink_51 : decode cX6_addLink 51 = .ok (.iload_n 1, 1) := by decide +kernel
theorem dX6_addLink_52 : decode cX6_addLink 52 = .ok (.iload_n 2, 1) := by decide +kernel
theorem dX6_addLink_53 : decode cX6_addLink 53 = .ok (.iload_n 3, 1) := by decide +kernel
theorem dX6_addLink_54 : decode cX6_addLink 54 = .ok (.iload 4, 2) := by decide +kernel
theorem dX6_addLink_56 : decode cX6_addLink 56 = .ok (.invokevirtual 89, 3) := by decide +kernel
theorem dX6_addLink_59 : decode cX6_addLink 59 = .ok (.ireturn, 1) := by decide +kernel
theorem dX6_setLink_0 : decode cX6_setLink 0 = .ok (.aload_n 0, 1) := by decide +kernel
theorem dX6_setLink_1 : decode cX6_setLink 1 = .ok (.iload_n 1, 1) := by decide +kernel
theorem dX6_setLink_2 : decode cX6_setLink 2 = .ok (.invokevirtual 93, 3) := by decide +kernel
theorem dX6_setLink_5 : decode cX6_setLink 5 = .ok (.ifCond .eq 19, 3) := by decide +kernel
theorem dX6_setLink_8 : decode cX6_setLink 8 = .ok (.iload_n 2, 1) := by decide +kernel
theorem dX6_setLink_9 : decode cX6_setLink 9 = .ok (.invokestatic 83, 3) := by decide +kernel
theorem dX6_setLink_12 : decode cX6_setLink 12 = .ok (.ifCond .eq 12, 3) := by decide +kernel
theorem dX6_setLink_15 : decode cX6_setLink 15 = .ok (.iload_n 3, 1) := by decide +kernel
theorem dX6_setLink_16 : decode cX6_setLink 16 = .ok (.bipush 20, 2) := by decide +kernel
theorem dX6_setLink_18 : decode cX6_setLink 18 = .ok (.invokestatic 80, 3) := by decide +kernel
theorem dX6_setLink_21 : decode cX6_setLink 21 = .ok (.ifCond .ne 5, 3) := by decide +kernel
theorem dX6_setLink_24 : decode cX6_setLink 24 = .ok (.iconst (-1), 1) := by decide +kernel
theorem dX6_setLink_25 : decode cX6_setLink 25 = .ok (.ireturn, 1) := by decide +kernel
theorem dX6_setLink_26 : decode cX6_setLink 26 = .ok (.aload_n 0, 1) := by decide +kernel
theorem dX6_setLink_27 : decode cX6_setLink 27 = .ok (.getfield 12, 3) := by decide +kernel
theorem dX6_setLink_30 : decode cX6_setLink 30 = .ok (.getfield 96, 3) := by decide +kernel
theorem dX6_setLink_33 : decode cX6_setLink 33 = .ok (.bipush 16, 2) := by decide +kernel
theorem dX6_setLink_35 : decode cX6_setLink 35 = .ok (.iload_n 1, 1) := by decide +kernel
theorem dX6_setLink_36 : decode cX6_setLink 36 = .ok (.iadd, 1) := by decide +kernel
theorem dX6_setLink_37 : decode cX6_setLink 37 = .ok (.iaload, 1) := by decide +kernel
theorem dX6_setLink_38 : decode cX6_setLink 38 = .ok (.istore 4, 2) := by decide +kernel
theorem dX6_setLink_40 : decode cX6_setLink 40 = .ok (.iload 4, 2) := by decide +kernel
theorem dX6_setLink_42 : decode cX6_setLink 42 = .ok (.invokestatic 100, 3) := by decide +kernel
theorem dX6_setLink_45 : decode cX6_setLink 45 = .ok (.iload_n 2, 1) := by decide +kernel
theorem dX6_setLink_46 : decode cX6_setLink 46 = .ok (.if_icmp .ne 15, 3) := by decide +kernel
theorem dX6_setLink_49 : decode cX6_setLink 49 = .ok (.iload 4, 2) := by decide +kernel
theorem dX6_setLink_51 : decode cX6_setLink 51 = .ok (.invokestatic 105, 3) := by decide +kernel
theorem dX6_setLink_54 : decode cX6_setLink 54 = .ok (.iload_n 3, 1) := by decide +kernel
theorem dX6_setLink_55 : decode cX6_setLink 55 = .ok (.if_icmp .ne 6, 3) := by decide +kernel
theorem dX6_setLink_58 : decode cX6_setLink 58 = .ok (.bipush (-2), 2) := by decide +kernel
theorem dX6_setLink_60 : decode cX6_setLink 60 = .ok (.ireturn, 1) := by decide +kernel
theorem dX6_setLink_61 : decode cX6_setLink 61 = .ok (.aload_n 0, 1) := by decide +kernel
theorem dX6_setLink_62 : decode cX6_setLink 62 = .ok (.invokevirtual 69, 3) := by decide +kernel
theorem dX6_setLink_65 : decode cX6_setLink 65 = .ok (.aload_n 0, 1) := by decide +kernel
theorem dX6_setLink_66 : decode cX6_setLink 66 = .ok (.getfield 12, 3) := by decide +kernel
theorem dX6_setLink_69 : decode cX6_setLink 69 = .ok (.iload_n 1, 1) := by decide +kernel
theorem dX6_setLink_70 : decode cX6_setLink 70 = .ok (.iload_n 2, 1) := by decide +kernel
theorem dX6_setLink_71 : decode cX6_setLink 71 = .ok (.iload_n 3, 1) := by decide +kernel
theorem dX6_setLink_72 : decode cX6_setLink 72 = .ok (.invokevirtual 108, 3) := by decide +kernel
theorem dX6_setLink_75 : decode cX6_setLink 75 = .ok (.ireturn, 1) := by decide +kernel
theorem dX6_setGrant_0 : decode cX6_setGrant 0 = .ok (.iload_n 1, 1) := by decide +kernel
theorem dX6_setGrant_1 : decode cX6_setGrant 1 = .ok (.iload_n 2, 1) := by decide +kernel
theorem dX6_setGrant_2 : decode cX6_setGrant 2 = .ok (.invokestatic 112, 3) := by decide +kernel
theorem dX6_setGrant_5 : decode cX6_setGrant 5 = .ok (.ifCond .eq 10, 3) := by decide +kernel
theorem dX6_setGrant_8 : decode cX6_setGrant 8 = .ok (.iload_n 3, 1) := by decide +kernel
theorem dX6_setGrant_9 : decode cX6_setGrant 9 = .ok (.invokestatic 83, 3) := by decide +kernel
theorem dX6_setGrant_12 : decode cX6_setGrant 12 = .ok (.ifCond .ne 5, 3) := by decide +kernel
theorem dX6_setGrant_15 : decode cX6_setGrant 15 = .ok (.iconst (-1), 1) := by decide +kernel
theorem dX6_setGrant_16 : decode cX6_setGrant 16 = .ok (.ireturn, 1) := by decide +kernel
theorem dX6_setGrant_17 : decode cX6_setGrant 17 = .ok (.aload_n 0, 1) := by decide +kernel
theorem dX6_setGrant_18 : decode cX6_setGrant 18 = .ok (.getfield 12, 3) := by decide +kernel
theorem dX6_setGrant_21 : decode cX6_setGrant 21 = .ok (.getfield 96, 3) := by decide +kernel
theorem dX6_setGrant_24 : decode cX6_setGrant 24 = .ok (.iload_n 1, 1) := by decide +kernel
theorem dX6_setGrant_25 : decode cX6_setGrant 25 = .ok (.iload_n 2, 1) := by decide +kernel
theorem dX6_setGrant_26 : decode cX6_setGrant 26 = .ok (.invokestatic 115, 3) := by decide +kernel
theorem dX6_setGrant_29 : decode cX6_setGrant 29 = .ok (.iaload, 1) := by decide +kernel
theorem dX6_setGrant_30 : decode cX6_setGrant 30 = .ok (.invokestatic 100, 3) := by decide +kernel
theorem dX6_setGrant_33 : decode cX6_setGrant 33 = .ok (.iload_n 3, 1) := by decide +kernel
theorem dX6_setGrant_34 : decode cX6_setGrant 34 = .ok (.if_icmp .ne 6, 3) := by decide +kernel
theorem dX6_setGrant_37 : decode cX6_setGrant 37 = .ok (.bipush (-2), 2) := by decide +kernel
theorem dX6_setGrant_39 : decode cX6_setGrant 39 = .ok (.ireturn, 1) := by decide +kernel
theorem dX6_setGrant_40 : decode cX6_setGrant 40 = .ok (.aload_n 0, 1) := by decide +kernel
theorem dX6_setGrant_41 : decode cX6_setGrant 41 = .ok (.invokevirtual 69, 3) := by decide +kernel
theorem dX6_setGrant_44 : decode cX6_setGrant 44 = .ok (.aload_n 0, 1) := by decide +kernel
theorem dX6_setGrant_45 : decode cX6_setGrant 45 = .ok (.getfield 12, 3) := by decide +kernel
theorem dX6_setGrant_48 : decode cX6_setGrant 48 = .ok (.iload_n 1, 1) := by decide +kernel
theorem dX6_setGrant_49 : decode cX6_setGrant 49 = .ok (.iload_n 2, 1) := by decide +kernel
theorem dX6_setGrant_50 : decode cX6_setGrant 50 = .ok (.iload_n 3, 1) := by decide +kernel
theorem dX6_setGrant_51 : decode cX6_setGrant 51 = .ok (.invokevirtual 119, 3) := by decide +kernel
theorem dX6_setGrant_54 : decode cX6_setGrant 54 = .ok (.ireturn, 1) := by decide +kernel
theorem dX6_addTunnel_0 : decode cX6_addTunnel 0 = .ok (.aload_n 0, 1) := by decide +kernel
theorem dX6_addTunnel_1 : decode cX6_addTunnel 1 = .ok (.iload_n 1, 1) := by decide +kernel
theorem dX6_addTunnel_2 : decode cX6_addTunnel 2 = .ok (.iload_n 2, 1) := by decide +kernel
theorem dX6_addTunnel_3 : decode cX6_addTunnel 3 = .ok (.invokevirtual 76, 3) := by decide +kernel
theorem dX6_addTunnel_6 : decode cX6_addTunnel 6 = .ok (.ifCond .eq 12, 3) := by decide +kernel
theorem dX6_addTunnel_9 : decode cX6_addTunnel 9 = .ok (.iload_n 3, 1) := by decide +kernel
theorem dX6_addTunnel_10 : decode cX6_addTunnel 10 = .ok (.bipush 40, 2) := by decide +kernel
theorem dX6_addTunnel_12 : decode cX6_addTunnel 12 = .ok (.invokestatic 80, 3) := by decide +kernel
theorem dX6_addTunnel_15 : decode cX6_addTunnel 15 = .ok (.ifCond .ne 5, 3) := by decide +kernel
theorem dX6_addTunnel_18 : decode cX6_addTunnel 18 = .ok (.iconst (-1), 1) := by decide +kernel
theorem dX6_addTunnel_19 : decode cX6_addTunnel 19 = .ok (.ireturn, 1) := by decide +kernel
theorem dX6_addTunnel_20 : decode cX6_addTunnel 20 = .ok (.aload_n 0, 1) := by decide +kernel
theorem dX6_addTunnel_21 : decode cX6_addTunnel 21 = .ok (.getfield 12, 3) := by decide +kernel
theorem dX6_addTunnel_24 : decode cX6_addTunnel 24 = .ok (.getfield 122, 3) := by decide +kernel
theorem dX6_addTunnel_27 : decode cX6_addTunnel 27 = .ok (.iconst 3, 1) := by decide +kernel
theorem dX6_addTunnel_28 : decode cX6_addTunnel 28 = .ok (.if_icmp .lt 6, 3) := by decide +kernel
theorem dX6_addTunnel_31 : decode cX6_addTunnel 31 = .ok (.bipush (-3), 2) := by decide +kernel
theorem dX6_addTunnel_33 : decode cX6_addTunnel 33 = .ok (.ireturn, 1) := by decide +kernel
theorem dX6_addTunnel_34 : decode cX6_addTunnel 34 = .ok (.aload_n 0, 1) := by decide +kernel
theorem dX6_addTunnel_35 : decode cX6_addTunnel 35 = .ok (.invokevirtual 69, 3) := by decide +kernel
theorem dX6_addTunnel_38 : decode cX6_addTunnel 38 = .ok (.aload_n 0, 1) := by decide +kernel
theorem dX6_addTunnel_39 : decode cX6_addTunnel 39 = .ok (.getfield 12, 3) := by decide +kernel
theorem dX6_addTunnel_42 : decode cX6_addTunnel 42 = .ok (.iload_n 1, 1) := by decide +kernel
theorem dX6_addTunnel_43 : decode cX6_addTunnel 43 = .ok (.iload_n 2, 1) := by decide +kernel
theorem dX6_addTunnel_44 : decode cX6_addTunnel 44 = .ok (.iload_n 3, 1) := by decide +kernel
theorem dX6_addTunnel_45 : decode cX6_addTunnel 45 = .ok (.invokevirtual 125, 3) := by decide +kernel
theorem dX6_addTunnel_48 : decode cX6_addTunnel 48 = .ok (.ireturn, 1) := by decide +kernel
theorem dX6_setTunnel_0 : decode cX6_setTunnel 0 = .ok (.aload_n 0, 1) := by decide +kernel
theorem dX6_setTunnel_1 : decode cX6_setTunnel 1 = .ok (.iload_n 1, 1) := by decide +kernel
theorem dX6_setTunnel_2 : decode cX6_setTunnel 2 = .ok (.invokevirtual 128, 3) := by decide +kernel
theorem dX6_setTunnel_5 : decode cX6_setTunnel 5 = .ok (.ifCond .eq 19, 3) := by decide +kernel
theorem dX6_setTunnel_8 : decode cX6_setTunnel 8 = .ok (.iload_n 2, 1) := by decide +kernel
theorem dX6_setTunnel_9 : decode cX6_setTunnel 9 = .ok (.invokestatic 83, 3) := by decide +kernel
theorem dX6_setTunnel_12 : decode cX6_setTunnel 12 = .ok (.ifCond .eq 12, 3) := by decide +kernel
theorem dX6_setTunnel_15 : decode cX6_setTunnel 15 = .ok (.iload_n 3, 1) := by decide +kernel
theorem dX6_setTunnel_16 : decode cX6_setTunnel 16 = .ok (.bipush 40, 2) := by decide +kernel
theorem dX6_setTunnel_18 : decode cX6_setTunnel 18 = .ok (.invokestatic 80, 3) := by decide +kernel
theorem dX6_setTunnel_21 : decode cX6_setTunnel 21 = .ok (.ifCond .ne 5, 3) := by decide +kernel
theorem dX6_setTunnel_24 : decode cX6_setTunnel 24 = .ok (.iconst (-1), 1) := by decide +kernel
theorem dX6_setTunnel_25 : decode cX6_setTunnel 25 = .ok (.ireturn, 1) := by decide +kernel
theorem dX6_setTunnel_26 : decode cX6_setTunnel 26 = .ok (.aload_n 0, 1) := by decide +kernel
theorem dX6_setTunnel_27 : decode cX6_setTunnel 27 = .ok (.getfield 12, 3) := by decide +kernel
theorem dX6_setTunnel_30 : decode cX6_setTunnel 30 = .ok (.getfield 96, 3) := by decide +kernel
theorem dX6_setTunnel_33 : decode cX6_setTunnel 33 = .ok (.bipush 32, 2) := by decide +kernel
theorem dX6_setTunnel_35 : decode cX6_setTunnel 35 = .ok (.iload_n 1, 1) := by decide +kernel
theorem dX6_setTunnel_36 : decode cX6_setTunnel 36 = .ok (.iadd, 1) := by decide +kernel
theorem dX6_setTunnel_37 : decode cX6_setTunnel 37 = .ok (.iaload, 1) := by decide +kernel
theorem dX6_setTunnel_38 : decode cX6_setTunnel 38 = .ok (.istore 4, 2) := by decide +kernel
theorem dX6_setTunnel_40 : decode cX6_setTunnel 40 = .ok (.iload 4, 2) := by decide +kernel
theorem dX6_setTunnel_42 : decode cX6_setTunnel 42 = .ok (.invokestatic 100, 3) := by decide +kernel
theorem dX6_setTunnel_45 : decode cX6_setTunnel 45 = .ok (.iload_n 2, 1) := by decide +kernel
theorem dX6_setTunnel_46 : decode cX6_setTunnel 46 = .ok (.if_icmp .ne 15, 3) := by decide +kernel
theorem dX6_setTunnel_49 : decode cX6_setTunnel 49 = .ok (.iload 4, 2) := by decide +kernel
theorem dX6_setTunnel_51 : decode cX6_setTunnel 51 = .ok (.invokestatic 105, 3) := by decide +kernel
theorem dX6_setTunnel_54 : decode cX6_setTunnel 54 = .ok (.iload_n 3, 1) := by decide +kernel
theorem dX6_setTunnel_55 : decode cX6_setTunnel 55 = .ok (.if_icmp .ne 6, 3) := by decide +kernel
theorem dX6_setTunnel_58 : decode cX6_setTunnel 58 = .ok (.bipush (-2), 2) := by decide +kernel
theorem dX6_setTunnel_60 : decode cX6_setTunnel 60 = .ok (.ireturn, 1) := by decide +kernel
theorem dX6_setTunnel_61 : decode cX6_setTunnel 61 = .ok (.aload_n 0, 1) := by decide +kernel
theorem dX6_setTunnel_62 : decode cX6_setTunnel 62 = .ok (.invokevirtual 69, 3) := by decide +kernel
theorem dX6_setTunnel_65 : decode cX6_setTunnel 65 = .ok (.aload_n 0, 1) := by decide +kernel
theorem dX6_setTunnel_66 : decode cX6_setTunnel 66 = .ok (.getfield 12, 3) := by decide +kernel
theorem dX6_setTunnel_69 : decode cX6_setTunnel 69 = .ok (.iload_n 1, 1) := by decide +kernel
theorem dX6_setTunnel_70 : decode cX6_setTunnel 70 = .ok (.iload_n 2, 1) := by decide +kernel
theorem dX6_setTunnel_71 : decode cX6_setTunnel 71 = .ok (.iload_n 3, 1) := by decide +kernel
theorem dX6_setTunnel_72 : decode cX6_setTunnel 72 = .ok (.invokevirtual 131, 3) := by decide +kernel
theorem dX6_setTunnel_75 : decode cX6_setTunnel 75 = .ok (.ireturn, 1) := by decide +kernel
theorem dX6_append_0 : decode cX6_append 0 = .ok (.iload_n 1, 1) := by decide +kernel
theorem dX6_append_1 : decode cX6_append 1 = .ok (.iconst 1, 1) := by decide +kernel
theorem dX6_append_2 : decode cX6_append 2 = .ok (.if_icmp .lt 10, 3) := by decide +kernel
theorem dX6_append_5 : decode cX6_append 5 = .ok (.iload_n 1, 1) := by decide +kernel
theorem dX6_append_6 : decode cX6_append 6 = .ok (.sipush 255, 3) := by decide +kernel
theorem dX6_append_9 : decode cX6_append 9 = .ok (.if_icmp .le 5, 3) := by decide +kernel
theorem dX6_append_12 : decode cX6_append 12 = .ok (.iconst (-1), 1) := by decide +kernel
theorem dX6_append_13 : decode cX6_append 13 = .ok (.ireturn, 1) := by decide +kernel
theorem dX6_append_14 : decode cX6_append 14 = .ok (.aload_n 0, 1) := by decide +kernel
theorem dX6_append_15 : decode cX6_append 15 = .ok (.getfield 30, 3) := by decide +kernel
theorem dX6_append_18 : decode cX6_append 18 = .ok (.getfield 134, 3) := by decide +kernel
theorem dX6_append_21 : decode cX6_append 21 = .ok (.bipush 120, 2) := by decide +kernel
theorem dX6_append_23 : decode cX6_append 23 = .ok (.if_icmp .lt 6, 3) := by decide +kernel
theorem dX6_append_26 : decode cX6_append 26 = .ok (.bipush (-3), 2) := by decide +kernel
theorem dX6_append_28 : decode cX6_append 28 = .ok (.ireturn, 1) := by decide +kernel
theorem dX6_append_29 : decode cX6_append 29 = .ok (.aload_n 0, 1) := by decide +kernel
theorem dX6_append_30 : decode cX6_append 30 = .ok (.getfield 30, 3) := by decide +kernel
theorem dX6_append_33 : decode cX6_append 33 = .ok (.getfield 137, 3) := by decide +kernel
theorem dX6_append_36 : decode cX6_append 36 = .ok (.aload_n 0, 1) := by decide +kernel
theorem dX6_append_37 : decode cX6_append 37 = .ok (.getfield 30, 3) := by decide +kernel
theorem dX6_append_40 : decode cX6_append 40 = .ok (.getfield 134, 3) := by decide +kernel
theorem dX6_append_43 : decode cX6_append 43 = .ok (.iload_n 1, 1) := by decide +kernel
theorem dX6_append_44 : decode cX6_append 44 = .ok (.i2c, 1) := by decide +kernel
theorem dX6_append_45 : decode cX6_append 45 = .ok (.castore, 1) := by decide +kernel
theorem dX6_append_46 : decode cX6_append 46 = .ok (.aload_n 0, 1) := by decide +kernel
theorem dX6_append_47 : decode cX6_append 47 = .ok (.getfield 30, 3) := by decide +kernel
theorem dX6_append_50 : decode cX6_append 50 = .ok (.dup, 1) := by decide +kernel
theorem dX6_append_51 : decode cX6_append 51 = .ok (.getfield 134, 3) := by decide +kernel
theorem dX6_append_54 : decode cX6_append 54 = .ok (.iconst 1, 1) := by decide +kernel
theorem dX6_append_55 : decode cX6_append 55 = .ok (.iadd, 1) := by decide +kernel
theorem dX6_append_56 : decode cX6_append 56 = .ok (.putfield 134, 3) := by decide +kernel
theorem dX6_append_59 : decode cX6_append 59 = .ok (.aload_n 0, 1) := by decide +kernel
theorem dX6_append_60 : decode cX6_append 60 = .ok (.getfield 30, 3) := by decide +kernel
theorem dX6_append_63 : decode cX6_append 63 = .ok (.getfield 134, 3) := by decide +kernel
theorem dX6_append_66 : decode cX6_append 66 = .ok (.ireturn, 1) := by decide +kernel
theorem dX6_clearText_0 : decode cX6_clearText 0 = .ok (.aload_n 0, 1) := by decide +kernel
theorem dX6_clearText_1 : decode cX6_clearText 1 = .ok (.getfield 30, 3) := by decide +kernel
theorem dX6_clearText_4 : decode cX6_clearText 4 = .ok (.getfield 134, 3) := by decide +kernel
theorem dX6_clearText_7 : decode cX6_clearText 7 = .ok (.istore_n 1, 1) := by decide +kernel
theorem dX6_clearText_8 : decode cX6_clearText 8 = .ok (.aload_n 0, 1) := by decide +kernel
theorem dX6_clearText_9 : decode cX6_clearText 9 = .ok (.getfield 30, 3) := by decide +kernel
theorem dX6_clearText_12 : decode cX6_clearText 12 = .ok (.iconst 0, 1) := by decide +kernel
theorem dX6_clearText_13 : decode cX6_clearText 13 = .ok (.putfield 134, 3) := by decide +kernel
theorem dX6_clearText_16 : decode cX6_clearText 16 = .ok (.iload_n 1, 1) := by decide +kernel
theorem dX6_clearText_17 : decode cX6_clearText 17 = .ok (.ireturn, 1) := by decide +kernel
theorem dX6_load_0 : decode cX6_load 0 = .ok (.aload_n 0, 1) := by decide +kernel
theorem dX6_load_1 : decode cX6_load 1 = .ok (.getfield 30, 3) := by decide +kernel
theorem dX6_load_4 : decode cX6_load 4 = .ok (.aload_n 0, 1) := by decide +kernel
theorem dX6_load_5 : decode cX6_load 5 = .ok (.getfield 16, 3) := by decide +kernel
theorem dX6_load_8 : decode cX6_load 8 = .ok (.invokevirtual 141, 3) := by decide +kernel
theorem dX6_load_11 : decode cX6_load 11 = .ok (.istore_n 1, 1) := by decide +kernel
theorem dX6_load_12 : decode cX6_load 12 = .ok (.iload_n 1, 1) := by decide +kernel
theorem dX6_load_13 : decode cX6_load 13 = .ok (.ifCond .ge 5, 3) := by decide +kernel
theorem dX6_load_16 : decode cX6_load 16 = .ok (.iload_n 1, 1) := by decide +kernel
theorem dX6_load_17 : decode cX6_load 17 = .ok (.ireturn, 1) := by decide +kernel
theorem dX6_load_18 : decode cX6_load 18 = .ok (.aload_n 0, 1) := by decide +kernel
theorem dX6_load_19 : decode cX6_load 19 = .ok (.invokevirtual 69, 3) := by decide +kernel
theorem dX6_load_22 : decode cX6_load 22 = .ok (.aload_n 0, 1) := by decide +kernel
theorem dX6_load_23 : decode cX6_load 23 = .ok (.getfield 12, 3) := by decide +kernel
theorem dX6_load_26 : decode cX6_load 26 = .ok (.aload_n 0, 1) := by decide +kernel
theorem dX6_load_27 : decode cX6_load 27 = .ok (.getfield 16, 3) := by decide +kernel
theorem dX6_load_30 : decode cX6_load 30 = .ok (.invokevirtual 145, 3) := by decide +kernel
theorem dX6_load_33 : decode cX6_load 33 = .ok (.aload_n 0, 1) := by decide +kernel
theorem dX6_load_34 : decode cX6_load 34 = .ok (.getfield 30, 3) := by decide +kernel
theorem dX6_load_37 : decode cX6_load 37 = .ok (.iconst 0, 1) := by decide +kernel
theorem dX6_load_38 : decode cX6_load 38 = .ok (.putfield 134, 3) := by decide +kernel
theorem dX6_load_41 : decode cX6_load 41 = .ok (.iload_n 1, 1) := by decide +kernel
theorem dX6_load_42 : decode cX6_load 42 = .ok (.ireturn, 1) := by decide +kernel
theorem dX6_step_0 : decode cX6_step 0 = .ok (.iload_n 1, 1) := by decide +kernel
theorem dX6_step_1 : decode cX6_step 1 = .ok (.iconst 1, 1) := by decide +kernel
theorem dX6_step_2 : decode cX6_step 2 = .ok (.if_icmp .lt 9, 3) := by decide +kernel
theorem dX6_step_5 : decode cX6_step 5 = .ok (.iload_n 1, 1) := by decide +kernel
theorem dX6_step_6 : decode cX6_step 6 = .ok (.bipush 40, 2) := by decide +kernel
theorem dX6_step_8 : decode cX6_step 8 = .ok (.if_icmp .le 5, 3) := by decide +kernel
theorem dX6_step_11 : decode cX6_step 11 = .ok (.iconst (-1), 1) := by decide +kernel
theorem dX6_step_12 : decode cX6_step 12 = .ok (.ireturn, 1) := by decide +kernel
theorem dX6_step_13 : decode cX6_step 13 = .ok (.aload_n 0, 1) := by decide +kernel
theorem dX6_step_14 : decode cX6_step 14 = .ok (.getfield 12, 3) := by decide +kernel
theorem dX6_step_17 : decode cX6_step 17 = .ok (.invokevirtual 149, 3) := by decide +kernel
theorem dX6_step_20 : decode cX6_step 20 = .ok (.ifCond .eq 6, 3) := by decide +kernel
theorem dX6_step_23 : decode cX6_step 23 = .ok (.bipush (-2), 2) := by decide +kernel
theorem dX6_step_25 : decode cX6_step 25 = .ok (.ireturn, 1) := by decide +kernel
theorem dX6_step_26 : decode cX6_step 26 = .ok (.aload_n 0, 1) := by decide +kernel
theorem dX6_step_27 : decode cX6_step 27 = .ok (.invokevirtual 69, 3) := by decide +kernel
theorem dX6_step_30 : decode cX6_step 30 = .ok (.aload_n 0, 1) := by decide +kernel
