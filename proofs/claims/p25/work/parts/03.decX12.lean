theorem dX1_init_0 : decode cX1_init 0 = .ok (.aload_n 0, 1) := by decide +kernel
theorem dX1_init_1 : decode cX1_init 1 = .ok (.invokespecial 3, 3) := by decide +kernel
theorem dX1_init_4 : decode cX1_init 4 = .ok (.aload_n 0, 1) := by decide +kernel
theorem dX1_init_5 : decode cX1_init 5 = .ok (.bipush 80, 2) := by decide +kernel
theorem dX1_init_7 : decode cX1_init 7 = .ok (.newarray .int, 2) := by decide +kernel
theorem dX1_init_9 : decode cX1_init 9 = .ok (.putfield 11, 3) := by decide +kernel
theorem dX1_init_12 : decode cX1_init 12 = .ok (.aload_n 0, 1) := by decide +kernel
theorem dX1_init_13 : decode cX1_init 13 = .ok (.iconst 0, 1) := by decide +kernel
theorem dX1_init_14 : decode cX1_init 14 = .ok (.putfield 15, 3) := by decide +kernel
theorem dX1_init_17 : decode cX1_init 17 = .ok (.aload_n 0, 1) := by decide +kernel
theorem dX1_init_18 : decode cX1_init 18 = .ok (.iconst 0, 1) := by decide +kernel
theorem dX1_init_19 : decode cX1_init 19 = .ok (.putfield 19, 3) := by decide +kernel
theorem dX1_init_22 : decode cX1_init 22 = .ok (.aload_n 0, 1) := by decide +kernel
theorem dX1_init_23 : decode cX1_init 23 = .ok (.iconst 0, 1) := by decide +kernel
theorem dX1_init_24 : decode cX1_init 24 = .ok (.putfield 22, 3) := by decide +kernel
theorem dX1_init_27 : decode cX1_init 27 = .ok (.aload_n 0, 1) := by decide +kernel
theorem dX1_init_28 : decode cX1_init 28 = .ok (.iconst 0, 1) := by decide +kernel
theorem dX1_init_29 : decode cX1_init 29 = .ok (.putfield 25, 3) := by decide +kernel
theorem dX1_init_32 : decode cX1_init 32 = .ok (.aload_n 0, 1) := by decide +kernel
theorem dX1_init_33 : decode cX1_init 33 = .ok (.iconst 0, 1) := by decide +kernel
theorem dX1_init_34 : decode cX1_init 34 = .ok (.putfield 28, 3) := by decide +kernel
theorem dX1_init_37 : decode cX1_init 37 = .ok (.aload_n 0, 1) := by decide +kernel
theorem dX1_init_38 : decode cX1_init 38 = .ok (.iconst 0, 1) := by decide +kernel
theorem dX1_init_39 : decode cX1_init 39 = .ok (.putfield 31, 3) := by decide +kernel
theorem dX1_init_42 : decode cX1_init 42 = .ok (.return_, 1) := by decide +kernel
theorem dX1_length_0 : decode cX1_length 0 = .ok (.aload_n 0, 1) := by decide +kernel
theorem dX1_length_1 : decode cX1_length 1 = .ok (.getfield 15, 3) := by decide +kernel
theorem dX1_length_4 : decode cX1_length 4 = .ok (.ireturn, 1) := by decide +kernel
theorem dX2_init_0 : decode cX2_init 0 = .ok (.aload_n 0, 1) := by decide +kernel
theorem dX2_init_1 : decode cX2_init 1 = .ok (.invokespecial 3, 3) := by decide +kernel
theorem dX2_init_4 : decode cX2_init 4 = .ok (.aload_n 0, 1) := by decide +kernel
theorem dX2_init_5 : decode cX2_init 5 = .ok (.new 9, 3) := by decide +kernel
theorem dX2_init_8 : decode cX2_init 8 = .ok (.dup, 1) := by decide +kernel
theorem dX2_init_9 : decode cX2_init 9 = .ok (.invokespecial 11, 3) := by decide +kernel
theorem dX2_init_12 : decode cX2_init 12 = .ok (.putfield 12, 3) := by decide +kernel
theorem dX2_init_15 : decode cX2_init 15 = .ok (.aload_n 0, 1) := by decide +kernel
theorem dX2_init_16 : decode cX2_init 16 = .ok (.new 9, 3) := by decide +kernel
theorem dX2_init_19 : decode cX2_init 19 = .ok (.dup, 1) := by decide +kernel
theorem dX2_init_20 : decode cX2_init 20 = .ok (.invokespecial 11, 3) := by decide +kernel
theorem dX2_init_23 : decode cX2_init 23 = .ok (.putfield 16, 3) := by decide +kernel
theorem dX2_init_26 : decode cX2_init 26 = .ok (.aload_n 0, 1) := by decide +kernel
theorem dX2_init_27 : decode cX2_init 27 = .ok (.new 19, 3) := by decide +kernel
theorem dX2_init_30 : decode cX2_init 30 = .ok (.dup, 1) := by decide +kernel
theorem dX2_init_31 : decode cX2_init 31 = .ok (.invokespecial 21, 3) := by decide +kernel
theorem dX2_init_34 : decode cX2_init 34 = .ok (.putfield 22, 3) := by decide +kernel
theorem dX2_init_37 : decode cX2_init 37 = .ok (.aload_n 0, 1) := by decide +kernel
theorem dX2_init_38 : decode cX2_init 38 = .ok (.bipush 7, 2) := by decide +kernel
theorem dX2_init_40 : decode cX2_init 40 = .ok (.bipush 125, 2) := by decide +kernel
theorem dX2_init_42 : decode cX2_init 42 = .ok (.multianewarray 26 2, 4) := by decide +kernel
theorem dX2_init_46 : decode cX2_init 46 = .ok (.putfield 28, 3) := by decide +kernel
theorem dX2_init_49 : decode cX2_init 49 = .ok (.aload_n 0, 1) := by decide +kernel
theorem dX2_init_50 : decode cX2_init 50 = .ok (.iconst 2, 1) := by decide +kernel
theorem dX2_init_51 : decode cX2_init 51 = .ok (.bipush 125, 2) := by decide +kernel
theorem dX2_init_53 : decode cX2_init 53 = .ok (.multianewarray 26 2, 4) := by decide +kernel
theorem dX2_init_57 : decode cX2_init 57 = .ok (.putfield 31, 3) := by decide +kernel
theorem dX2_init_60 : decode cX2_init 60 = .ok (.aload_n 0, 1) := by decide +kernel
theorem dX2_init_61 : decode cX2_init 61 = .ok (.iconst 2, 1) := by decide +kernel
theorem dX2_init_62 : decode cX2_init 62 = .ok (.newarray .boolean, 2) := by decide +kernel
theorem dX2_init_64 : decode cX2_init 64 = .ok (.putfield 34, 3) := by decide +kernel
theorem dX2_init_67 : decode cX2_init 67 = .ok (.aload_n 0, 1) := by decide +kernel
theorem dX2_init_68 : decode cX2_init 68 = .ok (.iconst 0, 1) := by decide +kernel
theorem dX2_init_69 : decode cX2_init 69 = .ok (.putfield 38, 3) := by decide +kernel
theorem dX2_init_72 : decode cX2_init 72 = .ok (.aload_n 0, 1) := by decide +kernel
theorem dX2_init_73 : decode cX2_init 73 = .ok (.iconst 0, 1) := by decide +kernel
theorem dX2_init_74 : decode cX2_init 74 = .ok (.putfield 42, 3) := by decide +kernel
theorem dX2_init_77 : decode cX2_init 77 = .ok (.return_, 1) := by decide +kernel
theorem dX2_set_0 : decode cX2_set 0 = .ok (.aload_n 0, 1) := by decide +kernel
theorem dX2_set_1 : decode cX2_set 1 = .ok (.invokevirtual 45, 3) := by decide +kernel
theorem dX2_set_4 : decode cX2_set 4 = .ok (.aload_n 0, 1) := by decide +kernel
theorem dX2_set_5 : decode cX2_set 5 = .ok (.aload_n 0, 1) := by decide +kernel
theorem dX2_set_6 : decode cX2_set 6 = .ok (.getfield 12, 3) := by decide +kernel
theorem dX2_set_9 : decode cX2_set 9 = .ok (.iload_n 1, 1) := by decide +kernel
theorem dX2_set_10 : decode cX2_set 10 = .ok (.iload_n 2, 1) := by decide +kernel
theorem dX2_set_11 : decode cX2_set 11 = .ok (.invokevirtual 48, 3) := by decide +kernel
theorem dX2_set_14 : decode cX2_set 14 = .ok (.invokevirtual 52, 3) := by decide +kernel
theorem dX2_set_17 : decode cX2_set 17 = .ok (.ireturn, 1) := by decide +kernel
theorem dX2_board_0 : decode cX2_board 0 = .ok (.aload_n 0, 1) := by decide +kernel
theorem dX2_board_1 : decode cX2_board 1 = .ok (.invokevirtual 45, 3) := by decide +kernel
theorem dX2_board_4 : decode cX2_board 4 = .ok (.aload_n 0, 1) := by decide +kernel
theorem dX2_board_5 : decode cX2_board 5 = .ok (.aload_n 0, 1) := by decide +kernel
theorem dX2_board_6 : decode cX2_board 6 = .ok (.getfield 12, 3) := by decide +kernel
theorem dX2_board_9 : decode cX2_board 9 = .ok (.iload_n 1, 1) := by decide +kernel
theorem dX2_board_10 : decode cX2_board 10 = .ok (.iload_n 2, 1) := by decide +kernel
theorem dX2_board_11 : decode cX2_board 11 = .ok (.iload_n 3, 1) := by decide +kernel
theorem dX2_board_12 : decode cX2_board 12 = .ok (.invokevirtual 56, 3) := by decide +kernel
theorem dX2_board_15 : decode cX2_board 15 = .ok (.invokevirtual 52, 3) := by decide +kernel
theorem dX2_board_18 : decode cX2_board 18 = .ok (.ireturn, 1) := by decide +kernel
theorem dX2_load_0 : decode cX2_load 0 = .ok (.aload_n 0, 1) := by decide +kernel
theorem dX2_load_1 : decode cX2_load 1 = .ok (.invokevirtual 45, 3) := by decide +kernel
theorem dX2_load_4 : decode cX2_load 4 = .ok (.aload_n 0, 1) := by decide +kernel
theorem dX2_load_5 : decode cX2_load 5 = .ok (.aload_n 0, 1) := by decide +kernel
theorem dX2_load_6 : decode cX2_load 6 = .ok (.getfield 12, 3) := by decide +kernel
theorem dX2_load_9 : decode cX2_load 9 = .ok (.iload_n 1, 1) := by decide +kernel
theorem dX2_load_10 : decode cX2_load 10 = .ok (.iload_n 2, 1) := by decide +kernel
theorem dX2_load_11 : decode cX2_load 11 = .ok (.invokevirtual 60, 3) := by decide +kernel
theorem dX2_load_14 : decode cX2_load 14 = .ok (.invokevirtual 52, 3) := by decide +kernel
theorem dX2_load_17 : decode cX2_load 17 = .ok (.ireturn, 1) := by decide +kernel
theorem dX2_turn_0 : decode cX2_turn 0 = .ok (.aload_n 0, 1) := by decide +kernel
theorem dX2_turn_1 : decode cX2_turn 1 = .ok (.invokevirtual 45, 3) := by decide +kernel
theorem dX2_turn_4 : decode cX2_turn 4 = .ok (.aload_n 0, 1) := by decide +kernel
theorem dX2_turn_5 : decode cX2_turn 5 = .ok (.aload_n 0, 1) := by decide +kernel
theorem dX2_turn_6 : decode cX2_turn 6 = .ok (.getfield 12, 3) := by decide +kernel
theorem dX2_turn_9 : decode cX2_turn 9 = .ok (.iload_n 1, 1) := by decide +kernel
theorem dX2_turn_10 : decode cX2_turn 10 = .ok (.invokevirtual 63, 3) := by decide +kernel
theorem dX2_turn_13 : decode cX2_turn 13 = .ok (.invokevirtual 52, 3) := by decide +kernel
theorem dX2_turn_16 : decode cX2_turn 16 = .ok (.ireturn, 1) := by decide +kernel
theorem dX2_fuse_0 : decode cX2_fuse 0 = .ok (.aload_n 0, 1) := by decide +kernel
theorem dX2_fuse_1 : decode cX2_fuse 1 = .ok (.invokevirtual 45, 3) := by decide +kernel
theorem dX2_fuse_4 : decode cX2_fuse 4 = .ok (.aload_n 0, 1) := by decide +kernel
theorem dX2_fuse_5 : decode cX2_fuse 5 = .ok (.aload_n 0, 1) := by decide +kernel
theorem dX2_fuse_6 : decode cX2_fuse 6 = .ok (.getfield 12, 3) := by decide +kernel
theorem dX2_fuse_9 : decode cX2_fuse 9 = .ok (.iload_n 1, 1) := by decide +kernel
theorem dX2_fuse_10 : decode cX2_fuse 10 = .ok (.iload_n 2, 1) := by decide +kernel
theorem dX2_fuse_11 : decode cX2_fuse 11 = .ok (.iload_n 3, 1) := by decide +kernel
theorem dX2_fuse_12 : decode cX2_fuse 12 = .ok (.invokevirtual 66, 3) := by decide +kernel
theorem dX2_fuse_15 : decode cX2_fuse 15 = .ok (.invokevirtual 52, 3) := by decide +kernel
theorem dX2_fuse_18 : decode cX2_fuse 18 = .ok (.ireturn, 1) := by decide +kernel
theorem dX2_pass_0 : decode cX2_pass 0 = .ok (.aload_n 0, 1) := by decide +kernel
theorem dX2_pass_1 : decode cX2_pass 1 = .ok (.invokevirtual 45, 3) := by decide +kernel
theorem dX2_pass_4 : decode cX2_pass 4 = .ok (.aload_n 0, 1) := by decide +kernel
theorem dX2_pass_5 : decode cX2_pass 5 = .ok (.aload_n 0, 1) := by decide +kernel
theorem dX2_pass_6 : decode cX2_pass 6 = .ok (.getfield 12, 3) := by decide +kernel
theorem dX2_pass_9 : decode cX2_pass 9 = .ok (.iload_n 1, 1) := by decide +kernel
theorem dX2_pass_10 : decode cX2_pass 10 = .ok (.invokevirtual 69, 3) := by decide +kernel
theorem dX2_pass_13 : decode cX2_pass 13 = .ok (.invokevirtual 52, 3) := by decide +kernel
theorem dX2_pass_16 : decode cX2_pass 16 = .ok (.ireturn, 1) := by decide +kernel
theorem dX2_of_0 : decode cX2_of 0 = .ok (.aload_n 0, 1) := by decide +kernel
theorem dX2_of_1 : decode cX2_of 1 = .ok (.getfield 12, 3) := by decide +kernel
theorem dX2_of_4 : decode cX2_of 4 = .ok (.iload_n 1, 1) := by decide +kernel
theorem dX2_of_5 : decode cX2_of 5 = .ok (.invokevirtual 72, 3) := by decide +kernel
theorem dX2_of_8 : decode cX2_of 8 = .ok (.ifCond .ne 5, 3) := by decide +kernel
theorem dX2_of_11 : decode cX2_of 11 = .ok (.iconst (-1), 1) := by decide +kernel
theorem dX2_of_12 : decode cX2_of 12 = .ok (.ireturn, 1) := by decide +kernel
theorem dX2_of_13 : decode cX2_of 13 = .ok (.aload_n 0, 1) := by decide +kernel
theorem dX2_of_14 : decode cX2_of 14 = .ok (.getfield 12, 3) := by decide +kernel
theorem dX2_of_17 : decode cX2_of 17 = .ok (.iload_n 1, 1) := by decide +kernel
theorem dX2_of_18 : decode cX2_of 18 = .ok (.iload_n 2, 1) := by decide +kernel
theorem dX2_of_19 : decode cX2_of 19 = .ok (.invokevirtual 76, 3) := by decide +kernel
theorem dX2_of_22 : decode cX2_of 22 = .ok (.ireturn, 1) := by decide +kernel
theorem dX2_ofLoad_0 : decode cX2_ofLoad 0 = .ok (.aload_n 0, 1) := by decide +kernel
theorem dX2_ofLoad_1 : decode cX2_ofLoad 1 = .ok (.getfield 12, 3) := by decide +kernel
theorem dX2_ofLoad_4 : decode cX2_ofLoad 4 = .ok (.iload_n 1, 1) := by decide +kernel
theorem dX2_ofLoad_5 : decode cX2_ofLoad 5 = .ok (.invokevirtual 79, 3) := by decide +kernel
theorem dX2_ofLoad_8 : decode cX2_ofLoad 8 = .ok (.ifCond .ne 5, 3) := by decide +kernel
theorem dX2_ofLoad_11 : decode cX2_ofLoad 11 = .ok (.iconst (-1), 1) := by decide +kernel
theorem dX2_ofLoad_12 : decode cX2_ofLoad 12 = .ok (.ireturn, 1) := by decide +kernel
theorem dX2_ofLoad_13 : decode cX2_ofLoad 13 = .ok (.aload_n 0, 1) := by decide +kernel
theorem dX2_ofLoad_14 : decode cX2_ofLoad 14 = .ok (.getfield 12, 3) := by decide +kernel
theorem dX2_ofLoad_17 : decode cX2_ofLoad 17 = .ok (.iload_n 1, 1) := by decide +kernel
theorem dX2_ofLoad_18 : decode cX2_ofLoad 18 = .ok (.iload_n 2, 1) := by decide +kernel
theorem dX2_ofLoad_19 : decode cX2_ofLoad 19 = .ok (.invokevirtual 82, 3) := by decide +kernel
theorem dX2_ofLoad_22 : decode cX2_ofLoad 22 = .ok (.ireturn, 1) := by decide +kernel
theorem dX2_fed_0 : decode cX2_fed 0 = .ok (.aload_n 0, 1) := by decide +kernel
theorem dX2_fed_1 : decode cX2_fed 1 = .ok (.getfield 12, 3) := by decide +kernel
theorem dX2_fed_4 : decode cX2_fed 4 = .ok (.iload_n 1, 1) := by decide +kernel
theorem dX2_fed_5 : decode cX2_fed 5 = .ok (.invokevirtual 72, 3) := by decide +kernel
theorem dX2_fed_8 : decode cX2_fed 8 = .ok (.ifCond .ne 5, 3) := by decide +kernel
theorem dX2_fed_11 : decode cX2_fed 11 = .ok (.iconst (-1), 1) := by decide +kernel
theorem dX2_fed_12 : decode cX2_fed 12 = .ok (.ireturn, 1) := by decide +kernel
theorem dX2_fed_13 : decode cX2_fed 13 = .ok (.aload_n 0, 1) := by decide +kernel
theorem dX2_fed_14 : decode cX2_fed 14 = .ok (.getfield 12, 3) := by decide +kernel
theorem dX2_fed_17 : decode cX2_fed 17 = .ok (.iload_n 1, 1) := by decide +kernel
theorem dX2_fed_18 : decode cX2_fed 18 = .ok (.invokevirtual 85, 3) := by decide +kernel
theorem dX2_fed_21 : decode cX2_fed 21 = .ok (.ireturn, 1) := by decide +kernel
theorem dX2_blown_0 : decode cX2_blown 0 = .ok (.aload_n 0, 1) := by decide +kernel
theorem dX2_blown_1 : decode cX2_blown 1 = .ok (.getfield 12, 3) := by decide +kernel
theorem dX2_blown_4 : decode cX2_blown 4 = .ok (.iload_n 1, 1) := by decide +kernel
theorem dX2_blown_5 : decode cX2_blown 5 = .ok (.invokevirtual 88, 3) := by decide +kernel
theorem dX2_blown_8 : decode cX2_blown 8 = .ok (.ireturn, 1) := by decide +kernel
theorem dX2_count_0 : decode cX2_count 0 = .ok (.iload_n 1, 1) := by decide +kernel
theorem dX2_count_1 : decode cX2_count 1 = .ok (.bipush 12, 2) := by decide +kernel
theorem dX2_count_3 : decode cX2_count 3 = .ok (.if_icmp .ne 11, 3) := by decide +kernel
theorem dX2_count_6 : decode cX2_count 6 = .ok (.aload_n 0, 1) := by decide +kernel
theorem dX2_count_7 : decode cX2_count 7 = .ok (.getfield 22, 3) := by decide +kernel
theorem dX2_count_10 : decode cX2_count 10 = .ok (.invokevirtual 91, 3) := by decide +kernel
theorem dX2_count_13 : decode cX2_count 13 = .ok (.ireturn, 1) := by decide +kernel
theorem dX2_count_14 : decode cX2_count 14 = .ok (.iload_n 1, 1) := by decide +kernel
theorem dX2_count_15 : decode cX2_count 15 = .ok (.bipush 13, 2) := by decide +kernel
theorem dX2_count_17 : decode cX2_count 17 = .ok (.if_icmp .ne 8, 3) := by decide +kernel
theorem dX2_count_20 : decode cX2_count 20 = .ok (.aload_n 0, 1) := by decide +kernel
theorem dX2_count_21 : decode cX2_count 21 = .ok (.getfield 42, 3) := by decide +kernel
theorem dX2_count_24 : decode cX2_count 24 = .ok (.ireturn, 1) := by decide +kernel
theorem dX2_count_25 : decode cX2_count 25 = .ok (.aload_n 0, 1) := by decide +kernel
theorem dX2_count_26 : decode cX2_count 26 = .ok (.getfield 12, 3) := by decide +kernel
theorem dX2_count_29 : decode cX2_count 29 = .ok (.iload_n 1, 1) := by decide +kernel
theorem dX2_count_30 : decode cX2_count 30 = .ok (.invokevirtual 95, 3) := by decide +kernel
theorem dX2_count_33 : decode cX2_count 33 = .ok (.ireturn, 1) := by decide +kernel
theorem dX2_next_0 : decode cX2_next 0 = .ok (.iload_n 1, 1) := by decide +kernel
theorem dX2_next_1 : decode cX2_next 1 = .ok (.invokestatic 98, 3) := by decide +kernel
theorem dX2_next_4 : decode cX2_next 4 = .ok (.ifCond .ne 6, 3) := by decide +kernel
theorem dX2_next_7 : decode cX2_next 7 = .ok (.bipush (-2), 2) := by decide +kernel
theorem dX2_next_9 : decode cX2_next 9 = .ok (.ireturn, 1) := by decide +kernel
theorem dX2_next_10 : decode cX2_next 10 = .ok (.aload_n 0, 1) := by decide +kernel
theorem dX2_next_11 : decode cX2_next 11 = .ok (.getfield 16, 3) := by decide +kernel
theorem dX2_next_14 : decode cX2_next 14 = .ok (.aload_n 0, 1) := by decide +kernel
theorem dX2_next_15 : decode cX2_next 15 = .ok (.getfield 12, 3) := by decide +kernel
theorem dX2_next_18 : decode cX2_next 18 = .ok (.invokevirtual 101, 3) := by decide +kernel
theorem dX2_next_21 : decode cX2_next 21 = .ok (.aload_n 0, 1) := by decide +kernel
theorem dX2_next_22 : decode cX2_next 22 = .ok (.iload_n 1, 1) := by decide +kernel
theorem dX2_next_23 : decode cX2_next 23 = .ok (.invokevirtual 105, 3) := by decide +kernel
theorem dX2_next_26 : decode cX2_next 26 = .ok (.ireturn, 1) := by decide +kernel
theorem dX2_test_0 : decode cX2_test 0 = .ok (.aload_n 0, 1) := by decide +kernel
theorem dX2_test_1 : decode cX2_test 1 = .ok (.getfield 12, 3) := by decide +kernel
theorem dX2_test_4 : decode cX2_test 4 = .ok (.iload_n 1, 1) := by decide +kernel
theorem dX2_test_5 : decode cX2_test 5 = .ok (.invokevirtual 72, 3) := by decide +kernel
theorem dX2_test_8 : decode cX2_test 8 = .ok (.ifCond .ne 5, 3) := by decide +kernel
theorem dX2_test_11 : decode cX2_test 11 = .ok (.iconst (-1), 1) := by decide +kernel
theorem dX2_test_12 : decode cX2_test 12 = .ok (.ireturn, 1) := by decide +kernel
theorem dX2_test_13 : decode cX2_test 13 = .ok (.iload_n 2, 1) := by decide +kernel
theorem dX2_test_14 : decode cX2_test 14 = .ok (.iconst 1, 1) := by decide +kernel
theorem dX2_test_15 : decode cX2_test 15 = .ok (.if_icmp .lt 17, 3) := by decide +kernel
theorem dX2_test_18 : decode cX2_test 18 = .ok (.iload_n 2, 1) := by decide +kernel
theorem dX2_test_19 : decode cX2_test 19 = .ok (.sipush 9999, 3) := by decide +kernel
theorem dX2_test_22 : decode cX2_test 22 = .ok (.if_icmp .gt 10, 3) := by decide +kernel
theorem dX2_test_25 : decode cX2_test 25 = .ok (.iload_n 3, 1) := by decide +kernel
theorem dX2_test_26 : decode cX2_test 26 = .ok (.invokestatic 98, 3) := by decide +kernel
theorem dX2_test_29 : decode cX2_test 29 = .ok (.ifCond .ne 6, 3) := by decide +kernel
theorem dX2_test_32 : decode cX2_test 32 = .ok (.bipush (-2), 2) := by decide +kernel
theorem dX2_test_34 : decode cX2_test 34 = .ok (.ireturn, 1) := by decide +kernel
theorem dX2_test_35 : decode cX2_test 35 = .ok (.aload_n 0, 1) := by decide +kernel
theorem dX2_test_36 : decode cX2_test 36 = .ok (.iload_n 1, 1) := by decide +kernel
theorem dX2_test_37 : decode cX2_test 37 = .ok (.iload_n 2, 1) := by decide +kernel
theorem dX2_test_38 : decode cX2_test 38 = .ok (.iload_n 3, 1) := by decide +kernel
theorem dX2_test_39 : decode cX2_test 39 = .ok (.invokevirtual 108, 3) := by decide +kernel
theorem dX2_test_42 : decode cX2_test 42 = .ok (.ireturn, 1) := by decide +kernel
theorem dX2_unfair_0 : decode cX2_unfair 0 = .ok (.iload_n 1, 1) := by decide +kernel
theorem dX2_unfair_1 : decode cX2_unfair 1 = .ok (.iconst 2, 1) := by decide +kernel
theorem dX2_unfair_2 : decode cX2_unfair 2 = .ok (.if_icmp .lt 9, 3) := by decide +kernel
theorem dX2_unfair_5 : decode cX2_unfair 5 = .ok (.iload_n 1, 1) := by decide +kernel
theorem dX2_unfair_6 : decode cX2_unfair 6 = .ok (.bipush 20, 2) := by decide +kernel
theorem dX2_unfair_8 : decode cX2_unfair 8 = .ok (.if_icmp .le 6, 3) := by decide +kernel
theorem dX2_unfair_11 : decode cX2_unfair 11 = .ok (.bipush (-2), 2) := by decide +kernel
theorem dX2_unfair_13 : decode cX2_unfair 13 = .ok (.ireturn, 1) := by decide +kernel
theorem dX2_unfair_14 : decode cX2_unfair 14 = .ok (.iconst 0, 1) := by decide +kernel
theorem dX2_unfair_15 : decode cX2_unfair 15 = .ok (.istore_n 2, 1) := by decide +kernel
theorem dX2_unfair_16 : decode cX2_unfair 16 = .ok (.iconst 0, 1) := by decide +kernel
theorem dX2_unfair_17 : decode cX2_unfair 17 = .ok (.istore_n 3, 1) := by decide +kernel
theorem dX2_unfair_18 : decode cX2_unfair 18 = .ok (.iload_n 3, 1) := by decide +kernel
theorem dX2_unfair_19 : decode cX2_unfair 19 = .ok (.aload_n 0, 1) := by decide +kernel
theorem dX2_unfair_20 : decode cX2_unfair 20 = .ok (.getfield 12, 3) := by decide +kernel
theorem dX2_unfair_23 : decode cX2_unfair 23 = .ok (.invokevirtual 111, 3) := by decide +kernel
theorem dX2_unfair_26 : decode cX2_unfair 26 = .ok (.if_icmp .ge 46, 3) := by decide +kernel
theorem dX2_unfair_29 : decode cX2_unfair 29 = .ok (.aload_n 0, 1) := by decide +kernel
theorem dX2_unfair_30 : decode cX2_unfair 30 = .ok (.iload_n 3, 1) := by decide +kernel
theorem dX2_unfair_31 : decode cX2_unfair 31 = .ok (.iload_n 1, 1) := by decide +kernel
theorem dX2_unfair_32 : decode cX2_unfair 32 = .ok (.aload_n 0, 1) := by decide +kernel
theorem dX2_unfair_33 : decode cX2_unfair 33 = .ok (.getfield 12, 3) := by decide +kernel
theorem dX2_unfair_36 : decode cX2_unfair 36 = .ok (.iload_n 3, 1) := by decide +kernel
theorem dX2_unfair_37 : decode cX2_unfair 37 = .ok (.invokevirtual 114, 3) := by decide +kernel
theorem dX2_unfair_40 : decode cX2_unfair 40 = .ok (.imul, 1) := by decide +kernel
theorem dX2_unfair_41 : decode cX2_unfair 41 = .ok (.iconst 1, 1) := by decide +kernel
theorem dX2_unfair_42 : decode cX2_unfair 42 = .ok (.invokevirtual 108, 3) := by decide +kernel
theorem dX2_unfair_45 : decode cX2_unfair 45 = .ok (.istore 4, 2) := by decide +kernel
theorem dX2_unfair_47 : decode cX2_unfair 47 = .ok (.iload 4, 2) := by decide +kernel
theorem dX2_unfair_49 : decode cX2_unfair 49 = .ok (.bipush (-6), 2) := by decide +kernel
theorem dX2_unfair_51 : decode cX2_unfair 51 = .ok (.if_icmp .eq 15, 3) := by decide +kernel
theorem dX2_unfair_54 : decode cX2_unfair 54 = .ok (.iload 4, 2) := by decide +kernel
theorem dX2_unfair_56 : decode cX2_unfair 56 = .ok (.iload_n 3, 1) := by decide +kernel
theorem dX2_unfair_57 : decode cX2_unfair 57 = .ok (.if_icmp .eq 9, 3) := by decide +kernel
theorem dX2_unfair_60 : decode cX2_unfair 60 = .ok (.iload_n 2, 1) := by decide +kernel
theorem dX2_unfair_61 : decode cX2_unfair 61 = .ok (.iconst 1, 1) := by decide +kernel
theorem dX2_unfair_62 : decode cX2_unfair 62 = .ok (.iload_n 3, 1) := by decide +kernel
theorem dX2_unfair_63 : decode cX2_unfair 63 = .ok (.ishl, 1) := by decide +kernel
theorem dX2_unfair_64 : decode cX2_unfair 64 = .ok (.ior, 1) := by decide +kernel
theorem dX2_unfair_65 : decode cX2_unfair 65 = .ok (.istore_n 2, 1) := by decide +kernel
theorem dX2_unfair_66 : decode cX2_unfair 66 = .ok (.iinc 3 1, 3) := by decide +kernel
theorem dX2_unfair_69 : decode cX2_unfair 69 = .ok (.goto (-51), 3) := by decide +kernel
theorem dX2_unfair_72 : decode cX2_unfair 72 = .ok (.iload_n 2, 1) := by decide +kernel
theorem dX2_unfair_73 : decode cX2_unfair 73 = .ok (.ireturn, 1) := by decide +kernel
theorem dX2_ifOpen_0 : decode cX2_ifOpen 0 = .ok (.aload_n 0, 1) := by decide +kernel
theorem dX2_ifOpen_1 : decode cX2_ifOpen 1 = .ok (.getfield 12, 3) := by decide +kernel
theorem dX2_ifOpen_4 : decode cX2_ifOpen 4 = .ok (.iload_n 1, 1) := by decide +kernel
theorem dX2_ifOpen_5 : decode cX2_ifOpen 5 = .ok (.invokevirtual 72, 3) := by decide +kernel
theorem dX2_ifOpen_8 : decode cX2_ifOpen 8 = .ok (.ifCond .ne 5, 3) := by decide +kernel
theorem dX2_ifOpen_11 : decode cX2_ifOpen 11 = .ok (.iconst (-1), 1) := by decide +kernel
theorem dX2_ifOpen_12 : decode cX2_ifOpen 12 = .ok (.ireturn, 1) := by decide +kernel
theorem dX2_ifOpen_13 : decode cX2_ifOpen 13 = .ok (.aload_n 0, 1) := by decide +kernel
theorem dX2_ifOpen_14 : decode cX2_ifOpen 14 = .ok (.getfield 12, 3) := by decide +kernel
theorem dX2_ifOpen_17 : decode cX2_ifOpen 17 = .ok (.aload_n 0, 1) := by decide +kernel
theorem dX2_ifOpen_18 : decode cX2_ifOpen 18 = .ok (.getfield 12, 3) := by decide +kernel
theorem dX2_ifOpen_21 : decode cX2_ifOpen 21 = .ok (.iload_n 1, 1) := by decide +kernel
theorem dX2_ifOpen_22 : decode cX2_ifOpen 22 = .ok (.invokevirtual 85, 3) := by decide +kernel
theorem dX2_ifOpen_25 : decode cX2_ifOpen 25 = .ok (.invokevirtual 117, 3) := by decide +kernel
theorem dX2_ifOpen_28 : decode cX2_ifOpen 28 = .ok (.ireturn, 1) := by decide +kernel
theorem dX2_undo_0 : decode cX2_undo 0 = .ok (.aload_n 0, 1) := by decide +kernel
theorem dX2_undo_1 : decode cX2_undo 1 = .ok (.getfield 42, 3) := by decide +kernel
theorem dX2_undo_4 : decode cX2_undo 4 = .ok (.ifCond .ne 6, 3) := by decide +kernel
theorem dX2_undo_7 : decode cX2_undo 7 = .ok (.bipush (-5), 2) := by decide +kernel
theorem dX2_undo_9 : decode cX2_undo 9 = .ok (.ireturn, 1) := by decide +kernel
theorem dX2_undo_10 : decode cX2_undo 10 = .ok (.aload_n 0, 1) := by decide +kernel
theorem dX2_undo_11 : decode cX2_undo 11 = .ok (.dup, 1) := by decide +kernel
theorem dX2_undo_12 : decode cX2_undo 12 = .ok (.getfield 42, 3) := by decide +kernel
theorem dX2_undo_15 : decode cX2_undo 15 = .ok (.iconst 1, 1) := by decide +kernel
theorem dX2_undo_16 : decode cX2_undo 16 = .ok (.isub, 1) := by decide +kernel
theorem dX2_undo_17 : decode cX2_undo 17 = .ok (.putfield 42, 3) := by decide +kernel
theorem dX2_undo_20 : decode cX2_undo 20 = .ok (.aload_n 0, 1) := by decide +kernel
theorem dX2_undo_21 : decode cX2_undo 21 = .ok (.aload_n 0, 1) := by decide +kernel
theorem dX2_undo_22 : decode cX2_undo 22 = .ok (.getfield 38, 3) := by decide +kernel
theorem dX2_undo_25 : decode cX2_undo 25 = .ok (.bipush 7, 2) := by decide +kernel
theorem dX2_undo_27 : decode cX2_undo 27 = .ok (.iadd, 1) := by decide +kernel
theorem dX2_undo_28 : decode cX2_undo 28 = .ok (.iconst 1, 1) := by decide +kernel
theorem dX2_undo_29 : decode cX2_undo 29 = .ok (.isub, 1) := by decide +kernel
theorem dX2_undo_30 : decode cX2_undo 30 = .ok (.bipush 7, 2) := by decide +kernel
theorem dX2_undo_32 : decode cX2_undo 32 = .ok (.irem, 1) := by decide +kernel
theorem dX2_undo_33 : decode cX2_undo 33 = .ok (.putfield 38, 3) := by decide +kernel
theorem dX2_undo_36 : decode cX2_undo 36 = .ok (.aload_n 0, 1) := by decide +kernel
theorem dX2_undo_37 : decode cX2_undo 37 = .ok (.getfield 12, 3) := by decide +kernel
theorem dX2_undo_40 : decode cX2_undo 40 = .ok (.aload_n 0, 1) := by decide +kernel
theorem dX2_undo_41 : decode cX2_undo 41 = .ok (.getfield 28, 3) := by decide +kernel
theorem dX2_undo_44 : decode cX2_undo 44 = .ok (.aload_n 0, 1) := by decide +kernel
theorem dX2_undo_45 : decode cX2_undo 45 = .ok (.getfield 38, 3) := by decide +kernel
theorem dX2_undo_48 : decode cX2_undo 48 = .ok (.aaload, 1) := by decide +kernel
theorem dX2_undo_49 : decode cX2_undo 49 = .ok (.invokevirtual 140, 3) := by decide +kernel
theorem dX2_undo_52 : decode cX2_undo 52 = .ok (.aload_n 0, 1) := by decide +kernel
theorem dX2_undo_53 : decode cX2_undo 53 = .ok (.getfield 42, 3) := by decide +kernel
theorem dX2_undo_56 : decode cX2_undo 56 = .ok (.ireturn, 1) := by decide +kernel
theorem dX2_save_0 : decode cX2_save 0 = .ok (.iload_n 1, 1) := by decide +kernel
theorem dX2_save_1 : decode cX2_save 1 = .ok (.invokestatic 144, 3) := by decide +kernel
theorem dX2_save_4 : decode cX2_save 4 = .ok (.ifCond .ne 6, 3) := by decide +kernel
theorem dX2_save_7 : decode cX2_save 7 = .ok (.bipush (-2), 2) := by decide +kernel
theorem dX2_save_9 : decode cX2_save 9 = .ok (.ireturn, 1) := by decide +kernel
theorem dX2_save_10 : decode cX2_save 10 = .ok (.aload_n 0, 1) := by decide +kernel
theorem dX2_save_11 : decode cX2_save 11 = .ok (.getfield 12, 3) := by decide +kernel
theorem dX2_save_14 : decode cX2_save 14 = .ok (.aload_n 0, 1) := by decide +kernel
theorem dX2_save_15 : decode cX2_save 15 = .ok (.getfield 31, 3) := by decide +kernel
theorem dX2_save_18 : decode cX2_save 18 = .ok (.iload_n 1, 1) := by decide +kernel
theorem dX2_save_19 : decode cX2_save 19 = .ok (.aaload, 1) := by decide +kernel
theorem dX2_save_20 : decode cX2_save 20 = .ok (.invokevirtual 147, 3) := by decide +kernel
theorem dX2_save_23 : decode cX2_save 23 = .ok (.aload_n 0, 1) := by decide +kernel
theorem dX2_save_24 : decode cX2_save 24 = .ok (.getfield 34, 3) := by decide +kernel
theorem dX2_save_27 : decode cX2_save 27 = .ok (.iload_n 1, 1) := by decide +kernel
theorem dX2_save_28 : decode cX2_save 28 = .ok (.iconst 1, 1) := by decide +kernel
theorem dX2_save_29 : decode cX2_save 29 = .ok (.bastore, 1) := by decide +kernel
theorem dX2_save_30 : decode cX2_save 30 = .ok (.aload_n 0, 1) := by decide +kernel
theorem dX2_save_31 : decode cX2_save 31 = .ok (.getfield 12, 3) := by decide +kernel
theorem dX2_save_34 : decode cX2_save 34 = .ok (.invokevirtual 111, 3) := by decide +kernel
theorem dX2_save_37 : decode cX2_save 37 = .ok (.ireturn, 1) := by decide +kernel
theorem dX2_restore_0 : decode cX2_restore 0 = .ok (.iload_n 1, 1) := by decide +kernel
theorem dX2_restore_1 : decode cX2_restore 1 = .ok (.invokestatic 144, 3) := by decide +kernel
theorem dX2_restore_4 : decode cX2_restore 4 = .ok (.ifCond .ne 6, 3) := by decide +kernel
theorem dX2_restore_7 : decode cX2_restore 7 = .ok (.bipush (-2), 2) := by decide +kernel
theorem dX2_restore_9 : decode cX2_restore 9 = .ok (.ireturn, 1) := by decide +kernel
theorem dX2_restore_10 : decode cX2_restore 10 = .ok (.aload_n 0, 1) := by decide +kernel
theorem dX2_restore_11 : decode cX2_restore 11 = .ok (.getfield 34, 3) := by decide +kernel
theorem dX2_restore_14 : decode cX2_restore 14 = .ok (.iload_n 1, 1) := by decide +kernel
theorem dX2_restore_15 : decode cX2_restore 15 = .ok (.baload, 1) := by decide +kernel
theorem dX2_restore_16 : decode cX2_restore 16 = .ok (.ifCond .ne 6, 3) := by decide +kernel
theorem dX2_restore_19 : decode cX2_restore 19 = .ok (.bipush (-5), 2) := by decide +kernel
theorem dX2_restore_21 : decode cX2_restore 21 = .ok (.ireturn, 1) := by decide +kernel
theorem dX2_restore_22 : decode cX2_restore 22 = .ok (.aload_n 0, 1) := by decide +kernel
theorem dX2_restore_23 : decode cX2_restore 23 = .ok (.invokevirtual 45, 3) := by decide +kernel
theorem dX2_restore_26 : decode cX2_restore 26 = .ok (.aload_n 0, 1) := by decide +kernel
theorem dX2_restore_27 : decode cX2_restore 27 = .ok (.getfield 12, 3) := by decide +kernel
theorem dX2_restore_30 : decode cX2_restore 30 = .ok (.aload_n 0, 1) := by decide +kernel
theorem dX2_restore_31 : decode cX2_restore 31 = .ok (.getfield 31, 3) := by decide +kernel
theorem dX2_restore_34 : decode cX2_restore 34 = .ok (.iload_n 1, 1) := by decide +kernel
theorem dX2_restore_35 : decode cX2_restore 35 = .ok (.aaload, 1) := by decide +kernel
theorem dX2_restore_36 : decode cX2_restore 36 = .ok (.invokevirtual 140, 3) := by decide +kernel
theorem dX2_restore_39 : decode cX2_restore 39 = .ok (.aload_n 0, 1) := by decide +kernel
theorem dX2_restore_40 : decode cX2_restore 40 = .ok (.aload_n 0, 1) := by decide +kernel
theorem dX2_restore_41 : decode cX2_restore 41 = .ok (.getfield 12, 3) := by decide +kernel
theorem dX2_restore_44 : decode cX2_restore 44 = .ok (.invokevirtual 111, 3) := by decide +kernel
theorem dX2_restore_47 : decode cX2_restore 47 = .ok (.invokevirtual 52, 3) := by decide +kernel
theorem dX2_restore_50 : decode cX2_restore 50 = .ok (.ireturn, 1) := by decide +kernel
theorem dX2_isSlot_0 : decode cX2_isSlot 0 = .ok (.iload_n 0, 1) := by decide +kernel
theorem dX2_isSlot_1 : decode cX2_isSlot 1 = .ok (.ifCond .lt 12, 3) := by decide +kernel
theorem dX2_isSlot_4 : decode cX2_isSlot 4 = .ok (.iload_n 0, 1) := by decide +kernel
theorem dX2_isSlot_5 : decode cX2_isSlot 5 = .ok (.iconst 2, 1) := by decide +kernel
theorem dX2_isSlot_6 : decode cX2_isSlot 6 = .ok (.if_icmp .ge 7, 3) := by decide +kernel
theorem dX2_isSlot_9 : decode cX2_isSlot 9 = .ok (.iconst 1, 1) := by decide +kernel
theorem dX2_isSlot_10 : decode cX2_isSlot 10 = .ok (.goto 4, 3) := by decide +kernel
theorem dX2_isSlot_13 : decode cX2_isSlot 13 = .ok (.iconst 0, 1) := by decide +kernel
theorem dX2_isSlot_14 : decode cX2_isSlot 14 = .ok (.ireturn, 1) := by decide +kernel
theorem dX2_noteState_0 : decode cX2_noteState 0 = .ok (.aload_n 0, 1) := by decide +kernel
theorem dX2_noteState_1 : decode cX2_noteState 1 = .ok (.getfield 12, 3) := by decide +kernel
theorem dX2_noteState_4 : decode cX2_noteState 4 = .ok (.aload_n 0, 1) := by decide +kernel
theorem dX2_noteState_5 : decode cX2_noteState 5 = .ok (.getfield 28, 3) := by decide +kernel
theorem dX2_noteState_8 : decode cX2_noteState 8 = .ok (.aload_n 0, 1) := by decide +kernel
theorem dX2_noteState_9 : decode cX2_noteState 9 = .ok (.getfield 38, 3) := by decide +kernel
theorem dX2_noteState_12 : decode cX2_noteState 12 = .ok (.aaload, 1) := by decide +kernel
theorem dX2_noteState_13 : decode cX2_noteState 13 = .ok (.invokevirtual 147, 3) := by decide +kernel
theorem dX2_noteState_16 : decode cX2_noteState 16 = .ok (.return_, 1) := by decide +kernel
theorem dX2_keepUnlessError_0 : decode cX2_keepUnlessError 0 = .ok (.iload_n 1, 1) := by decide +kernel
theorem dX2_keepUnlessError_1 : decode cX2_keepUnlessError 1 = .ok (.ifCond .ge 5, 3) := by decide +kernel
theorem dX2_keepUnlessError_4 : decode cX2_keepUnlessError 4 = .ok (.iload_n 1, 1) := by decide +kernel
theorem dX2_keepUnlessError_5 : decode cX2_keepUnlessError 5 = .ok (.ireturn, 1) := by decide +kernel
theorem dX2_keepUnlessError_6 : decode cX2_keepUnlessError 6 = .ok (.aload_n 0, 1) := by decide +kernel
theorem dX2_keepUnlessError_7 : decode cX2_keepUnlessError 7 = .ok (.aload_n 0, 1) := by decide +kernel
theorem dX2_keepUnlessError_8 : decode cX2_keepUnlessError 8 = .ok (.getfield 38, 3) := by decide +kernel
theorem dX2_keepUnlessError_11 : decode cX2_keepUnlessError 11 = .ok (.iconst 1, 1) := by decide +kernel
theorem dX2_keepUnlessError_12 : decode cX2_keepUnlessError 12 = .ok (.iadd, 1) := by decide +kernel
theorem dX2_keepUnlessError_13 : decode cX2_keepUnlessError 13 = .ok (.bipush 7, 2) := by decide +kernel
theorem dX2_keepUnlessError_15 : decode cX2_keepUnlessError 15 = .ok (.irem, 1) := by decide +kernel
theorem dX2_keepUnlessError_16 : decode cX2_keepUnlessError 16 = .ok (.putfield 38, 3) := by decide +kernel
theorem dX2_keepUnlessError_19 : decode cX2_keepUnlessError 19 = .ok (.aload_n 0, 1) := by decide +kernel
theorem dX2_keepUnlessError_20 : decode cX2_keepUnlessError 20 = .ok (.bipush 6, 2) := by decide +kernel
theorem dX2_keepUnlessError_22 : decode cX2_keepUnlessError 22 = .ok (.aload_n 0, 1) := by decide +kernel
theorem dX2_keepUnlessError_23 : decode cX2_keepUnlessError 23 = .ok (.getfield 42, 3) := by decide +kernel
theorem dX2_keepUnlessError_26 : decode cX2_keepUnlessError 26 = .ok (.iconst 1, 1) := by decide +kernel
theorem dX2_keepUnlessError_27 : decode cX2_keepUnlessError 27 = .ok (.iadd, 1) := by decide +kernel
theorem dX2_keepUnlessError_28 : decode cX2_keepUnlessError 28 = .ok (.invokestatic 150, 3) := by decide +kernel
theorem dX2_keepUnlessError_31 : decode cX2_keepUnlessError 31 = .ok (.putfield 42, 3) := by decide +kernel
theorem dX2_keepUnlessError_34 : decode cX2_keepUnlessError 34 = .ok (.iload_n 1, 1) := by decide +kernel
theorem dX2_keepUnlessError_35 : decode cX2_keepUnlessError 35 = .ok (.ireturn, 1) := by decide +kernel
theorem dX2_isTrialQuestion_0 : decode cX2_isTrialQuestion 0 = .ok (.iload_n 0, 1) := by decide +kernel
theorem dX2_isTrialQuestion_1 : decode cX2_isTrialQuestion 1 = .ok (.ifCond .eq 8, 3) := by decide +kernel
theorem dX2_isTrialQuestion_4 : decode cX2_isTrialQuestion 4 = .ok (.iload_n 0, 1) := by decide +kernel
theorem dX2_isTrialQuestion_5 : decode cX2_isTrialQuestion 5 = .ok (.iconst 1, 1) := by decide +kernel
theorem dX2_isTrialQuestion_6 : decode cX2_isTrialQuestion 6 = .ok (.if_icmp .ne 7, 3) := by decide +kernel
theorem dX2_isTrialQuestion_9 : decode cX2_isTrialQuestion 9 = .ok (.iconst 1, 1) := by decide +kernel
theorem dX2_isTrialQuestion_10 : decode cX2_isTrialQuestion 10 = .ok (.goto 4, 3) := by decide +kernel
theorem dX2_isTrialQuestion_13 : decode cX2_isTrialQuestion 13 = .ok (.iconst 0, 1) := by decide +kernel
theorem dX2_isTrialQuestion_14 : decode cX2_isTrialQuestion 14 = .ok (.ireturn, 1) := by decide +kernel
theorem dX2_tryFault_0 : decode cX2_tryFault 0 = .ok (.aload_n 0, 1) := by decide +kernel
theorem dX2_tryFault_1 : decode cX2_tryFault 1 = .ok (.getfield 16, 3) := by decide +kernel
theorem dX2_tryFault_4 : decode cX2_tryFault 4 = .ok (.aload_n 0, 1) := by decide +kernel
theorem dX2_tryFault_5 : decode cX2_tryFault 5 = .ok (.getfield 12, 3) := by decide +kernel
theorem dX2_tryFault_8 : decode cX2_tryFault 8 = .ok (.invokevirtual 101, 3) := by decide +kernel
theorem dX2_tryFault_11 : decode cX2_tryFault 11 = .ok (.aload_n 0, 1) := by decide +kernel
theorem dX2_tryFault_12 : decode cX2_tryFault 12 = .ok (.getfield 16, 3) := by decide +kernel
theorem dX2_tryFault_15 : decode cX2_tryFault 15 = .ok (.iload_n 1, 1) := by decide +kernel
theorem dX2_tryFault_16 : decode cX2_tryFault 16 = .ok (.iload_n 2, 1) := by decide +kernel
theorem dX2_tryFault_17 : decode cX2_tryFault 17 = .ok (.invokevirtual 155, 3) := by decide +kernel
theorem dX2_tryFault_20 : decode cX2_tryFault 20 = .ok (.aload_n 0, 1) := by decide +kernel
theorem dX2_tryFault_21 : decode cX2_tryFault 21 = .ok (.iload_n 3, 1) := by decide +kernel
theorem dX2_tryFault_22 : decode cX2_tryFault 22 = .ok (.invokevirtual 105, 3) := by decide +kernel
theorem dX2_tryFault_25 : decode cX2_tryFault 25 = .ok (.ireturn, 1) := by decide +kernel
theorem dX2_firstBlow_0 : decode cX2_firstBlow 0 = .ok (.iconst 1, 1) := by decide +kernel
theorem dX2_firstBlow_1 : decode cX2_firstBlow 1 = .ok (.istore_n 2, 1) := by decide +kernel
theorem dX2_firstBlow_2 : decode cX2_firstBlow 2 = .ok (.iload_n 2, 1) := by decide +kernel
theorem dX2_firstBlow_3 : decode cX2_firstBlow 3 = .ok (.sipush 200, 3) := by decide +kernel
theorem dX2_firstBlow_6 : decode cX2_firstBlow 6 = .ok (.if_icmp .gt 34, 3) := by decide +kernel
theorem dX2_firstBlow_9 : decode cX2_firstBlow 9 = .ok (.aload_n 0, 1) := by decide +kernel
theorem dX2_firstBlow_10 : decode cX2_firstBlow 10 = .ok (.getfield 16, 3) := by decide +kernel
theorem dX2_firstBlow_13 : decode cX2_firstBlow 13 = .ok (.invokevirtual 159, 3) := by decide +kernel
theorem dX2_firstBlow_16 : decode cX2_firstBlow 16 = .ok (.istore_n 3, 1) := by decide +kernel
theorem dX2_firstBlow_17 : decode cX2_firstBlow 17 = .ok (.iload_n 3, 1) := by decide +kernel
theorem dX2_firstBlow_18 : decode cX2_firstBlow 18 = .ok (.ifCond .eq 16, 3) := by decide +kernel
theorem dX2_firstBlow_21 : decode cX2_firstBlow 21 = .ok (.iload_n 1, 1) := by decide +kernel
theorem dX2_firstBlow_22 : decode cX2_firstBlow 22 = .ok (.ifCond .ne 7, 3) := by decide +kernel
theorem dX2_firstBlow_25 : decode cX2_firstBlow 25 = .ok (.iload_n 2, 1) := by decide +kernel
theorem dX2_firstBlow_26 : decode cX2_firstBlow 26 = .ok (.goto 7, 3) := by decide +kernel
theorem dX2_firstBlow_29 : decode cX2_firstBlow 29 = .ok (.iload_n 3, 1) := by decide +kernel
theorem dX2_firstBlow_30 : decode cX2_firstBlow 30 = .ok (.invokestatic 162, 3) := by decide +kernel
theorem dX2_firstBlow_33 : decode cX2_firstBlow 33 = .ok (.ireturn, 1) := by decide +kernel
theorem dX2_firstBlow_34 : decode cX2_firstBlow 34 = .ok (.iinc 2 1, 3) := by decide +kernel
theorem dX2_firstBlow_37 : decode cX2_firstBlow 37 = .ok (.goto (-35), 3) := by decide +kernel
theorem dX2_firstBlow_40 : decode cX2_firstBlow 40 = .ok (.bipush (-6), 2) := by decide +kernel
theorem dX2_firstBlow_42 : decode cX2_firstBlow 42 = .ok (.ireturn, 1) := by decide +kernel
theorem dX2_lowest_0 : decode cX2_lowest 0 = .ok (.iconst 0, 1) := by decide +kernel
theorem dX2_lowest_1 : decode cX2_lowest 1 = .ok (.istore_n 1, 1) := by decide +kernel
theorem dX2_lowest_2 : decode cX2_lowest 2 = .ok (.iload_n 1, 1) := by decide +kernel
theorem dX2_lowest_3 : decode cX2_lowest 3 = .ok (.bipush 9, 2) := by decide +kernel
theorem dX2_lowest_5 : decode cX2_lowest 5 = .ok (.if_icmp .ge 17, 3) := by decide +kernel
theorem dX2_lowest_8 : decode cX2_lowest 8 = .ok (.iload_n 0, 1) := by decide +kernel
theorem dX2_lowest_9 : decode cX2_lowest 9 = .ok (.iload_n 1, 1) := by decide +kernel
theorem dX2_lowest_10 : decode cX2_lowest 10 = .ok (.ishr, 1) := by decide +kernel
theorem dX2_lowest_11 : decode cX2_lowest 11 = .ok (.iconst 1, 1) := by decide +kernel
theorem dX2_lowest_12 : decode cX2_lowest 12 = .ok (.iand, 1) := by decide +kernel
theorem dX2_lowest_13 : decode cX2_lowest 13 = .ok (.ifCond .ne 9, 3) := by decide +kernel
theorem dX2_lowest_16 : decode cX2_lowest 16 = .ok (.iinc 1 1, 3) := by decide +kernel
theorem dX2_lowest_19 : decode cX2_lowest 19 = .ok (.goto (-17), 3) := by decide +kernel
theorem dX2_lowest_22 : decode cX2_lowest 22 = .ok (.iload_n 1, 1) := by decide +kernel
theorem dX2_lowest_23 : decode cX2_lowest 23 = .ok (.ireturn, 1) := by decide +kernel
