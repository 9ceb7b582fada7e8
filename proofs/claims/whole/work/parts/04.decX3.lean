theorem dX3_init_0 : decode cX3_init 0 = .ok (.aload_n 0, 1) := by decide +kernel
theorem dX3_init_1 : decode cX3_init 1 = .ok (.invokespecial 1, 3) := by decide +kernel
theorem dX3_init_4 : decode cX3_init 4 = .ok (.aload_n 0, 1) := by decide +kernel
theorem dX3_init_5 : decode cX3_init 5 = .ok (.sipush 1480, 3) := by decide +kernel
theorem dX3_init_8 : decode cX3_init 8 = .ok (.newarray .int, 2) := by decide +kernel
theorem dX3_init_10 : decode cX3_init 10 = .ok (.putfield 7, 3) := by decide +kernel
theorem dX3_init_13 : decode cX3_init 13 = .ok (.aload_n 0, 1) := by decide +kernel
theorem dX3_init_14 : decode cX3_init 14 = .ok (.iconst 2, 1) := by decide +kernel
theorem dX3_init_15 : decode cX3_init 15 = .ok (.newarray .boolean, 2) := by decide +kernel
theorem dX3_init_17 : decode cX3_init 17 = .ok (.putfield 13, 3) := by decide +kernel
theorem dX3_init_20 : decode cX3_init 20 = .ok (.aload_n 0, 1) := by decide +kernel
theorem dX3_init_21 : decode cX3_init 21 = .ok (.bipush 80, 2) := by decide +kernel
theorem dX3_init_23 : decode cX3_init 23 = .ok (.newarray .int, 2) := by decide +kernel
theorem dX3_init_25 : decode cX3_init 25 = .ok (.putfield 17, 3) := by decide +kernel
theorem dX3_init_28 : decode cX3_init 28 = .ok (.aload_n 0, 1) := by decide +kernel
theorem dX3_init_29 : decode cX3_init 29 = .ok (.bipush (-6), 2) := by decide +kernel
theorem dX3_init_31 : decode cX3_init 31 = .ok (.putfield 20, 3) := by decide +kernel
theorem dX3_init_34 : decode cX3_init 34 = .ok (.aload_n 0, 1) := by decide +kernel
theorem dX3_init_35 : decode cX3_init 35 = .ok (.bipush 10, 2) := by decide +kernel
theorem dX3_init_37 : decode cX3_init 37 = .ok (.newarray .int, 2) := by decide +kernel
theorem dX3_init_39 : decode cX3_init 39 = .ok (.putfield 24, 3) := by decide +kernel
theorem dX3_init_42 : decode cX3_init 42 = .ok (.aload_n 0, 1) := by decide +kernel
theorem dX3_init_43 : decode cX3_init 43 = .ok (.bipush 10, 2) := by decide +kernel
theorem dX3_init_45 : decode cX3_init 45 = .ok (.newarray .boolean, 2) := by decide +kernel
theorem dX3_init_47 : decode cX3_init 47 = .ok (.putfield 27, 3) := by decide +kernel
theorem dX3_init_50 : decode cX3_init 50 = .ok (.aload_n 0, 1) := by decide +kernel
theorem dX3_init_51 : decode cX3_init 51 = .ok (.getfield 7, 3) := by decide +kernel
theorem dX3_init_54 : decode cX3_init 54 = .ok (.iconst 0, 1) := by decide +kernel
theorem dX3_init_55 : decode cX3_init 55 = .ok (.iconst 1, 1) := by decide +kernel
theorem dX3_init_56 : decode cX3_init 56 = .ok (.iastore, 1) := by decide +kernel
theorem dX3_init_57 : decode cX3_init 57 = .ok (.aload_n 0, 1) := by decide +kernel
theorem dX3_init_58 : decode cX3_init 58 = .ok (.getfield 7, 3) := by decide +kernel
theorem dX3_init_61 : decode cX3_init 61 = .ok (.iconst 1, 1) := by decide +kernel
theorem dX3_init_62 : decode cX3_init 62 = .ok (.iconst 2, 1) := by decide +kernel
theorem dX3_init_63 : decode cX3_init 63 = .ok (.iastore, 1) := by decide +kernel
theorem dX3_init_64 : decode cX3_init 64 = .ok (.aload_n 0, 1) := by decide +kernel
theorem dX3_init_65 : decode cX3_init 65 = .ok (.getfield 7, 3) := by decide +kernel
theorem dX3_init_68 : decode cX3_init 68 = .ok (.iconst 2, 1) := by decide +kernel
theorem dX3_init_69 : decode cX3_init 69 = .ok (.bipush 10, 2) := by decide +kernel
theorem dX3_init_71 : decode cX3_init 71 = .ok (.iastore, 1) := by decide +kernel
theorem dX3_init_72 : decode cX3_init 72 = .ok (.return_, 1) := by decide +kernel
theorem dX3_in_0 : decode cX3_in 0 = .ok (.lload_n 0, 1) := by decide +kernel
theorem dX3_in_1 : decode cX3_in 1 = .ok (.lload_n 2, 1) := by decide +kernel
theorem dX3_in_2 : decode cX3_in 2 = .ok (.lcmp, 1) := by decide +kernel
theorem dX3_in_3 : decode cX3_in 3 = .ok (.ifCond .lt 14, 3) := by decide +kernel
theorem dX3_in_6 : decode cX3_in 6 = .ok (.lload_n 0, 1) := by decide +kernel
theorem dX3_in_7 : decode cX3_in 7 = .ok (.lload 4, 2) := by decide +kernel
theorem dX3_in_9 : decode cX3_in 9 = .ok (.lcmp, 1) := by decide +kernel
theorem dX3_in_10 : decode cX3_in 10 = .ok (.ifCond .gt 7, 3) := by decide +kernel
theorem dX3_in_13 : decode cX3_in 13 = .ok (.iconst 1, 1) := by decide +kernel
theorem dX3_in_14 : decode cX3_in 14 = .ok (.goto 4, 3) := by decide +kernel
theorem dX3_in_17 : decode cX3_in 17 = .ok (.iconst 0, 1) := by decide +kernel
theorem dX3_in_18 : decode cX3_in 18 = .ok (.ireturn, 1) := by decide +kernel
theorem dX3_flag_0 : decode cX3_flag 0 = .ok (.iload_n 0, 1) := by decide +kernel
theorem dX3_flag_1 : decode cX3_flag 1 = .ok (.ifCond .eq 7, 3) := by decide +kernel
theorem dX3_flag_4 : decode cX3_flag 4 = .ok (.iconst 1, 1) := by decide +kernel
theorem dX3_flag_5 : decode cX3_flag 5 = .ok (.goto 4, 3) := by decide +kernel
theorem dX3_flag_8 : decode cX3_flag 8 = .ok (.iconst 0, 1) := by decide +kernel
theorem dX3_flag_9 : decode cX3_flag 9 = .ok (.ireturn, 1) := by decide +kernel
theorem dX3_copies_0 : decode cX3_copies 0 = .ok (.iconst 0, 1) := by decide +kernel
theorem dX3_copies_1 : decode cX3_copies 1 = .ok (.istore_n 3, 1) := by decide +kernel
theorem dX3_copies_2 : decode cX3_copies 2 = .ok (.iload_n 3, 1) := by decide +kernel
theorem dX3_copies_3 : decode cX3_copies 3 = .ok (.sipush 148, 3) := by decide +kernel
theorem dX3_copies_6 : decode cX3_copies 6 = .ok (.if_icmp .ge 33, 3) := by decide +kernel
theorem dX3_copies_9 : decode cX3_copies 9 = .ok (.aload_n 0, 1) := by decide +kernel
theorem dX3_copies_10 : decode cX3_copies 10 = .ok (.getfield 7, 3) := by decide +kernel
theorem dX3_copies_13 : decode cX3_copies 13 = .ok (.sipush 148, 3) := by decide +kernel
theorem dX3_copies_16 : decode cX3_copies 16 = .ok (.iload_n 2, 1) := by decide +kernel
theorem dX3_copies_17 : decode cX3_copies 17 = .ok (.imul, 1) := by decide +kernel
theorem dX3_copies_18 : decode cX3_copies 18 = .ok (.iload_n 3, 1) := by decide +kernel
theorem dX3_copies_19 : decode cX3_copies 19 = .ok (.iadd, 1) := by decide +kernel
theorem dX3_copies_20 : decode cX3_copies 20 = .ok (.aload_n 0, 1) := by decide +kernel
theorem dX3_copies_21 : decode cX3_copies 21 = .ok (.getfield 7, 3) := by decide +kernel
theorem dX3_copies_24 : decode cX3_copies 24 = .ok (.sipush 148, 3) := by decide +kernel
theorem dX3_copies_27 : decode cX3_copies 27 = .ok (.iload_n 1, 1) := by decide +kernel
theorem dX3_copies_28 : decode cX3_copies 28 = .ok (.imul, 1) := by decide +kernel
theorem dX3_copies_29 : decode cX3_copies 29 = .ok (.iload_n 3, 1) := by decide +kernel
theorem dX3_copies_30 : decode cX3_copies 30 = .ok (.iadd, 1) := by decide +kernel
theorem dX3_copies_31 : decode cX3_copies 31 = .ok (.iaload, 1) := by decide +kernel
theorem dX3_copies_32 : decode cX3_copies 32 = .ok (.iastore, 1) := by decide +kernel
theorem dX3_copies_33 : decode cX3_copies 33 = .ok (.iinc 3 1, 3) := by decide +kernel
theorem dX3_copies_36 : decode cX3_copies 36 = .ok (.goto (-34), 3) := by decide +kernel
theorem dX3_copies_39 : decode cX3_copies 39 = .ok (.return_, 1) := by decide +kernel
theorem dX3_changes_0 : decode cX3_changes 0 = .ok (.aload_n 0, 1) := by decide +kernel
theorem dX3_changes_1 : decode cX3_changes 1 = .ok (.getfield 30, 3) := by decide +kernel
theorem dX3_changes_4 : decode cX3_changes 4 = .ok (.bipush 6, 2) := by decide +kernel
theorem dX3_changes_6 : decode cX3_changes 6 = .ok (.if_icmp .ne 35, 3) := by decide +kernel
theorem dX3_changes_9 : decode cX3_changes 9 = .ok (.iconst 1, 1) := by decide +kernel
theorem dX3_changes_10 : decode cX3_changes 10 = .ok (.istore_n 1, 1) := by decide +kernel
theorem dX3_changes_11 : decode cX3_changes 11 = .ok (.iload_n 1, 1) := by decide +kernel
theorem dX3_changes_12 : decode cX3_changes 12 = .ok (.bipush 6, 2) := by decide +kernel
theorem dX3_changes_14 : decode cX3_changes 14 = .ok (.if_icmp .ge 17, 3) := by decide +kernel
theorem dX3_changes_17 : decode cX3_changes 17 = .ok (.aload_n 0, 1) := by decide +kernel
theorem dX3_changes_18 : decode cX3_changes 18 = .ok (.iload_n 1, 1) := by decide +kernel
theorem dX3_changes_19 : decode cX3_changes 19 = .ok (.iconst 1, 1) := by decide +kernel
theorem dX3_changes_20 : decode cX3_changes 20 = .ok (.iadd, 1) := by decide +kernel
theorem dX3_changes_21 : decode cX3_changes 21 = .ok (.iload_n 1, 1) := by decide +kernel
theorem dX3_changes_22 : decode cX3_changes 22 = .ok (.invokevirtual 33, 3) := by decide +kernel
theorem dX3_changes_25 : decode cX3_changes 25 = .ok (.iinc 1 1, 3) := by decide +kernel
theorem dX3_changes_28 : decode cX3_changes 28 = .ok (.goto (-17), 3) := by decide +kernel
theorem dX3_changes_31 : decode cX3_changes 31 = .ok (.aload_n 0, 1) := by decide +kernel
theorem dX3_changes_32 : decode cX3_changes 32 = .ok (.dup, 1) := by decide +kernel
theorem dX3_changes_33 : decode cX3_changes 33 = .ok (.getfield 30, 3) := by decide +kernel
theorem dX3_changes_36 : decode cX3_changes 36 = .ok (.iconst 1, 1) := by decide +kernel
theorem dX3_changes_37 : decode cX3_changes 37 = .ok (.isub, 1) := by decide +kernel
theorem dX3_changes_38 : decode cX3_changes 38 = .ok (.putfield 30, 3) := by decide +kernel
theorem dX3_changes_41 : decode cX3_changes 41 = .ok (.aload_n 0, 1) := by decide +kernel
theorem dX3_changes_42 : decode cX3_changes 42 = .ok (.dup, 1) := by decide +kernel
theorem dX3_changes_43 : decode cX3_changes 43 = .ok (.getfield 30, 3) := by decide +kernel
theorem dX3_changes_46 : decode cX3_changes 46 = .ok (.iconst 1, 1) := by decide +kernel
theorem dX3_changes_47 : decode cX3_changes 47 = .ok (.iadd, 1) := by decide +kernel
theorem dX3_changes_48 : decode cX3_changes 48 = .ok (.putfield 30, 3) := by decide +kernel
theorem dX3_changes_51 : decode cX3_changes 51 = .ok (.aload_n 0, 1) := by decide +kernel
theorem dX3_changes_52 : decode cX3_changes 52 = .ok (.iconst 0, 1) := by decide +kernel
theorem dX3_changes_53 : decode cX3_changes 53 = .ok (.aload_n 0, 1) := by decide +kernel
theorem dX3_changes_54 : decode cX3_changes 54 = .ok (.getfield 30, 3) := by decide +kernel
theorem dX3_changes_57 : decode cX3_changes 57 = .ok (.invokevirtual 33, 3) := by decide +kernel
theorem dX3_changes_60 : decode cX3_changes 60 = .ok (.return_, 1) := by decide +kernel
theorem dX3_boardAt_0 : decode cX3_boardAt 0 = .ok (.iload_n 0, 1) := by decide +kernel
theorem dX3_boardAt_1 : decode cX3_boardAt 1 = .ok (.bipush 16, 2) := by decide +kernel
theorem dX3_boardAt_3 : decode cX3_boardAt 3 = .ok (.iadd, 1) := by decide +kernel
theorem dX3_boardAt_4 : decode cX3_boardAt 4 = .ok (.bipush 9, 2) := by decide +kernel
theorem dX3_boardAt_6 : decode cX3_boardAt 6 = .ok (.iload_n 1, 1) := by decide +kernel
theorem dX3_boardAt_7 : decode cX3_boardAt 7 = .ok (.imul, 1) := by decide +kernel
theorem dX3_boardAt_8 : decode cX3_boardAt 8 = .ok (.iadd, 1) := by decide +kernel
theorem dX3_boardAt_9 : decode cX3_boardAt 9 = .ok (.ireturn, 1) := by decide +kernel
theorem dX3_loadAt_0 : decode cX3_loadAt 0 = .ok (.iload_n 0, 1) := by decide +kernel
theorem dX3_loadAt_1 : decode cX3_loadAt 1 = .ok (.bipush 106, 2) := by decide +kernel
theorem dX3_loadAt_3 : decode cX3_loadAt 3 = .ok (.iadd, 1) := by decide +kernel
theorem dX3_loadAt_4 : decode cX3_loadAt 4 = .ok (.iconst 3, 1) := by decide +kernel
theorem dX3_loadAt_5 : decode cX3_loadAt 5 = .ok (.iload_n 1, 1) := by decide +kernel
theorem dX3_loadAt_6 : decode cX3_loadAt 6 = .ok (.imul, 1) := by decide +kernel
theorem dX3_loadAt_7 : decode cX3_loadAt 7 = .ok (.iadd, 1) := by decide +kernel
theorem dX3_loadAt_8 : decode cX3_loadAt 8 = .ok (.ireturn, 1) := by decide +kernel
theorem dX3_isDead_0 : decode cX3_isDead 0 = .ok (.iconst 0, 1) := by decide +kernel
theorem dX3_isDead_1 : decode cX3_isDead 1 = .ok (.istore_n 3, 1) := by decide +kernel
theorem dX3_isDead_2 : decode cX3_isDead 2 = .ok (.iload_n 2, 1) := by decide +kernel
theorem dX3_isDead_3 : decode cX3_isDead 3 = .ok (.istore 4, 2) := by decide +kernel
theorem dX3_isDead_5 : decode cX3_isDead 5 = .ok (.iload 4, 2) := by decide +kernel
theorem dX3_isDead_7 : decode cX3_isDead 7 = .ok (.bipush (-6), 2) := by decide +kernel
theorem dX3_isDead_9 : decode cX3_isDead 9 = .ok (.if_icmp .eq 46, 3) := by decide +kernel
theorem dX3_isDead_12 : decode cX3_isDead 12 = .ok (.iload_n 3, 1) := by decide +kernel
theorem dX3_isDead_13 : decode cX3_isDead 13 = .ok (.ifCond .ne 20, 3) := by decide +kernel
theorem dX3_isDead_16 : decode cX3_isDead 16 = .ok (.aload_n 0, 1) := by decide +kernel
theorem dX3_isDead_17 : decode cX3_isDead 17 = .ok (.getfield 7, 3) := by decide +kernel
theorem dX3_isDead_20 : decode cX3_isDead 20 = .ok (.iload_n 1, 1) := by decide +kernel
theorem dX3_isDead_21 : decode cX3_isDead 21 = .ok (.iload 4, 2) := by decide +kernel
theorem dX3_isDead_23 : decode cX3_isDead 23 = .ok (.invokestatic 37, 3) := by decide +kernel
theorem dX3_isDead_26 : decode cX3_isDead 26 = .ok (.iconst 3, 1) := by decide +kernel
theorem dX3_isDead_27 : decode cX3_isDead 27 = .ok (.iadd, 1) := by decide +kernel
theorem dX3_isDead_28 : decode cX3_isDead 28 = .ok (.iaload, 1) := by decide +kernel
theorem dX3_isDead_29 : decode cX3_isDead 29 = .ok (.iconst 2, 1) := by decide +kernel
theorem dX3_isDead_30 : decode cX3_isDead 30 = .ok (.if_icmp .ne 7, 3) := by decide +kernel
theorem dX3_isDead_33 : decode cX3_isDead 33 = .ok (.iconst 1, 1) := by decide +kernel
theorem dX3_isDead_34 : decode cX3_isDead 34 = .ok (.goto 4, 3) := by decide +kernel
theorem dX3_isDead_37 : decode cX3_isDead 37 = .ok (.iconst 0, 1) := by decide +kernel
theorem dX3_isDead_38 : decode cX3_isDead 38 = .ok (.istore_n 3, 1) := by decide +kernel
theorem dX3_isDead_39 : decode cX3_isDead 39 = .ok (.aload_n 0, 1) := by decide +kernel
theorem dX3_isDead_40 : decode cX3_isDead 40 = .ok (.getfield 7, 3) := by decide +kernel
theorem dX3_isDead_43 : decode cX3_isDead 43 = .ok (.iload_n 1, 1) := by decide +kernel
theorem dX3_isDead_44 : decode cX3_isDead 44 = .ok (.iload 4, 2) := by decide +kernel
theorem dX3_isDead_46 : decode cX3_isDead 46 = .ok (.invokestatic 37, 3) := by decide +kernel
theorem dX3_isDead_49 : decode cX3_isDead 49 = .ok (.iaload, 1) := by decide +kernel
theorem dX3_isDead_50 : decode cX3_isDead 50 = .ok (.istore 4, 2) := by decide +kernel
theorem dX3_isDead_52 : decode cX3_isDead 52 = .ok (.goto (-47), 3) := by decide +kernel
theorem dX3_isDead_55 : decode cX3_isDead 55 = .ok (.iload_n 3, 1) := by decide +kernel
theorem dX3_isDead_56 : decode cX3_isDead 56 = .ok (.ireturn, 1) := by decide +kernel
theorem dX3_isFed_0 : decode cX3_isFed 0 = .ok (.iconst 0, 1) := by decide +kernel
theorem dX3_isFed_1 : decode cX3_isFed 1 = .ok (.istore 4, 2) := by decide +kernel
theorem dX3_isFed_3 : decode cX3_isFed 3 = .ok (.iload_n 2, 1) := by decide +kernel
theorem dX3_isFed_4 : decode cX3_isFed 4 = .ok (.istore 5, 2) := by decide +kernel
theorem dX3_isFed_6 : decode cX3_isFed 6 = .ok (.iload 5, 2) := by decide +kernel
theorem dX3_isFed_8 : decode cX3_isFed 8 = .ok (.bipush (-6), 2) := by decide +kernel
theorem dX3_isFed_10 : decode cX3_isFed 10 = .ok (.if_icmp .eq 37, 3) := by decide +kernel
theorem dX3_isFed_13 : decode cX3_isFed 13 = .ok (.iload 4, 2) := by decide +kernel
theorem dX3_isFed_15 : decode cX3_isFed 15 = .ok (.ifCond .ne 9, 3) := by decide +kernel
theorem dX3_isFed_18 : decode cX3_isFed 18 = .ok (.iload 5, 2) := by decide +kernel
theorem dX3_isFed_20 : decode cX3_isFed 20 = .ok (.iload_n 3, 1) := by decide +kernel
theorem dX3_isFed_21 : decode cX3_isFed 21 = .ok (.if_icmp .ne 7, 3) := by decide +kernel
theorem dX3_isFed_24 : decode cX3_isFed 24 = .ok (.iconst 1, 1) := by decide +kernel
theorem dX3_isFed_25 : decode cX3_isFed 25 = .ok (.goto 4, 3) := by decide +kernel
theorem dX3_isFed_28 : decode cX3_isFed 28 = .ok (.iconst 0, 1) := by decide +kernel
theorem dX3_isFed_29 : decode cX3_isFed 29 = .ok (.istore 4, 2) := by decide +kernel
theorem dX3_isFed_31 : decode cX3_isFed 31 = .ok (.aload_n 0, 1) := by decide +kernel
theorem dX3_isFed_32 : decode cX3_isFed 32 = .ok (.getfield 7, 3) := by decide +kernel
theorem dX3_isFed_35 : decode cX3_isFed 35 = .ok (.iload_n 1, 1) := by decide +kernel
theorem dX3_isFed_36 : decode cX3_isFed 36 = .ok (.iload 5, 2) := by decide +kernel
theorem dX3_isFed_38 : decode cX3_isFed 38 = .ok (.invokestatic 37, 3) := by decide +kernel
theorem dX3_isFed_41 : decode cX3_isFed 41 = .ok (.iaload, 1) := by decide +kernel
theorem dX3_isFed_42 : decode cX3_isFed 42 = .ok (.istore 5, 2) := by decide +kernel
theorem dX3_isFed_44 : decode cX3_isFed 44 = .ok (.goto (-38), 3) := by decide +kernel
theorem dX3_isFed_47 : decode cX3_isFed 47 = .ok (.iload 4, 2) := by decide +kernel
theorem dX3_isFed_49 : decode cX3_isFed 49 = .ok (.ireturn, 1) := by decide +kernel
theorem dX3_current_0 : decode cX3_current 0 = .ok (.iconst 0, 1) := by decide +kernel
theorem dX3_current_1 : decode cX3_current 1 = .ok (.istore_n 3, 1) := by decide +kernel
theorem dX3_current_2 : decode cX3_current 2 = .ok (.iconst 0, 1) := by decide +kernel
theorem dX3_current_3 : decode cX3_current 3 = .ok (.istore 4, 2) := by decide +kernel
theorem dX3_current_5 : decode cX3_current 5 = .ok (.iload 4, 2) := by decide +kernel
theorem dX3_current_7 : decode cX3_current 7 = .ok (.aload_n 0, 1) := by decide +kernel
theorem dX3_current_8 : decode cX3_current 8 = .ok (.getfield 7, 3) := by decide +kernel
theorem dX3_current_11 : decode cX3_current 11 = .ok (.iload_n 1, 1) := by decide +kernel
theorem dX3_current_12 : decode cX3_current 12 = .ok (.iconst 5, 1) := by decide +kernel
theorem dX3_current_13 : decode cX3_current 13 = .ok (.iadd, 1) := by decide +kernel
theorem dX3_current_14 : decode cX3_current 14 = .ok (.iaload, 1) := by decide +kernel
theorem dX3_current_15 : decode cX3_current 15 = .ok (.if_icmp .ge 77, 3) := by decide +kernel
theorem dX3_current_18 : decode cX3_current 18 = .ok (.iload_n 1, 1) := by decide +kernel
theorem dX3_current_19 : decode cX3_current 19 = .ok (.iload 4, 2) := by decide +kernel
theorem dX3_current_21 : decode cX3_current 21 = .ok (.invokestatic 41, 3) := by decide +kernel
theorem dX3_current_24 : decode cX3_current 24 = .ok (.istore 5, 2) := by decide +kernel
theorem dX3_current_26 : decode cX3_current 26 = .ok (.iload_n 3, 1) := by decide +kernel
theorem dX3_current_27 : decode cX3_current 27 = .ok (.aload_n 0, 1) := by decide +kernel
theorem dX3_current_28 : decode cX3_current 28 = .ok (.getfield 7, 3) := by decide +kernel
theorem dX3_current_31 : decode cX3_current 31 = .ok (.iload 5, 2) := by decide +kernel
theorem dX3_current_33 : decode cX3_current 33 = .ok (.iconst 2, 1) := by decide +kernel
theorem dX3_current_34 : decode cX3_current 34 = .ok (.iadd, 1) := by decide +kernel
theorem dX3_current_35 : decode cX3_current 35 = .ok (.iaload, 1) := by decide +kernel
theorem dX3_current_36 : decode cX3_current 36 = .ok (.iconst 1, 1) := by decide +kernel
theorem dX3_current_37 : decode cX3_current 37 = .ok (.if_icmp .ne 46, 3) := by decide +kernel
theorem dX3_current_40 : decode cX3_current 40 = .ok (.aload_n 0, 1) := by decide +kernel
theorem dX3_current_41 : decode cX3_current 41 = .ok (.iload_n 1, 1) := by decide +kernel
theorem dX3_current_42 : decode cX3_current 42 = .ok (.aload_n 0, 1) := by decide +kernel
theorem dX3_current_43 : decode cX3_current 43 = .ok (.getfield 7, 3) := by decide +kernel
theorem dX3_current_46 : decode cX3_current 46 = .ok (.iload 5, 2) := by decide +kernel
theorem dX3_current_48 : decode cX3_current 48 = .ok (.iaload, 1) := by decide +kernel
theorem dX3_current_49 : decode cX3_current 49 = .ok (.iload_n 2, 1) := by decide +kernel
theorem dX3_current_50 : decode cX3_current 50 = .ok (.invokevirtual 44, 3) := by decide +kernel
theorem dX3_current_53 : decode cX3_current 53 = .ok (.ifCond .eq 30, 3) := by decide +kernel
theorem dX3_current_56 : decode cX3_current 56 = .ok (.aload_n 0, 1) := by decide +kernel
theorem dX3_current_57 : decode cX3_current 57 = .ok (.iload_n 1, 1) := by decide +kernel
theorem dX3_current_58 : decode cX3_current 58 = .ok (.aload_n 0, 1) := by decide +kernel
theorem dX3_current_59 : decode cX3_current 59 = .ok (.getfield 7, 3) := by decide +kernel
theorem dX3_current_62 : decode cX3_current 62 = .ok (.iload 5, 2) := by decide +kernel
theorem dX3_current_64 : decode cX3_current 64 = .ok (.iaload, 1) := by decide +kernel
theorem dX3_current_65 : decode cX3_current 65 = .ok (.invokevirtual 48, 3) := by decide +kernel
theorem dX3_current_68 : decode cX3_current 68 = .ok (.ifCond .ne 15, 3) := by decide +kernel
theorem dX3_current_71 : decode cX3_current 71 = .ok (.aload_n 0, 1) := by decide +kernel
theorem dX3_current_72 : decode cX3_current 72 = .ok (.getfield 7, 3) := by decide +kernel
theorem dX3_current_75 : decode cX3_current 75 = .ok (.iload 5, 2) := by decide +kernel
theorem dX3_current_77 : decode cX3_current 77 = .ok (.iconst 1, 1) := by decide +kernel
theorem dX3_current_78 : decode cX3_current 78 = .ok (.iadd, 1) := by decide +kernel
theorem dX3_current_79 : decode cX3_current 79 = .ok (.iaload, 1) := by decide +kernel
theorem dX3_current_80 : decode cX3_current 80 = .ok (.goto 4, 3) := by decide +kernel
theorem dX3_current_83 : decode cX3_current 83 = .ok (.iconst 0, 1) := by decide +kernel
theorem dX3_current_84 : decode cX3_current 84 = .ok (.iadd, 1) := by decide +kernel
theorem dX3_current_85 : decode cX3_current 85 = .ok (.istore_n 3, 1) := by decide +kernel
theorem dX3_current_86 : decode cX3_current 86 = .ok (.iinc 4 1, 3) := by decide +kernel
theorem dX3_current_89 : decode cX3_current 89 = .ok (.goto (-84), 3) := by decide +kernel
theorem dX3_current_92 : decode cX3_current 92 = .ok (.aload_n 0, 1) := by decide +kernel
theorem dX3_current_93 : decode cX3_current 93 = .ok (.getfield 20, 3) := by decide +kernel
theorem dX3_current_96 : decode cX3_current 96 = .ok (.bipush (-6), 2) := by decide +kernel
theorem dX3_current_98 : decode cX3_current 98 = .ok (.if_icmp .eq 32, 3) := by decide +kernel
theorem dX3_current_101 : decode cX3_current 101 = .ok (.aload_n 0, 1) := by decide +kernel
theorem dX3_current_102 : decode cX3_current 102 = .ok (.iload_n 1, 1) := by decide +kernel
theorem dX3_current_103 : decode cX3_current 103 = .ok (.aload_n 0, 1) := by decide +kernel
theorem dX3_current_104 : decode cX3_current 104 = .ok (.getfield 20, 3) := by decide +kernel
theorem dX3_current_107 : decode cX3_current 107 = .ok (.iload_n 2, 1) := by decide +kernel
theorem dX3_current_108 : decode cX3_current 108 = .ok (.invokevirtual 44, 3) := by decide +kernel
theorem dX3_current_111 : decode cX3_current 111 = .ok (.ifCond .eq 19, 3) := by decide +kernel
theorem dX3_current_114 : decode cX3_current 114 = .ok (.aload_n 0, 1) := by decide +kernel
theorem dX3_current_115 : decode cX3_current 115 = .ok (.iload_n 1, 1) := by decide +kernel
theorem dX3_current_116 : decode cX3_current 116 = .ok (.aload_n 0, 1) := by decide +kernel
theorem dX3_current_117 : decode cX3_current 117 = .ok (.getfield 20, 3) := by decide +kernel
theorem dX3_current_120 : decode cX3_current 120 = .ok (.invokevirtual 48, 3) := by decide +kernel
theorem dX3_current_123 : decode cX3_current 123 = .ok (.ifCond .ne 7, 3) := by decide +kernel
theorem dX3_current_126 : decode cX3_current 126 = .ok (.iconst 1, 1) := by decide +kernel
theorem dX3_current_127 : decode cX3_current 127 = .ok (.goto 4, 3) := by decide +kernel
theorem dX3_current_130 : decode cX3_current 130 = .ok (.iconst 0, 1) := by decide +kernel
theorem dX3_current_131 : decode cX3_current 131 = .ok (.istore 4, 2) := by decide +kernel
theorem dX3_current_133 : decode cX3_current 133 = .ok (.iload_n 3, 1) := by decide +kernel
theorem dX3_current_134 : decode cX3_current 134 = .ok (.iload 4, 2) := by decide +kernel
theorem dX3_current_136 : decode cX3_current 136 = .ok (.ifCond .eq 10, 3) := by decide +kernel
theorem dX3_current_139 : decode cX3_current 139 = .ok (.aload_n 0, 1) := by decide +kernel
theorem dX3_current_140 : decode cX3_current 140 = .ok (.getfield 52, 3) := by decide +kernel
theorem dX3_current_143 : decode cX3_current 143 = .ok (.goto 4, 3) := by decide +kernel
theorem dX3_current_146 : decode cX3_current 146 = .ok (.iconst 0, 1) := by decide +kernel
theorem dX3_current_147 : decode cX3_current 147 = .ok (.iadd, 1) := by decide +kernel
theorem dX3_current_148 : decode cX3_current 148 = .ok (.ireturn, 1) := by decide +kernel
theorem dX3_meltingHeat_0 : decode cX3_meltingHeat 0 = .ok (.iload_n 1, 1) := by decide +kernel
theorem dX3_meltingHeat_1 : decode cX3_meltingHeat 1 = .ok (.iload_n 2, 1) := by decide +kernel
theorem dX3_meltingHeat_2 : decode cX3_meltingHeat 2 = .ok (.invokestatic 37, 3) := by decide +kernel
theorem dX3_meltingHeat_5 : decode cX3_meltingHeat 5 = .ok (.istore_n 3, 1) := by decide +kernel
theorem dX3_meltingHeat_6 : decode cX3_meltingHeat 6 = .ok (.aload_n 0, 1) := by decide +kernel
theorem dX3_meltingHeat_7 : decode cX3_meltingHeat 7 = .ok (.getfield 7, 3) := by decide +kernel
theorem dX3_meltingHeat_10 : decode cX3_meltingHeat 10 = .ok (.iload_n 3, 1) := by decide +kernel
theorem dX3_meltingHeat_11 : decode cX3_meltingHeat 11 = .ok (.iconst 1, 1) := by decide +kernel
theorem dX3_meltingHeat_12 : decode cX3_meltingHeat 12 = .ok (.iadd, 1) := by decide +kernel
theorem dX3_meltingHeat_13 : decode cX3_meltingHeat 13 = .ok (.iaload, 1) := by decide +kernel
theorem dX3_meltingHeat_14 : decode cX3_meltingHeat 14 = .ok (.istore 4, 2) := by decide +kernel
theorem dX3_meltingHeat_16 : decode cX3_meltingHeat 16 = .ok (.iload 4, 2) := by decide +kernel
theorem dX3_meltingHeat_18 : decode cX3_meltingHeat 18 = .ok (.iload 4, 2) := by decide +kernel
theorem dX3_meltingHeat_20 : decode cX3_meltingHeat 20 = .ok (.imul, 1) := by decide +kernel
theorem dX3_meltingHeat_21 : decode cX3_meltingHeat 21 = .ok (.aload_n 0, 1) := by decide +kernel
theorem dX3_meltingHeat_22 : decode cX3_meltingHeat 22 = .ok (.getfield 7, 3) := by decide +kernel
theorem dX3_meltingHeat_25 : decode cX3_meltingHeat 25 = .ok (.iload_n 3, 1) := by decide +kernel
theorem dX3_meltingHeat_26 : decode cX3_meltingHeat 26 = .ok (.iconst 2, 1) := by decide +kernel
theorem dX3_meltingHeat_27 : decode cX3_meltingHeat 27 = .ok (.iadd, 1) := by decide +kernel
theorem dX3_meltingHeat_28 : decode cX3_meltingHeat 28 = .ok (.iaload, 1) := by decide +kernel
theorem dX3_meltingHeat_29 : decode cX3_meltingHeat 29 = .ok (.ifCond .ne 8, 3) := by decide +kernel
theorem dX3_meltingHeat_32 : decode cX3_meltingHeat 32 = .ok (.bipush 8, 2) := by decide +kernel
theorem dX3_meltingHeat_34 : decode cX3_meltingHeat 34 = .ok (.goto 22, 3) := by decide +kernel
theorem dX3_meltingHeat_37 : decode cX3_meltingHeat 37 = .ok (.aload_n 0, 1) := by decide +kernel
theorem dX3_meltingHeat_38 : decode cX3_meltingHeat 38 = .ok (.getfield 7, 3) := by decide +kernel
theorem dX3_meltingHeat_41 : decode cX3_meltingHeat 41 = .ok (.iload_n 3, 1) := by decide +kernel
theorem dX3_meltingHeat_42 : decode cX3_meltingHeat 42 = .ok (.iconst 2, 1) := by decide +kernel
theorem dX3_meltingHeat_43 : decode cX3_meltingHeat 43 = .ok (.iadd, 1) := by decide +kernel
theorem dX3_meltingHeat_44 : decode cX3_meltingHeat 44 = .ok (.iaload, 1) := by decide +kernel
theorem dX3_meltingHeat_45 : decode cX3_meltingHeat 45 = .ok (.iconst 1, 1) := by decide +kernel
theorem dX3_meltingHeat_46 : decode cX3_meltingHeat 46 = .ok (.if_icmp .ne 8, 3) := by decide +kernel
theorem dX3_meltingHeat_49 : decode cX3_meltingHeat 49 = .ok (.bipush 40, 2) := by decide +kernel
theorem dX3_meltingHeat_51 : decode cX3_meltingHeat 51 = .ok (.goto 5, 3) := by decide +kernel
theorem dX3_meltingHeat_54 : decode cX3_meltingHeat 54 = .ok (.bipush 20, 2) := by decide +kernel
theorem dX3_meltingHeat_56 : decode cX3_meltingHeat 56 = .ok (.imul, 1) := by decide +kernel
theorem dX3_meltingHeat_57 : decode cX3_meltingHeat 57 = .ok (.bipush 20, 2) := by decide +kernel
theorem dX3_meltingHeat_59 : decode cX3_meltingHeat 59 = .ok (.iload 4, 2) := by decide +kernel
theorem dX3_meltingHeat_61 : decode cX3_meltingHeat 61 = .ok (.imul, 1) := by decide +kernel
theorem dX3_meltingHeat_62 : decode cX3_meltingHeat 62 = .ok (.aload_n 0, 1) := by decide +kernel
theorem dX3_meltingHeat_63 : decode cX3_meltingHeat 63 = .ok (.getfield 7, 3) := by decide +kernel
theorem dX3_meltingHeat_66 : decode cX3_meltingHeat 66 = .ok (.iload_n 3, 1) := by decide +kernel
theorem dX3_meltingHeat_67 : decode cX3_meltingHeat 67 = .ok (.iconst 5, 1) := by decide +kernel
theorem dX3_meltingHeat_68 : decode cX3_meltingHeat 68 = .ok (.iadd, 1) := by decide +kernel
theorem dX3_meltingHeat_69 : decode cX3_meltingHeat 69 = .ok (.iaload, 1) := by decide +kernel
theorem dX3_meltingHeat_70 : decode cX3_meltingHeat 70 = .ok (.imul, 1) := by decide +kernel
theorem dX3_meltingHeat_71 : decode cX3_meltingHeat 71 = .ok (.isub, 1) := by decide +kernel
theorem dX3_meltingHeat_72 : decode cX3_meltingHeat 72 = .ok (.istore 5, 2) := by decide +kernel
theorem dX3_meltingHeat_74 : decode cX3_meltingHeat 74 = .ok (.iload 5, 2) := by decide +kernel
theorem dX3_meltingHeat_76 : decode cX3_meltingHeat 76 = .ok (.iconst 1, 1) := by decide +kernel
theorem dX3_meltingHeat_77 : decode cX3_meltingHeat 77 = .ok (.if_icmp .ge 7, 3) := by decide +kernel
theorem dX3_meltingHeat_80 : decode cX3_meltingHeat 80 = .ok (.iconst 1, 1) := by decide +kernel
theorem dX3_meltingHeat_81 : decode cX3_meltingHeat 81 = .ok (.goto 5, 3) := by decide +kernel
theorem dX3_meltingHeat_84 : decode cX3_meltingHeat 84 = .ok (.iload 5, 2) := by decide +kernel
theorem dX3_meltingHeat_86 : decode cX3_meltingHeat 86 = .ok (.ireturn, 1) := by decide +kernel
theorem dX3_burns_0 : decode cX3_burns 0 = .ok (.iload_n 1, 1) := by decide +kernel
theorem dX3_burns_1 : decode cX3_burns 1 = .ok (.iload_n 2, 1) := by decide +kernel
theorem dX3_burns_2 : decode cX3_burns 2 = .ok (.invokestatic 37, 3) := by decide +kernel
theorem dX3_burns_5 : decode cX3_burns 5 = .ok (.istore_n 3, 1) := by decide +kernel
theorem dX3_burns_6 : decode cX3_burns 6 = .ok (.aload_n 0, 1) := by decide +kernel
theorem dX3_burns_7 : decode cX3_burns 7 = .ok (.getfield 7, 3) := by decide +kernel
theorem dX3_burns_10 : decode cX3_burns 10 = .ok (.iload_n 3, 1) := by decide +kernel
theorem dX3_burns_11 : decode cX3_burns 11 = .ok (.iconst 3, 1) := by decide +kernel
theorem dX3_burns_12 : decode cX3_burns 12 = .ok (.iadd, 1) := by decide +kernel
theorem dX3_burns_13 : decode cX3_burns 13 = .ok (.iaload, 1) := by decide +kernel
theorem dX3_burns_14 : decode cX3_burns 14 = .ok (.iconst 1, 1) := by decide +kernel
theorem dX3_burns_15 : decode cX3_burns 15 = .ok (.if_icmp .ne 41, 3) := by decide +kernel
theorem dX3_burns_18 : decode cX3_burns 18 = .ok (.aload_n 0, 1) := by decide +kernel
theorem dX3_burns_19 : decode cX3_burns 19 = .ok (.getfield 7, 3) := by decide +kernel
theorem dX3_burns_22 : decode cX3_burns 22 = .ok (.iload_n 3, 1) := by decide +kernel
theorem dX3_burns_23 : decode cX3_burns 23 = .ok (.bipush 7, 2) := by decide +kernel
theorem dX3_burns_25 : decode cX3_burns 25 = .ok (.iadd, 1) := by decide +kernel
theorem dX3_burns_26 : decode cX3_burns 26 = .ok (.dup2, 1) := by decide +kernel
theorem dX3_burns_27 : decode cX3_burns 27 = .ok (.iaload, 1) := by decide +kernel
theorem dX3_burns_28 : decode cX3_burns 28 = .ok (.iconst 1, 1) := by decide +kernel
theorem dX3_burns_29 : decode cX3_burns 29 = .ok (.isub, 1) := by decide +kernel
theorem dX3_burns_30 : decode cX3_burns 30 = .ok (.iastore, 1) := by decide +kernel
theorem dX3_burns_31 : decode cX3_burns 31 = .ok (.aload_n 0, 1) := by decide +kernel
theorem dX3_burns_32 : decode cX3_burns 32 = .ok (.getfield 7, 3) := by decide +kernel
theorem dX3_burns_35 : decode cX3_burns 35 = .ok (.iload_n 3, 1) := by decide +kernel
theorem dX3_burns_36 : decode cX3_burns 36 = .ok (.iconst 3, 1) := by decide +kernel
theorem dX3_burns_37 : decode cX3_burns 37 = .ok (.iadd, 1) := by decide +kernel
theorem dX3_burns_38 : decode cX3_burns 38 = .ok (.aload_n 0, 1) := by decide +kernel
theorem dX3_burns_39 : decode cX3_burns 39 = .ok (.getfield 7, 3) := by decide +kernel
theorem dX3_burns_42 : decode cX3_burns 42 = .ok (.iload_n 3, 1) := by decide +kernel
theorem dX3_burns_43 : decode cX3_burns 43 = .ok (.bipush 7, 2) := by decide +kernel
theorem dX3_burns_45 : decode cX3_burns 45 = .ok (.iadd, 1) := by decide +kernel
theorem dX3_burns_46 : decode cX3_burns 46 = .ok (.iaload, 1) := by decide +kernel
theorem dX3_burns_47 : decode cX3_burns 47 = .ok (.ifCond .ne 7, 3) := by decide +kernel
theorem dX3_burns_50 : decode cX3_burns 50 = .ok (.iconst 2, 1) := by decide +kernel
theorem dX3_burns_51 : decode cX3_burns 51 = .ok (.goto 4, 3) := by decide +kernel
theorem dX3_burns_54 : decode cX3_burns 54 = .ok (.iconst 1, 1) := by decide +kernel
theorem dX3_burns_55 : decode cX3_burns 55 = .ok (.iastore, 1) := by decide +kernel
theorem dX3_burns_56 : decode cX3_burns 56 = .ok (.return_, 1) := by decide +kernel
theorem dX3_heats_0 : decode cX3_heats 0 = .ok (.iload_n 1, 1) := by decide +kernel
theorem dX3_heats_1 : decode cX3_heats 1 = .ok (.iload_n 2, 1) := by decide +kernel
theorem dX3_heats_2 : decode cX3_heats 2 = .ok (.invokestatic 37, 3) := by decide +kernel
theorem dX3_heats_5 : decode cX3_heats 5 = .ok (.istore_n 3, 1) := by decide +kernel
theorem dX3_heats_6 : decode cX3_heats 6 = .ok (.aload_n 0, 1) := by decide +kernel
theorem dX3_heats_7 : decode cX3_heats 7 = .ok (.getfield 24, 3) := by decide +kernel
theorem dX3_heats_10 : decode cX3_heats 10 = .ok (.iload_n 2, 1) := by decide +kernel
theorem dX3_heats_11 : decode cX3_heats 11 = .ok (.iaload, 1) := by decide +kernel
theorem dX3_heats_12 : decode cX3_heats 12 = .ok (.istore 4, 2) := by decide +kernel
theorem dX3_heats_14 : decode cX3_heats 14 = .ok (.aload_n 0, 1) := by decide +kernel
theorem dX3_heats_15 : decode cX3_heats 15 = .ok (.getfield 7, 3) := by decide +kernel
theorem dX3_heats_18 : decode cX3_heats 18 = .ok (.iload_n 3, 1) := by decide +kernel
theorem dX3_heats_19 : decode cX3_heats 19 = .ok (.iconst 1, 1) := by decide +kernel
theorem dX3_heats_20 : decode cX3_heats 20 = .ok (.iadd, 1) := by decide +kernel
theorem dX3_heats_21 : decode cX3_heats 21 = .ok (.iaload, 1) := by decide +kernel
theorem dX3_heats_22 : decode cX3_heats 22 = .ok (.istore 5, 2) := by decide +kernel
theorem dX3_heats_24 : decode cX3_heats 24 = .ok (.aload_n 0, 1) := by decide +kernel
theorem dX3_heats_25 : decode cX3_heats 25 = .ok (.getfield 7, 3) := by decide +kernel
theorem dX3_heats_28 : decode cX3_heats 28 = .ok (.iload_n 3, 1) := by decide +kernel
theorem dX3_heats_29 : decode cX3_heats 29 = .ok (.iconst 4, 1) := by decide +kernel
theorem dX3_heats_30 : decode cX3_heats 30 = .ok (.iadd, 1) := by decide +kernel
theorem dX3_heats_31 : decode cX3_heats 31 = .ok (.iaload, 1) := by decide +kernel
theorem dX3_heats_32 : decode cX3_heats 32 = .ok (.istore 6, 2) := by decide +kernel
theorem dX3_heats_34 : decode cX3_heats 34 = .ok (.iload 6, 2) := by decide +kernel
theorem dX3_heats_36 : decode cX3_heats 36 = .ok (.iload 4, 2) := by decide +kernel
theorem dX3_heats_38 : decode cX3_heats 38 = .ok (.iload 5, 2) := by decide +kernel
theorem dX3_heats_40 : decode cX3_heats 40 = .ok (.if_icmp .le 17, 3) := by decide +kernel
theorem dX3_heats_43 : decode cX3_heats 43 = .ok (.iload 4, 2) := by decide +kernel
theorem dX3_heats_45 : decode cX3_heats 45 = .ok (.iload 4, 2) := by decide +kernel
theorem dX3_heats_47 : decode cX3_heats 47 = .ok (.imul, 1) := by decide +kernel
theorem dX3_heats_48 : decode cX3_heats 48 = .ok (.iload 5, 2) := by decide +kernel
theorem dX3_heats_50 : decode cX3_heats 50 = .ok (.iload 5, 2) := by decide +kernel
theorem dX3_heats_52 : decode cX3_heats 52 = .ok (.imul, 1) := by decide +kernel
theorem dX3_heats_53 : decode cX3_heats 53 = .ok (.isub, 1) := by decide +kernel
theorem dX3_heats_54 : decode cX3_heats 54 = .ok (.goto 24, 3) := by decide +kernel
theorem dX3_heats_57 : decode cX3_heats 57 = .ok (.iload 5, 2) := by decide +kernel
theorem dX3_heats_59 : decode cX3_heats 59 = .ok (.iload 5, 2) := by decide +kernel
theorem dX3_heats_61 : decode cX3_heats 61 = .ok (.imul, 1) := by decide +kernel
theorem dX3_heats_62 : decode cX3_heats 62 = .ok (.iload 4, 2) := by decide +kernel
theorem dX3_heats_64 : decode cX3_heats 64 = .ok (.iload 4, 2) := by decide +kernel
theorem dX3_heats_66 : decode cX3_heats 66 = .ok (.imul, 1) := by decide +kernel
theorem dX3_heats_67 : decode cX3_heats 67 = .ok (.isub, 1) := by decide +kernel
theorem dX3_heats_68 : decode cX3_heats 68 = .ok (.aload_n 0, 1) := by decide +kernel
theorem dX3_heats_69 : decode cX3_heats 69 = .ok (.getfield 7, 3) := by decide +kernel
theorem dX3_heats_72 : decode cX3_heats 72 = .ok (.iload_n 1, 1) := by decide +kernel
theorem dX3_heats_73 : decode cX3_heats 73 = .ok (.iconst 1, 1) := by decide +kernel
theorem dX3_heats_74 : decode cX3_heats 74 = .ok (.iadd, 1) := by decide +kernel
theorem dX3_heats_75 : decode cX3_heats 75 = .ok (.iaload, 1) := by decide +kernel
theorem dX3_heats_76 : decode cX3_heats 76 = .ok (.idiv, 1) := by decide +kernel
theorem dX3_heats_77 : decode cX3_heats 77 = .ok (.ineg, 1) := by decide +kernel
theorem dX3_heats_78 : decode cX3_heats 78 = .ok (.iadd, 1) := by decide +kernel
theorem dX3_heats_79 : decode cX3_heats 79 = .ok (.istore 6, 2) := by decide +kernel
theorem dX3_heats_81 : decode cX3_heats 81 = .ok (.aload_n 0, 1) := by decide +kernel
theorem dX3_heats_82 : decode cX3_heats 82 = .ok (.getfield 7, 3) := by decide +kernel
theorem dX3_heats_85 : decode cX3_heats 85 = .ok (.iload_n 3, 1) := by decide +kernel
theorem dX3_heats_86 : decode cX3_heats 86 = .ok (.iconst 4, 1) := by decide +kernel
theorem dX3_heats_87 : decode cX3_heats 87 = .ok (.iadd, 1) := by decide +kernel
theorem dX3_heats_88 : decode cX3_heats 88 = .ok (.iload 6, 2) := by decide +kernel
theorem dX3_heats_90 : decode cX3_heats 90 = .ok (.ldc 55, 2) := by decide +kernel
theorem dX3_heats_92 : decode cX3_heats 92 = .ok (.if_icmp .le 8, 3) := by decide +kernel
theorem dX3_heats_95 : decode cX3_heats 95 = .ok (.ldc 55, 2) := by decide +kernel
theorem dX3_heats_97 : decode cX3_heats 97 = .ok (.goto 14, 3) := by decide +kernel
theorem dX3_heats_100 : decode cX3_heats 100 = .ok (.iload 6, 2) := by decide +kernel
theorem dX3_heats_102 : decode cX3_heats 102 = .ok (.ifCond .ge 7, 3) := by decide +kernel
theorem dX3_heats_105 : decode cX3_heats 105 = .ok (.iconst 0, 1) := by decide +kernel
theorem dX3_heats_106 : decode cX3_heats 106 = .ok (.goto 5, 3) := by decide +kernel
theorem dX3_heats_109 : decode cX3_heats 109 = .ok (.iload 6, 2) := by decide +kernel
theorem dX3_heats_111 : decode cX3_heats 111 = .ok (.iastore, 1) := by decide +kernel
theorem dX3_heats_112 : decode cX3_heats 112 = .ok (.aload_n 0, 1) := by decide +kernel
theorem dX3_heats_113 : decode cX3_heats 113 = .ok (.getfield 7, 3) := by decide +kernel
theorem dX3_heats_116 : decode cX3_heats 116 = .ok (.iload_n 3, 1) := by decide +kernel
theorem dX3_heats_117 : decode cX3_heats 117 = .ok (.iconst 2, 1) := by decide +kernel
theorem dX3_heats_118 : decode cX3_heats 118 = .ok (.iadd, 1) := by decide +kernel
theorem dX3_heats_119 : decode cX3_heats 119 = .ok (.iaload, 1) := by decide +kernel
theorem dX3_heats_120 : decode cX3_heats 120 = .ok (.iconst 2, 1) := by decide +kernel
theorem dX3_heats_121 : decode cX3_heats 121 = .ok (.if_icmp .ne 67, 3) := by decide +kernel
theorem dX3_heats_124 : decode cX3_heats 124 = .ok (.iconst 2, 1) := by decide +kernel
theorem dX3_heats_125 : decode cX3_heats 125 = .ok (.iload 4, 2) := by decide +kernel
theorem dX3_heats_127 : decode cX3_heats 127 = .ok (.imul, 1) := by decide +kernel
theorem dX3_heats_128 : decode cX3_heats 128 = .ok (.iload 5, 2) := by decide +kernel
theorem dX3_heats_130 : decode cX3_heats 130 = .ok (.if_icmp .le 58, 3) := by decide +kernel
theorem dX3_heats_133 : decode cX3_heats 133 = .ok (.aload_n 0, 1) := by decide +kernel
theorem dX3_heats_134 : decode cX3_heats 134 = .ok (.getfield 7, 3) := by decide +kernel
theorem dX3_heats_137 : decode cX3_heats 137 = .ok (.iload_n 3, 1) := by decide +kernel
theorem dX3_heats_138 : decode cX3_heats 138 = .ok (.bipush 6, 2) := by decide +kernel
theorem dX3_heats_140 : decode cX3_heats 140 = .ok (.iadd, 1) := by decide +kernel
theorem dX3_heats_141 : decode cX3_heats 141 = .ok (.dup2, 1) := by decide +kernel
theorem dX3_heats_142 : decode cX3_heats 142 = .ok (.iaload, 1) := by decide +kernel
theorem dX3_heats_143 : decode cX3_heats 143 = .ok (.iconst 1, 1) := by decide +kernel
theorem dX3_heats_144 : decode cX3_heats 144 = .ok (.iadd, 1) := by decide +kernel
theorem dX3_heats_145 : decode cX3_heats 145 = .ok (.iastore, 1) := by decide +kernel
theorem dX3_heats_146 : decode cX3_heats 146 = .ok (.aload_n 0, 1) := by decide +kernel
theorem dX3_heats_147 : decode cX3_heats 147 = .ok (.getfield 7, 3) := by decide +kernel
theorem dX3_heats_150 : decode cX3_heats 150 = .ok (.iload_n 3, 1) := by decide +kernel
theorem dX3_heats_151 : decode cX3_heats 151 = .ok (.bipush 6, 2) := by decide +kernel
theorem dX3_heats_153 : decode cX3_heats 153 = .ok (.iadd, 1) := by decide +kernel
theorem dX3_heats_154 : decode cX3_heats 154 = .ok (.iaload, 1) := by decide +kernel
theorem dX3_heats_155 : decode cX3_heats 155 = .ok (.aload_n 0, 1) := by decide +kernel
theorem dX3_heats_156 : decode cX3_heats 156 = .ok (.getfield 7, 3) := by decide +kernel
theorem dX3_heats_159 : decode cX3_heats 159 = .ok (.iload_n 1, 1) := by decide +kernel
theorem dX3_heats_160 : decode cX3_heats 160 = .ok (.iconst 2, 1) := by decide +kernel
theorem dX3_heats_161 : decode cX3_heats 161 = .ok (.iadd, 1) := by decide +kernel
theorem dX3_heats_162 : decode cX3_heats 162 = .ok (.iaload, 1) := by decide +kernel
theorem dX3_heats_163 : decode cX3_heats 163 = .ok (.if_icmp .lt 25, 3) := by decide +kernel
theorem dX3_heats_166 : decode cX3_heats 166 = .ok (.aload_n 0, 1) := by decide +kernel
theorem dX3_heats_167 : decode cX3_heats 167 = .ok (.getfield 7, 3) := by decide +kernel
theorem dX3_heats_170 : decode cX3_heats 170 = .ok (.iload_n 3, 1) := by decide +kernel
theorem dX3_heats_171 : decode cX3_heats 171 = .ok (.iconst 5, 1) := by decide +kernel
theorem dX3_heats_172 : decode cX3_heats 172 = .ok (.iadd, 1) := by decide +kernel
theorem dX3_heats_173 : decode cX3_heats 173 = .ok (.dup2, 1) := by decide +kernel
theorem dX3_heats_174 : decode cX3_heats 174 = .ok (.iaload, 1) := by decide +kernel
theorem dX3_heats_175 : decode cX3_heats 175 = .ok (.iconst 1, 1) := by decide +kernel
theorem dX3_heats_176 : decode cX3_heats 176 = .ok (.iadd, 1) := by decide +kernel
theorem dX3_heats_177 : decode cX3_heats 177 = .ok (.iastore, 1) := by decide +kernel
theorem dX3_heats_178 : decode cX3_heats 178 = .ok (.aload_n 0, 1) := by decide +kernel
theorem dX3_heats_179 : decode cX3_heats 179 = .ok (.getfield 7, 3) := by decide +kernel
theorem dX3_heats_182 : decode cX3_heats 182 = .ok (.iload_n 3, 1) := by decide +kernel
theorem dX3_heats_183 : decode cX3_heats 183 = .ok (.bipush 6, 2) := by decide +kernel
theorem dX3_heats_185 : decode cX3_heats 185 = .ok (.iadd, 1) := by decide +kernel
theorem dX3_heats_186 : decode cX3_heats 186 = .ok (.iconst 0, 1) := by decide +kernel
theorem dX3_heats_187 : decode cX3_heats 187 = .ok (.iastore, 1) := by decide +kernel
theorem dX3_heats_188 : decode cX3_heats 188 = .ok (.return_, 1) := by decide +kernel
theorem dX3_isNearest_0 : decode cX3_isNearest 0 = .ok (.iconst 1, 1) := by decide +kernel
theorem dX3_isNearest_1 : decode cX3_isNearest 1 = .ok (.istore_n 3, 1) := by decide +kernel
theorem dX3_isNearest_2 : decode cX3_isNearest 2 = .ok (.iconst 0, 1) := by decide +kernel
theorem dX3_isNearest_3 : decode cX3_isNearest 3 = .ok (.istore 4, 2) := by decide +kernel
theorem dX3_isNearest_5 : decode cX3_isNearest 5 = .ok (.iload 4, 2) := by decide +kernel
theorem dX3_isNearest_7 : decode cX3_isNearest 7 = .ok (.aload_n 0, 1) := by decide +kernel
theorem dX3_isNearest_8 : decode cX3_isNearest 8 = .ok (.getfield 7, 3) := by decide +kernel
theorem dX3_isNearest_11 : decode cX3_isNearest 11 = .ok (.iload_n 1, 1) := by decide +kernel
theorem dX3_isNearest_12 : decode cX3_isNearest 12 = .ok (.iconst 4, 1) := by decide +kernel
theorem dX3_isNearest_13 : decode cX3_isNearest 13 = .ok (.iadd, 1) := by decide +kernel
theorem dX3_isNearest_14 : decode cX3_isNearest 14 = .ok (.iaload, 1) := by decide +kernel
theorem dX3_isNearest_15 : decode cX3_isNearest 15 = .ok (.if_icmp .ge 46, 3) := by decide +kernel
theorem dX3_isNearest_18 : decode cX3_isNearest 18 = .ok (.iload_n 3, 1) := by decide +kernel
theorem dX3_isNearest_19 : decode cX3_isNearest 19 = .ok (.ifCond .eq 34, 3) := by decide +kernel
theorem dX3_isNearest_22 : decode cX3_isNearest 22 = .ok (.iload 4, 2) := by decide +kernel
theorem dX3_isNearest_24 : decode cX3_isNearest 24 = .ok (.iload_n 2, 1) := by decide +kernel
theorem dX3_isNearest_25 : decode cX3_isNearest 25 = .ok (.if_icmp .eq 24, 3) := by decide +kernel
theorem dX3_isNearest_28 : decode cX3_isNearest 28 = .ok (.aload_n 0, 1) := by decide +kernel
theorem dX3_isNearest_29 : decode cX3_isNearest 29 = .ok (.getfield 27, 3) := by decide +kernel
theorem dX3_isNearest_32 : decode cX3_isNearest 32 = .ok (.iload 4, 2) := by decide +kernel
theorem dX3_isNearest_34 : decode cX3_isNearest 34 = .ok (.baload, 1) := by decide +kernel
theorem dX3_isNearest_35 : decode cX3_isNearest 35 = .ok (.ifCond .eq 14, 3) := by decide +kernel
theorem dX3_isNearest_38 : decode cX3_isNearest 38 = .ok (.aload_n 0, 1) := by decide +kernel
theorem dX3_isNearest_39 : decode cX3_isNearest 39 = .ok (.iload_n 1, 1) := by decide +kernel
theorem dX3_isNearest_40 : decode cX3_isNearest 40 = .ok (.iload 4, 2) := by decide +kernel
theorem dX3_isNearest_42 : decode cX3_isNearest 42 = .ok (.iload_n 2, 1) := by decide +kernel
theorem dX3_isNearest_43 : decode cX3_isNearest 43 = .ok (.invokevirtual 44, 3) := by decide +kernel
theorem dX3_isNearest_46 : decode cX3_isNearest 46 = .ok (.ifCond .ne 7, 3) := by decide +kernel
theorem dX3_isNearest_49 : decode cX3_isNearest 49 = .ok (.iconst 1, 1) := by decide +kernel
theorem dX3_isNearest_50 : decode cX3_isNearest 50 = .ok (.goto 4, 3) := by decide +kernel
theorem dX3_isNearest_53 : decode cX3_isNearest 53 = .ok (.iconst 0, 1) := by decide +kernel
theorem dX3_isNearest_54 : decode cX3_isNearest 54 = .ok (.istore_n 3, 1) := by decide +kernel
theorem dX3_isNearest_55 : decode cX3_isNearest 55 = .ok (.iinc 4 1, 3) := by decide +kernel
theorem dX3_isNearest_58 : decode cX3_isNearest 58 = .ok (.goto (-53), 3) := by decide +kernel
theorem dX3_isNearest_61 : decode cX3_isNearest 61 = .ok (.iload_n 3, 1) := by decide +kernel
theorem dX3_isNearest_62 : decode cX3_isNearest 62 = .ok (.ireturn, 1) := by decide +kernel
theorem dX3_blows_0 : decode cX3_blows 0 = .ok (.iload_n 1, 1) := by decide +kernel
theorem dX3_blows_1 : decode cX3_blows 1 = .ok (.iload_n 2, 1) := by decide +kernel
theorem dX3_blows_2 : decode cX3_blows 2 = .ok (.invokestatic 37, 3) := by decide +kernel
theorem dX3_blows_5 : decode cX3_blows 5 = .ok (.istore_n 3, 1) := by decide +kernel
theorem dX3_blows_6 : decode cX3_blows 6 = .ok (.aload_n 0, 1) := by decide +kernel
theorem dX3_blows_7 : decode cX3_blows 7 = .ok (.getfield 7, 3) := by decide +kernel
theorem dX3_blows_10 : decode cX3_blows 10 = .ok (.iload_n 3, 1) := by decide +kernel
theorem dX3_blows_11 : decode cX3_blows 11 = .ok (.iconst 3, 1) := by decide +kernel
theorem dX3_blows_12 : decode cX3_blows 12 = .ok (.iadd, 1) := by decide +kernel
theorem dX3_blows_13 : decode cX3_blows 13 = .ok (.aload_n 0, 1) := by decide +kernel
theorem dX3_blows_14 : decode cX3_blows 14 = .ok (.getfield 7, 3) := by decide +kernel
theorem dX3_blows_17 : decode cX3_blows 17 = .ok (.iload_n 1, 1) := by decide +kernel
theorem dX3_blows_18 : decode cX3_blows 18 = .ok (.iconst 0, 1) := by decide +kernel
theorem dX3_blows_19 : decode cX3_blows 19 = .ok (.iadd, 1) := by decide +kernel
theorem dX3_blows_20 : decode cX3_blows 20 = .ok (.iaload, 1) := by decide +kernel
theorem dX3_blows_21 : decode cX3_blows 21 = .ok (.ifCond .ne 7, 3) := by decide +kernel
theorem dX3_blows_24 : decode cX3_blows 24 = .ok (.iconst 2, 1) := by decide +kernel
theorem dX3_blows_25 : decode cX3_blows 25 = .ok (.goto 4, 3) := by decide +kernel
theorem dX3_blows_28 : decode cX3_blows 28 = .ok (.iconst 1, 1) := by decide +kernel
theorem dX3_blows_29 : decode cX3_blows 29 = .ok (.iastore, 1) := by decide +kernel
theorem dX3_blows_30 : decode cX3_blows 30 = .ok (.aload_n 0, 1) := by decide +kernel
theorem dX3_blows_31 : decode cX3_blows 31 = .ok (.getfield 7, 3) := by decide +kernel
theorem dX3_blows_34 : decode cX3_blows 34 = .ok (.iload_n 3, 1) := by decide +kernel
theorem dX3_blows_35 : decode cX3_blows 35 = .ok (.bipush 7, 2) := by decide +kernel
theorem dX3_blows_37 : decode cX3_blows 37 = .ok (.iadd, 1) := by decide +kernel
theorem dX3_blows_38 : decode cX3_blows 38 = .ok (.aload_n 0, 1) := by decide +kernel
theorem dX3_blows_39 : decode cX3_blows 39 = .ok (.getfield 7, 3) := by decide +kernel
theorem dX3_blows_42 : decode cX3_blows 42 = .ok (.iload_n 1, 1) := by decide +kernel
theorem dX3_blows_43 : decode cX3_blows 43 = .ok (.iconst 0, 1) := by decide +kernel
theorem dX3_blows_44 : decode cX3_blows 44 = .ok (.iadd, 1) := by decide +kernel
theorem dX3_blows_45 : decode cX3_blows 45 = .ok (.iaload, 1) := by decide +kernel
theorem dX3_blows_46 : decode cX3_blows 46 = .ok (.iastore, 1) := by decide +kernel
theorem dX3_blows_47 : decode cX3_blows 47 = .ok (.aload_n 0, 1) := by decide +kernel
theorem dX3_blows_48 : decode cX3_blows 48 = .ok (.getfield 7, 3) := by decide +kernel
theorem dX3_blows_51 : decode cX3_blows 51 = .ok (.iload_n 3, 1) := by decide +kernel
theorem dX3_blows_52 : decode cX3_blows 52 = .ok (.bipush 8, 2) := by decide +kernel
theorem dX3_blows_54 : decode cX3_blows 54 = .ok (.iadd, 1) := by decide +kernel
theorem dX3_blows_55 : decode cX3_blows 55 = .ok (.dup2, 1) := by decide +kernel
theorem dX3_blows_56 : decode cX3_blows 56 = .ok (.iaload, 1) := by decide +kernel
theorem dX3_blows_57 : decode cX3_blows 57 = .ok (.iconst 1, 1) := by decide +kernel
theorem dX3_blows_58 : decode cX3_blows 58 = .ok (.iadd, 1) := by decide +kernel
theorem dX3_blows_59 : decode cX3_blows 59 = .ok (.iastore, 1) := by decide +kernel
theorem dX3_blows_60 : decode cX3_blows 60 = .ok (.aload_n 0, 1) := by decide +kernel
theorem dX3_blows_61 : decode cX3_blows 61 = .ok (.getfield 7, 3) := by decide +kernel
theorem dX3_blows_64 : decode cX3_blows 64 = .ok (.iload_n 1, 1) := by decide +kernel
theorem dX3_blows_65 : decode cX3_blows 65 = .ok (.bipush 6, 2) := by decide +kernel
theorem dX3_blows_67 : decode cX3_blows 67 = .ok (.iadd, 1) := by decide +kernel
theorem dX3_blows_68 : decode cX3_blows 68 = .ok (.dup2, 1) := by decide +kernel
theorem dX3_blows_69 : decode cX3_blows 69 = .ok (.iaload, 1) := by decide +kernel
theorem dX3_blows_70 : decode cX3_blows 70 = .ok (.iconst 1, 1) := by decide +kernel
theorem dX3_blows_71 : decode cX3_blows 71 = .ok (.iadd, 1) := by decide +kernel
theorem dX3_blows_72 : decode cX3_blows 72 = .ok (.iastore, 1) := by decide +kernel
theorem dX3_blows_73 : decode cX3_blows 73 = .ok (.bipush 7, 2) := by decide +kernel
theorem dX3_blows_75 : decode cX3_blows 75 = .ok (.istore 4, 2) := by decide +kernel
theorem dX3_blows_77 : decode cX3_blows 77 = .ok (.iload 4, 2) := by decide +kernel
theorem dX3_blows_79 : decode cX3_blows 79 = .ok (.ifCond .le 35, 3) := by decide +kernel
theorem dX3_blows_82 : decode cX3_blows 82 = .ok (.aload_n 0, 1) := by decide +kernel
theorem dX3_blows_83 : decode cX3_blows 83 = .ok (.getfield 7, 3) := by decide +kernel
theorem dX3_blows_86 : decode cX3_blows 86 = .ok (.iload_n 1, 1) := by decide +kernel
theorem dX3_blows_87 : decode cX3_blows 87 = .ok (.bipush 8, 2) := by decide +kernel
theorem dX3_blows_89 : decode cX3_blows 89 = .ok (.iadd, 1) := by decide +kernel
theorem dX3_blows_90 : decode cX3_blows 90 = .ok (.iload 4, 2) := by decide +kernel
theorem dX3_blows_92 : decode cX3_blows 92 = .ok (.iadd, 1) := by decide +kernel
theorem dX3_blows_93 : decode cX3_blows 93 = .ok (.aload_n 0, 1) := by decide +kernel
theorem dX3_blows_94 : decode cX3_blows 94 = .ok (.getfield 7, 3) := by decide +kernel
theorem dX3_blows_97 : decode cX3_blows 97 = .ok (.iload_n 1, 1) := by decide +kernel
theorem dX3_blows_98 : decode cX3_blows 98 = .ok (.bipush 8, 2) := by decide +kernel
theorem dX3_blows_100 : decode cX3_blows 100 = .ok (.iadd, 1) := by decide +kernel
theorem dX3_blows_101 : decode cX3_blows 101 = .ok (.iload 4, 2) := by decide +kernel
theorem dX3_blows_103 : decode cX3_blows 103 = .ok (.iadd, 1) := by decide +kernel
theorem dX3_blows_104 : decode cX3_blows 104 = .ok (.iconst 1, 1) := by decide +kernel
theorem dX3_blows_105 : decode cX3_blows 105 = .ok (.isub, 1) := by decide +kernel
theorem dX3_blows_106 : decode cX3_blows 106 = .ok (.iaload, 1) := by decide +kernel
theorem dX3_blows_107 : decode cX3_blows 107 = .ok (.iastore, 1) := by decide +kernel
theorem dX3_blows_108 : decode cX3_blows 108 = .ok (.iinc 4 (-1), 3) := by decide +kernel
theorem dX3_blows_111 : decode cX3_blows 111 = .ok (.goto (-34), 3) := by decide +kernel
theorem dX3_blows_114 : decode cX3_blows 114 = .ok (.aload_n 0, 1) := by decide +kernel
theorem dX3_blows_115 : decode cX3_blows 115 = .ok (.getfield 7, 3) := by decide +kernel
theorem dX3_blows_118 : decode cX3_blows 118 = .ok (.iload_n 1, 1) := by decide +kernel
theorem dX3_blows_119 : decode cX3_blows 119 = .ok (.bipush 8, 2) := by decide +kernel
theorem dX3_blows_121 : decode cX3_blows 121 = .ok (.iadd, 1) := by decide +kernel
theorem dX3_blows_122 : decode cX3_blows 122 = .ok (.iload_n 2, 1) := by decide +kernel
theorem dX3_blows_123 : decode cX3_blows 123 = .ok (.iastore, 1) := by decide +kernel
theorem dX3_blows_124 : decode cX3_blows 124 = .ok (.aload_n 0, 1) := by decide +kernel
theorem dX3_blows_125 : decode cX3_blows 125 = .ok (.getfield 7, 3) := by decide +kernel
theorem dX3_blows_128 : decode cX3_blows 128 = .ok (.iload_n 1, 1) := by decide +kernel
theorem dX3_blows_129 : decode cX3_blows 129 = .ok (.bipush 7, 2) := by decide +kernel
theorem dX3_blows_131 : decode cX3_blows 131 = .ok (.iadd, 1) := by decide +kernel
theorem dX3_blows_132 : decode cX3_blows 132 = .ok (.dup2, 1) := by decide +kernel
theorem dX3_blows_133 : decode cX3_blows 133 = .ok (.iaload, 1) := by decide +kernel
theorem dX3_blows_134 : decode cX3_blows 134 = .ok (.aload_n 0, 1) := by decide +kernel
theorem dX3_blows_135 : decode cX3_blows 135 = .ok (.getfield 7, 3) := by decide +kernel
theorem dX3_blows_138 : decode cX3_blows 138 = .ok (.iload_n 1, 1) := by decide +kernel
theorem dX3_blows_139 : decode cX3_blows 139 = .ok (.bipush 7, 2) := by decide +kernel
theorem dX3_blows_141 : decode cX3_blows 141 = .ok (.iadd, 1) := by decide +kernel
theorem dX3_blows_142 : decode cX3_blows 142 = .ok (.iaload, 1) := by decide +kernel
theorem dX3_blows_143 : decode cX3_blows 143 = .ok (.bipush 8, 2) := by decide +kernel
theorem dX3_blows_145 : decode cX3_blows 145 = .ok (.if_icmp .ge 7, 3) := by decide +kernel
theorem dX3_blows_148 : decode cX3_blows 148 = .ok (.iconst 1, 1) := by decide +kernel
theorem dX3_blows_149 : decode cX3_blows 149 = .ok (.goto 4, 3) := by decide +kernel
theorem dX3_blows_152 : decode cX3_blows 152 = .ok (.iconst 0, 1) := by decide +kernel
theorem dX3_blows_153 : decode cX3_blows 153 = .ok (.invokestatic 56, 3) := by decide +kernel
theorem dX3_blows_156 : decode cX3_blows 156 = .ok (.iadd, 1) := by decide +kernel
theorem dX3_blows_157 : decode cX3_blows 157 = .ok (.iastore, 1) := by decide +kernel
theorem dX3_blows_158 : decode cX3_blows 158 = .ok (.return_, 1) := by decide +kernel
theorem dX3_tick_0 : decode cX3_tick 0 = .ok (.aload_n 0, 1) := by decide +kernel
theorem dX3_tick_1 : decode cX3_tick 1 = .ok (.getfield 7, 3) := by decide +kernel
theorem dX3_tick_4 : decode cX3_tick 4 = .ok (.iload_n 1, 1) := by decide +kernel
theorem dX3_tick_5 : decode cX3_tick 5 = .ok (.iconst 4, 1) := by decide +kernel
theorem dX3_tick_6 : decode cX3_tick 6 = .ok (.iadd, 1) := by decide +kernel
theorem dX3_tick_7 : decode cX3_tick 7 = .ok (.iaload, 1) := by decide +kernel
theorem dX3_tick_8 : decode cX3_tick 8 = .ok (.istore_n 2, 1) := by decide +kernel
theorem dX3_tick_9 : decode cX3_tick 9 = .ok (.iconst 0, 1) := by decide +kernel
theorem dX3_tick_10 : decode cX3_tick 10 = .ok (.istore_n 3, 1) := by decide +kernel
theorem dX3_tick_11 : decode cX3_tick 11 = .ok (.iload_n 3, 1) := by decide +kernel
theorem dX3_tick_12 : decode cX3_tick 12 = .ok (.iload_n 2, 1) := by decide +kernel
theorem dX3_tick_13 : decode cX3_tick 13 = .ok (.if_icmp .ge 21, 3) := by decide +kernel
theorem dX3_tick_16 : decode cX3_tick 16 = .ok (.aload_n 0, 1) := by decide +kernel
theorem dX3_tick_17 : decode cX3_tick 17 = .ok (.getfield 24, 3) := by decide +kernel
theorem dX3_tick_20 : decode cX3_tick 20 = .ok (.iload_n 3, 1) := by decide +kernel
theorem dX3_tick_21 : decode cX3_tick 21 = .ok (.aload_n 0, 1) := by decide +kernel
theorem dX3_tick_22 : decode cX3_tick 22 = .ok (.iload_n 1, 1) := by decide +kernel
theorem dX3_tick_23 : decode cX3_tick 23 = .ok (.iload_n 3, 1) := by decide +kernel
theorem dX3_tick_24 : decode cX3_tick 24 = .ok (.invokevirtual 60, 3) := by decide +kernel
theorem dX3_tick_27 : decode cX3_tick 27 = .ok (.iastore, 1) := by decide +kernel
theorem dX3_tick_28 : decode cX3_tick 28 = .ok (.iinc 3 1, 3) := by decide +kernel
theorem dX3_tick_31 : decode cX3_tick 31 = .ok (.goto (-20), 3) := by decide +kernel
theorem dX3_tick_34 : decode cX3_tick 34 = .ok (.iconst 0, 1) := by decide +kernel
theorem dX3_tick_35 : decode cX3_tick 35 = .ok (.istore_n 3, 1) := by decide +kernel
theorem dX3_tick_36 : decode cX3_tick 36 = .ok (.iload_n 3, 1) := by decide +kernel
theorem dX3_tick_37 : decode cX3_tick 37 = .ok (.iload_n 2, 1) := by decide +kernel
theorem dX3_tick_38 : decode cX3_tick 38 = .ok (.if_icmp .ge 15, 3) := by decide +kernel
theorem dX3_tick_41 : decode cX3_tick 41 = .ok (.aload_n 0, 1) := by decide +kernel
theorem dX3_tick_42 : decode cX3_tick 42 = .ok (.iload_n 1, 1) := by decide +kernel
theorem dX3_tick_43 : decode cX3_tick 43 = .ok (.iload_n 3, 1) := by decide +kernel
theorem dX3_tick_44 : decode cX3_tick 44 = .ok (.invokevirtual 63, 3) := by decide +kernel
theorem dX3_tick_47 : decode cX3_tick 47 = .ok (.iinc 3 1, 3) := by decide +kernel
theorem dX3_tick_50 : decode cX3_tick 50 = .ok (.goto (-14), 3) := by decide +kernel
theorem dX3_tick_53 : decode cX3_tick 53 = .ok (.iconst 0, 1) := by decide +kernel
theorem dX3_tick_54 : decode cX3_tick 54 = .ok (.istore_n 3, 1) := by decide +kernel
theorem dX3_tick_55 : decode cX3_tick 55 = .ok (.iload_n 3, 1) := by decide +kernel
theorem dX3_tick_56 : decode cX3_tick 56 = .ok (.iload_n 2, 1) := by decide +kernel
theorem dX3_tick_57 : decode cX3_tick 57 = .ok (.if_icmp .ge 79, 3) := by decide +kernel
theorem dX3_tick_60 : decode cX3_tick 60 = .ok (.aload_n 0, 1) := by decide +kernel
theorem dX3_tick_61 : decode cX3_tick 61 = .ok (.getfield 7, 3) := by decide +kernel
theorem dX3_tick_64 : decode cX3_tick 64 = .ok (.iload_n 1, 1) := by decide +kernel
theorem dX3_tick_65 : decode cX3_tick 65 = .ok (.iload_n 3, 1) := by decide +kernel
theorem dX3_tick_66 : decode cX3_tick 66 = .ok (.invokestatic 37, 3) := by decide +kernel
theorem dX3_tick_69 : decode cX3_tick 69 = .ok (.iconst 3, 1) := by decide +kernel
theorem dX3_tick_70 : decode cX3_tick 70 = .ok (.iadd, 1) := by decide +kernel
theorem dX3_tick_71 : decode cX3_tick 71 = .ok (.iaload, 1) := by decide +kernel
theorem dX3_tick_72 : decode cX3_tick 72 = .ok (.ifCond .ne 7, 3) := by decide +kernel
theorem dX3_tick_75 : decode cX3_tick 75 = .ok (.iconst 1, 1) := by decide +kernel
theorem dX3_tick_76 : decode cX3_tick 76 = .ok (.goto 4, 3) := by decide +kernel
theorem dX3_tick_79 : decode cX3_tick 79 = .ok (.iconst 0, 1) := by decide +kernel
theorem dX3_tick_80 : decode cX3_tick 80 = .ok (.istore 4, 2) := by decide +kernel
theorem dX3_tick_82 : decode cX3_tick 82 = .ok (.iload 4, 2) := by decide +kernel
theorem dX3_tick_84 : decode cX3_tick 84 = .ok (.ifCond .eq 9, 3) := by decide +kernel
theorem dX3_tick_87 : decode cX3_tick 87 = .ok (.aload_n 0, 1) := by decide +kernel
theorem dX3_tick_88 : decode cX3_tick 88 = .ok (.iload_n 1, 1) := by decide +kernel
theorem dX3_tick_89 : decode cX3_tick 89 = .ok (.iload_n 3, 1) := by decide +kernel
theorem dX3_tick_90 : decode cX3_tick 90 = .ok (.invokevirtual 66, 3) := by decide +kernel
theorem dX3_tick_93 : decode cX3_tick 93 = .ok (.aload_n 0, 1) := by decide +kernel
theorem dX3_tick_94 : decode cX3_tick 94 = .ok (.getfield 27, 3) := by decide +kernel
theorem dX3_tick_97 : decode cX3_tick 97 = .ok (.iload_n 3, 1) := by decide +kernel
theorem dX3_tick_98 : decode cX3_tick 98 = .ok (.iload 4, 2) := by decide +kernel
theorem dX3_tick_100 : decode cX3_tick 100 = .ok (.ifCond .eq 28, 3) := by decide +kernel
theorem dX3_tick_103 : decode cX3_tick 103 = .ok (.aload_n 0, 1) := by decide +kernel
theorem dX3_tick_104 : decode cX3_tick 104 = .ok (.getfield 7, 3) := by decide +kernel
theorem dX3_tick_107 : decode cX3_tick 107 = .ok (.iload_n 1, 1) := by decide +kernel
theorem dX3_tick_108 : decode cX3_tick 108 = .ok (.iload_n 3, 1) := by decide +kernel
theorem dX3_tick_109 : decode cX3_tick 109 = .ok (.invokestatic 37, 3) := by decide +kernel
theorem dX3_tick_112 : decode cX3_tick 112 = .ok (.iconst 4, 1) := by decide +kernel
theorem dX3_tick_113 : decode cX3_tick 113 = .ok (.iadd, 1) := by decide +kernel
theorem dX3_tick_114 : decode cX3_tick 114 = .ok (.iaload, 1) := by decide +kernel
theorem dX3_tick_115 : decode cX3_tick 115 = .ok (.aload_n 0, 1) := by decide +kernel
theorem dX3_tick_116 : decode cX3_tick 116 = .ok (.iload_n 1, 1) := by decide +kernel
theorem dX3_tick_117 : decode cX3_tick 117 = .ok (.iload_n 3, 1) := by decide +kernel
theorem dX3_tick_118 : decode cX3_tick 118 = .ok (.invokevirtual 69, 3) := by decide +kernel
theorem dX3_tick_121 : decode cX3_tick 121 = .ok (.if_icmp .lt 7, 3) := by decide +kernel
theorem dX3_tick_124 : decode cX3_tick 124 = .ok (.iconst 1, 1) := by decide +kernel
theorem dX3_tick_125 : decode cX3_tick 125 = .ok (.goto 4, 3) := by decide +kernel
theorem dX3_tick_128 : decode cX3_tick 128 = .ok (.iconst 0, 1) := by decide +kernel
theorem dX3_tick_129 : decode cX3_tick 129 = .ok (.bastore, 1) := by decide +kernel
theorem dX3_tick_130 : decode cX3_tick 130 = .ok (.iinc 3 1, 3) := by decide +kernel
theorem dX3_tick_133 : decode cX3_tick 133 = .ok (.goto (-78), 3) := by decide +kernel
theorem dX3_tick_136 : decode cX3_tick 136 = .ok (.iconst 0, 1) := by decide +kernel
theorem dX3_tick_137 : decode cX3_tick 137 = .ok (.istore_n 3, 1) := by decide +kernel
theorem dX3_tick_138 : decode cX3_tick 138 = .ok (.iconst 0, 1) := by decide +kernel
theorem dX3_tick_139 : decode cX3_tick 139 = .ok (.istore 4, 2) := by decide +kernel
theorem dX3_tick_141 : decode cX3_tick 141 = .ok (.iload 4, 2) := by decide +kernel
theorem dX3_tick_143 : decode cX3_tick 143 = .ok (.iload_n 2, 1) := by decide +kernel
theorem dX3_tick_144 : decode cX3_tick 144 = .ok (.if_icmp .ge 43, 3) := by decide +kernel
theorem dX3_tick_147 : decode cX3_tick 147 = .ok (.aload_n 0, 1) := by decide +kernel
theorem dX3_tick_148 : decode cX3_tick 148 = .ok (.getfield 27, 3) := by decide +kernel
theorem dX3_tick_151 : decode cX3_tick 151 = .ok (.iload 4, 2) := by decide +kernel
theorem dX3_tick_153 : decode cX3_tick 153 = .ok (.baload, 1) := by decide +kernel
theorem dX3_tick_154 : decode cX3_tick 154 = .ok (.ifCond .eq 27, 3) := by decide +kernel
theorem dX3_tick_157 : decode cX3_tick 157 = .ok (.aload_n 0, 1) := by decide +kernel
theorem dX3_tick_158 : decode cX3_tick 158 = .ok (.iload_n 1, 1) := by decide +kernel
theorem dX3_tick_159 : decode cX3_tick 159 = .ok (.iload 4, 2) := by decide +kernel
theorem dX3_tick_161 : decode cX3_tick 161 = .ok (.invokevirtual 72, 3) := by decide +kernel
theorem dX3_tick_164 : decode cX3_tick 164 = .ok (.ifCond .eq 17, 3) := by decide +kernel
theorem dX3_tick_167 : decode cX3_tick 167 = .ok (.iload_n 3, 1) := by decide +kernel
theorem dX3_tick_168 : decode cX3_tick 168 = .ok (.iconst 1, 1) := by decide +kernel
theorem dX3_tick_169 : decode cX3_tick 169 = .ok (.iload 4, 2) := by decide +kernel
theorem dX3_tick_171 : decode cX3_tick 171 = .ok (.ishl, 1) := by decide +kernel
theorem dX3_tick_172 : decode cX3_tick 172 = .ok (.ior, 1) := by decide +kernel
theorem dX3_tick_173 : decode cX3_tick 173 = .ok (.istore_n 3, 1) := by decide +kernel
theorem dX3_tick_174 : decode cX3_tick 174 = .ok (.aload_n 0, 1) := by decide +kernel
theorem dX3_tick_175 : decode cX3_tick 175 = .ok (.iload_n 1, 1) := by decide +kernel
theorem dX3_tick_176 : decode cX3_tick 176 = .ok (.iload 4, 2) := by decide +kernel
theorem dX3_tick_178 : decode cX3_tick 178 = .ok (.invokevirtual 75, 3) := by decide +kernel
theorem dX3_tick_181 : decode cX3_tick 181 = .ok (.iinc 4 1, 3) := by decide +kernel
theorem dX3_tick_184 : decode cX3_tick 184 = .ok (.goto (-43), 3) := by decide +kernel
theorem dX3_tick_187 : decode cX3_tick 187 = .ok (.aload_n 0, 1) := by decide +kernel
theorem dX3_tick_188 : decode cX3_tick 188 = .ok (.getfield 7, 3) := by decide +kernel
theorem dX3_tick_191 : decode cX3_tick 191 = .ok (.iload_n 1, 1) := by decide +kernel
theorem dX3_tick_192 : decode cX3_tick 192 = .ok (.iconst 3, 1) := by decide +kernel
theorem dX3_tick_193 : decode cX3_tick 193 = .ok (.iadd, 1) := by decide +kernel
theorem dX3_tick_194 : decode cX3_tick 194 = .ok (.dup2, 1) := by decide +kernel
theorem dX3_tick_195 : decode cX3_tick 195 = .ok (.iaload, 1) := by decide +kernel
theorem dX3_tick_196 : decode cX3_tick 196 = .ok (.iconst 1, 1) := by decide +kernel
theorem dX3_tick_197 : decode cX3_tick 197 = .ok (.iadd, 1) := by decide +kernel
theorem dX3_tick_198 : decode cX3_tick 198 = .ok (.iastore, 1) := by decide +kernel
theorem dX3_tick_199 : decode cX3_tick 199 = .ok (.iload_n 3, 1) := by decide +kernel
theorem dX3_tick_200 : decode cX3_tick 200 = .ok (.ireturn, 1) := by decide +kernel
theorem dX3_ones_0 : decode cX3_ones 0 = .ok (.iconst 0, 1) := by decide +kernel
theorem dX3_ones_1 : decode cX3_ones 1 = .ok (.istore_n 1, 1) := by decide +kernel
theorem dX3_ones_2 : decode cX3_ones 2 = .ok (.iconst 0, 1) := by decide +kernel
theorem dX3_ones_3 : decode cX3_ones 3 = .ok (.istore_n 2, 1) := by decide +kernel
theorem dX3_ones_4 : decode cX3_ones 4 = .ok (.iload_n 2, 1) := by decide +kernel
theorem dX3_ones_5 : decode cX3_ones 5 = .ok (.bipush 14, 2) := by decide +kernel
theorem dX3_ones_7 : decode cX3_ones 7 = .ok (.if_icmp .ge 17, 3) := by decide +kernel
theorem dX3_ones_10 : decode cX3_ones 10 = .ok (.iload_n 1, 1) := by decide +kernel
theorem dX3_ones_11 : decode cX3_ones 11 = .ok (.iload_n 0, 1) := by decide +kernel
theorem dX3_ones_12 : decode cX3_ones 12 = .ok (.iload_n 2, 1) := by decide +kernel
theorem dX3_ones_13 : decode cX3_ones 13 = .ok (.ishr, 1) := by decide +kernel
theorem dX3_ones_14 : decode cX3_ones 14 = .ok (.iconst 1, 1) := by decide +kernel
theorem dX3_ones_15 : decode cX3_ones 15 = .ok (.iand, 1) := by decide +kernel
theorem dX3_ones_16 : decode cX3_ones 16 = .ok (.iadd, 1) := by decide +kernel
theorem dX3_ones_17 : decode cX3_ones 17 = .ok (.istore_n 1, 1) := by decide +kernel
theorem dX3_ones_18 : decode cX3_ones 18 = .ok (.iinc 2 1, 3) := by decide +kernel
theorem dX3_ones_21 : decode cX3_ones 21 = .ok (.goto (-17), 3) := by decide +kernel
theorem dX3_ones_24 : decode cX3_ones 24 = .ok (.iload_n 1, 1) := by decide +kernel
theorem dX3_ones_25 : decode cX3_ones 25 = .ok (.ireturn, 1) := by decide +kernel
theorem dX3_ticks_0 : decode cX3_ticks 0 = .ok (.iconst 0, 1) := by decide +kernel
theorem dX3_ticks_1 : decode cX3_ticks 1 = .ok (.istore_n 3, 1) := by decide +kernel
theorem dX3_ticks_2 : decode cX3_ticks 2 = .ok (.iconst 0, 1) := by decide +kernel
theorem dX3_ticks_3 : decode cX3_ticks 3 = .ok (.istore 4, 2) := by decide +kernel
theorem dX3_ticks_5 : decode cX3_ticks 5 = .ok (.iload 4, 2) := by decide +kernel
theorem dX3_ticks_7 : decode cX3_ticks 7 = .ok (.iload_n 2, 1) := by decide +kernel
theorem dX3_ticks_8 : decode cX3_ticks 8 = .ok (.if_icmp .ge 20, 3) := by decide +kernel
theorem dX3_ticks_11 : decode cX3_ticks 11 = .ok (.iload_n 3, 1) := by decide +kernel
theorem dX3_ticks_12 : decode cX3_ticks 12 = .ok (.aload_n 0, 1) := by decide +kernel
theorem dX3_ticks_13 : decode cX3_ticks 13 = .ok (.iload_n 1, 1) := by decide +kernel
theorem dX3_ticks_14 : decode cX3_ticks 14 = .ok (.invokevirtual 78, 3) := by decide +kernel
theorem dX3_ticks_17 : decode cX3_ticks 17 = .ok (.invokestatic 82, 3) := by decide +kernel
theorem dX3_ticks_20 : decode cX3_ticks 20 = .ok (.iadd, 1) := by decide +kernel
theorem dX3_ticks_21 : decode cX3_ticks 21 = .ok (.istore_n 3, 1) := by decide +kernel
theorem dX3_ticks_22 : decode cX3_ticks 22 = .ok (.iinc 4 1, 3) := by decide +kernel
theorem dX3_ticks_25 : decode cX3_ticks 25 = .ok (.goto (-20), 3) := by decide +kernel
theorem dX3_ticks_28 : decode cX3_ticks 28 = .ok (.iload_n 3, 1) := by decide +kernel
theorem dX3_ticks_29 : decode cX3_ticks 29 = .ok (.ireturn, 1) := by decide +kernel
theorem dX3_isBoard_0 : decode cX3_isBoard 0 = .ok (.iload_n 1, 1) := by decide +kernel
theorem dX3_isBoard_1 : decode cX3_isBoard 1 = .ok (.i2l, 1) := by decide +kernel
theorem dX3_isBoard_2 : decode cX3_isBoard 2 = .ok (.lconst 0, 1) := by decide +kernel
theorem dX3_isBoard_3 : decode cX3_isBoard 3 = .ok (.aload_n 0, 1) := by decide +kernel
theorem dX3_isBoard_4 : decode cX3_isBoard 4 = .ok (.getfield 7, 3) := by decide +kernel
theorem dX3_isBoard_7 : decode cX3_isBoard 7 = .ok (.iconst 4, 1) := by decide +kernel
theorem dX3_isBoard_8 : decode cX3_isBoard 8 = .ok (.iaload, 1) := by decide +kernel
theorem dX3_isBoard_9 : decode cX3_isBoard 9 = .ok (.iconst 1, 1) := by decide +kernel
theorem dX3_isBoard_10 : decode cX3_isBoard 10 = .ok (.isub, 1) := by decide +kernel
theorem dX3_isBoard_11 : decode cX3_isBoard 11 = .ok (.i2l, 1) := by decide +kernel
theorem dX3_isBoard_12 : decode cX3_isBoard 12 = .ok (.invokestatic 85, 3) := by decide +kernel
theorem dX3_isBoard_15 : decode cX3_isBoard 15 = .ok (.ireturn, 1) := by decide +kernel
theorem dX3_isLoad_0 : decode cX3_isLoad 0 = .ok (.iload_n 1, 1) := by decide +kernel
theorem dX3_isLoad_1 : decode cX3_isLoad 1 = .ok (.i2l, 1) := by decide +kernel
theorem dX3_isLoad_2 : decode cX3_isLoad 2 = .ok (.lconst 0, 1) := by decide +kernel
theorem dX3_isLoad_3 : decode cX3_isLoad 3 = .ok (.aload_n 0, 1) := by decide +kernel
theorem dX3_isLoad_4 : decode cX3_isLoad 4 = .ok (.getfield 7, 3) := by decide +kernel
theorem dX3_isLoad_7 : decode cX3_isLoad 7 = .ok (.iconst 5, 1) := by decide +kernel
theorem dX3_isLoad_8 : decode cX3_isLoad 8 = .ok (.iaload, 1) := by decide +kernel
theorem dX3_isLoad_9 : decode cX3_isLoad 9 = .ok (.iconst 1, 1) := by decide +kernel
theorem dX3_isLoad_10 : decode cX3_isLoad 10 = .ok (.isub, 1) := by decide +kernel
theorem dX3_isLoad_11 : decode cX3_isLoad 11 = .ok (.i2l, 1) := by decide +kernel
theorem dX3_isLoad_12 : decode cX3_isLoad 12 = .ok (.invokestatic 85, 3) := by decide +kernel
theorem dX3_isLoad_15 : decode cX3_isLoad 15 = .ok (.ireturn, 1) := by decide +kernel
theorem dX3_isFuse_0 : decode cX3_isFuse 0 = .ok (.iload_n 0, 1) := by decide +kernel
theorem dX3_isFuse_1 : decode cX3_isFuse 1 = .ok (.i2l, 1) := by decide +kernel
theorem dX3_isFuse_2 : decode cX3_isFuse 2 = .ok (.lconst 1, 1) := by decide +kernel
theorem dX3_isFuse_3 : decode cX3_isFuse 3 = .ok (.ldc2_w 89, 3) := by decide +kernel
theorem dX3_isFuse_6 : decode cX3_isFuse 6 = .ok (.invokestatic 85, 3) := by decide +kernel
theorem dX3_isFuse_9 : decode cX3_isFuse 9 = .ok (.ifCond .eq 19, 3) := by decide +kernel
theorem dX3_isFuse_12 : decode cX3_isFuse 12 = .ok (.iload_n 1, 1) := by decide +kernel
theorem dX3_isFuse_13 : decode cX3_isFuse 13 = .ok (.i2l, 1) := by decide +kernel
theorem dX3_isFuse_14 : decode cX3_isFuse 14 = .ok (.lconst 0, 1) := by decide +kernel
theorem dX3_isFuse_15 : decode cX3_isFuse 15 = .ok (.ldc2_w 91, 3) := by decide +kernel
theorem dX3_isFuse_18 : decode cX3_isFuse 18 = .ok (.invokestatic 85, 3) := by decide +kernel
theorem dX3_isFuse_21 : decode cX3_isFuse 21 = .ok (.ifCond .eq 7, 3) := by decide +kernel
theorem dX3_isFuse_24 : decode cX3_isFuse 24 = .ok (.iconst 1, 1) := by decide +kernel
theorem dX3_isFuse_25 : decode cX3_isFuse 25 = .ok (.goto 4, 3) := by decide +kernel
theorem dX3_isFuse_28 : decode cX3_isFuse 28 = .ok (.iconst 0, 1) := by decide +kernel
theorem dX3_isFuse_29 : decode cX3_isFuse 29 = .ok (.ireturn, 1) := by decide +kernel
theorem dX3_boardError_0 : decode cX3_boardError 0 = .ok (.aload_n 0, 1) := by decide +kernel
theorem dX3_boardError_1 : decode cX3_boardError 1 = .ok (.getfield 7, 3) := by decide +kernel
theorem dX3_boardError_4 : decode cX3_boardError 4 = .ok (.iconst 4, 1) := by decide +kernel
theorem dX3_boardError_5 : decode cX3_boardError 5 = .ok (.iaload, 1) := by decide +kernel
theorem dX3_boardError_6 : decode cX3_boardError 6 = .ok (.ifCond .le 13, 3) := by decide +kernel
theorem dX3_boardError_9 : decode cX3_boardError 9 = .ok (.aload_n 0, 1) := by decide +kernel
theorem dX3_boardError_10 : decode cX3_boardError 10 = .ok (.iload_n 1, 1) := by decide +kernel
theorem dX3_boardError_11 : decode cX3_boardError 11 = .ok (.invokevirtual 93, 3) := by decide +kernel
theorem dX3_boardError_14 : decode cX3_boardError 14 = .ok (.ifCond .ne 5, 3) := by decide +kernel
theorem dX3_boardError_17 : decode cX3_boardError 17 = .ok (.iconst (-1), 1) := by decide +kernel
theorem dX3_boardError_18 : decode cX3_boardError 18 = .ok (.ireturn, 1) := by decide +kernel
theorem dX3_boardError_19 : decode cX3_boardError 19 = .ok (.iload_n 2, 1) := by decide +kernel
theorem dX3_boardError_20 : decode cX3_boardError 20 = .ok (.iload_n 3, 1) := by decide +kernel
theorem dX3_boardError_21 : decode cX3_boardError 21 = .ok (.invokestatic 97, 3) := by decide +kernel
theorem dX3_boardError_24 : decode cX3_boardError 24 = .ok (.ifCond .ne 8, 3) := by decide +kernel
theorem dX3_boardError_27 : decode cX3_boardError 27 = .ok (.bipush (-2), 2) := by decide +kernel
theorem dX3_boardError_29 : decode cX3_boardError 29 = .ok (.goto 20, 3) := by decide +kernel
theorem dX3_boardError_32 : decode cX3_boardError 32 = .ok (.aload_n 0, 1) := by decide +kernel
theorem dX3_boardError_33 : decode cX3_boardError 33 = .ok (.getfield 7, 3) := by decide +kernel
theorem dX3_boardError_36 : decode cX3_boardError 36 = .ok (.iconst 4, 1) := by decide +kernel
theorem dX3_boardError_37 : decode cX3_boardError 37 = .ok (.iaload, 1) := by decide +kernel
theorem dX3_boardError_38 : decode cX3_boardError 38 = .ok (.bipush 10, 2) := by decide +kernel
theorem dX3_boardError_40 : decode cX3_boardError 40 = .ok (.if_icmp .ne 8, 3) := by decide +kernel
theorem dX3_boardError_43 : decode cX3_boardError 43 = .ok (.bipush (-4), 2) := by decide +kernel
theorem dX3_boardError_45 : decode cX3_boardError 45 = .ok (.goto 4, 3) := by decide +kernel
theorem dX3_boardError_48 : decode cX3_boardError 48 = .ok (.iconst 0, 1) := by decide +kernel
theorem dX3_boardError_49 : decode cX3_boardError 49 = .ok (.ireturn, 1) := by decide +kernel
theorem dX3_loadError_0 : decode cX3_loadError 0 = .ok (.aload_n 0, 1) := by decide +kernel
theorem dX3_loadError_1 : decode cX3_loadError 1 = .ok (.iload_n 1, 1) := by decide +kernel
theorem dX3_loadError_2 : decode cX3_loadError 2 = .ok (.invokevirtual 93, 3) := by decide +kernel
theorem dX3_loadError_5 : decode cX3_loadError 5 = .ok (.ifCond .ne 7, 3) := by decide +kernel
theorem dX3_loadError_8 : decode cX3_loadError 8 = .ok (.iconst (-1), 1) := by decide +kernel
theorem dX3_loadError_9 : decode cX3_loadError 9 = .ok (.goto 37, 3) := by decide +kernel
theorem dX3_loadError_12 : decode cX3_loadError 12 = .ok (.iload_n 2, 1) := by decide +kernel
theorem dX3_loadError_13 : decode cX3_loadError 13 = .ok (.i2l, 1) := by decide +kernel
theorem dX3_loadError_14 : decode cX3_loadError 14 = .ok (.lconst 1, 1) := by decide +kernel
theorem dX3_loadError_15 : decode cX3_loadError 15 = .ok (.ldc2_w 100, 3) := by decide +kernel
theorem dX3_loadError_18 : decode cX3_loadError 18 = .ok (.invokestatic 85, 3) := by decide +kernel
theorem dX3_loadError_21 : decode cX3_loadError 21 = .ok (.ifCond .ne 8, 3) := by decide +kernel
theorem dX3_loadError_24 : decode cX3_loadError 24 = .ok (.bipush (-2), 2) := by decide +kernel
theorem dX3_loadError_26 : decode cX3_loadError 26 = .ok (.goto 20, 3) := by decide +kernel
theorem dX3_loadError_29 : decode cX3_loadError 29 = .ok (.aload_n 0, 1) := by decide +kernel
theorem dX3_loadError_30 : decode cX3_loadError 30 = .ok (.getfield 7, 3) := by decide +kernel
theorem dX3_loadError_33 : decode cX3_loadError 33 = .ok (.iconst 5, 1) := by decide +kernel
theorem dX3_loadError_34 : decode cX3_loadError 34 = .ok (.iaload, 1) := by decide +kernel
theorem dX3_loadError_35 : decode cX3_loadError 35 = .ok (.bipush 14, 2) := by decide +kernel
theorem dX3_loadError_37 : decode cX3_loadError 37 = .ok (.if_icmp .ne 8, 3) := by decide +kernel
theorem dX3_loadError_40 : decode cX3_loadError 40 = .ok (.bipush (-4), 2) := by decide +kernel
theorem dX3_loadError_42 : decode cX3_loadError 42 = .ok (.goto 4, 3) := by decide +kernel
theorem dX3_loadError_45 : decode cX3_loadError 45 = .ok (.iconst 0, 1) := by decide +kernel
theorem dX3_loadError_46 : decode cX3_loadError 46 = .ok (.ireturn, 1) := by decide +kernel
theorem dX3_turnError_0 : decode cX3_turnError 0 = .ok (.aload_n 0, 1) := by decide +kernel
theorem dX3_turnError_1 : decode cX3_turnError 1 = .ok (.iload_n 1, 1) := by decide +kernel
theorem dX3_turnError_2 : decode cX3_turnError 2 = .ok (.invokevirtual 102, 3) := by decide +kernel
theorem dX3_turnError_5 : decode cX3_turnError 5 = .ok (.ifCond .eq 7, 3) := by decide +kernel
theorem dX3_turnError_8 : decode cX3_turnError 8 = .ok (.iconst 0, 1) := by decide +kernel
theorem dX3_turnError_9 : decode cX3_turnError 9 = .ok (.goto 4, 3) := by decide +kernel
theorem dX3_turnError_12 : decode cX3_turnError 12 = .ok (.iconst (-1), 1) := by decide +kernel
theorem dX3_turnError_13 : decode cX3_turnError 13 = .ok (.ireturn, 1) := by decide +kernel
theorem dX3_fuseError_0 : decode cX3_fuseError 0 = .ok (.aload_n 0, 1) := by decide +kernel
theorem dX3_fuseError_1 : decode cX3_fuseError 1 = .ok (.iload_n 1, 1) := by decide +kernel
theorem dX3_fuseError_2 : decode cX3_fuseError 2 = .ok (.invokevirtual 93, 3) := by decide +kernel
theorem dX3_fuseError_5 : decode cX3_fuseError 5 = .ok (.ifCond .ne 5, 3) := by decide +kernel
theorem dX3_fuseError_8 : decode cX3_fuseError 8 = .ok (.iconst (-1), 1) := by decide +kernel
theorem dX3_fuseError_9 : decode cX3_fuseError 9 = .ok (.ireturn, 1) := by decide +kernel
theorem dX3_fuseError_10 : decode cX3_fuseError 10 = .ok (.iload_n 2, 1) := by decide +kernel
theorem dX3_fuseError_11 : decode cX3_fuseError 11 = .ok (.iload_n 3, 1) := by decide +kernel
theorem dX3_fuseError_12 : decode cX3_fuseError 12 = .ok (.invokestatic 97, 3) := by decide +kernel
theorem dX3_fuseError_15 : decode cX3_fuseError 15 = .ok (.ifCond .ne 8, 3) := by decide +kernel
theorem dX3_fuseError_18 : decode cX3_fuseError 18 = .ok (.bipush (-2), 2) := by decide +kernel
theorem dX3_fuseError_20 : decode cX3_fuseError 20 = .ok (.goto 25, 3) := by decide +kernel
theorem dX3_fuseError_23 : decode cX3_fuseError 23 = .ok (.aload_n 0, 1) := by decide +kernel
theorem dX3_fuseError_24 : decode cX3_fuseError 24 = .ok (.getfield 7, 3) := by decide +kernel
theorem dX3_fuseError_27 : decode cX3_fuseError 27 = .ok (.iconst 0, 1) := by decide +kernel
theorem dX3_fuseError_28 : decode cX3_fuseError 28 = .ok (.iload_n 1, 1) := by decide +kernel
theorem dX3_fuseError_29 : decode cX3_fuseError 29 = .ok (.invokestatic 37, 3) := by decide +kernel
theorem dX3_fuseError_32 : decode cX3_fuseError 32 = .ok (.iconst 3, 1) := by decide +kernel
theorem dX3_fuseError_33 : decode cX3_fuseError 33 = .ok (.iadd, 1) := by decide +kernel
theorem dX3_fuseError_34 : decode cX3_fuseError 34 = .ok (.iaload, 1) := by decide +kernel
theorem dX3_fuseError_35 : decode cX3_fuseError 35 = .ok (.iconst 1, 1) := by decide +kernel
theorem dX3_fuseError_36 : decode cX3_fuseError 36 = .ok (.if_icmp .ne 8, 3) := by decide +kernel
theorem dX3_fuseError_39 : decode cX3_fuseError 39 = .ok (.bipush (-5), 2) := by decide +kernel
theorem dX3_fuseError_41 : decode cX3_fuseError 41 = .ok (.goto 4, 3) := by decide +kernel
theorem dX3_fuseError_44 : decode cX3_fuseError 44 = .ok (.iconst 0, 1) := by decide +kernel
theorem dX3_fuseError_45 : decode cX3_fuseError 45 = .ok (.ireturn, 1) := by decide +kernel
theorem dX3_passError_0 : decode cX3_passError 0 = .ok (.iload_n 1, 1) := by decide +kernel
theorem dX3_passError_1 : decode cX3_passError 1 = .ok (.i2l, 1) := by decide +kernel
theorem dX3_passError_2 : decode cX3_passError 2 = .ok (.lconst 1, 1) := by decide +kernel
theorem dX3_passError_3 : decode cX3_passError 3 = .ok (.ldc2_w 105, 3) := by decide +kernel
theorem dX3_passError_6 : decode cX3_passError 6 = .ok (.invokestatic 85, 3) := by decide +kernel
theorem dX3_passError_9 : decode cX3_passError 9 = .ok (.ifCond .ne 8, 3) := by decide +kernel
theorem dX3_passError_12 : decode cX3_passError 12 = .ok (.bipush (-2), 2) := by decide +kernel
theorem dX3_passError_14 : decode cX3_passError 14 = .ok (.goto 23, 3) := by decide +kernel
theorem dX3_passError_17 : decode cX3_passError 17 = .ok (.aload_n 0, 1) := by decide +kernel
theorem dX3_passError_18 : decode cX3_passError 18 = .ok (.getfield 7, 3) := by decide +kernel
theorem dX3_passError_21 : decode cX3_passError 21 = .ok (.iconst 3, 1) := by decide +kernel
theorem dX3_passError_22 : decode cX3_passError 22 = .ok (.iaload, 1) := by decide +kernel
theorem dX3_passError_23 : decode cX3_passError 23 = .ok (.iload_n 1, 1) := by decide +kernel
theorem dX3_passError_24 : decode cX3_passError 24 = .ok (.iadd, 1) := by decide +kernel
theorem dX3_passError_25 : decode cX3_passError 25 = .ok (.sipush 9999, 3) := by decide +kernel
theorem dX3_passError_28 : decode cX3_passError 28 = .ok (.if_icmp .le 8, 3) := by decide +kernel
theorem dX3_passError_31 : decode cX3_passError 31 = .ok (.bipush (-5), 2) := by decide +kernel
theorem dX3_passError_33 : decode cX3_passError 33 = .ok (.goto 4, 3) := by decide +kernel
theorem dX3_passError_36 : decode cX3_passError 36 = .ok (.iconst 0, 1) := by decide +kernel
theorem dX3_passError_37 : decode cX3_passError 37 = .ok (.ireturn, 1) := by decide +kernel
theorem dX3_puts_0 : decode cX3_puts 0 = .ok (.iconst 0, 1) := by decide +kernel
theorem dX3_puts_1 : decode cX3_puts 1 = .ok (.iload_n 1, 1) := by decide +kernel
theorem dX3_puts_2 : decode cX3_puts 2 = .ok (.invokestatic 37, 3) := by decide +kernel
theorem dX3_puts_5 : decode cX3_puts 5 = .ok (.istore 4, 2) := by decide +kernel
theorem dX3_puts_7 : decode cX3_puts 7 = .ok (.iconst 1, 1) := by decide +kernel
theorem dX3_puts_8 : decode cX3_puts 8 = .ok (.istore 5, 2) := by decide +kernel
theorem dX3_puts_10 : decode cX3_puts 10 = .ok (.iload 5, 2) := by decide +kernel
theorem dX3_puts_12 : decode cX3_puts 12 = .ok (.bipush 8, 2) := by decide +kernel
theorem dX3_puts_14 : decode cX3_puts 14 = .ok (.if_icmp .ge 40, 3) := by decide +kernel
theorem dX3_puts_17 : decode cX3_puts 17 = .ok (.aload_n 0, 1) := by decide +kernel
theorem dX3_puts_18 : decode cX3_puts 18 = .ok (.getfield 7, 3) := by decide +kernel
theorem dX3_puts_21 : decode cX3_puts 21 = .ok (.iload 4, 2) := by decide +kernel
theorem dX3_puts_23 : decode cX3_puts 23 = .ok (.iload 5, 2) := by decide +kernel
theorem dX3_puts_25 : decode cX3_puts 25 = .ok (.iadd, 1) := by decide +kernel
theorem dX3_puts_26 : decode cX3_puts 26 = .ok (.iload 5, 2) := by decide +kernel
theorem dX3_puts_28 : decode cX3_puts 28 = .ok (.iconst 1, 1) := by decide +kernel
theorem dX3_puts_29 : decode cX3_puts 29 = .ok (.if_icmp .ne 7, 3) := by decide +kernel
theorem dX3_puts_32 : decode cX3_puts 32 = .ok (.iload_n 2, 1) := by decide +kernel
theorem dX3_puts_33 : decode cX3_puts 33 = .ok (.goto 14, 3) := by decide +kernel
theorem dX3_puts_36 : decode cX3_puts 36 = .ok (.iload 5, 2) := by decide +kernel
theorem dX3_puts_38 : decode cX3_puts 38 = .ok (.iconst 2, 1) := by decide +kernel
theorem dX3_puts_39 : decode cX3_puts 39 = .ok (.if_icmp .ne 7, 3) := by decide +kernel
theorem dX3_puts_42 : decode cX3_puts 42 = .ok (.iload_n 3, 1) := by decide +kernel
theorem dX3_puts_43 : decode cX3_puts 43 = .ok (.goto 4, 3) := by decide +kernel
theorem dX3_puts_46 : decode cX3_puts 46 = .ok (.iconst 0, 1) := by decide +kernel
theorem dX3_puts_47 : decode cX3_puts 47 = .ok (.iastore, 1) := by decide +kernel
theorem dX3_puts_48 : decode cX3_puts 48 = .ok (.iinc 5 1, 3) := by decide +kernel
theorem dX3_puts_51 : decode cX3_puts 51 = .ok (.goto (-41), 3) := by decide +kernel
theorem dX3_puts_54 : decode cX3_puts 54 = .ok (.return_, 1) := by decide +kernel
theorem dX3_builds_0 : decode cX3_builds 0 = .ok (.aload_n 0, 1) := by decide +kernel
theorem dX3_builds_1 : decode cX3_builds 1 = .ok (.getfield 7, 3) := by decide +kernel
theorem dX3_builds_4 : decode cX3_builds 4 = .ok (.iconst 4, 1) := by decide +kernel
theorem dX3_builds_5 : decode cX3_builds 5 = .ok (.iaload, 1) := by decide +kernel
theorem dX3_builds_6 : decode cX3_builds 6 = .ok (.istore 4, 2) := by decide +kernel
theorem dX3_builds_8 : decode cX3_builds 8 = .ok (.aload_n 0, 1) := by decide +kernel
theorem dX3_builds_9 : decode cX3_builds 9 = .ok (.getfield 7, 3) := by decide +kernel
theorem dX3_builds_12 : decode cX3_builds 12 = .ok (.iconst 0, 1) := by decide +kernel
theorem dX3_builds_13 : decode cX3_builds 13 = .ok (.iload 4, 2) := by decide +kernel
theorem dX3_builds_15 : decode cX3_builds 15 = .ok (.invokestatic 37, 3) := by decide +kernel
theorem dX3_builds_18 : decode cX3_builds 18 = .ok (.iload 4, 2) := by decide +kernel
theorem dX3_builds_20 : decode cX3_builds 20 = .ok (.ifCond .ne 8, 3) := by decide +kernel
theorem dX3_builds_23 : decode cX3_builds 23 = .ok (.bipush (-6), 2) := by decide +kernel
theorem dX3_builds_25 : decode cX3_builds 25 = .ok (.goto 4, 3) := by decide +kernel
theorem dX3_builds_28 : decode cX3_builds 28 = .ok (.iload_n 1, 1) := by decide +kernel
theorem dX3_builds_29 : decode cX3_builds 29 = .ok (.iastore, 1) := by decide +kernel
theorem dX3_builds_30 : decode cX3_builds 30 = .ok (.aload_n 0, 1) := by decide +kernel
theorem dX3_builds_31 : decode cX3_builds 31 = .ok (.getfield 7, 3) := by decide +kernel
theorem dX3_builds_34 : decode cX3_builds 34 = .ok (.iconst 0, 1) := by decide +kernel
theorem dX3_builds_35 : decode cX3_builds 35 = .ok (.iload 4, 2) := by decide +kernel
theorem dX3_builds_37 : decode cX3_builds 37 = .ok (.invokestatic 37, 3) := by decide +kernel
theorem dX3_builds_40 : decode cX3_builds 40 = .ok (.bipush 8, 2) := by decide +kernel
theorem dX3_builds_42 : decode cX3_builds 42 = .ok (.iadd, 1) := by decide +kernel
theorem dX3_builds_43 : decode cX3_builds 43 = .ok (.iconst 0, 1) := by decide +kernel
theorem dX3_builds_44 : decode cX3_builds 44 = .ok (.iastore, 1) := by decide +kernel
theorem dX3_builds_45 : decode cX3_builds 45 = .ok (.aload_n 0, 1) := by decide +kernel
theorem dX3_builds_46 : decode cX3_builds 46 = .ok (.iload 4, 2) := by decide +kernel
theorem dX3_builds_48 : decode cX3_builds 48 = .ok (.iload_n 2, 1) := by decide +kernel
theorem dX3_builds_49 : decode cX3_builds 49 = .ok (.iload_n 3, 1) := by decide +kernel
theorem dX3_builds_50 : decode cX3_builds 50 = .ok (.invokevirtual 107, 3) := by decide +kernel
theorem dX3_builds_53 : decode cX3_builds 53 = .ok (.aload_n 0, 1) := by decide +kernel
theorem dX3_builds_54 : decode cX3_builds 54 = .ok (.getfield 7, 3) := by decide +kernel
theorem dX3_builds_57 : decode cX3_builds 57 = .ok (.iconst 4, 1) := by decide +kernel
theorem dX3_builds_58 : decode cX3_builds 58 = .ok (.dup2, 1) := by decide +kernel
theorem dX3_builds_59 : decode cX3_builds 59 = .ok (.iaload, 1) := by decide +kernel
theorem dX3_builds_60 : decode cX3_builds 60 = .ok (.iconst 1, 1) := by decide +kernel
theorem dX3_builds_61 : decode cX3_builds 61 = .ok (.iadd, 1) := by decide +kernel
theorem dX3_builds_62 : decode cX3_builds 62 = .ok (.iastore, 1) := by decide +kernel
theorem dX3_builds_63 : decode cX3_builds 63 = .ok (.iload 4, 2) := by decide +kernel
theorem dX3_builds_65 : decode cX3_builds 65 = .ok (.ireturn, 1) := by decide +kernel
theorem dX3_connects_0 : decode cX3_connects 0 = .ok (.aload_n 0, 1) := by decide +kernel
theorem dX3_connects_1 : decode cX3_connects 1 = .ok (.getfield 7, 3) := by decide +kernel
theorem dX3_connects_4 : decode cX3_connects 4 = .ok (.iconst 5, 1) := by decide +kernel
theorem dX3_connects_5 : decode cX3_connects 5 = .ok (.iaload, 1) := by decide +kernel
theorem dX3_connects_6 : decode cX3_connects 6 = .ok (.istore_n 3, 1) := by decide +kernel
theorem dX3_connects_7 : decode cX3_connects 7 = .ok (.aload_n 0, 1) := by decide +kernel
theorem dX3_connects_8 : decode cX3_connects 8 = .ok (.getfield 7, 3) := by decide +kernel
theorem dX3_connects_11 : decode cX3_connects 11 = .ok (.iconst 0, 1) := by decide +kernel
theorem dX3_connects_12 : decode cX3_connects 12 = .ok (.iload_n 3, 1) := by decide +kernel
theorem dX3_connects_13 : decode cX3_connects 13 = .ok (.invokestatic 41, 3) := by decide +kernel
theorem dX3_connects_16 : decode cX3_connects 16 = .ok (.iload_n 1, 1) := by decide +kernel
theorem dX3_connects_17 : decode cX3_connects 17 = .ok (.iastore, 1) := by decide +kernel
theorem dX3_connects_18 : decode cX3_connects 18 = .ok (.aload_n 0, 1) := by decide +kernel
theorem dX3_connects_19 : decode cX3_connects 19 = .ok (.getfield 7, 3) := by decide +kernel
theorem dX3_connects_22 : decode cX3_connects 22 = .ok (.iconst 0, 1) := by decide +kernel
theorem dX3_connects_23 : decode cX3_connects 23 = .ok (.iload_n 3, 1) := by decide +kernel
theorem dX3_connects_24 : decode cX3_connects 24 = .ok (.invokestatic 41, 3) := by decide +kernel
theorem dX3_connects_27 : decode cX3_connects 27 = .ok (.iconst 1, 1) := by decide +kernel
theorem dX3_connects_28 : decode cX3_connects 28 = .ok (.iadd, 1) := by decide +kernel
theorem dX3_connects_29 : decode cX3_connects 29 = .ok (.iload_n 2, 1) := by decide +kernel
theorem dX3_connects_30 : decode cX3_connects 30 = .ok (.iastore, 1) := by decide +kernel
theorem dX3_connects_31 : decode cX3_connects 31 = .ok (.aload_n 0, 1) := by decide +kernel
theorem dX3_connects_32 : decode cX3_connects 32 = .ok (.getfield 7, 3) := by decide +kernel
theorem dX3_connects_35 : decode cX3_connects 35 = .ok (.iconst 0, 1) := by decide +kernel
theorem dX3_connects_36 : decode cX3_connects 36 = .ok (.iload_n 3, 1) := by decide +kernel
theorem dX3_connects_37 : decode cX3_connects 37 = .ok (.invokestatic 41, 3) := by decide +kernel
theorem dX3_connects_40 : decode cX3_connects 40 = .ok (.iconst 2, 1) := by decide +kernel
theorem dX3_connects_41 : decode cX3_connects 41 = .ok (.iadd, 1) := by decide +kernel
theorem dX3_connects_42 : decode cX3_connects 42 = .ok (.iconst 0, 1) := by decide +kernel
theorem dX3_connects_43 : decode cX3_connects 43 = .ok (.iastore, 1) := by decide +kernel
theorem dX3_connects_44 : decode cX3_connects 44 = .ok (.aload_n 0, 1) := by decide +kernel
theorem dX3_connects_45 : decode cX3_connects 45 = .ok (.getfield 7, 3) := by decide +kernel
theorem dX3_connects_48 : decode cX3_connects 48 = .ok (.iconst 5, 1) := by decide +kernel
theorem dX3_connects_49 : decode cX3_connects 49 = .ok (.dup2, 1) := by decide +kernel
theorem dX3_connects_50 : decode cX3_connects 50 = .ok (.iaload, 1) := by decide +kernel
theorem dX3_connects_51 : decode cX3_connects 51 = .ok (.iconst 1, 1) := by decide +kernel
theorem dX3_connects_52 : decode cX3_connects 52 = .ok (.iadd, 1) := by decide +kernel
theorem dX3_connects_53 : decode cX3_connects 53 = .ok (.iastore, 1) := by decide +kernel
theorem dX3_connects_54 : decode cX3_connects 54 = .ok (.iload_n 3, 1) := by decide +kernel
theorem dX3_connects_55 : decode cX3_connects 55 = .ok (.ireturn, 1) := by decide +kernel
theorem dX3_turns_0 : decode cX3_turns 0 = .ok (.aload_n 0, 1) := by decide +kernel
theorem dX3_turns_1 : decode cX3_turns 1 = .ok (.getfield 7, 3) := by decide +kernel
theorem dX3_turns_4 : decode cX3_turns 4 = .ok (.iconst 0, 1) := by decide +kernel
theorem dX3_turns_5 : decode cX3_turns 5 = .ok (.iload_n 1, 1) := by decide +kernel
theorem dX3_turns_6 : decode cX3_turns 6 = .ok (.invokestatic 41, 3) := by decide +kernel
theorem dX3_turns_9 : decode cX3_turns 9 = .ok (.iconst 2, 1) := by decide +kernel
theorem dX3_turns_10 : decode cX3_turns 10 = .ok (.iadd, 1) := by decide +kernel
theorem dX3_turns_11 : decode cX3_turns 11 = .ok (.iconst 1, 1) := by decide +kernel
theorem dX3_turns_12 : decode cX3_turns 12 = .ok (.aload_n 0, 1) := by decide +kernel
theorem dX3_turns_13 : decode cX3_turns 13 = .ok (.getfield 7, 3) := by decide +kernel
theorem dX3_turns_16 : decode cX3_turns 16 = .ok (.iconst 0, 1) := by decide +kernel
theorem dX3_turns_17 : decode cX3_turns 17 = .ok (.iload_n 1, 1) := by decide +kernel
theorem dX3_turns_18 : decode cX3_turns 18 = .ok (.invokestatic 41, 3) := by decide +kernel
theorem dX3_turns_21 : decode cX3_turns 21 = .ok (.iconst 2, 1) := by decide +kernel
theorem dX3_turns_22 : decode cX3_turns 22 = .ok (.iadd, 1) := by decide +kernel
theorem dX3_turns_23 : decode cX3_turns 23 = .ok (.iaload, 1) := by decide +kernel
theorem dX3_turns_24 : decode cX3_turns 24 = .ok (.isub, 1) := by decide +kernel
theorem dX3_turns_25 : decode cX3_turns 25 = .ok (.iastore, 1) := by decide +kernel
theorem dX3_turns_26 : decode cX3_turns 26 = .ok (.aload_n 0, 1) := by decide +kernel
theorem dX3_turns_27 : decode cX3_turns 27 = .ok (.getfield 7, 3) := by decide +kernel
theorem dX3_turns_30 : decode cX3_turns 30 = .ok (.iconst 0, 1) := by decide +kernel
theorem dX3_turns_31 : decode cX3_turns 31 = .ok (.iload_n 1, 1) := by decide +kernel
theorem dX3_turns_32 : decode cX3_turns 32 = .ok (.invokestatic 41, 3) := by decide +kernel
theorem dX3_turns_35 : decode cX3_turns 35 = .ok (.iconst 2, 1) := by decide +kernel
theorem dX3_turns_36 : decode cX3_turns 36 = .ok (.iadd, 1) := by decide +kernel
theorem dX3_turns_37 : decode cX3_turns 37 = .ok (.iaload, 1) := by decide +kernel
theorem dX3_turns_38 : decode cX3_turns 38 = .ok (.ireturn, 1) := by decide +kernel
theorem dX3_fuses_0 : decode cX3_fuses 0 = .ok (.aload_n 0, 1) := by decide +kernel
theorem dX3_fuses_1 : decode cX3_fuses 1 = .ok (.getfield 7, 3) := by decide +kernel
theorem dX3_fuses_4 : decode cX3_fuses 4 = .ok (.iconst 0, 1) := by decide +kernel
theorem dX3_fuses_5 : decode cX3_fuses 5 = .ok (.iload_n 1, 1) := by decide +kernel
theorem dX3_fuses_6 : decode cX3_fuses 6 = .ok (.invokestatic 37, 3) := by decide +kernel
theorem dX3_fuses_9 : decode cX3_fuses 9 = .ok (.iconst 1, 1) := by decide +kernel
theorem dX3_fuses_10 : decode cX3_fuses 10 = .ok (.iadd, 1) := by decide +kernel
theorem dX3_fuses_11 : decode cX3_fuses 11 = .ok (.iaload, 1) := by decide +kernel
theorem dX3_fuses_12 : decode cX3_fuses 12 = .ok (.istore 4, 2) := by decide +kernel
theorem dX3_fuses_14 : decode cX3_fuses 14 = .ok (.aload_n 0, 1) := by decide +kernel
theorem dX3_fuses_15 : decode cX3_fuses 15 = .ok (.iload_n 1, 1) := by decide +kernel
theorem dX3_fuses_16 : decode cX3_fuses 16 = .ok (.iload_n 2, 1) := by decide +kernel
theorem dX3_fuses_17 : decode cX3_fuses 17 = .ok (.iload_n 3, 1) := by decide +kernel
theorem dX3_fuses_18 : decode cX3_fuses 18 = .ok (.invokevirtual 107, 3) := by decide +kernel
theorem dX3_fuses_21 : decode cX3_fuses 21 = .ok (.iload 4, 2) := by decide +kernel
theorem dX3_fuses_23 : decode cX3_fuses 23 = .ok (.ireturn, 1) := by decide +kernel
theorem dX3_isValue_0 : decode cX3_isValue 0 = .ok (.iload_n 0, 1) := by decide +kernel
theorem dX3_isValue_1 : decode cX3_isValue 1 = .ok (.tableswitch 57 0 2 #[27, 37, 47], 27) := by decide +kernel
theorem dX3_isValue_28 : decode cX3_isValue 28 = .ok (.iload_n 1, 1) := by decide +kernel
theorem dX3_isValue_29 : decode cX3_isValue 29 = .ok (.i2l, 1) := by decide +kernel
theorem dX3_isValue_30 : decode cX3_isValue 30 = .ok (.lconst 0, 1) := by decide +kernel
theorem dX3_isValue_31 : decode cX3_isValue 31 = .ok (.ldc2_w 111, 3) := by decide +kernel
theorem dX3_isValue_34 : decode cX3_isValue 34 = .ok (.invokestatic 85, 3) := by decide +kernel
theorem dX3_isValue_37 : decode cX3_isValue 37 = .ok (.ireturn, 1) := by decide +kernel
theorem dX3_isValue_38 : decode cX3_isValue 38 = .ok (.iload_n 1, 1) := by decide +kernel
theorem dX3_isValue_39 : decode cX3_isValue 39 = .ok (.i2l, 1) := by decide +kernel
theorem dX3_isValue_40 : decode cX3_isValue 40 = .ok (.lconst 1, 1) := by decide +kernel
theorem dX3_isValue_41 : decode cX3_isValue 41 = .ok (.ldc2_w 111, 3) := by decide +kernel
theorem dX3_isValue_44 : decode cX3_isValue 44 = .ok (.invokestatic 85, 3) := by decide +kernel
theorem dX3_isValue_47 : decode cX3_isValue 47 = .ok (.ireturn, 1) := by decide +kernel
theorem dX3_isValue_48 : decode cX3_isValue 48 = .ok (.iload_n 1, 1) := by decide +kernel
theorem dX3_isValue_49 : decode cX3_isValue 49 = .ok (.i2l, 1) := by decide +kernel
theorem dX3_isValue_50 : decode cX3_isValue 50 = .ok (.lconst 1, 1) := by decide +kernel
theorem dX3_isValue_51 : decode cX3_isValue 51 = .ok (.ldc2_w 113, 3) := by decide +kernel
theorem dX3_isValue_54 : decode cX3_isValue 54 = .ok (.invokestatic 85, 3) := by decide +kernel
theorem dX3_isValue_57 : decode cX3_isValue 57 = .ok (.ireturn, 1) := by decide +kernel
theorem dX3_isValue_58 : decode cX3_isValue 58 = .ok (.iconst 0, 1) := by decide +kernel
theorem dX3_isValue_59 : decode cX3_isValue 59 = .ok (.ireturn, 1) := by decide +kernel
theorem dX3_set_0 : decode cX3_set 0 = .ok (.iload_n 1, 1) := by decide +kernel
theorem dX3_set_1 : decode cX3_set 1 = .ok (.iload_n 2, 1) := by decide +kernel
theorem dX3_set_2 : decode cX3_set 2 = .ok (.invokestatic 115, 3) := by decide +kernel
theorem dX3_set_5 : decode cX3_set 5 = .ok (.ifCond .ne 6, 3) := by decide +kernel
theorem dX3_set_8 : decode cX3_set 8 = .ok (.bipush (-2), 2) := by decide +kernel
theorem dX3_set_10 : decode cX3_set 10 = .ok (.ireturn, 1) := by decide +kernel
theorem dX3_set_11 : decode cX3_set 11 = .ok (.aload_n 0, 1) := by decide +kernel
theorem dX3_set_12 : decode cX3_set 12 = .ok (.invokevirtual 118, 3) := by decide +kernel
theorem dX3_set_15 : decode cX3_set 15 = .ok (.aload_n 0, 1) := by decide +kernel
theorem dX3_set_16 : decode cX3_set 16 = .ok (.getfield 7, 3) := by decide +kernel
theorem dX3_set_19 : decode cX3_set 19 = .ok (.iload_n 1, 1) := by decide +kernel
theorem dX3_set_20 : decode cX3_set 20 = .ok (.iaload, 1) := by decide +kernel
theorem dX3_set_21 : decode cX3_set 21 = .ok (.istore_n 3, 1) := by decide +kernel
theorem dX3_set_22 : decode cX3_set 22 = .ok (.aload_n 0, 1) := by decide +kernel
theorem dX3_set_23 : decode cX3_set 23 = .ok (.getfield 7, 3) := by decide +kernel
theorem dX3_set_26 : decode cX3_set 26 = .ok (.iload_n 1, 1) := by decide +kernel
theorem dX3_set_27 : decode cX3_set 27 = .ok (.iload_n 2, 1) := by decide +kernel
theorem dX3_set_28 : decode cX3_set 28 = .ok (.iastore, 1) := by decide +kernel
theorem dX3_set_29 : decode cX3_set 29 = .ok (.iload_n 3, 1) := by decide +kernel
theorem dX3_set_30 : decode cX3_set 30 = .ok (.ireturn, 1) := by decide +kernel
theorem dX3_board_0 : decode cX3_board 0 = .ok (.aload_n 0, 1) := by decide +kernel
theorem dX3_board_1 : decode cX3_board 1 = .ok (.iload_n 1, 1) := by decide +kernel
theorem dX3_board_2 : decode cX3_board 2 = .ok (.iload_n 2, 1) := by decide +kernel
theorem dX3_board_3 : decode cX3_board 3 = .ok (.iload_n 3, 1) := by decide +kernel
theorem dX3_board_4 : decode cX3_board 4 = .ok (.invokevirtual 121, 3) := by decide +kernel
theorem dX3_board_7 : decode cX3_board 7 = .ok (.istore 4, 2) := by decide +kernel
theorem dX3_board_9 : decode cX3_board 9 = .ok (.iload 4, 2) := by decide +kernel
theorem dX3_board_11 : decode cX3_board 11 = .ok (.ifCond .eq 6, 3) := by decide +kernel
theorem dX3_board_14 : decode cX3_board 14 = .ok (.iload 4, 2) := by decide +kernel
theorem dX3_board_16 : decode cX3_board 16 = .ok (.ireturn, 1) := by decide +kernel
theorem dX3_board_17 : decode cX3_board 17 = .ok (.aload_n 0, 1) := by decide +kernel
theorem dX3_board_18 : decode cX3_board 18 = .ok (.invokevirtual 118, 3) := by decide +kernel
theorem dX3_board_21 : decode cX3_board 21 = .ok (.aload_n 0, 1) := by decide +kernel
theorem dX3_board_22 : decode cX3_board 22 = .ok (.iload_n 1, 1) := by decide +kernel
theorem dX3_board_23 : decode cX3_board 23 = .ok (.iload_n 2, 1) := by decide +kernel
theorem dX3_board_24 : decode cX3_board 24 = .ok (.iload_n 3, 1) := by decide +kernel
theorem dX3_board_25 : decode cX3_board 25 = .ok (.invokevirtual 125, 3) := by decide +kernel
theorem dX3_board_28 : decode cX3_board 28 = .ok (.ireturn, 1) := by decide +kernel
theorem dX3_load_0 : decode cX3_load 0 = .ok (.aload_n 0, 1) := by decide +kernel
theorem dX3_load_1 : decode cX3_load 1 = .ok (.iload_n 1, 1) := by decide +kernel
theorem dX3_load_2 : decode cX3_load 2 = .ok (.iload_n 2, 1) := by decide +kernel
theorem dX3_load_3 : decode cX3_load 3 = .ok (.invokevirtual 128, 3) := by decide +kernel
theorem dX3_load_6 : decode cX3_load 6 = .ok (.istore_n 3, 1) := by decide +kernel
theorem dX3_load_7 : decode cX3_load 7 = .ok (.iload_n 3, 1) := by decide +kernel
theorem dX3_load_8 : decode cX3_load 8 = .ok (.ifCond .eq 5, 3) := by decide +kernel
theorem dX3_load_11 : decode cX3_load 11 = .ok (.iload_n 3, 1) := by decide +kernel
theorem dX3_load_12 : decode cX3_load 12 = .ok (.ireturn, 1) := by decide +kernel
theorem dX3_load_13 : decode cX3_load 13 = .ok (.aload_n 0, 1) := by decide +kernel
theorem dX3_load_14 : decode cX3_load 14 = .ok (.invokevirtual 118, 3) := by decide +kernel
theorem dX3_load_17 : decode cX3_load 17 = .ok (.aload_n 0, 1) := by decide +kernel
theorem dX3_load_18 : decode cX3_load 18 = .ok (.iload_n 1, 1) := by decide +kernel
theorem dX3_load_19 : decode cX3_load 19 = .ok (.iload_n 2, 1) := by decide +kernel
theorem dX3_load_20 : decode cX3_load 20 = .ok (.invokevirtual 131, 3) := by decide +kernel
theorem dX3_load_23 : decode cX3_load 23 = .ok (.ireturn, 1) := by decide +kernel
theorem dX3_turn_0 : decode cX3_turn 0 = .ok (.aload_n 0, 1) := by decide +kernel
theorem dX3_turn_1 : decode cX3_turn 1 = .ok (.iload_n 1, 1) := by decide +kernel
theorem dX3_turn_2 : decode cX3_turn 2 = .ok (.invokevirtual 134, 3) := by decide +kernel
theorem dX3_turn_5 : decode cX3_turn 5 = .ok (.istore_n 2, 1) := by decide +kernel
theorem dX3_turn_6 : decode cX3_turn 6 = .ok (.iload_n 2, 1) := by decide +kernel
theorem dX3_turn_7 : decode cX3_turn 7 = .ok (.ifCond .eq 5, 3) := by decide +kernel
theorem dX3_turn_10 : decode cX3_turn 10 = .ok (.iload_n 2, 1) := by decide +kernel
theorem dX3_turn_11 : decode cX3_turn 11 = .ok (.ireturn, 1) := by decide +kernel
theorem dX3_turn_12 : decode cX3_turn 12 = .ok (.aload_n 0, 1) := by decide +kernel
theorem dX3_turn_13 : decode cX3_turn 13 = .ok (.invokevirtual 118, 3) := by decide +kernel
theorem dX3_turn_16 : decode cX3_turn 16 = .ok (.aload_n 0, 1) := by decide +kernel
theorem dX3_turn_17 : decode cX3_turn 17 = .ok (.iload_n 1, 1) := by decide +kernel
theorem dX3_turn_18 : decode cX3_turn 18 = .ok (.invokevirtual 137, 3) := by decide +kernel
theorem dX3_turn_21 : decode cX3_turn 21 = .ok (.ireturn, 1) := by decide +kernel
theorem dX3_fuse_0 : decode cX3_fuse 0 = .ok (.aload_n 0, 1) := by decide +kernel
theorem dX3_fuse_1 : decode cX3_fuse 1 = .ok (.iload_n 1, 1) := by decide +kernel
theorem dX3_fuse_2 : decode cX3_fuse 2 = .ok (.iload_n 2, 1) := by decide +kernel
theorem dX3_fuse_3 : decode cX3_fuse 3 = .ok (.iload_n 3, 1) := by decide +kernel
theorem dX3_fuse_4 : decode cX3_fuse 4 = .ok (.invokevirtual 140, 3) := by decide +kernel
theorem dX3_fuse_7 : decode cX3_fuse 7 = .ok (.istore 4, 2) := by decide +kernel
theorem dX3_fuse_9 : decode cX3_fuse 9 = .ok (.iload 4, 2) := by decide +kernel
theorem dX3_fuse_11 : decode cX3_fuse 11 = .ok (.ifCond .eq 6, 3) := by decide +kernel
theorem dX3_fuse_14 : decode cX3_fuse 14 = .ok (.iload 4, 2) := by decide +kernel
theorem dX3_fuse_16 : decode cX3_fuse 16 = .ok (.ireturn, 1) := by decide +kernel
theorem dX3_fuse_17 : decode cX3_fuse 17 = .ok (.aload_n 0, 1) := by decide +kernel
theorem dX3_fuse_18 : decode cX3_fuse 18 = .ok (.invokevirtual 118, 3) := by decide +kernel
theorem dX3_fuse_21 : decode cX3_fuse 21 = .ok (.aload_n 0, 1) := by decide +kernel
theorem dX3_fuse_22 : decode cX3_fuse 22 = .ok (.iload_n 1, 1) := by decide +kernel
theorem dX3_fuse_23 : decode cX3_fuse 23 = .ok (.iload_n 2, 1) := by decide +kernel
theorem dX3_fuse_24 : decode cX3_fuse 24 = .ok (.iload_n 3, 1) := by decide +kernel
theorem dX3_fuse_25 : decode cX3_fuse 25 = .ok (.invokevirtual 143, 3) := by decide +kernel
theorem dX3_fuse_28 : decode cX3_fuse 28 = .ok (.ireturn, 1) := by decide +kernel
theorem dX3_pass_0 : decode cX3_pass 0 = .ok (.aload_n 0, 1) := by decide +kernel
theorem dX3_pass_1 : decode cX3_pass 1 = .ok (.iload_n 1, 1) := by decide +kernel
theorem dX3_pass_2 : decode cX3_pass 2 = .ok (.invokevirtual 146, 3) := by decide +kernel
theorem dX3_pass_5 : decode cX3_pass 5 = .ok (.istore_n 2, 1) := by decide +kernel
theorem dX3_pass_6 : decode cX3_pass 6 = .ok (.iload_n 2, 1) := by decide +kernel
theorem dX3_pass_7 : decode cX3_pass 7 = .ok (.ifCond .eq 5, 3) := by decide +kernel
theorem dX3_pass_10 : decode cX3_pass 10 = .ok (.iload_n 2, 1) := by decide +kernel
theorem dX3_pass_11 : decode cX3_pass 11 = .ok (.ireturn, 1) := by decide +kernel
theorem dX3_pass_12 : decode cX3_pass 12 = .ok (.aload_n 0, 1) := by decide +kernel
theorem dX3_pass_13 : decode cX3_pass 13 = .ok (.invokevirtual 118, 3) := by decide +kernel
theorem dX3_pass_16 : decode cX3_pass 16 = .ok (.aload_n 0, 1) := by decide +kernel
theorem dX3_pass_17 : decode cX3_pass 17 = .ok (.iconst 0, 1) := by decide +kernel
theorem dX3_pass_18 : decode cX3_pass 18 = .ok (.iload_n 1, 1) := by decide +kernel
theorem dX3_pass_19 : decode cX3_pass 19 = .ok (.invokevirtual 149, 3) := by decide +kernel
theorem dX3_pass_22 : decode cX3_pass 22 = .ok (.ireturn, 1) := by decide +kernel
theorem dX3_depth_0 : decode cX3_depth 0 = .ok (.iconst (-1), 1) := by decide +kernel
theorem dX3_depth_1 : decode cX3_depth 1 = .ok (.istore_n 2, 1) := by decide +kernel
theorem dX3_depth_2 : decode cX3_depth 2 = .ok (.iload_n 1, 1) := by decide +kernel
theorem dX3_depth_3 : decode cX3_depth 3 = .ok (.istore_n 3, 1) := by decide +kernel
theorem dX3_depth_4 : decode cX3_depth 4 = .ok (.iload_n 3, 1) := by decide +kernel
theorem dX3_depth_5 : decode cX3_depth 5 = .ok (.bipush (-6), 2) := by decide +kernel
theorem dX3_depth_7 : decode cX3_depth 7 = .ok (.if_icmp .eq 20, 3) := by decide +kernel
theorem dX3_depth_10 : decode cX3_depth 10 = .ok (.iinc 2 1, 3) := by decide +kernel
theorem dX3_depth_13 : decode cX3_depth 13 = .ok (.aload_n 0, 1) := by decide +kernel
theorem dX3_depth_14 : decode cX3_depth 14 = .ok (.getfield 7, 3) := by decide +kernel
theorem dX3_depth_17 : decode cX3_depth 17 = .ok (.iconst 0, 1) := by decide +kernel
theorem dX3_depth_18 : decode cX3_depth 18 = .ok (.iload_n 3, 1) := by decide +kernel
theorem dX3_depth_19 : decode cX3_depth 19 = .ok (.invokestatic 37, 3) := by decide +kernel
theorem dX3_depth_22 : decode cX3_depth 22 = .ok (.iaload, 1) := by decide +kernel
theorem dX3_depth_23 : decode cX3_depth 23 = .ok (.istore_n 3, 1) := by decide +kernel
theorem dX3_depth_24 : decode cX3_depth 24 = .ok (.goto (-20), 3) := by decide +kernel
theorem dX3_depth_27 : decode cX3_depth 27 = .ok (.iload_n 2, 1) := by decide +kernel
theorem dX3_depth_28 : decode cX3_depth 28 = .ok (.ireturn, 1) := by decide +kernel
theorem dX3_of_0 : decode cX3_of 0 = .ok (.aload_n 0, 1) := by decide +kernel
theorem dX3_of_1 : decode cX3_of 1 = .ok (.iload_n 1, 1) := by decide +kernel
theorem dX3_of_2 : decode cX3_of 2 = .ok (.invokevirtual 93, 3) := by decide +kernel
theorem dX3_of_5 : decode cX3_of 5 = .ok (.ifCond .ne 5, 3) := by decide +kernel
theorem dX3_of_8 : decode cX3_of 8 = .ok (.iconst (-1), 1) := by decide +kernel
theorem dX3_of_9 : decode cX3_of 9 = .ok (.ireturn, 1) := by decide +kernel
theorem dX3_of_10 : decode cX3_of 10 = .ok (.iconst 0, 1) := by decide +kernel
theorem dX3_of_11 : decode cX3_of 11 = .ok (.iload_n 1, 1) := by decide +kernel
theorem dX3_of_12 : decode cX3_of 12 = .ok (.invokestatic 37, 3) := by decide +kernel
theorem dX3_of_15 : decode cX3_of 15 = .ok (.istore_n 3, 1) := by decide +kernel
theorem dX3_of_16 : decode cX3_of 16 = .ok (.iload_n 2, 1) := by decide +kernel
theorem dX3_of_17 : decode cX3_of 17 = .ok (.tableswitch 140 0 11 #[63, 63, 63, 63, 72, 79, 88, 95, 104, 114, 120, 130], 63) := by decide +kernel
theorem dX3_of_80 : decode cX3_of 80 = .ok (.aload_n 0, 1) := by decide +kernel
theorem dX3_of_81 : decode cX3_of 81 = .ok (.getfield 7, 3) := by decide +kernel
theorem dX3_of_84 : decode cX3_of 84 = .ok (.iload_n 3, 1) := by decide +kernel
theorem dX3_of_85 : decode cX3_of 85 = .ok (.iload_n 2, 1) := by decide +kernel
theorem dX3_of_86 : decode cX3_of 86 = .ok (.iadd, 1) := by decide +kernel
theorem dX3_of_87 : decode cX3_of 87 = .ok (.iaload, 1) := by decide +kernel
theorem dX3_of_88 : decode cX3_of 88 = .ok (.ireturn, 1) := by decide +kernel
theorem dX3_of_89 : decode cX3_of 89 = .ok (.aload_n 0, 1) := by decide +kernel
theorem dX3_of_90 : decode cX3_of 90 = .ok (.iconst 0, 1) := by decide +kernel
theorem dX3_of_91 : decode cX3_of 91 = .ok (.iload_n 1, 1) := by decide +kernel
theorem dX3_of_92 : decode cX3_of 92 = .ok (.invokevirtual 60, 3) := by decide +kernel
theorem dX3_of_95 : decode cX3_of 95 = .ok (.ireturn, 1) := by decide +kernel
theorem dX3_of_96 : decode cX3_of 96 = .ok (.aload_n 0, 1) := by decide +kernel
theorem dX3_of_97 : decode cX3_of 97 = .ok (.getfield 7, 3) := by decide +kernel
theorem dX3_of_100 : decode cX3_of 100 = .ok (.iload_n 3, 1) := by decide +kernel
theorem dX3_of_101 : decode cX3_of 101 = .ok (.iconst 4, 1) := by decide +kernel
theorem dX3_of_102 : decode cX3_of 102 = .ok (.iadd, 1) := by decide +kernel
theorem dX3_of_103 : decode cX3_of 103 = .ok (.iaload, 1) := by decide +kernel
theorem dX3_of_104 : decode cX3_of 104 = .ok (.ireturn, 1) := by decide +kernel
theorem dX3_of_105 : decode cX3_of 105 = .ok (.aload_n 0, 1) := by decide +kernel
theorem dX3_of_106 : decode cX3_of 106 = .ok (.iconst 0, 1) := by decide +kernel
theorem dX3_of_107 : decode cX3_of 107 = .ok (.iload_n 1, 1) := by decide +kernel
theorem dX3_of_108 : decode cX3_of 108 = .ok (.invokevirtual 69, 3) := by decide +kernel
theorem dX3_of_111 : decode cX3_of 111 = .ok (.ireturn, 1) := by decide +kernel
theorem dX3_of_112 : decode cX3_of 112 = .ok (.aload_n 0, 1) := by decide +kernel
theorem dX3_of_113 : decode cX3_of 113 = .ok (.getfield 7, 3) := by decide +kernel
theorem dX3_of_116 : decode cX3_of 116 = .ok (.iload_n 3, 1) := by decide +kernel
theorem dX3_of_117 : decode cX3_of 117 = .ok (.iconst 5, 1) := by decide +kernel
theorem dX3_of_118 : decode cX3_of 118 = .ok (.iadd, 1) := by decide +kernel
theorem dX3_of_119 : decode cX3_of 119 = .ok (.iaload, 1) := by decide +kernel
theorem dX3_of_120 : decode cX3_of 120 = .ok (.ireturn, 1) := by decide +kernel
theorem dX3_of_121 : decode cX3_of 121 = .ok (.aload_n 0, 1) := by decide +kernel
theorem dX3_of_122 : decode cX3_of 122 = .ok (.iconst 0, 1) := by decide +kernel
theorem dX3_of_123 : decode cX3_of 123 = .ok (.iload_n 1, 1) := by decide +kernel
theorem dX3_of_124 : decode cX3_of 124 = .ok (.invokevirtual 48, 3) := by decide +kernel
theorem dX3_of_127 : decode cX3_of 127 = .ok (.invokestatic 56, 3) := by decide +kernel
theorem dX3_of_130 : decode cX3_of 130 = .ok (.ireturn, 1) := by decide +kernel
theorem dX3_of_131 : decode cX3_of 131 = .ok (.aload_n 0, 1) := by decide +kernel
theorem dX3_of_132 : decode cX3_of 132 = .ok (.iload_n 1, 1) := by decide +kernel
theorem dX3_of_133 : decode cX3_of 133 = .ok (.invokevirtual 152, 3) := by decide +kernel
theorem dX3_of_136 : decode cX3_of 136 = .ok (.ireturn, 1) := by decide +kernel
theorem dX3_of_137 : decode cX3_of 137 = .ok (.aload_n 0, 1) := by decide +kernel
theorem dX3_of_138 : decode cX3_of 138 = .ok (.getfield 7, 3) := by decide +kernel
theorem dX3_of_141 : decode cX3_of 141 = .ok (.iload_n 3, 1) := by decide +kernel
theorem dX3_of_142 : decode cX3_of 142 = .ok (.bipush 7, 2) := by decide +kernel
theorem dX3_of_144 : decode cX3_of 144 = .ok (.iadd, 1) := by decide +kernel
theorem dX3_of_145 : decode cX3_of 145 = .ok (.iaload, 1) := by decide +kernel
theorem dX3_of_146 : decode cX3_of 146 = .ok (.ireturn, 1) := by decide +kernel
theorem dX3_of_147 : decode cX3_of 147 = .ok (.aload_n 0, 1) := by decide +kernel
theorem dX3_of_148 : decode cX3_of 148 = .ok (.getfield 7, 3) := by decide +kernel
theorem dX3_of_151 : decode cX3_of 151 = .ok (.iload_n 3, 1) := by decide +kernel
theorem dX3_of_152 : decode cX3_of 152 = .ok (.bipush 8, 2) := by decide +kernel
theorem dX3_of_154 : decode cX3_of 154 = .ok (.iadd, 1) := by decide +kernel
theorem dX3_of_155 : decode cX3_of 155 = .ok (.iaload, 1) := by decide +kernel
theorem dX3_of_156 : decode cX3_of 156 = .ok (.ireturn, 1) := by decide +kernel
theorem dX3_of_157 : decode cX3_of 157 = .ok (.bipush (-2), 2) := by decide +kernel
theorem dX3_of_159 : decode cX3_of 159 = .ok (.ireturn, 1) := by decide +kernel
theorem dX3_works_0 : decode cX3_works 0 = .ok (.aload_n 0, 1) := by decide +kernel
theorem dX3_works_1 : decode cX3_works 1 = .ok (.getfield 7, 3) := by decide +kernel
theorem dX3_works_4 : decode cX3_works 4 = .ok (.iconst 0, 1) := by decide +kernel
theorem dX3_works_5 : decode cX3_works 5 = .ok (.iload_n 1, 1) := by decide +kernel
theorem dX3_works_6 : decode cX3_works 6 = .ok (.invokestatic 41, 3) := by decide +kernel
theorem dX3_works_9 : decode cX3_works 9 = .ok (.iconst 2, 1) := by decide +kernel
theorem dX3_works_10 : decode cX3_works 10 = .ok (.iadd, 1) := by decide +kernel
theorem dX3_works_11 : decode cX3_works 11 = .ok (.iaload, 1) := by decide +kernel
theorem dX3_works_12 : decode cX3_works 12 = .ok (.iconst 1, 1) := by decide +kernel
theorem dX3_works_13 : decode cX3_works 13 = .ok (.if_icmp .ne 25, 3) := by decide +kernel
theorem dX3_works_16 : decode cX3_works 16 = .ok (.aload_n 0, 1) := by decide +kernel
theorem dX3_works_17 : decode cX3_works 17 = .ok (.iconst 0, 1) := by decide +kernel
theorem dX3_works_18 : decode cX3_works 18 = .ok (.aload_n 0, 1) := by decide +kernel
theorem dX3_works_19 : decode cX3_works 19 = .ok (.getfield 7, 3) := by decide +kernel
theorem dX3_works_22 : decode cX3_works 22 = .ok (.iconst 0, 1) := by decide +kernel
theorem dX3_works_23 : decode cX3_works 23 = .ok (.iload_n 1, 1) := by decide +kernel
theorem dX3_works_24 : decode cX3_works 24 = .ok (.invokestatic 41, 3) := by decide +kernel
theorem dX3_works_27 : decode cX3_works 27 = .ok (.iaload, 1) := by decide +kernel
theorem dX3_works_28 : decode cX3_works 28 = .ok (.invokevirtual 48, 3) := by decide +kernel
theorem dX3_works_31 : decode cX3_works 31 = .ok (.ifCond .ne 7, 3) := by decide +kernel
theorem dX3_works_34 : decode cX3_works 34 = .ok (.iconst 1, 1) := by decide +kernel
theorem dX3_works_35 : decode cX3_works 35 = .ok (.goto 4, 3) := by decide +kernel
theorem dX3_works_38 : decode cX3_works 38 = .ok (.iconst 0, 1) := by decide +kernel
theorem dX3_works_39 : decode cX3_works 39 = .ok (.ireturn, 1) := by decide +kernel
theorem dX3_ofLoad_0 : decode cX3_ofLoad 0 = .ok (.aload_n 0, 1) := by decide +kernel
theorem dX3_ofLoad_1 : decode cX3_ofLoad 1 = .ok (.iload_n 1, 1) := by decide +kernel
theorem dX3_ofLoad_2 : decode cX3_ofLoad 2 = .ok (.invokevirtual 102, 3) := by decide +kernel
theorem dX3_ofLoad_5 : decode cX3_ofLoad 5 = .ok (.ifCond .ne 5, 3) := by decide +kernel
theorem dX3_ofLoad_8 : decode cX3_ofLoad 8 = .ok (.iconst (-1), 1) := by decide +kernel
theorem dX3_ofLoad_9 : decode cX3_ofLoad 9 = .ok (.ireturn, 1) := by decide +kernel
theorem dX3_ofLoad_10 : decode cX3_ofLoad 10 = .ok (.iload_n 2, 1) := by decide +kernel
theorem dX3_ofLoad_11 : decode cX3_ofLoad 11 = .ok (.i2l, 1) := by decide +kernel
theorem dX3_ofLoad_12 : decode cX3_ofLoad 12 = .ok (.lconst 0, 1) := by decide +kernel
theorem dX3_ofLoad_13 : decode cX3_ofLoad 13 = .ok (.ldc2_w 91, 3) := by decide +kernel
theorem dX3_ofLoad_16 : decode cX3_ofLoad 16 = .ok (.invokestatic 85, 3) := by decide +kernel
theorem dX3_ofLoad_19 : decode cX3_ofLoad 19 = .ok (.ifCond .eq 18, 3) := by decide +kernel
theorem dX3_ofLoad_22 : decode cX3_ofLoad 22 = .ok (.aload_n 0, 1) := by decide +kernel
theorem dX3_ofLoad_23 : decode cX3_ofLoad 23 = .ok (.getfield 7, 3) := by decide +kernel
theorem dX3_ofLoad_26 : decode cX3_ofLoad 26 = .ok (.iconst 0, 1) := by decide +kernel
theorem dX3_ofLoad_27 : decode cX3_ofLoad 27 = .ok (.iload_n 1, 1) := by decide +kernel
theorem dX3_ofLoad_28 : decode cX3_ofLoad 28 = .ok (.invokestatic 41, 3) := by decide +kernel
theorem dX3_ofLoad_31 : decode cX3_ofLoad 31 = .ok (.iload_n 2, 1) := by decide +kernel
theorem dX3_ofLoad_32 : decode cX3_ofLoad 32 = .ok (.iadd, 1) := by decide +kernel
theorem dX3_ofLoad_33 : decode cX3_ofLoad 33 = .ok (.iaload, 1) := by decide +kernel
theorem dX3_ofLoad_34 : decode cX3_ofLoad 34 = .ok (.goto 21, 3) := by decide +kernel
theorem dX3_ofLoad_37 : decode cX3_ofLoad 37 = .ok (.iload_n 2, 1) := by decide +kernel
theorem dX3_ofLoad_38 : decode cX3_ofLoad 38 = .ok (.iconst 3, 1) := by decide +kernel
theorem dX3_ofLoad_39 : decode cX3_ofLoad 39 = .ok (.if_icmp .ne 14, 3) := by decide +kernel
theorem dX3_ofLoad_42 : decode cX3_ofLoad 42 = .ok (.aload_n 0, 1) := by decide +kernel
theorem dX3_ofLoad_43 : decode cX3_ofLoad 43 = .ok (.iload_n 1, 1) := by decide +kernel
theorem dX3_ofLoad_44 : decode cX3_ofLoad 44 = .ok (.invokevirtual 155, 3) := by decide +kernel
theorem dX3_ofLoad_47 : decode cX3_ofLoad 47 = .ok (.invokestatic 56, 3) := by decide +kernel
theorem dX3_ofLoad_50 : decode cX3_ofLoad 50 = .ok (.goto 5, 3) := by decide +kernel
theorem dX3_ofLoad_53 : decode cX3_ofLoad 53 = .ok (.bipush (-2), 2) := by decide +kernel
theorem dX3_ofLoad_55 : decode cX3_ofLoad 55 = .ok (.ireturn, 1) := by decide +kernel
theorem dX3_fed_0 : decode cX3_fed 0 = .ok (.aload_n 0, 1) := by decide +kernel
theorem dX3_fed_1 : decode cX3_fed 1 = .ok (.iload_n 1, 1) := by decide +kernel
theorem dX3_fed_2 : decode cX3_fed 2 = .ok (.invokevirtual 93, 3) := by decide +kernel
theorem dX3_fed_5 : decode cX3_fed 5 = .ok (.ifCond .ne 5, 3) := by decide +kernel
theorem dX3_fed_8 : decode cX3_fed 8 = .ok (.iconst (-1), 1) := by decide +kernel
theorem dX3_fed_9 : decode cX3_fed 9 = .ok (.ireturn, 1) := by decide +kernel
theorem dX3_fed_10 : decode cX3_fed 10 = .ok (.iconst 0, 1) := by decide +kernel
theorem dX3_fed_11 : decode cX3_fed 11 = .ok (.istore_n 2, 1) := by decide +kernel
theorem dX3_fed_12 : decode cX3_fed 12 = .ok (.iconst 0, 1) := by decide +kernel
theorem dX3_fed_13 : decode cX3_fed 13 = .ok (.istore_n 3, 1) := by decide +kernel
theorem dX3_fed_14 : decode cX3_fed 14 = .ok (.iload_n 3, 1) := by decide +kernel
theorem dX3_fed_15 : decode cX3_fed 15 = .ok (.aload_n 0, 1) := by decide +kernel
theorem dX3_fed_16 : decode cX3_fed 16 = .ok (.getfield 7, 3) := by decide +kernel
theorem dX3_fed_19 : decode cX3_fed 19 = .ok (.iconst 4, 1) := by decide +kernel
theorem dX3_fed_20 : decode cX3_fed 20 = .ok (.iaload, 1) := by decide +kernel
theorem dX3_fed_21 : decode cX3_fed 21 = .ok (.if_icmp .ge 24, 3) := by decide +kernel
theorem dX3_fed_24 : decode cX3_fed 24 = .ok (.iload_n 2, 1) := by decide +kernel
theorem dX3_fed_25 : decode cX3_fed 25 = .ok (.aload_n 0, 1) := by decide +kernel
theorem dX3_fed_26 : decode cX3_fed 26 = .ok (.iconst 0, 1) := by decide +kernel
theorem dX3_fed_27 : decode cX3_fed 27 = .ok (.iload_n 3, 1) := by decide +kernel
theorem dX3_fed_28 : decode cX3_fed 28 = .ok (.iload_n 1, 1) := by decide +kernel
theorem dX3_fed_29 : decode cX3_fed 29 = .ok (.invokevirtual 44, 3) := by decide +kernel
theorem dX3_fed_32 : decode cX3_fed 32 = .ok (.invokestatic 56, 3) := by decide +kernel
theorem dX3_fed_35 : decode cX3_fed 35 = .ok (.iload_n 3, 1) := by decide +kernel
theorem dX3_fed_36 : decode cX3_fed 36 = .ok (.ishl, 1) := by decide +kernel
theorem dX3_fed_37 : decode cX3_fed 37 = .ok (.ior, 1) := by decide +kernel
theorem dX3_fed_38 : decode cX3_fed 38 = .ok (.istore_n 2, 1) := by decide +kernel
theorem dX3_fed_39 : decode cX3_fed 39 = .ok (.iinc 3 1, 3) := by decide +kernel
theorem dX3_fed_42 : decode cX3_fed 42 = .ok (.goto (-28), 3) := by decide +kernel
theorem dX3_fed_45 : decode cX3_fed 45 = .ok (.iload_n 2, 1) := by decide +kernel
theorem dX3_fed_46 : decode cX3_fed 46 = .ok (.ireturn, 1) := by decide +kernel
theorem dX3_blown_0 : decode cX3_blown 0 = .ok (.iload_n 1, 1) := by decide +kernel
theorem dX3_blown_1 : decode cX3_blown 1 = .ok (.i2l, 1) := by decide +kernel
theorem dX3_blown_2 : decode cX3_blown 2 = .ok (.lconst 0, 1) := by decide +kernel
theorem dX3_blown_3 : decode cX3_blown 3 = .ok (.aload_n 0, 1) := by decide +kernel
theorem dX3_blown_4 : decode cX3_blown 4 = .ok (.getfield 7, 3) := by decide +kernel
theorem dX3_blown_7 : decode cX3_blown 7 = .ok (.bipush 7, 2) := by decide +kernel
theorem dX3_blown_9 : decode cX3_blown 9 = .ok (.iaload, 1) := by decide +kernel
theorem dX3_blown_10 : decode cX3_blown 10 = .ok (.iconst 1, 1) := by decide +kernel
theorem dX3_blown_11 : decode cX3_blown 11 = .ok (.isub, 1) := by decide +kernel
theorem dX3_blown_12 : decode cX3_blown 12 = .ok (.i2l, 1) := by decide +kernel
theorem dX3_blown_13 : decode cX3_blown 13 = .ok (.invokestatic 85, 3) := by decide +kernel
theorem dX3_blown_16 : decode cX3_blown 16 = .ok (.ifCond .eq 15, 3) := by decide +kernel
theorem dX3_blown_19 : decode cX3_blown 19 = .ok (.aload_n 0, 1) := by decide +kernel
theorem dX3_blown_20 : decode cX3_blown 20 = .ok (.getfield 7, 3) := by decide +kernel
theorem dX3_blown_23 : decode cX3_blown 23 = .ok (.bipush 8, 2) := by decide +kernel
theorem dX3_blown_25 : decode cX3_blown 25 = .ok (.iload_n 1, 1) := by decide +kernel
theorem dX3_blown_26 : decode cX3_blown 26 = .ok (.iadd, 1) := by decide +kernel
theorem dX3_blown_27 : decode cX3_blown 27 = .ok (.iaload, 1) := by decide +kernel
theorem dX3_blown_28 : decode cX3_blown 28 = .ok (.goto 4, 3) := by decide +kernel
theorem dX3_blown_31 : decode cX3_blown 31 = .ok (.iconst (-1), 1) := by decide +kernel
theorem dX3_blown_32 : decode cX3_blown 32 = .ok (.ireturn, 1) := by decide +kernel
theorem dX3_boards_0 : decode cX3_boards 0 = .ok (.iconst 0, 1) := by decide +kernel
theorem dX3_boards_1 : decode cX3_boards 1 = .ok (.istore_n 2, 1) := by decide +kernel
theorem dX3_boards_2 : decode cX3_boards 2 = .ok (.iconst 0, 1) := by decide +kernel
theorem dX3_boards_3 : decode cX3_boards 3 = .ok (.istore_n 3, 1) := by decide +kernel
theorem dX3_boards_4 : decode cX3_boards 4 = .ok (.iload_n 3, 1) := by decide +kernel
theorem dX3_boards_5 : decode cX3_boards 5 = .ok (.aload_n 0, 1) := by decide +kernel
theorem dX3_boards_6 : decode cX3_boards 6 = .ok (.getfield 7, 3) := by decide +kernel
theorem dX3_boards_9 : decode cX3_boards 9 = .ok (.iconst 4, 1) := by decide +kernel
theorem dX3_boards_10 : decode cX3_boards 10 = .ok (.iaload, 1) := by decide +kernel
theorem dX3_boards_11 : decode cX3_boards 11 = .ok (.if_icmp .ge 65, 3) := by decide +kernel
theorem dX3_boards_14 : decode cX3_boards 14 = .ok (.iload_n 1, 1) := by decide +kernel
theorem dX3_boards_15 : decode cX3_boards 15 = .ok (.iconst 3, 1) := by decide +kernel
theorem dX3_boards_16 : decode cX3_boards 16 = .ok (.if_icmp .ne 12, 3) := by decide +kernel
theorem dX3_boards_19 : decode cX3_boards 19 = .ok (.aload_n 0, 1) := by decide +kernel
theorem dX3_boards_20 : decode cX3_boards 20 = .ok (.iconst 0, 1) := by decide +kernel
theorem dX3_boards_21 : decode cX3_boards 21 = .ok (.iload_n 3, 1) := by decide +kernel
theorem dX3_boards_22 : decode cX3_boards 22 = .ok (.invokevirtual 48, 3) := by decide +kernel
theorem dX3_boards_25 : decode cX3_boards 25 = .ok (.goto 33, 3) := by decide +kernel
theorem dX3_boards_28 : decode cX3_boards 28 = .ok (.aload_n 0, 1) := by decide +kernel
theorem dX3_boards_29 : decode cX3_boards 29 = .ok (.getfield 7, 3) := by decide +kernel
theorem dX3_boards_32 : decode cX3_boards 32 = .ok (.iconst 0, 1) := by decide +kernel
theorem dX3_boards_33 : decode cX3_boards 33 = .ok (.iload_n 3, 1) := by decide +kernel
theorem dX3_boards_34 : decode cX3_boards 34 = .ok (.invokestatic 37, 3) := by decide +kernel
theorem dX3_boards_37 : decode cX3_boards 37 = .ok (.iconst 3, 1) := by decide +kernel
theorem dX3_boards_38 : decode cX3_boards 38 = .ok (.iadd, 1) := by decide +kernel
theorem dX3_boards_39 : decode cX3_boards 39 = .ok (.iaload, 1) := by decide +kernel
theorem dX3_boards_40 : decode cX3_boards 40 = .ok (.iload_n 1, 1) := by decide +kernel
theorem dX3_boards_41 : decode cX3_boards 41 = .ok (.iconst 5, 1) := by decide +kernel
theorem dX3_boards_42 : decode cX3_boards 42 = .ok (.if_icmp .ne 7, 3) := by decide +kernel
theorem dX3_boards_45 : decode cX3_boards 45 = .ok (.iconst 2, 1) := by decide +kernel
theorem dX3_boards_46 : decode cX3_boards 46 = .ok (.goto 4, 3) := by decide +kernel
theorem dX3_boards_49 : decode cX3_boards 49 = .ok (.iconst 1, 1) := by decide +kernel
theorem dX3_boards_50 : decode cX3_boards 50 = .ok (.if_icmp .ne 7, 3) := by decide +kernel
theorem dX3_boards_53 : decode cX3_boards 53 = .ok (.iconst 1, 1) := by decide +kernel
theorem dX3_boards_54 : decode cX3_boards 54 = .ok (.goto 4, 3) := by decide +kernel
theorem dX3_boards_57 : decode cX3_boards 57 = .ok (.iconst 0, 1) := by decide +kernel
theorem dX3_boards_58 : decode cX3_boards 58 = .ok (.istore 4, 2) := by decide +kernel
theorem dX3_boards_60 : decode cX3_boards 60 = .ok (.iload_n 2, 1) := by decide +kernel
theorem dX3_boards_61 : decode cX3_boards 61 = .ok (.iload 4, 2) := by decide +kernel
theorem dX3_boards_63 : decode cX3_boards 63 = .ok (.invokestatic 56, 3) := by decide +kernel
theorem dX3_boards_66 : decode cX3_boards 66 = .ok (.iload_n 3, 1) := by decide +kernel
theorem dX3_boards_67 : decode cX3_boards 67 = .ok (.ishl, 1) := by decide +kernel
theorem dX3_boards_68 : decode cX3_boards 68 = .ok (.ior, 1) := by decide +kernel
theorem dX3_boards_69 : decode cX3_boards 69 = .ok (.istore_n 2, 1) := by decide +kernel
theorem dX3_boards_70 : decode cX3_boards 70 = .ok (.iinc 3 1, 3) := by decide +kernel
theorem dX3_boards_73 : decode cX3_boards 73 = .ok (.goto (-69), 3) := by decide +kernel
theorem dX3_boards_76 : decode cX3_boards 76 = .ok (.iload_n 2, 1) := by decide +kernel
theorem dX3_boards_77 : decode cX3_boards 77 = .ok (.ireturn, 1) := by decide +kernel
theorem dX3_working_0 : decode cX3_working 0 = .ok (.iconst 0, 1) := by decide +kernel
theorem dX3_working_1 : decode cX3_working 1 = .ok (.istore_n 1, 1) := by decide +kernel
theorem dX3_working_2 : decode cX3_working 2 = .ok (.iconst 0, 1) := by decide +kernel
theorem dX3_working_3 : decode cX3_working 3 = .ok (.istore_n 2, 1) := by decide +kernel
theorem dX3_working_4 : decode cX3_working 4 = .ok (.iload_n 2, 1) := by decide +kernel
theorem dX3_working_5 : decode cX3_working 5 = .ok (.aload_n 0, 1) := by decide +kernel
theorem dX3_working_6 : decode cX3_working 6 = .ok (.getfield 7, 3) := by decide +kernel
theorem dX3_working_9 : decode cX3_working 9 = .ok (.iconst 5, 1) := by decide +kernel
theorem dX3_working_10 : decode cX3_working 10 = .ok (.iaload, 1) := by decide +kernel
theorem dX3_working_11 : decode cX3_working 11 = .ok (.if_icmp .ge 22, 3) := by decide +kernel
theorem dX3_working_14 : decode cX3_working 14 = .ok (.iload_n 1, 1) := by decide +kernel
theorem dX3_working_15 : decode cX3_working 15 = .ok (.aload_n 0, 1) := by decide +kernel
theorem dX3_working_16 : decode cX3_working 16 = .ok (.iload_n 2, 1) := by decide +kernel
theorem dX3_working_17 : decode cX3_working 17 = .ok (.invokevirtual 155, 3) := by decide +kernel
theorem dX3_working_20 : decode cX3_working 20 = .ok (.invokestatic 56, 3) := by decide +kernel
theorem dX3_working_23 : decode cX3_working 23 = .ok (.iload_n 2, 1) := by decide +kernel
theorem dX3_working_24 : decode cX3_working 24 = .ok (.ishl, 1) := by decide +kernel
theorem dX3_working_25 : decode cX3_working 25 = .ok (.ior, 1) := by decide +kernel
theorem dX3_working_26 : decode cX3_working 26 = .ok (.istore_n 1, 1) := by decide +kernel
theorem dX3_working_27 : decode cX3_working 27 = .ok (.iinc 2 1, 3) := by decide +kernel
theorem dX3_working_30 : decode cX3_working 30 = .ok (.goto (-26), 3) := by decide +kernel
theorem dX3_working_33 : decode cX3_working 33 = .ok (.iload_n 1, 1) := by decide +kernel
theorem dX3_working_34 : decode cX3_working 34 = .ok (.ireturn, 1) := by decide +kernel
theorem dX3_count_0 : decode cX3_count 0 = .ok (.iload_n 1, 1) := by decide +kernel
theorem dX3_count_1 : decode cX3_count 1 = .ok (.tableswitch 151 0 13 #[71, 78, 85, 92, 98, 92, 92, 103, 111, 131, 131, 131, 141, 146], 71) := by decide +kernel
theorem dX3_count_72 : decode cX3_count 72 = .ok (.aload_n 0, 1) := by decide +kernel
theorem dX3_count_73 : decode cX3_count 73 = .ok (.getfield 7, 3) := by decide +kernel
theorem dX3_count_76 : decode cX3_count 76 = .ok (.iconst 3, 1) := by decide +kernel
theorem dX3_count_77 : decode cX3_count 77 = .ok (.iaload, 1) := by decide +kernel
theorem dX3_count_78 : decode cX3_count 78 = .ok (.ireturn, 1) := by decide +kernel
theorem dX3_count_79 : decode cX3_count 79 = .ok (.aload_n 0, 1) := by decide +kernel
theorem dX3_count_80 : decode cX3_count 80 = .ok (.getfield 7, 3) := by decide +kernel
theorem dX3_count_83 : decode cX3_count 83 = .ok (.iconst 4, 1) := by decide +kernel
theorem dX3_count_84 : decode cX3_count 84 = .ok (.iaload, 1) := by decide +kernel
theorem dX3_count_85 : decode cX3_count 85 = .ok (.ireturn, 1) := by decide +kernel
theorem dX3_count_86 : decode cX3_count 86 = .ok (.aload_n 0, 1) := by decide +kernel
theorem dX3_count_87 : decode cX3_count 87 = .ok (.getfield 7, 3) := by decide +kernel
theorem dX3_count_90 : decode cX3_count 90 = .ok (.iconst 5, 1) := by decide +kernel
theorem dX3_count_91 : decode cX3_count 91 = .ok (.iaload, 1) := by decide +kernel
theorem dX3_count_92 : decode cX3_count 92 = .ok (.ireturn, 1) := by decide +kernel
theorem dX3_count_93 : decode cX3_count 93 = .ok (.aload_n 0, 1) := by decide +kernel
theorem dX3_count_94 : decode cX3_count 94 = .ok (.iload_n 1, 1) := by decide +kernel
theorem dX3_count_95 : decode cX3_count 95 = .ok (.invokevirtual 158, 3) := by decide +kernel
theorem dX3_count_98 : decode cX3_count 98 = .ok (.ireturn, 1) := by decide +kernel
theorem dX3_count_99 : decode cX3_count 99 = .ok (.aload_n 0, 1) := by decide +kernel
theorem dX3_count_100 : decode cX3_count 100 = .ok (.invokevirtual 161, 3) := by decide +kernel
theorem dX3_count_103 : decode cX3_count 103 = .ok (.ireturn, 1) := by decide +kernel
theorem dX3_count_104 : decode cX3_count 104 = .ok (.aload_n 0, 1) := by decide +kernel
theorem dX3_count_105 : decode cX3_count 105 = .ok (.getfield 7, 3) := by decide +kernel
theorem dX3_count_108 : decode cX3_count 108 = .ok (.bipush 6, 2) := by decide +kernel
theorem dX3_count_110 : decode cX3_count 110 = .ok (.iaload, 1) := by decide +kernel
theorem dX3_count_111 : decode cX3_count 111 = .ok (.ireturn, 1) := by decide +kernel
theorem dX3_count_112 : decode cX3_count 112 = .ok (.aload_n 0, 1) := by decide +kernel
theorem dX3_count_113 : decode cX3_count 113 = .ok (.getfield 7, 3) := by decide +kernel
theorem dX3_count_116 : decode cX3_count 116 = .ok (.iconst 4, 1) := by decide +kernel
theorem dX3_count_117 : decode cX3_count 117 = .ok (.iaload, 1) := by decide +kernel
theorem dX3_count_118 : decode cX3_count 118 = .ok (.ifCond .ne 7, 3) := by decide +kernel
theorem dX3_count_121 : decode cX3_count 121 = .ok (.iconst 0, 1) := by decide +kernel
theorem dX3_count_122 : decode cX3_count 122 = .ok (.goto 9, 3) := by decide +kernel
theorem dX3_count_125 : decode cX3_count 125 = .ok (.aload_n 0, 1) := by decide +kernel
theorem dX3_count_126 : decode cX3_count 126 = .ok (.iconst 0, 1) := by decide +kernel
theorem dX3_count_127 : decode cX3_count 127 = .ok (.iconst 0, 1) := by decide +kernel
theorem dX3_count_128 : decode cX3_count 128 = .ok (.invokevirtual 60, 3) := by decide +kernel
theorem dX3_count_131 : decode cX3_count 131 = .ok (.ireturn, 1) := by decide +kernel
theorem dX3_count_132 : decode cX3_count 132 = .ok (.aload_n 0, 1) := by decide +kernel
theorem dX3_count_133 : decode cX3_count 133 = .ok (.getfield 7, 3) := by decide +kernel
theorem dX3_count_136 : decode cX3_count 136 = .ok (.iload_n 1, 1) := by decide +kernel
theorem dX3_count_137 : decode cX3_count 137 = .ok (.bipush 9, 2) := by decide +kernel
theorem dX3_count_139 : decode cX3_count 139 = .ok (.isub, 1) := by decide +kernel
theorem dX3_count_140 : decode cX3_count 140 = .ok (.iaload, 1) := by decide +kernel
theorem dX3_count_141 : decode cX3_count 141 = .ok (.ireturn, 1) := by decide +kernel
theorem dX3_count_142 : decode cX3_count 142 = .ok (.aload_n 0, 1) := by decide +kernel
theorem dX3_count_143 : decode cX3_count 143 = .ok (.getfield 165, 3) := by decide +kernel
theorem dX3_count_146 : decode cX3_count 146 = .ok (.ireturn, 1) := by decide +kernel
theorem dX3_count_147 : decode cX3_count 147 = .ok (.aload_n 0, 1) := by decide +kernel
theorem dX3_count_148 : decode cX3_count 148 = .ok (.getfield 30, 3) := by decide +kernel
theorem dX3_count_151 : decode cX3_count 151 = .ok (.ireturn, 1) := by decide +kernel
theorem dX3_count_152 : decode cX3_count 152 = .ok (.bipush (-2), 2) := by decide +kernel
theorem dX3_count_154 : decode cX3_count 154 = .ok (.ireturn, 1) := by decide +kernel
theorem dX3_lowest_0 : decode cX3_lowest 0 = .ok (.iconst 0, 1) := by decide +kernel
theorem dX3_lowest_1 : decode cX3_lowest 1 = .ok (.istore_n 1, 1) := by decide +kernel
theorem dX3_lowest_2 : decode cX3_lowest 2 = .ok (.iload_n 0, 1) := by decide +kernel
theorem dX3_lowest_3 : decode cX3_lowest 3 = .ok (.iload_n 1, 1) := by decide +kernel
theorem dX3_lowest_4 : decode cX3_lowest 4 = .ok (.ishr, 1) := by decide +kernel
theorem dX3_lowest_5 : decode cX3_lowest 5 = .ok (.iconst 1, 1) := by decide +kernel
theorem dX3_lowest_6 : decode cX3_lowest 6 = .ok (.iand, 1) := by decide +kernel
theorem dX3_lowest_7 : decode cX3_lowest 7 = .ok (.ifCond .ne 9, 3) := by decide +kernel
theorem dX3_lowest_10 : decode cX3_lowest 10 = .ok (.iinc 1 1, 3) := by decide +kernel
theorem dX3_lowest_13 : decode cX3_lowest 13 = .ok (.goto (-11), 3) := by decide +kernel
theorem dX3_lowest_16 : decode cX3_lowest 16 = .ok (.iload_n 1, 1) := by decide +kernel
theorem dX3_lowest_17 : decode cX3_lowest 17 = .ok (.ireturn, 1) := by decide +kernel
theorem dX3_first_0 : decode cX3_first 0 = .ok (.iconst 1, 1) := by decide +kernel
theorem dX3_first_1 : decode cX3_first 1 = .ok (.istore_n 2, 1) := by decide +kernel
theorem dX3_first_2 : decode cX3_first 2 = .ok (.iload_n 2, 1) := by decide +kernel
theorem dX3_first_3 : decode cX3_first 3 = .ok (.sipush 200, 3) := by decide +kernel
theorem dX3_first_6 : decode cX3_first 6 = .ok (.if_icmp .gt 34, 3) := by decide +kernel
theorem dX3_first_9 : decode cX3_first 9 = .ok (.aload_n 0, 1) := by decide +kernel
theorem dX3_first_10 : decode cX3_first 10 = .ok (.sipush 1332, 3) := by decide +kernel
theorem dX3_first_13 : decode cX3_first 13 = .ok (.invokevirtual 78, 3) := by decide +kernel
theorem dX3_first_16 : decode cX3_first 16 = .ok (.istore_n 3, 1) := by decide +kernel
theorem dX3_first_17 : decode cX3_first 17 = .ok (.iload_n 3, 1) := by decide +kernel
theorem dX3_first_18 : decode cX3_first 18 = .ok (.ifCond .eq 16, 3) := by decide +kernel
theorem dX3_first_21 : decode cX3_first 21 = .ok (.iload_n 1, 1) := by decide +kernel
theorem dX3_first_22 : decode cX3_first 22 = .ok (.ifCond .ne 7, 3) := by decide +kernel
theorem dX3_first_25 : decode cX3_first 25 = .ok (.iload_n 2, 1) := by decide +kernel
theorem dX3_first_26 : decode cX3_first 26 = .ok (.goto 7, 3) := by decide +kernel
theorem dX3_first_29 : decode cX3_first 29 = .ok (.iload_n 3, 1) := by decide +kernel
theorem dX3_first_30 : decode cX3_first 30 = .ok (.invokestatic 168, 3) := by decide +kernel
theorem dX3_first_33 : decode cX3_first 33 = .ok (.ireturn, 1) := by decide +kernel
theorem dX3_first_34 : decode cX3_first 34 = .ok (.iinc 2 1, 3) := by decide +kernel
theorem dX3_first_37 : decode cX3_first 37 = .ok (.goto (-35), 3) := by decide +kernel
theorem dX3_first_40 : decode cX3_first 40 = .ok (.bipush (-6), 2) := by decide +kernel
theorem dX3_first_42 : decode cX3_first 42 = .ok (.ireturn, 1) := by decide +kernel
theorem dX3_next_0 : decode cX3_next 0 = .ok (.iload_n 1, 1) := by decide +kernel
theorem dX3_next_1 : decode cX3_next 1 = .ok (.i2l, 1) := by decide +kernel
theorem dX3_next_2 : decode cX3_next 2 = .ok (.lconst 0, 1) := by decide +kernel
theorem dX3_next_3 : decode cX3_next 3 = .ok (.lconst 1, 1) := by decide +kernel
theorem dX3_next_4 : decode cX3_next 4 = .ok (.invokestatic 85, 3) := by decide +kernel
theorem dX3_next_7 : decode cX3_next 7 = .ok (.ifCond .ne 6, 3) := by decide +kernel
theorem dX3_next_10 : decode cX3_next 10 = .ok (.bipush (-2), 2) := by decide +kernel
theorem dX3_next_12 : decode cX3_next 12 = .ok (.ireturn, 1) := by decide +kernel
theorem dX3_next_13 : decode cX3_next 13 = .ok (.aload_n 0, 1) := by decide +kernel
theorem dX3_next_14 : decode cX3_next 14 = .ok (.iconst 0, 1) := by decide +kernel
theorem dX3_next_15 : decode cX3_next 15 = .ok (.bipush 9, 2) := by decide +kernel
theorem dX3_next_17 : decode cX3_next 17 = .ok (.invokevirtual 33, 3) := by decide +kernel
theorem dX3_next_20 : decode cX3_next 20 = .ok (.aload_n 0, 1) := by decide +kernel
theorem dX3_next_21 : decode cX3_next 21 = .ok (.iload_n 1, 1) := by decide +kernel
theorem dX3_next_22 : decode cX3_next 22 = .ok (.invokevirtual 171, 3) := by decide +kernel
theorem dX3_next_25 : decode cX3_next 25 = .ok (.ireturn, 1) := by decide +kernel
theorem dX3_tests_0 : decode cX3_tests 0 = .ok (.aload_n 0, 1) := by decide +kernel
theorem dX3_tests_1 : decode cX3_tests 1 = .ok (.iconst 0, 1) := by decide +kernel
theorem dX3_tests_2 : decode cX3_tests 2 = .ok (.bipush 9, 2) := by decide +kernel
theorem dX3_tests_4 : decode cX3_tests 4 = .ok (.invokevirtual 33, 3) := by decide +kernel
theorem dX3_tests_7 : decode cX3_tests 7 = .ok (.sipush 1332, 3) := by decide +kernel
theorem dX3_tests_10 : decode cX3_tests 10 = .ok (.istore 4, 2) := by decide +kernel
theorem dX3_tests_12 : decode cX3_tests 12 = .ok (.iconst 0, 1) := by decide +kernel
theorem dX3_tests_13 : decode cX3_tests 13 = .ok (.istore 5, 2) := by decide +kernel
theorem dX3_tests_15 : decode cX3_tests 15 = .ok (.iload 5, 2) := by decide +kernel
theorem dX3_tests_17 : decode cX3_tests 17 = .ok (.aload_n 0, 1) := by decide +kernel
theorem dX3_tests_18 : decode cX3_tests 18 = .ok (.getfield 7, 3) := by decide +kernel
theorem dX3_tests_21 : decode cX3_tests 21 = .ok (.iconst 5, 1) := by decide +kernel
theorem dX3_tests_22 : decode cX3_tests 22 = .ok (.iaload, 1) := by decide +kernel
theorem dX3_tests_23 : decode cX3_tests 23 = .ok (.if_icmp .ge 24, 3) := by decide +kernel
theorem dX3_tests_26 : decode cX3_tests 26 = .ok (.aload_n 0, 1) := by decide +kernel
theorem dX3_tests_27 : decode cX3_tests 27 = .ok (.getfield 7, 3) := by decide +kernel
theorem dX3_tests_30 : decode cX3_tests 30 = .ok (.iload 4, 2) := by decide +kernel
theorem dX3_tests_32 : decode cX3_tests 32 = .ok (.iload 5, 2) := by decide +kernel
theorem dX3_tests_34 : decode cX3_tests 34 = .ok (.invokestatic 41, 3) := by decide +kernel
theorem dX3_tests_37 : decode cX3_tests 37 = .ok (.iconst 2, 1) := by decide +kernel
theorem dX3_tests_38 : decode cX3_tests 38 = .ok (.iadd, 1) := by decide +kernel
theorem dX3_tests_39 : decode cX3_tests 39 = .ok (.iconst 0, 1) := by decide +kernel
theorem dX3_tests_40 : decode cX3_tests 40 = .ok (.iastore, 1) := by decide +kernel
theorem dX3_tests_41 : decode cX3_tests 41 = .ok (.iinc 5 1, 3) := by decide +kernel
theorem dX3_tests_44 : decode cX3_tests 44 = .ok (.goto (-29), 3) := by decide +kernel
theorem dX3_tests_47 : decode cX3_tests 47 = .ok (.iconst 0, 1) := by decide +kernel
theorem dX3_tests_48 : decode cX3_tests 48 = .ok (.istore 5, 2) := by decide +kernel
theorem dX3_tests_50 : decode cX3_tests 50 = .ok (.iload 5, 2) := by decide +kernel
theorem dX3_tests_52 : decode cX3_tests 52 = .ok (.aload_n 0, 1) := by decide +kernel
theorem dX3_tests_53 : decode cX3_tests 53 = .ok (.getfield 7, 3) := by decide +kernel
theorem dX3_tests_56 : decode cX3_tests 56 = .ok (.iconst 4, 1) := by decide +kernel
theorem dX3_tests_57 : decode cX3_tests 57 = .ok (.iaload, 1) := by decide +kernel
theorem dX3_tests_58 : decode cX3_tests 58 = .ok (.if_icmp .ge 24, 3) := by decide +kernel
theorem dX3_tests_61 : decode cX3_tests 61 = .ok (.aload_n 0, 1) := by decide +kernel
theorem dX3_tests_62 : decode cX3_tests 62 = .ok (.getfield 7, 3) := by decide +kernel
theorem dX3_tests_65 : decode cX3_tests 65 = .ok (.iload 4, 2) := by decide +kernel
theorem dX3_tests_67 : decode cX3_tests 67 = .ok (.iload 5, 2) := by decide +kernel
theorem dX3_tests_69 : decode cX3_tests 69 = .ok (.invokestatic 37, 3) := by decide +kernel
theorem dX3_tests_72 : decode cX3_tests 72 = .ok (.iconst 4, 1) := by decide +kernel
theorem dX3_tests_73 : decode cX3_tests 73 = .ok (.iadd, 1) := by decide +kernel
theorem dX3_tests_74 : decode cX3_tests 74 = .ok (.iconst 0, 1) := by decide +kernel
theorem dX3_tests_75 : decode cX3_tests 75 = .ok (.iastore, 1) := by decide +kernel
theorem dX3_tests_76 : decode cX3_tests 76 = .ok (.iinc 5 1, 3) := by decide +kernel
theorem dX3_tests_79 : decode cX3_tests 79 = .ok (.goto (-29), 3) := by decide +kernel
theorem dX3_tests_82 : decode cX3_tests 82 = .ok (.aload_n 0, 1) := by decide +kernel
theorem dX3_tests_83 : decode cX3_tests 83 = .ok (.iload_n 1, 1) := by decide +kernel
theorem dX3_tests_84 : decode cX3_tests 84 = .ok (.putfield 20, 3) := by decide +kernel
theorem dX3_tests_87 : decode cX3_tests 87 = .ok (.aload_n 0, 1) := by decide +kernel
theorem dX3_tests_88 : decode cX3_tests 88 = .ok (.iload_n 2, 1) := by decide +kernel
theorem dX3_tests_89 : decode cX3_tests 89 = .ok (.putfield 52, 3) := by decide +kernel
theorem dX3_tests_92 : decode cX3_tests 92 = .ok (.aload_n 0, 1) := by decide +kernel
theorem dX3_tests_93 : decode cX3_tests 93 = .ok (.iload_n 3, 1) := by decide +kernel
theorem dX3_tests_94 : decode cX3_tests 94 = .ok (.invokevirtual 171, 3) := by decide +kernel
theorem dX3_tests_97 : decode cX3_tests 97 = .ok (.istore 5, 2) := by decide +kernel
theorem dX3_tests_99 : decode cX3_tests 99 = .ok (.aload_n 0, 1) := by decide +kernel
theorem dX3_tests_100 : decode cX3_tests 100 = .ok (.bipush (-6), 2) := by decide +kernel
theorem dX3_tests_102 : decode cX3_tests 102 = .ok (.putfield 20, 3) := by decide +kernel
theorem dX3_tests_105 : decode cX3_tests 105 = .ok (.iload 5, 2) := by decide +kernel
theorem dX3_tests_107 : decode cX3_tests 107 = .ok (.ireturn, 1) := by decide +kernel
theorem dX3_test_0 : decode cX3_test 0 = .ok (.aload_n 0, 1) := by decide +kernel
theorem dX3_test_1 : decode cX3_test 1 = .ok (.iload_n 1, 1) := by decide +kernel
theorem dX3_test_2 : decode cX3_test 2 = .ok (.invokevirtual 93, 3) := by decide +kernel
theorem dX3_test_5 : decode cX3_test 5 = .ok (.ifCond .ne 5, 3) := by decide +kernel
theorem dX3_test_8 : decode cX3_test 8 = .ok (.iconst (-1), 1) := by decide +kernel
theorem dX3_test_9 : decode cX3_test 9 = .ok (.ireturn, 1) := by decide +kernel
theorem dX3_test_10 : decode cX3_test 10 = .ok (.iload_n 2, 1) := by decide +kernel
theorem dX3_test_11 : decode cX3_test 11 = .ok (.i2l, 1) := by decide +kernel
theorem dX3_test_12 : decode cX3_test 12 = .ok (.lconst 1, 1) := by decide +kernel
theorem dX3_test_13 : decode cX3_test 13 = .ok (.ldc2_w 174, 3) := by decide +kernel
theorem dX3_test_16 : decode cX3_test 16 = .ok (.invokestatic 85, 3) := by decide +kernel
theorem dX3_test_19 : decode cX3_test 19 = .ok (.ifCond .eq 23, 3) := by decide +kernel
theorem dX3_test_22 : decode cX3_test 22 = .ok (.iload_n 3, 1) := by decide +kernel
theorem dX3_test_23 : decode cX3_test 23 = .ok (.i2l, 1) := by decide +kernel
theorem dX3_test_24 : decode cX3_test 24 = .ok (.lconst 0, 1) := by decide +kernel
theorem dX3_test_25 : decode cX3_test 25 = .ok (.lconst 1, 1) := by decide +kernel
theorem dX3_test_26 : decode cX3_test 26 = .ok (.invokestatic 85, 3) := by decide +kernel
theorem dX3_test_29 : decode cX3_test 29 = .ok (.ifCond .eq 13, 3) := by decide +kernel
theorem dX3_test_32 : decode cX3_test 32 = .ok (.aload_n 0, 1) := by decide +kernel
theorem dX3_test_33 : decode cX3_test 33 = .ok (.iload_n 1, 1) := by decide +kernel
theorem dX3_test_34 : decode cX3_test 34 = .ok (.iload_n 2, 1) := by decide +kernel
theorem dX3_test_35 : decode cX3_test 35 = .ok (.iload_n 3, 1) := by decide +kernel
theorem dX3_test_36 : decode cX3_test 36 = .ok (.invokevirtual 176, 3) := by decide +kernel
theorem dX3_test_39 : decode cX3_test 39 = .ok (.goto 5, 3) := by decide +kernel
theorem dX3_test_42 : decode cX3_test 42 = .ok (.bipush (-2), 2) := by decide +kernel
theorem dX3_test_44 : decode cX3_test 44 = .ok (.ireturn, 1) := by decide +kernel
theorem dX3_unfair_0 : decode cX3_unfair 0 = .ok (.iload_n 1, 1) := by decide +kernel
theorem dX3_unfair_1 : decode cX3_unfair 1 = .ok (.i2l, 1) := by decide +kernel
theorem dX3_unfair_2 : decode cX3_unfair 2 = .ok (.ldc2_w 91, 3) := by decide +kernel
theorem dX3_unfair_5 : decode cX3_unfair 5 = .ok (.ldc2_w 179, 3) := by decide +kernel
theorem dX3_unfair_8 : decode cX3_unfair 8 = .ok (.invokestatic 85, 3) := by decide +kernel
theorem dX3_unfair_11 : decode cX3_unfair 11 = .ok (.ifCond .ne 6, 3) := by decide +kernel
theorem dX3_unfair_14 : decode cX3_unfair 14 = .ok (.bipush (-2), 2) := by decide +kernel
theorem dX3_unfair_16 : decode cX3_unfair 16 = .ok (.ireturn, 1) := by decide +kernel
theorem dX3_unfair_17 : decode cX3_unfair 17 = .ok (.iconst 0, 1) := by decide +kernel
theorem dX3_unfair_18 : decode cX3_unfair 18 = .ok (.istore_n 2, 1) := by decide +kernel
theorem dX3_unfair_19 : decode cX3_unfair 19 = .ok (.iconst 0, 1) := by decide +kernel
theorem dX3_unfair_20 : decode cX3_unfair 20 = .ok (.istore_n 3, 1) := by decide +kernel
theorem dX3_unfair_21 : decode cX3_unfair 21 = .ok (.iload_n 3, 1) := by decide +kernel
theorem dX3_unfair_22 : decode cX3_unfair 22 = .ok (.aload_n 0, 1) := by decide +kernel
theorem dX3_unfair_23 : decode cX3_unfair 23 = .ok (.getfield 7, 3) := by decide +kernel
theorem dX3_unfair_26 : decode cX3_unfair 26 = .ok (.iconst 4, 1) := by decide +kernel
theorem dX3_unfair_27 : decode cX3_unfair 27 = .ok (.iaload, 1) := by decide +kernel
theorem dX3_unfair_28 : decode cX3_unfair 28 = .ok (.if_icmp .ge 57, 3) := by decide +kernel
theorem dX3_unfair_31 : decode cX3_unfair 31 = .ok (.aload_n 0, 1) := by decide +kernel
theorem dX3_unfair_32 : decode cX3_unfair 32 = .ok (.iload_n 3, 1) := by decide +kernel
theorem dX3_unfair_33 : decode cX3_unfair 33 = .ok (.iload_n 1, 1) := by decide +kernel
theorem dX3_unfair_34 : decode cX3_unfair 34 = .ok (.aload_n 0, 1) := by decide +kernel
theorem dX3_unfair_35 : decode cX3_unfair 35 = .ok (.getfield 7, 3) := by decide +kernel
theorem dX3_unfair_38 : decode cX3_unfair 38 = .ok (.iconst 0, 1) := by decide +kernel
theorem dX3_unfair_39 : decode cX3_unfair 39 = .ok (.iload_n 3, 1) := by decide +kernel
theorem dX3_unfair_40 : decode cX3_unfair 40 = .ok (.invokestatic 37, 3) := by decide +kernel
theorem dX3_unfair_43 : decode cX3_unfair 43 = .ok (.iconst 1, 1) := by decide +kernel
theorem dX3_unfair_44 : decode cX3_unfair 44 = .ok (.iadd, 1) := by decide +kernel
theorem dX3_unfair_45 : decode cX3_unfair 45 = .ok (.iaload, 1) := by decide +kernel
theorem dX3_unfair_46 : decode cX3_unfair 46 = .ok (.imul, 1) := by decide +kernel
theorem dX3_unfair_47 : decode cX3_unfair 47 = .ok (.iconst 1, 1) := by decide +kernel
theorem dX3_unfair_48 : decode cX3_unfair 48 = .ok (.invokevirtual 176, 3) := by decide +kernel
theorem dX3_unfair_51 : decode cX3_unfair 51 = .ok (.istore 4, 2) := by decide +kernel
theorem dX3_unfair_53 : decode cX3_unfair 53 = .ok (.iload_n 2, 1) := by decide +kernel
theorem dX3_unfair_54 : decode cX3_unfair 54 = .ok (.iload 4, 2) := by decide +kernel
theorem dX3_unfair_56 : decode cX3_unfair 56 = .ok (.bipush (-6), 2) := by decide +kernel
theorem dX3_unfair_58 : decode cX3_unfair 58 = .ok (.if_icmp .eq 13, 3) := by decide +kernel
theorem dX3_unfair_61 : decode cX3_unfair 61 = .ok (.iload 4, 2) := by decide +kernel
theorem dX3_unfair_63 : decode cX3_unfair 63 = .ok (.iload_n 3, 1) := by decide +kernel
theorem dX3_unfair_64 : decode cX3_unfair 64 = .ok (.if_icmp .eq 7, 3) := by decide +kernel
theorem dX3_unfair_67 : decode cX3_unfair 67 = .ok (.iconst 1, 1) := by decide +kernel
theorem dX3_unfair_68 : decode cX3_unfair 68 = .ok (.goto 4, 3) := by decide +kernel
theorem dX3_unfair_71 : decode cX3_unfair 71 = .ok (.iconst 0, 1) := by decide +kernel
theorem dX3_unfair_72 : decode cX3_unfair 72 = .ok (.invokestatic 56, 3) := by decide +kernel
theorem dX3_unfair_75 : decode cX3_unfair 75 = .ok (.iload_n 3, 1) := by decide +kernel
theorem dX3_unfair_76 : decode cX3_unfair 76 = .ok (.ishl, 1) := by decide +kernel
theorem dX3_unfair_77 : decode cX3_unfair 77 = .ok (.ior, 1) := by decide +kernel
theorem dX3_unfair_78 : decode cX3_unfair 78 = .ok (.istore_n 2, 1) := by decide +kernel
theorem dX3_unfair_79 : decode cX3_unfair 79 = .ok (.iinc 3 1, 3) := by decide +kernel
theorem dX3_unfair_82 : decode cX3_unfair 82 = .ok (.goto (-61), 3) := by decide +kernel
theorem dX3_unfair_85 : decode cX3_unfair 85 = .ok (.iload_n 2, 1) := by decide +kernel
theorem dX3_unfair_86 : decode cX3_unfair 86 = .ok (.ireturn, 1) := by decide +kernel
theorem dX3_ifOpen_0 : decode cX3_ifOpen 0 = .ok (.aload_n 0, 1) := by decide +kernel
theorem dX3_ifOpen_1 : decode cX3_ifOpen 1 = .ok (.iload_n 1, 1) := by decide +kernel
theorem dX3_ifOpen_2 : decode cX3_ifOpen 2 = .ok (.invokevirtual 93, 3) := by decide +kernel
theorem dX3_ifOpen_5 : decode cX3_ifOpen 5 = .ok (.ifCond .ne 5, 3) := by decide +kernel
theorem dX3_ifOpen_8 : decode cX3_ifOpen 8 = .ok (.iconst (-1), 1) := by decide +kernel
theorem dX3_ifOpen_9 : decode cX3_ifOpen 9 = .ok (.ireturn, 1) := by decide +kernel
theorem dX3_ifOpen_10 : decode cX3_ifOpen 10 = .ok (.iconst 0, 1) := by decide +kernel
theorem dX3_ifOpen_11 : decode cX3_ifOpen 11 = .ok (.istore_n 2, 1) := by decide +kernel
theorem dX3_ifOpen_12 : decode cX3_ifOpen 12 = .ok (.iconst 0, 1) := by decide +kernel
theorem dX3_ifOpen_13 : decode cX3_ifOpen 13 = .ok (.istore_n 3, 1) := by decide +kernel
theorem dX3_ifOpen_14 : decode cX3_ifOpen 14 = .ok (.iload_n 3, 1) := by decide +kernel
theorem dX3_ifOpen_15 : decode cX3_ifOpen 15 = .ok (.aload_n 0, 1) := by decide +kernel
theorem dX3_ifOpen_16 : decode cX3_ifOpen 16 = .ok (.getfield 7, 3) := by decide +kernel
theorem dX3_ifOpen_19 : decode cX3_ifOpen 19 = .ok (.iconst 5, 1) := by decide +kernel
theorem dX3_ifOpen_20 : decode cX3_ifOpen 20 = .ok (.iaload, 1) := by decide +kernel
theorem dX3_ifOpen_21 : decode cX3_ifOpen 21 = .ok (.if_icmp .ge 49, 3) := by decide +kernel
theorem dX3_ifOpen_24 : decode cX3_ifOpen 24 = .ok (.iload_n 2, 1) := by decide +kernel
theorem dX3_ifOpen_25 : decode cX3_ifOpen 25 = .ok (.aload_n 0, 1) := by decide +kernel
theorem dX3_ifOpen_26 : decode cX3_ifOpen 26 = .ok (.iload_n 3, 1) := by decide +kernel
theorem dX3_ifOpen_27 : decode cX3_ifOpen 27 = .ok (.invokevirtual 155, 3) := by decide +kernel
theorem dX3_ifOpen_30 : decode cX3_ifOpen 30 = .ok (.ifCond .eq 26, 3) := by decide +kernel
theorem dX3_ifOpen_33 : decode cX3_ifOpen 33 = .ok (.aload_n 0, 1) := by decide +kernel
theorem dX3_ifOpen_34 : decode cX3_ifOpen 34 = .ok (.iconst 0, 1) := by decide +kernel
theorem dX3_ifOpen_35 : decode cX3_ifOpen 35 = .ok (.aload_n 0, 1) := by decide +kernel
theorem dX3_ifOpen_36 : decode cX3_ifOpen 36 = .ok (.getfield 7, 3) := by decide +kernel
theorem dX3_ifOpen_39 : decode cX3_ifOpen 39 = .ok (.iconst 0, 1) := by decide +kernel
theorem dX3_ifOpen_40 : decode cX3_ifOpen 40 = .ok (.iload_n 3, 1) := by decide +kernel
theorem dX3_ifOpen_41 : decode cX3_ifOpen 41 = .ok (.invokestatic 41, 3) := by decide +kernel
theorem dX3_ifOpen_44 : decode cX3_ifOpen 44 = .ok (.iaload, 1) := by decide +kernel
theorem dX3_ifOpen_45 : decode cX3_ifOpen 45 = .ok (.iload_n 1, 1) := by decide +kernel
theorem dX3_ifOpen_46 : decode cX3_ifOpen 46 = .ok (.invokevirtual 44, 3) := by decide +kernel
theorem dX3_ifOpen_49 : decode cX3_ifOpen 49 = .ok (.ifCond .eq 7, 3) := by decide +kernel
theorem dX3_ifOpen_52 : decode cX3_ifOpen 52 = .ok (.iconst 1, 1) := by decide +kernel
theorem dX3_ifOpen_53 : decode cX3_ifOpen 53 = .ok (.goto 4, 3) := by decide +kernel
theorem dX3_ifOpen_56 : decode cX3_ifOpen 56 = .ok (.iconst 0, 1) := by decide +kernel
theorem dX3_ifOpen_57 : decode cX3_ifOpen 57 = .ok (.invokestatic 56, 3) := by decide +kernel
theorem dX3_ifOpen_60 : decode cX3_ifOpen 60 = .ok (.iload_n 3, 1) := by decide +kernel
theorem dX3_ifOpen_61 : decode cX3_ifOpen 61 = .ok (.ishl, 1) := by decide +kernel
theorem dX3_ifOpen_62 : decode cX3_ifOpen 62 = .ok (.ior, 1) := by decide +kernel
theorem dX3_ifOpen_63 : decode cX3_ifOpen 63 = .ok (.istore_n 2, 1) := by decide +kernel
theorem dX3_ifOpen_64 : decode cX3_ifOpen 64 = .ok (.iinc 3 1, 3) := by decide +kernel
theorem dX3_ifOpen_67 : decode cX3_ifOpen 67 = .ok (.goto (-53), 3) := by decide +kernel
theorem dX3_ifOpen_70 : decode cX3_ifOpen 70 = .ok (.iload_n 2, 1) := by decide +kernel
theorem dX3_ifOpen_71 : decode cX3_ifOpen 71 = .ok (.ireturn, 1) := by decide +kernel
theorem dX3_charactersOf_0 : decode cX3_charactersOf 0 = .ok (.lload_n 0, 1) := by decide +kernel
theorem dX3_charactersOf_1 : decode cX3_charactersOf 1 = .ok (.lstore_n 2, 1) := by decide +kernel
theorem dX3_charactersOf_2 : decode cX3_charactersOf 2 = .ok (.iconst 0, 1) := by decide +kernel
theorem dX3_charactersOf_3 : decode cX3_charactersOf 3 = .ok (.istore 4, 2) := by decide +kernel
theorem dX3_charactersOf_5 : decode cX3_charactersOf 5 = .ok (.iload 4, 2) := by decide +kernel
theorem dX3_charactersOf_7 : decode cX3_charactersOf 7 = .ok (.bipush 8, 2) := by decide +kernel
theorem dX3_charactersOf_9 : decode cX3_charactersOf 9 = .ok (.if_icmp .ge 31, 3) := by decide +kernel
theorem dX3_charactersOf_12 : decode cX3_charactersOf 12 = .ok (.lload_n 2, 1) := by decide +kernel
theorem dX3_charactersOf_13 : decode cX3_charactersOf 13 = .ok (.ldc2_w 181, 3) := by decide +kernel
theorem dX3_charactersOf_16 : decode cX3_charactersOf 16 = .ok (.land, 1) := by decide +kernel
theorem dX3_charactersOf_17 : decode cX3_charactersOf 17 = .ok (.ldc2_w 183, 3) := by decide +kernel
theorem dX3_charactersOf_20 : decode cX3_charactersOf 20 = .ok (.ldc2_w 185, 3) := by decide +kernel
theorem dX3_charactersOf_23 : decode cX3_charactersOf 23 = .ok (.invokestatic 85, 3) := by decide +kernel
theorem dX3_charactersOf_26 : decode cX3_charactersOf 26 = .ok (.ifCond .eq 14, 3) := by decide +kernel
theorem dX3_charactersOf_29 : decode cX3_charactersOf 29 = .ok (.lload_n 2, 1) := by decide +kernel
theorem dX3_charactersOf_30 : decode cX3_charactersOf 30 = .ok (.bipush 8, 2) := by decide +kernel
theorem dX3_charactersOf_32 : decode cX3_charactersOf 32 = .ok (.lushr, 1) := by decide +kernel
theorem dX3_charactersOf_33 : decode cX3_charactersOf 33 = .ok (.lstore_n 2, 1) := by decide +kernel
theorem dX3_charactersOf_34 : decode cX3_charactersOf 34 = .ok (.iinc 4 1, 3) := by decide +kernel
theorem dX3_charactersOf_37 : decode cX3_charactersOf 37 = .ok (.goto (-32), 3) := by decide +kernel
theorem dX3_charactersOf_40 : decode cX3_charactersOf 40 = .ok (.lload_n 2, 1) := by decide +kernel
theorem dX3_charactersOf_41 : decode cX3_charactersOf 41 = .ok (.lconst 0, 1) := by decide +kernel
theorem dX3_charactersOf_42 : decode cX3_charactersOf 42 = .ok (.lcmp, 1) := by decide +kernel
theorem dX3_charactersOf_43 : decode cX3_charactersOf 43 = .ok (.ifCond .ne 8, 3) := by decide +kernel
theorem dX3_charactersOf_46 : decode cX3_charactersOf 46 = .ok (.iload 4, 2) := by decide +kernel
theorem dX3_charactersOf_48 : decode cX3_charactersOf 48 = .ok (.goto 4, 3) := by decide +kernel
theorem dX3_charactersOf_51 : decode cX3_charactersOf 51 = .ok (.iconst 0, 1) := by decide +kernel
theorem dX3_charactersOf_52 : decode cX3_charactersOf 52 = .ok (.ireturn, 1) := by decide +kernel
theorem dX3_put_0 : decode cX3_put 0 = .ok (.lload_n 1, 1) := by decide +kernel
theorem dX3_put_1 : decode cX3_put 1 = .ok (.invokestatic 187, 3) := by decide +kernel
theorem dX3_put_4 : decode cX3_put 4 = .ok (.istore_n 3, 1) := by decide +kernel
theorem dX3_put_5 : decode cX3_put 5 = .ok (.iload_n 3, 1) := by decide +kernel
theorem dX3_put_6 : decode cX3_put 6 = .ok (.ifCond .ne 6, 3) := by decide +kernel
theorem dX3_put_9 : decode cX3_put 9 = .ok (.bipush (-2), 2) := by decide +kernel
theorem dX3_put_11 : decode cX3_put 11 = .ok (.ireturn, 1) := by decide +kernel
theorem dX3_put_12 : decode cX3_put 12 = .ok (.aload_n 0, 1) := by decide +kernel
theorem dX3_put_13 : decode cX3_put 13 = .ok (.getfield 165, 3) := by decide +kernel
theorem dX3_put_16 : decode cX3_put 16 = .ok (.iload_n 3, 1) := by decide +kernel
theorem dX3_put_17 : decode cX3_put 17 = .ok (.iadd, 1) := by decide +kernel
theorem dX3_put_18 : decode cX3_put 18 = .ok (.bipush 80, 2) := by decide +kernel
theorem dX3_put_20 : decode cX3_put 20 = .ok (.if_icmp .le 6, 3) := by decide +kernel
theorem dX3_put_23 : decode cX3_put 23 = .ok (.bipush (-4), 2) := by decide +kernel
theorem dX3_put_25 : decode cX3_put 25 = .ok (.ireturn, 1) := by decide +kernel
theorem dX3_put_26 : decode cX3_put 26 = .ok (.iconst 0, 1) := by decide +kernel
theorem dX3_put_27 : decode cX3_put 27 = .ok (.istore 4, 2) := by decide +kernel
theorem dX3_put_29 : decode cX3_put 29 = .ok (.iload 4, 2) := by decide +kernel
theorem dX3_put_31 : decode cX3_put 31 = .ok (.iload_n 3, 1) := by decide +kernel
theorem dX3_put_32 : decode cX3_put 32 = .ok (.if_icmp .ge 37, 3) := by decide +kernel
theorem dX3_put_35 : decode cX3_put 35 = .ok (.aload_n 0, 1) := by decide +kernel
theorem dX3_put_36 : decode cX3_put 36 = .ok (.getfield 17, 3) := by decide +kernel
theorem dX3_put_39 : decode cX3_put 39 = .ok (.aload_n 0, 1) := by decide +kernel
theorem dX3_put_40 : decode cX3_put 40 = .ok (.getfield 165, 3) := by decide +kernel
theorem dX3_put_43 : decode cX3_put 43 = .ok (.iload 4, 2) := by decide +kernel
theorem dX3_put_45 : decode cX3_put 45 = .ok (.iadd, 1) := by decide +kernel
theorem dX3_put_46 : decode cX3_put 46 = .ok (.lload_n 1, 1) := by decide +kernel
theorem dX3_put_47 : decode cX3_put 47 = .ok (.bipush 8, 2) := by decide +kernel
theorem dX3_put_49 : decode cX3_put 49 = .ok (.iload_n 3, 1) := by decide +kernel
theorem dX3_put_50 : decode cX3_put 50 = .ok (.iconst 1, 1) := by decide +kernel
theorem dX3_put_51 : decode cX3_put 51 = .ok (.isub, 1) := by decide +kernel
theorem dX3_put_52 : decode cX3_put 52 = .ok (.iload 4, 2) := by decide +kernel
theorem dX3_put_54 : decode cX3_put 54 = .ok (.isub, 1) := by decide +kernel
theorem dX3_put_55 : decode cX3_put 55 = .ok (.imul, 1) := by decide +kernel
theorem dX3_put_56 : decode cX3_put 56 = .ok (.lushr, 1) := by decide +kernel
theorem dX3_put_57 : decode cX3_put 57 = .ok (.ldc2_w 181, 3) := by decide +kernel
theorem dX3_put_60 : decode cX3_put 60 = .ok (.land, 1) := by decide +kernel
theorem dX3_put_61 : decode cX3_put 61 = .ok (.l2i, 1) := by decide +kernel
theorem dX3_put_62 : decode cX3_put 62 = .ok (.iastore, 1) := by decide +kernel
theorem dX3_put_63 : decode cX3_put 63 = .ok (.iinc 4 1, 3) := by decide +kernel
theorem dX3_put_66 : decode cX3_put 66 = .ok (.goto (-37), 3) := by decide +kernel
theorem dX3_put_69 : decode cX3_put 69 = .ok (.aload_n 0, 1) := by decide +kernel
theorem dX3_put_70 : decode cX3_put 70 = .ok (.dup, 1) := by decide +kernel
theorem dX3_put_71 : decode cX3_put 71 = .ok (.getfield 165, 3) := by decide +kernel
theorem dX3_put_74 : decode cX3_put 74 = .ok (.iload_n 3, 1) := by decide +kernel
theorem dX3_put_75 : decode cX3_put 75 = .ok (.iadd, 1) := by decide +kernel
theorem dX3_put_76 : decode cX3_put 76 = .ok (.putfield 165, 3) := by decide +kernel
theorem dX3_put_79 : decode cX3_put 79 = .ok (.aload_n 0, 1) := by decide +kernel
theorem dX3_put_80 : decode cX3_put 80 = .ok (.getfield 165, 3) := by decide +kernel
theorem dX3_put_83 : decode cX3_put 83 = .ok (.ireturn, 1) := by decide +kernel
theorem dX3_wipe_0 : decode cX3_wipe 0 = .ok (.aload_n 0, 1) := by decide +kernel
theorem dX3_wipe_1 : decode cX3_wipe 1 = .ok (.getfield 165, 3) := by decide +kernel
theorem dX3_wipe_4 : decode cX3_wipe 4 = .ok (.istore_n 1, 1) := by decide +kernel
theorem dX3_wipe_5 : decode cX3_wipe 5 = .ok (.aload_n 0, 1) := by decide +kernel
theorem dX3_wipe_6 : decode cX3_wipe 6 = .ok (.iconst 0, 1) := by decide +kernel
theorem dX3_wipe_7 : decode cX3_wipe 7 = .ok (.putfield 165, 3) := by decide +kernel
theorem dX3_wipe_10 : decode cX3_wipe 10 = .ok (.iload_n 1, 1) := by decide +kernel
theorem dX3_wipe_11 : decode cX3_wipe 11 = .ok (.ireturn, 1) := by decide +kernel
theorem dX3_isHere_0 : decode cX3_isHere 0 = .ok (.aload_n 0, 1) := by decide +kernel
theorem dX3_isHere_1 : decode cX3_isHere 1 = .ok (.getfield 191, 3) := by decide +kernel
theorem dX3_isHere_4 : decode cX3_isHere 4 = .ok (.aload_n 0, 1) := by decide +kernel
theorem dX3_isHere_5 : decode cX3_isHere 5 = .ok (.getfield 165, 3) := by decide +kernel
theorem dX3_isHere_8 : decode cX3_isHere 8 = .ok (.if_icmp .ge 27, 3) := by decide +kernel
theorem dX3_isHere_11 : decode cX3_isHere 11 = .ok (.aload_n 0, 1) := by decide +kernel
theorem dX3_isHere_12 : decode cX3_isHere 12 = .ok (.getfield 17, 3) := by decide +kernel
theorem dX3_isHere_15 : decode cX3_isHere 15 = .ok (.aload_n 0, 1) := by decide +kernel
theorem dX3_isHere_16 : decode cX3_isHere 16 = .ok (.getfield 191, 3) := by decide +kernel
theorem dX3_isHere_19 : decode cX3_isHere 19 = .ok (.iaload, 1) := by decide +kernel
theorem dX3_isHere_20 : decode cX3_isHere 20 = .ok (.i2l, 1) := by decide +kernel
theorem dX3_isHere_21 : decode cX3_isHere 21 = .ok (.iload_n 1, 1) := by decide +kernel
theorem dX3_isHere_22 : decode cX3_isHere 22 = .ok (.i2l, 1) := by decide +kernel
theorem dX3_isHere_23 : decode cX3_isHere 23 = .ok (.iload_n 2, 1) := by decide +kernel
theorem dX3_isHere_24 : decode cX3_isHere 24 = .ok (.i2l, 1) := by decide +kernel
theorem dX3_isHere_25 : decode cX3_isHere 25 = .ok (.invokestatic 85, 3) := by decide +kernel
theorem dX3_isHere_28 : decode cX3_isHere 28 = .ok (.ifCond .eq 7, 3) := by decide +kernel
theorem dX3_isHere_31 : decode cX3_isHere 31 = .ok (.iconst 1, 1) := by decide +kernel
theorem dX3_isHere_32 : decode cX3_isHere 32 = .ok (.goto 4, 3) := by decide +kernel
theorem dX3_isHere_35 : decode cX3_isHere 35 = .ok (.iconst 0, 1) := by decide +kernel
theorem dX3_isHere_36 : decode cX3_isHere 36 = .ok (.ireturn, 1) := by decide +kernel
theorem dX3_takes_0 : decode cX3_takes 0 = .ok (.aload_n 0, 1) := by decide +kernel
theorem dX3_takes_1 : decode cX3_takes 1 = .ok (.iload_n 1, 1) := by decide +kernel
theorem dX3_takes_2 : decode cX3_takes 2 = .ok (.iload_n 1, 1) := by decide +kernel
theorem dX3_takes_3 : decode cX3_takes 3 = .ok (.invokevirtual 194, 3) := by decide +kernel
theorem dX3_takes_6 : decode cX3_takes 6 = .ok (.istore_n 2, 1) := by decide +kernel
theorem dX3_takes_7 : decode cX3_takes 7 = .ok (.aload_n 0, 1) := by decide +kernel
theorem dX3_takes_8 : decode cX3_takes 8 = .ok (.dup, 1) := by decide +kernel
theorem dX3_takes_9 : decode cX3_takes 9 = .ok (.getfield 191, 3) := by decide +kernel
theorem dX3_takes_12 : decode cX3_takes 12 = .ok (.iload_n 2, 1) := by decide +kernel
theorem dX3_takes_13 : decode cX3_takes 13 = .ok (.invokestatic 56, 3) := by decide +kernel
theorem dX3_takes_16 : decode cX3_takes 16 = .ok (.iadd, 1) := by decide +kernel
theorem dX3_takes_17 : decode cX3_takes 17 = .ok (.putfield 191, 3) := by decide +kernel
theorem dX3_takes_20 : decode cX3_takes 20 = .ok (.iload_n 2, 1) := by decide +kernel
theorem dX3_takes_21 : decode cX3_takes 21 = .ok (.ireturn, 1) := by decide +kernel
theorem dX3_digit_0 : decode cX3_digit 0 = .ok (.aload_n 0, 1) := by decide +kernel
theorem dX3_digit_1 : decode cX3_digit 1 = .ok (.bipush 48, 2) := by decide +kernel
theorem dX3_digit_3 : decode cX3_digit 3 = .ok (.bipush 57, 2) := by decide +kernel
theorem dX3_digit_5 : decode cX3_digit 5 = .ok (.invokevirtual 194, 3) := by decide +kernel
theorem dX3_digit_8 : decode cX3_digit 8 = .ok (.ifCond .eq 18, 3) := by decide +kernel
theorem dX3_digit_11 : decode cX3_digit 11 = .ok (.aload_n 0, 1) := by decide +kernel
theorem dX3_digit_12 : decode cX3_digit 12 = .ok (.getfield 17, 3) := by decide +kernel
theorem dX3_digit_15 : decode cX3_digit 15 = .ok (.aload_n 0, 1) := by decide +kernel
theorem dX3_digit_16 : decode cX3_digit 16 = .ok (.getfield 191, 3) := by decide +kernel
theorem dX3_digit_19 : decode cX3_digit 19 = .ok (.iaload, 1) := by decide +kernel
theorem dX3_digit_20 : decode cX3_digit 20 = .ok (.bipush 48, 2) := by decide +kernel
theorem dX3_digit_22 : decode cX3_digit 22 = .ok (.isub, 1) := by decide +kernel
theorem dX3_digit_23 : decode cX3_digit 23 = .ok (.goto 5, 3) := by decide +kernel
theorem dX3_digit_26 : decode cX3_digit 26 = .ok (.bipush (-6), 2) := by decide +kernel
theorem dX3_digit_28 : decode cX3_digit 28 = .ok (.istore_n 1, 1) := by decide +kernel
theorem dX3_digit_29 : decode cX3_digit 29 = .ok (.aload_n 0, 1) := by decide +kernel
theorem dX3_digit_30 : decode cX3_digit 30 = .ok (.dup, 1) := by decide +kernel
theorem dX3_digit_31 : decode cX3_digit 31 = .ok (.getfield 191, 3) := by decide +kernel
theorem dX3_digit_34 : decode cX3_digit 34 = .ok (.iload_n 1, 1) := by decide +kernel
theorem dX3_digit_35 : decode cX3_digit 35 = .ok (.bipush (-6), 2) := by decide +kernel
theorem dX3_digit_37 : decode cX3_digit 37 = .ok (.if_icmp .eq 7, 3) := by decide +kernel
theorem dX3_digit_40 : decode cX3_digit 40 = .ok (.iconst 1, 1) := by decide +kernel
theorem dX3_digit_41 : decode cX3_digit 41 = .ok (.goto 4, 3) := by decide +kernel
theorem dX3_digit_44 : decode cX3_digit 44 = .ok (.iconst 0, 1) := by decide +kernel
theorem dX3_digit_45 : decode cX3_digit 45 = .ok (.invokestatic 56, 3) := by decide +kernel
theorem dX3_digit_48 : decode cX3_digit 48 = .ok (.iadd, 1) := by decide +kernel
theorem dX3_digit_49 : decode cX3_digit 49 = .ok (.putfield 191, 3) := by decide +kernel
theorem dX3_digit_52 : decode cX3_digit 52 = .ok (.iload_n 1, 1) := by decide +kernel
theorem dX3_digit_53 : decode cX3_digit 53 = .ok (.ireturn, 1) := by decide +kernel
theorem dX3_number_0 : decode cX3_number 0 = .ok (.aload_n 0, 1) := by decide +kernel
theorem dX3_number_1 : decode cX3_number 1 = .ok (.invokevirtual 197, 3) := by decide +kernel
theorem dX3_number_4 : decode cX3_number 4 = .ok (.istore_n 1, 1) := by decide +kernel
theorem dX3_number_5 : decode cX3_number 5 = .ok (.iload_n 1, 1) := by decide +kernel
theorem dX3_number_6 : decode cX3_number 6 = .ok (.i2l, 1) := by decide +kernel
theorem dX3_number_7 : decode cX3_number 7 = .ok (.lconst 1, 1) := by decide +kernel
theorem dX3_number_8 : decode cX3_number 8 = .ok (.ldc2_w 105, 3) := by decide +kernel
theorem dX3_number_11 : decode cX3_number 11 = .ok (.invokestatic 85, 3) := by decide +kernel
theorem dX3_number_14 : decode cX3_number 14 = .ok (.ifCond .eq 45, 3) := by decide +kernel
theorem dX3_number_17 : decode cX3_number 17 = .ok (.aload_n 0, 1) := by decide +kernel
theorem dX3_number_18 : decode cX3_number 18 = .ok (.bipush 48, 2) := by decide +kernel
theorem dX3_number_20 : decode cX3_number 20 = .ok (.bipush 57, 2) := by decide +kernel
theorem dX3_number_22 : decode cX3_number 22 = .ok (.invokevirtual 194, 3) := by decide +kernel
theorem dX3_number_25 : decode cX3_number 25 = .ok (.ifCond .eq 34, 3) := by decide +kernel
theorem dX3_number_28 : decode cX3_number 28 = .ok (.bipush 10, 2) := by decide +kernel
theorem dX3_number_30 : decode cX3_number 30 = .ok (.iload_n 1, 1) := by decide +kernel
theorem dX3_number_31 : decode cX3_number 31 = .ok (.imul, 1) := by decide +kernel
theorem dX3_number_32 : decode cX3_number 32 = .ok (.aload_n 0, 1) := by decide +kernel
theorem dX3_number_33 : decode cX3_number 33 = .ok (.getfield 17, 3) := by decide +kernel
theorem dX3_number_36 : decode cX3_number 36 = .ok (.aload_n 0, 1) := by decide +kernel
theorem dX3_number_37 : decode cX3_number 37 = .ok (.getfield 191, 3) := by decide +kernel
theorem dX3_number_40 : decode cX3_number 40 = .ok (.iaload, 1) := by decide +kernel
theorem dX3_number_41 : decode cX3_number 41 = .ok (.iadd, 1) := by decide +kernel
theorem dX3_number_42 : decode cX3_number 42 = .ok (.bipush 48, 2) := by decide +kernel
theorem dX3_number_44 : decode cX3_number 44 = .ok (.isub, 1) := by decide +kernel
theorem dX3_number_45 : decode cX3_number 45 = .ok (.istore_n 1, 1) := by decide +kernel
theorem dX3_number_46 : decode cX3_number 46 = .ok (.aload_n 0, 1) := by decide +kernel
theorem dX3_number_47 : decode cX3_number 47 = .ok (.dup, 1) := by decide +kernel
theorem dX3_number_48 : decode cX3_number 48 = .ok (.getfield 191, 3) := by decide +kernel
theorem dX3_number_51 : decode cX3_number 51 = .ok (.iconst 1, 1) := by decide +kernel
theorem dX3_number_52 : decode cX3_number 52 = .ok (.iadd, 1) := by decide +kernel
theorem dX3_number_53 : decode cX3_number 53 = .ok (.putfield 191, 3) := by decide +kernel
theorem dX3_number_56 : decode cX3_number 56 = .ok (.goto (-51), 3) := by decide +kernel
theorem dX3_number_59 : decode cX3_number 59 = .ok (.iload_n 1, 1) := by decide +kernel
theorem dX3_number_60 : decode cX3_number 60 = .ok (.ireturn, 1) := by decide +kernel
theorem dX3_readsKind_0 : decode cX3_readsKind 0 = .ok (.aload_n 0, 1) := by decide +kernel
theorem dX3_readsKind_1 : decode cX3_readsKind 1 = .ok (.aload_n 0, 1) := by decide +kernel
theorem dX3_readsKind_2 : decode cX3_readsKind 2 = .ok (.bipush 113, 2) := by decide +kernel
theorem dX3_readsKind_4 : decode cX3_readsKind 4 = .ok (.invokevirtual 200, 3) := by decide +kernel
theorem dX3_readsKind_7 : decode cX3_readsKind 7 = .ok (.ifCond .eq 7, 3) := by decide +kernel
theorem dX3_readsKind_10 : decode cX3_readsKind 10 = .ok (.iconst 0, 1) := by decide +kernel
theorem dX3_readsKind_11 : decode cX3_readsKind 11 = .ok (.goto 31, 3) := by decide +kernel
theorem dX3_readsKind_14 : decode cX3_readsKind 14 = .ok (.aload_n 0, 1) := by decide +kernel
theorem dX3_readsKind_15 : decode cX3_readsKind 15 = .ok (.bipush 115, 2) := by decide +kernel
theorem dX3_readsKind_17 : decode cX3_readsKind 17 = .ok (.invokevirtual 200, 3) := by decide +kernel
theorem dX3_readsKind_20 : decode cX3_readsKind 20 = .ok (.ifCond .eq 7, 3) := by decide +kernel
theorem dX3_readsKind_23 : decode cX3_readsKind 23 = .ok (.iconst 1, 1) := by decide +kernel
theorem dX3_readsKind_24 : decode cX3_readsKind 24 = .ok (.goto 18, 3) := by decide +kernel
theorem dX3_readsKind_27 : decode cX3_readsKind 27 = .ok (.aload_n 0, 1) := by decide +kernel
theorem dX3_readsKind_28 : decode cX3_readsKind 28 = .ok (.bipush 111, 2) := by decide +kernel
theorem dX3_readsKind_30 : decode cX3_readsKind 30 = .ok (.invokevirtual 200, 3) := by decide +kernel
theorem dX3_readsKind_33 : decode cX3_readsKind 33 = .ok (.ifCond .eq 7, 3) := by decide +kernel
theorem dX3_readsKind_36 : decode cX3_readsKind 36 = .ok (.iconst 2, 1) := by decide +kernel
theorem dX3_readsKind_37 : decode cX3_readsKind 37 = .ok (.goto 5, 3) := by decide +kernel
theorem dX3_readsKind_40 : decode cX3_readsKind 40 = .ok (.bipush (-6), 2) := by decide +kernel
theorem dX3_readsKind_42 : decode cX3_readsKind 42 = .ok (.putfield 203, 3) := by decide +kernel
theorem dX3_readsKind_45 : decode cX3_readsKind 45 = .ok (.aload_n 0, 1) := by decide +kernel
theorem dX3_readsKind_46 : decode cX3_readsKind 46 = .ok (.getfield 203, 3) := by decide +kernel
theorem dX3_readsKind_49 : decode cX3_readsKind 49 = .ok (.bipush (-6), 2) := by decide +kernel
theorem dX3_readsKind_51 : decode cX3_readsKind 51 = .ok (.if_icmp .eq 7, 3) := by decide +kernel
theorem dX3_readsKind_54 : decode cX3_readsKind 54 = .ok (.iconst 1, 1) := by decide +kernel
theorem dX3_readsKind_55 : decode cX3_readsKind 55 = .ok (.goto 4, 3) := by decide +kernel
theorem dX3_readsKind_58 : decode cX3_readsKind 58 = .ok (.iconst 0, 1) := by decide +kernel
theorem dX3_readsKind_59 : decode cX3_readsKind 59 = .ok (.ireturn, 1) := by decide +kernel
theorem dX3_readsFuse_0 : decode cX3_readsFuse 0 = .ok (.aload_n 0, 1) := by decide +kernel
theorem dX3_readsFuse_1 : decode cX3_readsFuse 1 = .ok (.aload_n 0, 1) := by decide +kernel
theorem dX3_readsFuse_2 : decode cX3_readsFuse 2 = .ok (.invokevirtual 197, 3) := by decide +kernel
theorem dX3_readsFuse_5 : decode cX3_readsFuse 5 = .ok (.putfield 206, 3) := by decide +kernel
theorem dX3_readsFuse_8 : decode cX3_readsFuse 8 = .ok (.aload_n 0, 1) := by decide +kernel
theorem dX3_readsFuse_9 : decode cX3_readsFuse 9 = .ok (.aload_n 0, 1) := by decide +kernel
theorem dX3_readsFuse_10 : decode cX3_readsFuse 10 = .ok (.getfield 206, 3) := by decide +kernel
theorem dX3_readsFuse_13 : decode cX3_readsFuse 13 = .ok (.bipush (-6), 2) := by decide +kernel
theorem dX3_readsFuse_15 : decode cX3_readsFuse 15 = .ok (.if_icmp .eq 19, 3) := by decide +kernel
theorem dX3_readsFuse_18 : decode cX3_readsFuse 18 = .ok (.aload_n 0, 1) := by decide +kernel
theorem dX3_readsFuse_19 : decode cX3_readsFuse 19 = .ok (.bipush 46, 2) := by decide +kernel
theorem dX3_readsFuse_21 : decode cX3_readsFuse 21 = .ok (.invokevirtual 200, 3) := by decide +kernel
theorem dX3_readsFuse_24 : decode cX3_readsFuse 24 = .ok (.ifCond .eq 10, 3) := by decide +kernel
theorem dX3_readsFuse_27 : decode cX3_readsFuse 27 = .ok (.aload_n 0, 1) := by decide +kernel
theorem dX3_readsFuse_28 : decode cX3_readsFuse 28 = .ok (.invokevirtual 209, 3) := by decide +kernel
theorem dX3_readsFuse_31 : decode cX3_readsFuse 31 = .ok (.goto 5, 3) := by decide +kernel
theorem dX3_readsFuse_34 : decode cX3_readsFuse 34 = .ok (.bipush (-6), 2) := by decide +kernel
theorem dX3_readsFuse_36 : decode cX3_readsFuse 36 = .ok (.putfield 212, 3) := by decide +kernel
theorem dX3_readsFuse_39 : decode cX3_readsFuse 39 = .ok (.aload_n 0, 1) := by decide +kernel
theorem dX3_readsFuse_40 : decode cX3_readsFuse 40 = .ok (.getfield 212, 3) := by decide +kernel
theorem dX3_readsFuse_43 : decode cX3_readsFuse 43 = .ok (.bipush (-6), 2) := by decide +kernel
theorem dX3_readsFuse_45 : decode cX3_readsFuse 45 = .ok (.if_icmp .eq 14, 3) := by decide +kernel
theorem dX3_readsFuse_48 : decode cX3_readsFuse 48 = .ok (.aload_n 0, 1) := by decide +kernel
theorem dX3_readsFuse_49 : decode cX3_readsFuse 49 = .ok (.invokevirtual 215, 3) := by decide +kernel
theorem dX3_readsFuse_52 : decode cX3_readsFuse 52 = .ok (.ifCond .eq 7, 3) := by decide +kernel
theorem dX3_readsFuse_55 : decode cX3_readsFuse 55 = .ok (.iconst 1, 1) := by decide +kernel
theorem dX3_readsFuse_56 : decode cX3_readsFuse 56 = .ok (.goto 4, 3) := by decide +kernel
theorem dX3_readsFuse_59 : decode cX3_readsFuse 59 = .ok (.iconst 0, 1) := by decide +kernel
theorem dX3_readsFuse_60 : decode cX3_readsFuse 60 = .ok (.ireturn, 1) := by decide +kernel
theorem dX3_readsLoad_0 : decode cX3_readsLoad 0 = .ok (.aload_n 0, 1) := by decide +kernel
theorem dX3_readsLoad_1 : decode cX3_readsLoad 1 = .ok (.aload_n 0, 1) := by decide +kernel
theorem dX3_readsLoad_2 : decode cX3_readsLoad 2 = .ok (.invokevirtual 197, 3) := by decide +kernel
theorem dX3_readsLoad_5 : decode cX3_readsLoad 5 = .ok (.putfield 206, 3) := by decide +kernel
theorem dX3_readsLoad_8 : decode cX3_readsLoad 8 = .ok (.aload_n 0, 1) := by decide +kernel
theorem dX3_readsLoad_9 : decode cX3_readsLoad 9 = .ok (.aload_n 0, 1) := by decide +kernel
theorem dX3_readsLoad_10 : decode cX3_readsLoad 10 = .ok (.getfield 206, 3) := by decide +kernel
theorem dX3_readsLoad_13 : decode cX3_readsLoad 13 = .ok (.bipush (-6), 2) := by decide +kernel
theorem dX3_readsLoad_15 : decode cX3_readsLoad 15 = .ok (.if_icmp .eq 19, 3) := by decide +kernel
theorem dX3_readsLoad_18 : decode cX3_readsLoad 18 = .ok (.aload_n 0, 1) := by decide +kernel
theorem dX3_readsLoad_19 : decode cX3_readsLoad 19 = .ok (.bipush 61, 2) := by decide +kernel
theorem dX3_readsLoad_21 : decode cX3_readsLoad 21 = .ok (.invokevirtual 200, 3) := by decide +kernel
theorem dX3_readsLoad_24 : decode cX3_readsLoad 24 = .ok (.ifCond .eq 10, 3) := by decide +kernel
theorem dX3_readsLoad_27 : decode cX3_readsLoad 27 = .ok (.aload_n 0, 1) := by decide +kernel
theorem dX3_readsLoad_28 : decode cX3_readsLoad 28 = .ok (.invokevirtual 209, 3) := by decide +kernel
theorem dX3_readsLoad_31 : decode cX3_readsLoad 31 = .ok (.goto 5, 3) := by decide +kernel
theorem dX3_readsLoad_34 : decode cX3_readsLoad 34 = .ok (.bipush (-6), 2) := by decide +kernel
theorem dX3_readsLoad_36 : decode cX3_readsLoad 36 = .ok (.putfield 212, 3) := by decide +kernel
theorem dX3_readsLoad_39 : decode cX3_readsLoad 39 = .ok (.aload_n 0, 1) := by decide +kernel
theorem dX3_readsLoad_40 : decode cX3_readsLoad 40 = .ok (.getfield 212, 3) := by decide +kernel
theorem dX3_readsLoad_43 : decode cX3_readsLoad 43 = .ok (.bipush (-6), 2) := by decide +kernel
theorem dX3_readsLoad_45 : decode cX3_readsLoad 45 = .ok (.if_icmp .eq 7, 3) := by decide +kernel
theorem dX3_readsLoad_48 : decode cX3_readsLoad 48 = .ok (.iconst 1, 1) := by decide +kernel
theorem dX3_readsLoad_49 : decode cX3_readsLoad 49 = .ok (.goto 4, 3) := by decide +kernel
theorem dX3_readsLoad_52 : decode cX3_readsLoad 52 = .ok (.iconst 0, 1) := by decide +kernel
theorem dX3_readsLoad_53 : decode cX3_readsLoad 53 = .ok (.ireturn, 1) := by decide +kernel
theorem dX3_readsOrder_0 : decode cX3_readsOrder 0 = .ok (.aload_n 0, 1) := by decide +kernel
theorem dX3_readsOrder_1 : decode cX3_readsOrder 1 = .ok (.aload_n 0, 1) := by decide +kernel
theorem dX3_readsOrder_2 : decode cX3_readsOrder 2 = .ok (.getfield 191, 3) := by decide +kernel
theorem dX3_readsOrder_5 : decode cX3_readsOrder 5 = .ok (.aload_n 0, 1) := by decide +kernel
theorem dX3_readsOrder_6 : decode cX3_readsOrder 6 = .ok (.getfield 165, 3) := by decide +kernel
theorem dX3_readsOrder_9 : decode cX3_readsOrder 9 = .ok (.if_icmp .ge 15, 3) := by decide +kernel
theorem dX3_readsOrder_12 : decode cX3_readsOrder 12 = .ok (.aload_n 0, 1) := by decide +kernel
theorem dX3_readsOrder_13 : decode cX3_readsOrder 13 = .ok (.getfield 17, 3) := by decide +kernel
theorem dX3_readsOrder_16 : decode cX3_readsOrder 16 = .ok (.aload_n 0, 1) := by decide +kernel
theorem dX3_readsOrder_17 : decode cX3_readsOrder 17 = .ok (.getfield 191, 3) := by decide +kernel
theorem dX3_readsOrder_20 : decode cX3_readsOrder 20 = .ok (.iaload, 1) := by decide +kernel
theorem dX3_readsOrder_21 : decode cX3_readsOrder 21 = .ok (.goto 4, 3) := by decide +kernel
theorem dX3_readsOrder_24 : decode cX3_readsOrder 24 = .ok (.iconst 0, 1) := by decide +kernel
theorem dX3_readsOrder_25 : decode cX3_readsOrder 25 = .ok (.putfield 219, 3) := by decide +kernel
theorem dX3_readsOrder_28 : decode cX3_readsOrder 28 = .ok (.aload_n 0, 1) := by decide +kernel
theorem dX3_readsOrder_29 : decode cX3_readsOrder 29 = .ok (.dup, 1) := by decide +kernel
theorem dX3_readsOrder_30 : decode cX3_readsOrder 30 = .ok (.getfield 191, 3) := by decide +kernel
theorem dX3_readsOrder_33 : decode cX3_readsOrder 33 = .ok (.iconst 1, 1) := by decide +kernel
theorem dX3_readsOrder_34 : decode cX3_readsOrder 34 = .ok (.iadd, 1) := by decide +kernel
theorem dX3_readsOrder_35 : decode cX3_readsOrder 35 = .ok (.putfield 191, 3) := by decide +kernel
theorem dX3_readsOrder_38 : decode cX3_readsOrder 38 = .ok (.aload_n 0, 1) := by decide +kernel
theorem dX3_readsOrder_39 : decode cX3_readsOrder 39 = .ok (.getfield 219, 3) := by decide +kernel
theorem dX3_readsOrder_42 : decode cX3_readsOrder 42 = .ok (.lookupswitch 83 #[(98, 50), (102, 50), (108, 55), (115, 60), (116, 60)], 50) := by decide +kernel
theorem dX3_readsOrder_92 : decode cX3_readsOrder 92 = .ok (.aload_n 0, 1) := by decide +kernel
theorem dX3_readsOrder_93 : decode cX3_readsOrder 93 = .ok (.invokevirtual 222, 3) := by decide +kernel
theorem dX3_readsOrder_96 : decode cX3_readsOrder 96 = .ok (.ireturn, 1) := by decide +kernel
theorem dX3_readsOrder_97 : decode cX3_readsOrder 97 = .ok (.aload_n 0, 1) := by decide +kernel
theorem dX3_readsOrder_98 : decode cX3_readsOrder 98 = .ok (.invokevirtual 225, 3) := by decide +kernel
theorem dX3_readsOrder_101 : decode cX3_readsOrder 101 = .ok (.ireturn, 1) := by decide +kernel
theorem dX3_readsOrder_102 : decode cX3_readsOrder 102 = .ok (.aload_n 0, 1) := by decide +kernel
theorem dX3_readsOrder_103 : decode cX3_readsOrder 103 = .ok (.aload_n 0, 1) := by decide +kernel
theorem dX3_readsOrder_104 : decode cX3_readsOrder 104 = .ok (.invokevirtual 209, 3) := by decide +kernel
theorem dX3_readsOrder_107 : decode cX3_readsOrder 107 = .ok (.putfield 212, 3) := by decide +kernel
theorem dX3_readsOrder_110 : decode cX3_readsOrder 110 = .ok (.aload_n 0, 1) := by decide +kernel
theorem dX3_readsOrder_111 : decode cX3_readsOrder 111 = .ok (.getfield 212, 3) := by decide +kernel
theorem dX3_readsOrder_114 : decode cX3_readsOrder 114 = .ok (.bipush (-6), 2) := by decide +kernel
theorem dX3_readsOrder_116 : decode cX3_readsOrder 116 = .ok (.if_icmp .eq 7, 3) := by decide +kernel
theorem dX3_readsOrder_119 : decode cX3_readsOrder 119 = .ok (.iconst 1, 1) := by decide +kernel
theorem dX3_readsOrder_120 : decode cX3_readsOrder 120 = .ok (.goto 4, 3) := by decide +kernel
theorem dX3_readsOrder_123 : decode cX3_readsOrder 123 = .ok (.iconst 0, 1) := by decide +kernel
theorem dX3_readsOrder_124 : decode cX3_readsOrder 124 = .ok (.ireturn, 1) := by decide +kernel
theorem dX3_readsOrder_125 : decode cX3_readsOrder 125 = .ok (.aload_n 0, 1) := by decide +kernel
theorem dX3_readsOrder_126 : decode cX3_readsOrder 126 = .ok (.dup, 1) := by decide +kernel
theorem dX3_readsOrder_127 : decode cX3_readsOrder 127 = .ok (.getfield 191, 3) := by decide +kernel
theorem dX3_readsOrder_130 : decode cX3_readsOrder 130 = .ok (.iconst 1, 1) := by decide +kernel
theorem dX3_readsOrder_131 : decode cX3_readsOrder 131 = .ok (.isub, 1) := by decide +kernel
theorem dX3_readsOrder_132 : decode cX3_readsOrder 132 = .ok (.putfield 191, 3) := by decide +kernel
theorem dX3_readsOrder_135 : decode cX3_readsOrder 135 = .ok (.iconst 0, 1) := by decide +kernel
theorem dX3_readsOrder_136 : decode cX3_readsOrder 136 = .ok (.ireturn, 1) := by decide +kernel
theorem dX3_fault_0 : decode cX3_fault 0 = .ok (.aload_n 0, 1) := by decide +kernel
theorem dX3_fault_1 : decode cX3_fault 1 = .ok (.iconst 0, 1) := by decide +kernel
theorem dX3_fault_2 : decode cX3_fault 2 = .ok (.putfield 191, 3) := by decide +kernel
theorem dX3_fault_5 : decode cX3_fault 5 = .ok (.iconst 1, 1) := by decide +kernel
theorem dX3_fault_6 : decode cX3_fault 6 = .ok (.istore_n 1, 1) := by decide +kernel
theorem dX3_fault_7 : decode cX3_fault 7 = .ok (.iload_n 1, 1) := by decide +kernel
theorem dX3_fault_8 : decode cX3_fault 8 = .ok (.ifCond .eq 25, 3) := by decide +kernel
theorem dX3_fault_11 : decode cX3_fault 11 = .ok (.aload_n 0, 1) := by decide +kernel
theorem dX3_fault_12 : decode cX3_fault 12 = .ok (.invokevirtual 228, 3) := by decide +kernel
theorem dX3_fault_15 : decode cX3_fault 15 = .ok (.ifCond .ne 8, 3) := by decide +kernel
theorem dX3_fault_18 : decode cX3_fault 18 = .ok (.aload_n 0, 1) := by decide +kernel
theorem dX3_fault_19 : decode cX3_fault 19 = .ok (.getfield 191, 3) := by decide +kernel
theorem dX3_fault_22 : decode cX3_fault 22 = .ok (.ireturn, 1) := by decide +kernel
theorem dX3_fault_23 : decode cX3_fault 23 = .ok (.aload_n 0, 1) := by decide +kernel
theorem dX3_fault_24 : decode cX3_fault 24 = .ok (.bipush 59, 2) := by decide +kernel
theorem dX3_fault_26 : decode cX3_fault 26 = .ok (.invokevirtual 200, 3) := by decide +kernel
theorem dX3_fault_29 : decode cX3_fault 29 = .ok (.istore_n 1, 1) := by decide +kernel
theorem dX3_fault_30 : decode cX3_fault 30 = .ok (.goto (-23), 3) := by decide +kernel
theorem dX3_fault_33 : decode cX3_fault 33 = .ok (.aload_n 0, 1) := by decide +kernel
theorem dX3_fault_34 : decode cX3_fault 34 = .ok (.getfield 191, 3) := by decide +kernel
theorem dX3_fault_37 : decode cX3_fault 37 = .ok (.aload_n 0, 1) := by decide +kernel
theorem dX3_fault_38 : decode cX3_fault 38 = .ok (.getfield 165, 3) := by decide +kernel
theorem dX3_fault_41 : decode cX3_fault 41 = .ok (.if_icmp .ne 8, 3) := by decide +kernel
theorem dX3_fault_44 : decode cX3_fault 44 = .ok (.bipush (-6), 2) := by decide +kernel
theorem dX3_fault_46 : decode cX3_fault 46 = .ok (.goto 7, 3) := by decide +kernel
theorem dX3_fault_49 : decode cX3_fault 49 = .ok (.aload_n 0, 1) := by decide +kernel
theorem dX3_fault_50 : decode cX3_fault 50 = .ok (.getfield 191, 3) := by decide +kernel
theorem dX3_fault_53 : decode cX3_fault 53 = .ok (.ireturn, 1) := by decide +kernel
theorem dX3_orderError_0 : decode cX3_orderError 0 = .ok (.aload_n 0, 1) := by decide +kernel
theorem dX3_orderError_1 : decode cX3_orderError 1 = .ok (.getfield 219, 3) := by decide +kernel
theorem dX3_orderError_4 : decode cX3_orderError 4 = .ok (.lookupswitch 100 #[(98, 44), (102, 83), (108, 61), (115, 74)], 44) := by decide +kernel
theorem dX3_orderError_48 : decode cX3_orderError 48 = .ok (.aload_n 0, 1) := by decide +kernel
theorem dX3_orderError_49 : decode cX3_orderError 49 = .ok (.aload_n 0, 1) := by decide +kernel
theorem dX3_orderError_50 : decode cX3_orderError 50 = .ok (.getfield 206, 3) := by decide +kernel
theorem dX3_orderError_53 : decode cX3_orderError 53 = .ok (.aload_n 0, 1) := by decide +kernel
theorem dX3_orderError_54 : decode cX3_orderError 54 = .ok (.getfield 212, 3) := by decide +kernel
theorem dX3_orderError_57 : decode cX3_orderError 57 = .ok (.aload_n 0, 1) := by decide +kernel
theorem dX3_orderError_58 : decode cX3_orderError 58 = .ok (.getfield 203, 3) := by decide +kernel
theorem dX3_orderError_61 : decode cX3_orderError 61 = .ok (.invokevirtual 121, 3) := by decide +kernel
theorem dX3_orderError_64 : decode cX3_orderError 64 = .ok (.ireturn, 1) := by decide +kernel
theorem dX3_orderError_65 : decode cX3_orderError 65 = .ok (.aload_n 0, 1) := by decide +kernel
theorem dX3_orderError_66 : decode cX3_orderError 66 = .ok (.aload_n 0, 1) := by decide +kernel
theorem dX3_orderError_67 : decode cX3_orderError 67 = .ok (.getfield 206, 3) := by decide +kernel
theorem dX3_orderError_70 : decode cX3_orderError 70 = .ok (.aload_n 0, 1) := by decide +kernel
theorem dX3_orderError_71 : decode cX3_orderError 71 = .ok (.getfield 212, 3) := by decide +kernel
theorem dX3_orderError_74 : decode cX3_orderError 74 = .ok (.invokevirtual 128, 3) := by decide +kernel
theorem dX3_orderError_77 : decode cX3_orderError 77 = .ok (.ireturn, 1) := by decide +kernel
theorem dX3_orderError_78 : decode cX3_orderError 78 = .ok (.aload_n 0, 1) := by decide +kernel
theorem dX3_orderError_79 : decode cX3_orderError 79 = .ok (.aload_n 0, 1) := by decide +kernel
theorem dX3_orderError_80 : decode cX3_orderError 80 = .ok (.getfield 212, 3) := by decide +kernel
theorem dX3_orderError_83 : decode cX3_orderError 83 = .ok (.invokevirtual 134, 3) := by decide +kernel
theorem dX3_orderError_86 : decode cX3_orderError 86 = .ok (.ireturn, 1) := by decide +kernel
theorem dX3_orderError_87 : decode cX3_orderError 87 = .ok (.aload_n 0, 1) := by decide +kernel
theorem dX3_orderError_88 : decode cX3_orderError 88 = .ok (.aload_n 0, 1) := by decide +kernel
theorem dX3_orderError_89 : decode cX3_orderError 89 = .ok (.getfield 206, 3) := by decide +kernel
theorem dX3_orderError_92 : decode cX3_orderError 92 = .ok (.aload_n 0, 1) := by decide +kernel
theorem dX3_orderError_93 : decode cX3_orderError 93 = .ok (.getfield 212, 3) := by decide +kernel
theorem dX3_orderError_96 : decode cX3_orderError 96 = .ok (.aload_n 0, 1) := by decide +kernel
theorem dX3_orderError_97 : decode cX3_orderError 97 = .ok (.getfield 203, 3) := by decide +kernel
theorem dX3_orderError_100 : decode cX3_orderError 100 = .ok (.invokevirtual 140, 3) := by decide +kernel
theorem dX3_orderError_103 : decode cX3_orderError 103 = .ok (.ireturn, 1) := by decide +kernel
theorem dX3_orderError_104 : decode cX3_orderError 104 = .ok (.aload_n 0, 1) := by decide +kernel
theorem dX3_orderError_105 : decode cX3_orderError 105 = .ok (.aload_n 0, 1) := by decide +kernel
theorem dX3_orderError_106 : decode cX3_orderError 106 = .ok (.getfield 212, 3) := by decide +kernel
theorem dX3_orderError_109 : decode cX3_orderError 109 = .ok (.invokevirtual 146, 3) := by decide +kernel
theorem dX3_orderError_112 : decode cX3_orderError 112 = .ok (.ireturn, 1) := by decide +kernel
theorem dX3_does_0 : decode cX3_does 0 = .ok (.aload_n 0, 1) := by decide +kernel
theorem dX3_does_1 : decode cX3_does 1 = .ok (.getfield 219, 3) := by decide +kernel
theorem dX3_does_4 : decode cX3_does 4 = .ok (.lookupswitch 100 #[(98, 44), (102, 83), (108, 61), (115, 74)], 44) := by decide +kernel
theorem dX3_does_48 : decode cX3_does 48 = .ok (.aload_n 0, 1) := by decide +kernel
theorem dX3_does_49 : decode cX3_does 49 = .ok (.aload_n 0, 1) := by decide +kernel
theorem dX3_does_50 : decode cX3_does 50 = .ok (.getfield 206, 3) := by decide +kernel
theorem dX3_does_53 : decode cX3_does 53 = .ok (.aload_n 0, 1) := by decide +kernel
theorem dX3_does_54 : decode cX3_does 54 = .ok (.getfield 212, 3) := by decide +kernel
theorem dX3_does_57 : decode cX3_does 57 = .ok (.aload_n 0, 1) := by decide +kernel
theorem dX3_does_58 : decode cX3_does 58 = .ok (.getfield 203, 3) := by decide +kernel
theorem dX3_does_61 : decode cX3_does 61 = .ok (.invokevirtual 125, 3) := by decide +kernel
theorem dX3_does_64 : decode cX3_does 64 = .ok (.ireturn, 1) := by decide +kernel
theorem dX3_does_65 : decode cX3_does 65 = .ok (.aload_n 0, 1) := by decide +kernel
theorem dX3_does_66 : decode cX3_does 66 = .ok (.aload_n 0, 1) := by decide +kernel
theorem dX3_does_67 : decode cX3_does 67 = .ok (.getfield 206, 3) := by decide +kernel
theorem dX3_does_70 : decode cX3_does 70 = .ok (.aload_n 0, 1) := by decide +kernel
theorem dX3_does_71 : decode cX3_does 71 = .ok (.getfield 212, 3) := by decide +kernel
theorem dX3_does_74 : decode cX3_does 74 = .ok (.invokevirtual 131, 3) := by decide +kernel
theorem dX3_does_77 : decode cX3_does 77 = .ok (.ireturn, 1) := by decide +kernel
theorem dX3_does_78 : decode cX3_does 78 = .ok (.aload_n 0, 1) := by decide +kernel
theorem dX3_does_79 : decode cX3_does 79 = .ok (.aload_n 0, 1) := by decide +kernel
theorem dX3_does_80 : decode cX3_does 80 = .ok (.getfield 212, 3) := by decide +kernel
theorem dX3_does_83 : decode cX3_does 83 = .ok (.invokevirtual 137, 3) := by decide +kernel
theorem dX3_does_86 : decode cX3_does 86 = .ok (.ireturn, 1) := by decide +kernel
theorem dX3_does_87 : decode cX3_does 87 = .ok (.aload_n 0, 1) := by decide +kernel
theorem dX3_does_88 : decode cX3_does 88 = .ok (.aload_n 0, 1) := by decide +kernel
theorem dX3_does_89 : decode cX3_does 89 = .ok (.getfield 206, 3) := by decide +kernel
theorem dX3_does_92 : decode cX3_does 92 = .ok (.aload_n 0, 1) := by decide +kernel
theorem dX3_does_93 : decode cX3_does 93 = .ok (.getfield 212, 3) := by decide +kernel
theorem dX3_does_96 : decode cX3_does 96 = .ok (.aload_n 0, 1) := by decide +kernel
theorem dX3_does_97 : decode cX3_does 97 = .ok (.getfield 203, 3) := by decide +kernel
theorem dX3_does_100 : decode cX3_does 100 = .ok (.invokevirtual 143, 3) := by decide +kernel
theorem dX3_does_103 : decode cX3_does 103 = .ok (.ireturn, 1) := by decide +kernel
theorem dX3_does_104 : decode cX3_does 104 = .ok (.aload_n 0, 1) := by decide +kernel
theorem dX3_does_105 : decode cX3_does 105 = .ok (.iconst 0, 1) := by decide +kernel
theorem dX3_does_106 : decode cX3_does 106 = .ok (.aload_n 0, 1) := by decide +kernel
theorem dX3_does_107 : decode cX3_does 107 = .ok (.getfield 212, 3) := by decide +kernel
theorem dX3_does_110 : decode cX3_does 110 = .ok (.invokevirtual 149, 3) := by decide +kernel
theorem dX3_does_113 : decode cX3_does 113 = .ok (.ireturn, 1) := by decide +kernel
theorem dX3_carryOut_0 : decode cX3_carryOut 0 = .ok (.aload_n 0, 1) := by decide +kernel
theorem dX3_carryOut_1 : decode cX3_carryOut 1 = .ok (.invokevirtual 231, 3) := by decide +kernel
theorem dX3_carryOut_4 : decode cX3_carryOut 4 = .ok (.bipush (-6), 2) := by decide +kernel
theorem dX3_carryOut_6 : decode cX3_carryOut 6 = .ok (.if_icmp .eq 6, 3) := by decide +kernel
theorem dX3_carryOut_9 : decode cX3_carryOut 9 = .ok (.bipush (-3), 2) := by decide +kernel
theorem dX3_carryOut_11 : decode cX3_carryOut 11 = .ok (.ireturn, 1) := by decide +kernel
theorem dX3_carryOut_12 : decode cX3_carryOut 12 = .ok (.aload_n 0, 1) := by decide +kernel
theorem dX3_carryOut_13 : decode cX3_carryOut 13 = .ok (.invokevirtual 118, 3) := by decide +kernel
theorem dX3_carryOut_16 : decode cX3_carryOut 16 = .ok (.aload_n 0, 1) := by decide +kernel
theorem dX3_carryOut_17 : decode cX3_carryOut 17 = .ok (.iconst 0, 1) := by decide +kernel
theorem dX3_carryOut_18 : decode cX3_carryOut 18 = .ok (.putfield 191, 3) := by decide +kernel
theorem dX3_carryOut_21 : decode cX3_carryOut 21 = .ok (.iconst 0, 1) := by decide +kernel
theorem dX3_carryOut_22 : decode cX3_carryOut 22 = .ok (.istore_n 1, 1) := by decide +kernel
theorem dX3_carryOut_23 : decode cX3_carryOut 23 = .ok (.iconst 1, 1) := by decide +kernel
theorem dX3_carryOut_24 : decode cX3_carryOut 24 = .ok (.istore_n 2, 1) := by decide +kernel
theorem dX3_carryOut_25 : decode cX3_carryOut 25 = .ok (.iload_n 2, 1) := by decide +kernel
theorem dX3_carryOut_26 : decode cX3_carryOut 26 = .ok (.ifCond .eq 67, 3) := by decide +kernel
theorem dX3_carryOut_29 : decode cX3_carryOut 29 = .ok (.aload_n 0, 1) := by decide +kernel
theorem dX3_carryOut_30 : decode cX3_carryOut 30 = .ok (.invokevirtual 228, 3) := by decide +kernel
theorem dX3_carryOut_33 : decode cX3_carryOut 33 = .ok (.ifCond .eq 14, 3) := by decide +kernel
theorem dX3_carryOut_36 : decode cX3_carryOut 36 = .ok (.aload_n 0, 1) := by decide +kernel
theorem dX3_carryOut_37 : decode cX3_carryOut 37 = .ok (.invokevirtual 234, 3) := by decide +kernel
theorem dX3_carryOut_40 : decode cX3_carryOut 40 = .ok (.ifCond .ne 7, 3) := by decide +kernel
theorem dX3_carryOut_43 : decode cX3_carryOut 43 = .ok (.iconst 1, 1) := by decide +kernel
theorem dX3_carryOut_44 : decode cX3_carryOut 44 = .ok (.goto 4, 3) := by decide +kernel
theorem dX3_carryOut_47 : decode cX3_carryOut 47 = .ok (.iconst 0, 1) := by decide +kernel
theorem dX3_carryOut_48 : decode cX3_carryOut 48 = .ok (.istore_n 3, 1) := by decide +kernel
theorem dX3_carryOut_49 : decode cX3_carryOut 49 = .ok (.iload_n 3, 1) := by decide +kernel
theorem dX3_carryOut_50 : decode cX3_carryOut 50 = .ok (.ifCond .eq 10, 3) := by decide +kernel
theorem dX3_carryOut_53 : decode cX3_carryOut 53 = .ok (.aload_n 0, 1) := by decide +kernel
theorem dX3_carryOut_54 : decode cX3_carryOut 54 = .ok (.invokevirtual 237, 3) := by decide +kernel
theorem dX3_carryOut_57 : decode cX3_carryOut 57 = .ok (.goto 5, 3) := by decide +kernel
theorem dX3_carryOut_60 : decode cX3_carryOut 60 = .ok (.bipush (-6), 2) := by decide +kernel
theorem dX3_carryOut_62 : decode cX3_carryOut 62 = .ok (.istore 4, 2) := by decide +kernel
theorem dX3_carryOut_64 : decode cX3_carryOut 64 = .ok (.iload_n 1, 1) := by decide +kernel
theorem dX3_carryOut_65 : decode cX3_carryOut 65 = .ok (.iload_n 3, 1) := by decide +kernel
theorem dX3_carryOut_66 : decode cX3_carryOut 66 = .ok (.invokestatic 56, 3) := by decide +kernel
theorem dX3_carryOut_69 : decode cX3_carryOut 69 = .ok (.iadd, 1) := by decide +kernel
theorem dX3_carryOut_70 : decode cX3_carryOut 70 = .ok (.istore_n 1, 1) := by decide +kernel
theorem dX3_carryOut_71 : decode cX3_carryOut 71 = .ok (.iload_n 3, 1) := by decide +kernel
theorem dX3_carryOut_72 : decode cX3_carryOut 72 = .ok (.ifCond .eq 16, 3) := by decide +kernel
theorem dX3_carryOut_75 : decode cX3_carryOut 75 = .ok (.aload_n 0, 1) := by decide +kernel
theorem dX3_carryOut_76 : decode cX3_carryOut 76 = .ok (.bipush 59, 2) := by decide +kernel
theorem dX3_carryOut_78 : decode cX3_carryOut 78 = .ok (.invokevirtual 200, 3) := by decide +kernel
theorem dX3_carryOut_81 : decode cX3_carryOut 81 = .ok (.ifCond .eq 7, 3) := by decide +kernel
theorem dX3_carryOut_84 : decode cX3_carryOut 84 = .ok (.iconst 1, 1) := by decide +kernel
theorem dX3_carryOut_85 : decode cX3_carryOut 85 = .ok (.goto 4, 3) := by decide +kernel
theorem dX3_carryOut_88 : decode cX3_carryOut 88 = .ok (.iconst 0, 1) := by decide +kernel
theorem dX3_carryOut_89 : decode cX3_carryOut 89 = .ok (.istore_n 2, 1) := by decide +kernel
theorem dX3_carryOut_90 : decode cX3_carryOut 90 = .ok (.goto (-65), 3) := by decide +kernel
theorem dX3_carryOut_93 : decode cX3_carryOut 93 = .ok (.aload_n 0, 1) := by decide +kernel
theorem dX3_carryOut_94 : decode cX3_carryOut 94 = .ok (.iconst 0, 1) := by decide +kernel
theorem dX3_carryOut_95 : decode cX3_carryOut 95 = .ok (.putfield 165, 3) := by decide +kernel
theorem dX3_carryOut_98 : decode cX3_carryOut 98 = .ok (.iload_n 1, 1) := by decide +kernel
theorem dX3_carryOut_99 : decode cX3_carryOut 99 = .ok (.ireturn, 1) := by decide +kernel
theorem dX3_undo_0 : decode cX3_undo 0 = .ok (.aload_n 0, 1) := by decide +kernel
theorem dX3_undo_1 : decode cX3_undo 1 = .ok (.getfield 30, 3) := by decide +kernel
theorem dX3_undo_4 : decode cX3_undo 4 = .ok (.ifCond .ne 6, 3) := by decide +kernel
theorem dX3_undo_7 : decode cX3_undo 7 = .ok (.bipush (-5), 2) := by decide +kernel
theorem dX3_undo_9 : decode cX3_undo 9 = .ok (.ireturn, 1) := by decide +kernel
theorem dX3_undo_10 : decode cX3_undo 10 = .ok (.aload_n 0, 1) := by decide +kernel
theorem dX3_undo_11 : decode cX3_undo 11 = .ok (.aload_n 0, 1) := by decide +kernel
theorem dX3_undo_12 : decode cX3_undo 12 = .ok (.getfield 30, 3) := by decide +kernel
theorem dX3_undo_15 : decode cX3_undo 15 = .ok (.iconst 0, 1) := by decide +kernel
theorem dX3_undo_16 : decode cX3_undo 16 = .ok (.invokevirtual 33, 3) := by decide +kernel
theorem dX3_undo_19 : decode cX3_undo 19 = .ok (.aload_n 0, 1) := by decide +kernel
theorem dX3_undo_20 : decode cX3_undo 20 = .ok (.dup, 1) := by decide +kernel
theorem dX3_undo_21 : decode cX3_undo 21 = .ok (.getfield 30, 3) := by decide +kernel
theorem dX3_undo_24 : decode cX3_undo 24 = .ok (.iconst 1, 1) := by decide +kernel
theorem dX3_undo_25 : decode cX3_undo 25 = .ok (.isub, 1) := by decide +kernel
theorem dX3_undo_26 : decode cX3_undo 26 = .ok (.putfield 30, 3) := by decide +kernel
theorem dX3_undo_29 : decode cX3_undo 29 = .ok (.aload_n 0, 1) := by decide +kernel
theorem dX3_undo_30 : decode cX3_undo 30 = .ok (.getfield 30, 3) := by decide +kernel
theorem dX3_undo_33 : decode cX3_undo 33 = .ok (.ireturn, 1) := by decide +kernel
theorem dX3_isSlot_0 : decode cX3_isSlot 0 = .ok (.iload_n 0, 1) := by decide +kernel
theorem dX3_isSlot_1 : decode cX3_isSlot 1 = .ok (.ifCond .eq 8, 3) := by decide +kernel
theorem dX3_isSlot_4 : decode cX3_isSlot 4 = .ok (.iload_n 0, 1) := by decide +kernel
theorem dX3_isSlot_5 : decode cX3_isSlot 5 = .ok (.iconst 1, 1) := by decide +kernel
theorem dX3_isSlot_6 : decode cX3_isSlot 6 = .ok (.if_icmp .ne 7, 3) := by decide +kernel
theorem dX3_isSlot_9 : decode cX3_isSlot 9 = .ok (.iconst 1, 1) := by decide +kernel
theorem dX3_isSlot_10 : decode cX3_isSlot 10 = .ok (.goto 4, 3) := by decide +kernel
theorem dX3_isSlot_13 : decode cX3_isSlot 13 = .ok (.iconst 0, 1) := by decide +kernel
theorem dX3_isSlot_14 : decode cX3_isSlot 14 = .ok (.ireturn, 1) := by decide +kernel
theorem dX3_save_0 : decode cX3_save 0 = .ok (.iload_n 1, 1) := by decide +kernel
theorem dX3_save_1 : decode cX3_save 1 = .ok (.invokestatic 240, 3) := by decide +kernel
theorem dX3_save_4 : decode cX3_save 4 = .ok (.ifCond .ne 6, 3) := by decide +kernel
theorem dX3_save_7 : decode cX3_save 7 = .ok (.bipush (-2), 2) := by decide +kernel
theorem dX3_save_9 : decode cX3_save 9 = .ok (.ireturn, 1) := by decide +kernel
theorem dX3_save_10 : decode cX3_save 10 = .ok (.aload_n 0, 1) := by decide +kernel
theorem dX3_save_11 : decode cX3_save 11 = .ok (.iconst 0, 1) := by decide +kernel
theorem dX3_save_12 : decode cX3_save 12 = .ok (.bipush 7, 2) := by decide +kernel
theorem dX3_save_14 : decode cX3_save 14 = .ok (.iload_n 1, 1) := by decide +kernel
theorem dX3_save_15 : decode cX3_save 15 = .ok (.iadd, 1) := by decide +kernel
theorem dX3_save_16 : decode cX3_save 16 = .ok (.invokevirtual 33, 3) := by decide +kernel
theorem dX3_save_19 : decode cX3_save 19 = .ok (.aload_n 0, 1) := by decide +kernel
theorem dX3_save_20 : decode cX3_save 20 = .ok (.getfield 13, 3) := by decide +kernel
theorem dX3_save_23 : decode cX3_save 23 = .ok (.iload_n 1, 1) := by decide +kernel
theorem dX3_save_24 : decode cX3_save 24 = .ok (.iconst 1, 1) := by decide +kernel
theorem dX3_save_25 : decode cX3_save 25 = .ok (.bastore, 1) := by decide +kernel
theorem dX3_save_26 : decode cX3_save 26 = .ok (.aload_n 0, 1) := by decide +kernel
theorem dX3_save_27 : decode cX3_save 27 = .ok (.getfield 7, 3) := by decide +kernel
theorem dX3_save_30 : decode cX3_save 30 = .ok (.iconst 4, 1) := by decide +kernel
theorem dX3_save_31 : decode cX3_save 31 = .ok (.iaload, 1) := by decide +kernel
theorem dX3_save_32 : decode cX3_save 32 = .ok (.ireturn, 1) := by decide +kernel
theorem dX3_restore_0 : decode cX3_restore 0 = .ok (.iload_n 1, 1) := by decide +kernel
theorem dX3_restore_1 : decode cX3_restore 1 = .ok (.invokestatic 240, 3) := by decide +kernel
theorem dX3_restore_4 : decode cX3_restore 4 = .ok (.ifCond .ne 6, 3) := by decide +kernel
theorem dX3_restore_7 : decode cX3_restore 7 = .ok (.bipush (-2), 2) := by decide +kernel
theorem dX3_restore_9 : decode cX3_restore 9 = .ok (.ireturn, 1) := by decide +kernel
theorem dX3_restore_10 : decode cX3_restore 10 = .ok (.aload_n 0, 1) := by decide +kernel
theorem dX3_restore_11 : decode cX3_restore 11 = .ok (.getfield 13, 3) := by decide +kernel
theorem dX3_restore_14 : decode cX3_restore 14 = .ok (.iload_n 1, 1) := by decide +kernel
theorem dX3_restore_15 : decode cX3_restore 15 = .ok (.baload, 1) := by decide +kernel
theorem dX3_restore_16 : decode cX3_restore 16 = .ok (.ifCond .ne 6, 3) := by decide +kernel
theorem dX3_restore_19 : decode cX3_restore 19 = .ok (.bipush (-5), 2) := by decide +kernel
theorem dX3_restore_21 : decode cX3_restore 21 = .ok (.ireturn, 1) := by decide +kernel
theorem dX3_restore_22 : decode cX3_restore 22 = .ok (.aload_n 0, 1) := by decide +kernel
theorem dX3_restore_23 : decode cX3_restore 23 = .ok (.invokevirtual 118, 3) := by decide +kernel
theorem dX3_restore_26 : decode cX3_restore 26 = .ok (.aload_n 0, 1) := by decide +kernel
theorem dX3_restore_27 : decode cX3_restore 27 = .ok (.bipush 7, 2) := by decide +kernel
theorem dX3_restore_29 : decode cX3_restore 29 = .ok (.iload_n 1, 1) := by decide +kernel
theorem dX3_restore_30 : decode cX3_restore 30 = .ok (.iadd, 1) := by decide +kernel
theorem dX3_restore_31 : decode cX3_restore 31 = .ok (.iconst 0, 1) := by decide +kernel
theorem dX3_restore_32 : decode cX3_restore 32 = .ok (.invokevirtual 33, 3) := by decide +kernel
theorem dX3_restore_35 : decode cX3_restore 35 = .ok (.aload_n 0, 1) := by decide +kernel
theorem dX3_restore_36 : decode cX3_restore 36 = .ok (.getfield 7, 3) := by decide +kernel
theorem dX3_restore_39 : decode cX3_restore 39 = .ok (.iconst 4, 1) := by decide +kernel
theorem dX3_restore_40 : decode cX3_restore 40 = .ok (.iaload, 1) := by decide +kernel
theorem dX3_restore_41 : decode cX3_restore 41 = .ok (.ireturn, 1) := by decide +kernel
