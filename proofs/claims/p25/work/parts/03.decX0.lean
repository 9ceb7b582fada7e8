theorem dX0_init_0 : decode cX0_init 0 = .ok (.aload_n 0, 1) := by decide +kernel
theorem dX0_init_1 : decode cX0_init 1 = .ok (.invokespecial 5, 3) := by decide +kernel
theorem dX0_init_4 : decode cX0_init 4 = .ok (.aload_n 0, 1) := by decide +kernel
theorem dX0_init_5 : decode cX0_init 5 = .ok (.bipush 125, 2) := by decide +kernel
theorem dX0_init_7 : decode cX0_init 7 = .ok (.newarray .int, 2) := by decide +kernel
theorem dX0_init_9 : decode cX0_init 9 = .ok (.putfield 11, 3) := by decide +kernel
theorem dX0_init_12 : decode cX0_init 12 = .ok (.aload_n 0, 1) := by decide +kernel
theorem dX0_init_13 : decode cX0_init 13 = .ok (.bipush 10, 2) := by decide +kernel
theorem dX0_init_15 : decode cX0_init 15 = .ok (.newarray .int, 2) := by decide +kernel
theorem dX0_init_17 : decode cX0_init 17 = .ok (.putfield 15, 3) := by decide +kernel
theorem dX0_init_20 : decode cX0_init 20 = .ok (.aload_n 0, 1) := by decide +kernel
theorem dX0_init_21 : decode cX0_init 21 = .ok (.getfield 11, 3) := by decide +kernel
theorem dX0_init_24 : decode cX0_init 24 = .ok (.iconst 0, 1) := by decide +kernel
theorem dX0_init_25 : decode cX0_init 25 = .ok (.iconst 1, 1) := by decide +kernel
theorem dX0_init_26 : decode cX0_init 26 = .ok (.iastore, 1) := by decide +kernel
theorem dX0_init_27 : decode cX0_init 27 = .ok (.aload_n 0, 1) := by decide +kernel
theorem dX0_init_28 : decode cX0_init 28 = .ok (.getfield 11, 3) := by decide +kernel
theorem dX0_init_31 : decode cX0_init 31 = .ok (.iconst 1, 1) := by decide +kernel
theorem dX0_init_32 : decode cX0_init 32 = .ok (.iconst 2, 1) := by decide +kernel
theorem dX0_init_33 : decode cX0_init 33 = .ok (.iastore, 1) := by decide +kernel
theorem dX0_init_34 : decode cX0_init 34 = .ok (.aload_n 0, 1) := by decide +kernel
theorem dX0_init_35 : decode cX0_init 35 = .ok (.getfield 11, 3) := by decide +kernel
theorem dX0_init_38 : decode cX0_init 38 = .ok (.iconst 2, 1) := by decide +kernel
theorem dX0_init_39 : decode cX0_init 39 = .ok (.bipush 10, 2) := by decide +kernel
theorem dX0_init_41 : decode cX0_init 41 = .ok (.iastore, 1) := by decide +kernel
theorem dX0_init_42 : decode cX0_init 42 = .ok (.return_, 1) := by decide +kernel
theorem dX0_copyFrom_0 : decode cX0_copyFrom 0 = .ok (.aload_n 1, 1) := by decide +kernel
theorem dX0_copyFrom_1 : decode cX0_copyFrom 1 = .ok (.getfield 11, 3) := by decide +kernel
theorem dX0_copyFrom_4 : decode cX0_copyFrom 4 = .ok (.iconst 0, 1) := by decide +kernel
theorem dX0_copyFrom_5 : decode cX0_copyFrom 5 = .ok (.aload_n 0, 1) := by decide +kernel
theorem dX0_copyFrom_6 : decode cX0_copyFrom 6 = .ok (.getfield 11, 3) := by decide +kernel
theorem dX0_copyFrom_9 : decode cX0_copyFrom 9 = .ok (.iconst 0, 1) := by decide +kernel
theorem dX0_copyFrom_10 : decode cX0_copyFrom 10 = .ok (.bipush 125, 2) := by decide +kernel
theorem dX0_copyFrom_12 : decode cX0_copyFrom 12 = .ok (.invokestatic 18, 3) := by decide +kernel
theorem dX0_copyFrom_15 : decode cX0_copyFrom 15 = .ok (.return_, 1) := by decide +kernel
theorem dX0_readFrom_0 : decode cX0_readFrom 0 = .ok (.aload_n 1, 1) := by decide +kernel
theorem dX0_readFrom_1 : decode cX0_readFrom 1 = .ok (.arraylength, 1) := by decide +kernel
theorem dX0_readFrom_2 : decode cX0_readFrom 2 = .ok (.bipush 125, 2) := by decide +kernel
theorem dX0_readFrom_4 : decode cX0_readFrom 4 = .ok (.if_icmp .lt 15, 3) := by decide +kernel
theorem dX0_readFrom_7 : decode cX0_readFrom 7 = .ok (.aload_n 1, 1) := by decide +kernel
theorem dX0_readFrom_8 : decode cX0_readFrom 8 = .ok (.iconst 0, 1) := by decide +kernel
theorem dX0_readFrom_9 : decode cX0_readFrom 9 = .ok (.aload_n 0, 1) := by decide +kernel
theorem dX0_readFrom_10 : decode cX0_readFrom 10 = .ok (.getfield 11, 3) := by decide +kernel
theorem dX0_readFrom_13 : decode cX0_readFrom 13 = .ok (.iconst 0, 1) := by decide +kernel
theorem dX0_readFrom_14 : decode cX0_readFrom 14 = .ok (.bipush 125, 2) := by decide +kernel
theorem dX0_readFrom_16 : decode cX0_readFrom 16 = .ok (.invokestatic 18, 3) := by decide +kernel
theorem dX0_readFrom_19 : decode cX0_readFrom 19 = .ok (.return_, 1) := by decide +kernel
theorem dX0_writeTo_0 : decode cX0_writeTo 0 = .ok (.aload_n 1, 1) := by decide +kernel
theorem dX0_writeTo_1 : decode cX0_writeTo 1 = .ok (.arraylength, 1) := by decide +kernel
theorem dX0_writeTo_2 : decode cX0_writeTo 2 = .ok (.bipush 125, 2) := by decide +kernel
theorem dX0_writeTo_4 : decode cX0_writeTo 4 = .ok (.if_icmp .lt 15, 3) := by decide +kernel
theorem dX0_writeTo_7 : decode cX0_writeTo 7 = .ok (.aload_n 0, 1) := by decide +kernel
theorem dX0_writeTo_8 : decode cX0_writeTo 8 = .ok (.getfield 11, 3) := by decide +kernel
theorem dX0_writeTo_11 : decode cX0_writeTo 11 = .ok (.iconst 0, 1) := by decide +kernel
theorem dX0_writeTo_12 : decode cX0_writeTo 12 = .ok (.aload_n 1, 1) := by decide +kernel
theorem dX0_writeTo_13 : decode cX0_writeTo 13 = .ok (.iconst 0, 1) := by decide +kernel
theorem dX0_writeTo_14 : decode cX0_writeTo 14 = .ok (.bipush 125, 2) := by decide +kernel
theorem dX0_writeTo_16 : decode cX0_writeTo 16 = .ok (.invokestatic 18, 3) := by decide +kernel
theorem dX0_writeTo_19 : decode cX0_writeTo 19 = .ok (.return_, 1) := by decide +kernel
theorem dX0_boards_0 : decode cX0_boards 0 = .ok (.aload_n 0, 1) := by decide +kernel
theorem dX0_boards_1 : decode cX0_boards 1 = .ok (.getfield 11, 3) := by decide +kernel
theorem dX0_boards_4 : decode cX0_boards 4 = .ok (.iconst 4, 1) := by decide +kernel
theorem dX0_boards_5 : decode cX0_boards 5 = .ok (.iaload, 1) := by decide +kernel
theorem dX0_boards_6 : decode cX0_boards 6 = .ok (.ireturn, 1) := by decide +kernel
theorem dX0_isBoard_0 : decode cX0_isBoard 0 = .ok (.iload_n 1, 1) := by decide +kernel
theorem dX0_isBoard_1 : decode cX0_isBoard 1 = .ok (.ifCond .lt 17, 3) := by decide +kernel
theorem dX0_isBoard_4 : decode cX0_isBoard 4 = .ok (.iload_n 1, 1) := by decide +kernel
theorem dX0_isBoard_5 : decode cX0_isBoard 5 = .ok (.aload_n 0, 1) := by decide +kernel
theorem dX0_isBoard_6 : decode cX0_isBoard 6 = .ok (.getfield 11, 3) := by decide +kernel
theorem dX0_isBoard_9 : decode cX0_isBoard 9 = .ok (.iconst 4, 1) := by decide +kernel
theorem dX0_isBoard_10 : decode cX0_isBoard 10 = .ok (.iaload, 1) := by decide +kernel
theorem dX0_isBoard_11 : decode cX0_isBoard 11 = .ok (.if_icmp .ge 7, 3) := by decide +kernel
theorem dX0_isBoard_14 : decode cX0_isBoard 14 = .ok (.iconst 1, 1) := by decide +kernel
theorem dX0_isBoard_15 : decode cX0_isBoard 15 = .ok (.goto 4, 3) := by decide +kernel
theorem dX0_isBoard_18 : decode cX0_isBoard 18 = .ok (.iconst 0, 1) := by decide +kernel
theorem dX0_isBoard_19 : decode cX0_isBoard 19 = .ok (.ireturn, 1) := by decide +kernel
theorem dX0_isLoad_0 : decode cX0_isLoad 0 = .ok (.iload_n 1, 1) := by decide +kernel
theorem dX0_isLoad_1 : decode cX0_isLoad 1 = .ok (.ifCond .lt 17, 3) := by decide +kernel
theorem dX0_isLoad_4 : decode cX0_isLoad 4 = .ok (.iload_n 1, 1) := by decide +kernel
theorem dX0_isLoad_5 : decode cX0_isLoad 5 = .ok (.aload_n 0, 1) := by decide +kernel
theorem dX0_isLoad_6 : decode cX0_isLoad 6 = .ok (.getfield 11, 3) := by decide +kernel
theorem dX0_isLoad_9 : decode cX0_isLoad 9 = .ok (.iconst 5, 1) := by decide +kernel
theorem dX0_isLoad_10 : decode cX0_isLoad 10 = .ok (.iaload, 1) := by decide +kernel
theorem dX0_isLoad_11 : decode cX0_isLoad 11 = .ok (.if_icmp .ge 7, 3) := by decide +kernel
theorem dX0_isLoad_14 : decode cX0_isLoad 14 = .ok (.iconst 1, 1) := by decide +kernel
theorem dX0_isLoad_15 : decode cX0_isLoad 15 = .ok (.goto 4, 3) := by decide +kernel
theorem dX0_isLoad_18 : decode cX0_isLoad 18 = .ok (.iconst 0, 1) := by decide +kernel
theorem dX0_isLoad_19 : decode cX0_isLoad 19 = .ok (.ireturn, 1) := by decide +kernel
theorem dX0_rating_0 : decode cX0_rating 0 = .ok (.aload_n 0, 1) := by decide +kernel
theorem dX0_rating_1 : decode cX0_rating 1 = .ok (.iload_n 1, 1) := by decide +kernel
theorem dX0_rating_2 : decode cX0_rating 2 = .ok (.invokevirtual 24, 3) := by decide +kernel
theorem dX0_rating_5 : decode cX0_rating 5 = .ok (.ifCond .eq 15, 3) := by decide +kernel
theorem dX0_rating_8 : decode cX0_rating 8 = .ok (.aload_n 0, 1) := by decide +kernel
theorem dX0_rating_9 : decode cX0_rating 9 = .ok (.getfield 11, 3) := by decide +kernel
theorem dX0_rating_12 : decode cX0_rating 12 = .ok (.bipush 27, 2) := by decide +kernel
theorem dX0_rating_14 : decode cX0_rating 14 = .ok (.iload_n 1, 1) := by decide +kernel
theorem dX0_rating_15 : decode cX0_rating 15 = .ok (.iadd, 1) := by decide +kernel
theorem dX0_rating_16 : decode cX0_rating 16 = .ok (.iaload, 1) := by decide +kernel
theorem dX0_rating_17 : decode cX0_rating 17 = .ok (.goto 4, 3) := by decide +kernel
theorem dX0_rating_20 : decode cX0_rating 20 = .ok (.iconst 0, 1) := by decide +kernel
theorem dX0_rating_21 : decode cX0_rating 21 = .ok (.ireturn, 1) := by decide +kernel
theorem dX0_changeSetting_0 : decode cX0_changeSetting 0 = .ok (.iload_n 1, 1) := by decide +kernel
theorem dX0_changeSetting_1 : decode cX0_changeSetting 1 = .ok (.ifCond .lt 8, 3) := by decide +kernel
theorem dX0_changeSetting_4 : decode cX0_changeSetting 4 = .ok (.iload_n 1, 1) := by decide +kernel
theorem dX0_changeSetting_5 : decode cX0_changeSetting 5 = .ok (.iconst 2, 1) := by decide +kernel
theorem dX0_changeSetting_6 : decode cX0_changeSetting 6 = .ok (.if_icmp .le 6, 3) := by decide +kernel
theorem dX0_changeSetting_9 : decode cX0_changeSetting 9 = .ok (.bipush (-2), 2) := by decide +kernel
theorem dX0_changeSetting_11 : decode cX0_changeSetting 11 = .ok (.ireturn, 1) := by decide +kernel
theorem dX0_changeSetting_12 : decode cX0_changeSetting 12 = .ok (.iload_n 2, 1) := by decide +kernel
theorem dX0_changeSetting_13 : decode cX0_changeSetting 13 = .ok (.getstatic 28, 3) := by decide +kernel
theorem dX0_changeSetting_16 : decode cX0_changeSetting 16 = .ok (.iload_n 1, 1) := by decide +kernel
theorem dX0_changeSetting_17 : decode cX0_changeSetting 17 = .ok (.iaload, 1) := by decide +kernel
theorem dX0_changeSetting_18 : decode cX0_changeSetting 18 = .ok (.if_icmp .lt 12, 3) := by decide +kernel
theorem dX0_changeSetting_21 : decode cX0_changeSetting 21 = .ok (.iload_n 2, 1) := by decide +kernel
theorem dX0_changeSetting_22 : decode cX0_changeSetting 22 = .ok (.getstatic 31, 3) := by decide +kernel
theorem dX0_changeSetting_25 : decode cX0_changeSetting 25 = .ok (.iload_n 1, 1) := by decide +kernel
theorem dX0_changeSetting_26 : decode cX0_changeSetting 26 = .ok (.iaload, 1) := by decide +kernel
theorem dX0_changeSetting_27 : decode cX0_changeSetting 27 = .ok (.if_icmp .le 6, 3) := by decide +kernel
theorem dX0_changeSetting_30 : decode cX0_changeSetting 30 = .ok (.bipush (-2), 2) := by decide +kernel
theorem dX0_changeSetting_32 : decode cX0_changeSetting 32 = .ok (.ireturn, 1) := by decide +kernel
theorem dX0_changeSetting_33 : decode cX0_changeSetting 33 = .ok (.aload_n 0, 1) := by decide +kernel
theorem dX0_changeSetting_34 : decode cX0_changeSetting 34 = .ok (.getfield 11, 3) := by decide +kernel
theorem dX0_changeSetting_37 : decode cX0_changeSetting 37 = .ok (.iload_n 1, 1) := by decide +kernel
theorem dX0_changeSetting_38 : decode cX0_changeSetting 38 = .ok (.iaload, 1) := by decide +kernel
theorem dX0_changeSetting_39 : decode cX0_changeSetting 39 = .ok (.istore_n 3, 1) := by decide +kernel
theorem dX0_changeSetting_40 : decode cX0_changeSetting 40 = .ok (.aload_n 0, 1) := by decide +kernel
theorem dX0_changeSetting_41 : decode cX0_changeSetting 41 = .ok (.getfield 11, 3) := by decide +kernel
theorem dX0_changeSetting_44 : decode cX0_changeSetting 44 = .ok (.iload_n 1, 1) := by decide +kernel
theorem dX0_changeSetting_45 : decode cX0_changeSetting 45 = .ok (.iload_n 2, 1) := by decide +kernel
theorem dX0_changeSetting_46 : decode cX0_changeSetting 46 = .ok (.iastore, 1) := by decide +kernel
theorem dX0_changeSetting_47 : decode cX0_changeSetting 47 = .ok (.iload_n 3, 1) := by decide +kernel
theorem dX0_changeSetting_48 : decode cX0_changeSetting 48 = .ok (.ireturn, 1) := by decide +kernel
theorem dX0_addBoard_0 : decode cX0_addBoard 0 = .ok (.aload_n 0, 1) := by decide +kernel
theorem dX0_addBoard_1 : decode cX0_addBoard 1 = .ok (.getfield 11, 3) := by decide +kernel
theorem dX0_addBoard_4 : decode cX0_addBoard 4 = .ok (.iconst 4, 1) := by decide +kernel
theorem dX0_addBoard_5 : decode cX0_addBoard 5 = .ok (.iaload, 1) := by decide +kernel
theorem dX0_addBoard_6 : decode cX0_addBoard 6 = .ok (.istore 4, 2) := by decide +kernel
theorem dX0_addBoard_8 : decode cX0_addBoard 8 = .ok (.iload 4, 2) := by decide +kernel
theorem dX0_addBoard_10 : decode cX0_addBoard 10 = .ok (.ifCond .le 13, 3) := by decide +kernel
theorem dX0_addBoard_13 : decode cX0_addBoard 13 = .ok (.aload_n 0, 1) := by decide +kernel
theorem dX0_addBoard_14 : decode cX0_addBoard 14 = .ok (.iload_n 1, 1) := by decide +kernel
theorem dX0_addBoard_15 : decode cX0_addBoard 15 = .ok (.invokevirtual 24, 3) := by decide +kernel
theorem dX0_addBoard_18 : decode cX0_addBoard 18 = .ok (.ifCond .ne 5, 3) := by decide +kernel
theorem dX0_addBoard_21 : decode cX0_addBoard 21 = .ok (.iconst (-1), 1) := by decide +kernel
theorem dX0_addBoard_22 : decode cX0_addBoard 22 = .ok (.ireturn, 1) := by decide +kernel
theorem dX0_addBoard_23 : decode cX0_addBoard 23 = .ok (.iload_n 2, 1) := by decide +kernel
theorem dX0_addBoard_24 : decode cX0_addBoard 24 = .ok (.iload_n 3, 1) := by decide +kernel
theorem dX0_addBoard_25 : decode cX0_addBoard 25 = .ok (.invokestatic 34, 3) := by decide +kernel
theorem dX0_addBoard_28 : decode cX0_addBoard 28 = .ok (.ifCond .ne 6, 3) := by decide +kernel
theorem dX0_addBoard_31 : decode cX0_addBoard 31 = .ok (.bipush (-2), 2) := by decide +kernel
theorem dX0_addBoard_33 : decode cX0_addBoard 33 = .ok (.ireturn, 1) := by decide +kernel
theorem dX0_addBoard_34 : decode cX0_addBoard 34 = .ok (.iload 4, 2) := by decide +kernel
theorem dX0_addBoard_36 : decode cX0_addBoard 36 = .ok (.bipush 10, 2) := by decide +kernel
theorem dX0_addBoard_38 : decode cX0_addBoard 38 = .ok (.if_icmp .lt 6, 3) := by decide +kernel
theorem dX0_addBoard_41 : decode cX0_addBoard 41 = .ok (.bipush (-4), 2) := by decide +kernel
theorem dX0_addBoard_43 : decode cX0_addBoard 43 = .ok (.ireturn, 1) := by decide +kernel
theorem dX0_addBoard_44 : decode cX0_addBoard 44 = .ok (.aload_n 0, 1) := by decide +kernel
theorem dX0_addBoard_45 : decode cX0_addBoard 45 = .ok (.getfield 11, 3) := by decide +kernel
theorem dX0_addBoard_48 : decode cX0_addBoard 48 = .ok (.bipush 17, 2) := by decide +kernel
theorem dX0_addBoard_50 : decode cX0_addBoard 50 = .ok (.iload 4, 2) := by decide +kernel
theorem dX0_addBoard_52 : decode cX0_addBoard 52 = .ok (.iadd, 1) := by decide +kernel
theorem dX0_addBoard_53 : decode cX0_addBoard 53 = .ok (.iload 4, 2) := by decide +kernel
theorem dX0_addBoard_55 : decode cX0_addBoard 55 = .ok (.ifCond .ne 7, 3) := by decide +kernel
theorem dX0_addBoard_58 : decode cX0_addBoard 58 = .ok (.iconst 0, 1) := by decide +kernel
theorem dX0_addBoard_59 : decode cX0_addBoard 59 = .ok (.goto 4, 3) := by decide +kernel
theorem dX0_addBoard_62 : decode cX0_addBoard 62 = .ok (.iload_n 1, 1) := by decide +kernel
theorem dX0_addBoard_63 : decode cX0_addBoard 63 = .ok (.iastore, 1) := by decide +kernel
theorem dX0_addBoard_64 : decode cX0_addBoard 64 = .ok (.aload_n 0, 1) := by decide +kernel
theorem dX0_addBoard_65 : decode cX0_addBoard 65 = .ok (.iload 4, 2) := by decide +kernel
theorem dX0_addBoard_67 : decode cX0_addBoard 67 = .ok (.iload_n 2, 1) := by decide +kernel
theorem dX0_addBoard_68 : decode cX0_addBoard 68 = .ok (.iload_n 3, 1) := by decide +kernel
theorem dX0_addBoard_69 : decode cX0_addBoard 69 = .ok (.invokevirtual 38, 3) := by decide +kernel
theorem dX0_addBoard_72 : decode cX0_addBoard 72 = .ok (.aload_n 0, 1) := by decide +kernel
theorem dX0_addBoard_73 : decode cX0_addBoard 73 = .ok (.getfield 11, 3) := by decide +kernel
theorem dX0_addBoard_76 : decode cX0_addBoard 76 = .ok (.iconst 4, 1) := by decide +kernel
theorem dX0_addBoard_77 : decode cX0_addBoard 77 = .ok (.iload 4, 2) := by decide +kernel
theorem dX0_addBoard_79 : decode cX0_addBoard 79 = .ok (.iconst 1, 1) := by decide +kernel
theorem dX0_addBoard_80 : decode cX0_addBoard 80 = .ok (.iadd, 1) := by decide +kernel
theorem dX0_addBoard_81 : decode cX0_addBoard 81 = .ok (.iastore, 1) := by decide +kernel
theorem dX0_addBoard_82 : decode cX0_addBoard 82 = .ok (.iload 4, 2) := by decide +kernel
theorem dX0_addBoard_84 : decode cX0_addBoard 84 = .ok (.ireturn, 1) := by decide +kernel
theorem dX0_addLoad_0 : decode cX0_addLoad 0 = .ok (.aload_n 0, 1) := by decide +kernel
theorem dX0_addLoad_1 : decode cX0_addLoad 1 = .ok (.getfield 11, 3) := by decide +kernel
theorem dX0_addLoad_4 : decode cX0_addLoad 4 = .ok (.iconst 5, 1) := by decide +kernel
theorem dX0_addLoad_5 : decode cX0_addLoad 5 = .ok (.iaload, 1) := by decide +kernel
theorem dX0_addLoad_6 : decode cX0_addLoad 6 = .ok (.istore_n 3, 1) := by decide +kernel
theorem dX0_addLoad_7 : decode cX0_addLoad 7 = .ok (.aload_n 0, 1) := by decide +kernel
theorem dX0_addLoad_8 : decode cX0_addLoad 8 = .ok (.iload_n 1, 1) := by decide +kernel
theorem dX0_addLoad_9 : decode cX0_addLoad 9 = .ok (.invokevirtual 24, 3) := by decide +kernel
theorem dX0_addLoad_12 : decode cX0_addLoad 12 = .ok (.ifCond .ne 5, 3) := by decide +kernel
theorem dX0_addLoad_15 : decode cX0_addLoad 15 = .ok (.iconst (-1), 1) := by decide +kernel
theorem dX0_addLoad_16 : decode cX0_addLoad 16 = .ok (.ireturn, 1) := by decide +kernel
theorem dX0_addLoad_17 : decode cX0_addLoad 17 = .ok (.iload_n 2, 1) := by decide +kernel
theorem dX0_addLoad_18 : decode cX0_addLoad 18 = .ok (.iconst 1, 1) := by decide +kernel
theorem dX0_addLoad_19 : decode cX0_addLoad 19 = .ok (.if_icmp .lt 10, 3) := by decide +kernel
theorem dX0_addLoad_22 : decode cX0_addLoad 22 = .ok (.iload_n 2, 1) := by decide +kernel
theorem dX0_addLoad_23 : decode cX0_addLoad 23 = .ok (.sipush 200, 3) := by decide +kernel
theorem dX0_addLoad_26 : decode cX0_addLoad 26 = .ok (.if_icmp .le 6, 3) := by decide +kernel
theorem dX0_addLoad_29 : decode cX0_addLoad 29 = .ok (.bipush (-2), 2) := by decide +kernel
theorem dX0_addLoad_31 : decode cX0_addLoad 31 = .ok (.ireturn, 1) := by decide +kernel
theorem dX0_addLoad_32 : decode cX0_addLoad 32 = .ok (.iload_n 3, 1) := by decide +kernel
theorem dX0_addLoad_33 : decode cX0_addLoad 33 = .ok (.bipush 14, 2) := by decide +kernel
theorem dX0_addLoad_35 : decode cX0_addLoad 35 = .ok (.if_icmp .lt 6, 3) := by decide +kernel
theorem dX0_addLoad_38 : decode cX0_addLoad 38 = .ok (.bipush (-4), 2) := by decide +kernel
theorem dX0_addLoad_40 : decode cX0_addLoad 40 = .ok (.ireturn, 1) := by decide +kernel
theorem dX0_addLoad_41 : decode cX0_addLoad 41 = .ok (.aload_n 0, 1) := by decide +kernel
theorem dX0_addLoad_42 : decode cX0_addLoad 42 = .ok (.getfield 11, 3) := by decide +kernel
theorem dX0_addLoad_45 : decode cX0_addLoad 45 = .ok (.bipush 97, 2) := by decide +kernel
theorem dX0_addLoad_47 : decode cX0_addLoad 47 = .ok (.iload_n 3, 1) := by decide +kernel
theorem dX0_addLoad_48 : decode cX0_addLoad 48 = .ok (.iadd, 1) := by decide +kernel
theorem dX0_addLoad_49 : decode cX0_addLoad 49 = .ok (.iload_n 1, 1) := by decide +kernel
theorem dX0_addLoad_50 : decode cX0_addLoad 50 = .ok (.iastore, 1) := by decide +kernel
theorem dX0_addLoad_51 : decode cX0_addLoad 51 = .ok (.aload_n 0, 1) := by decide +kernel
theorem dX0_addLoad_52 : decode cX0_addLoad 52 = .ok (.getfield 11, 3) := by decide +kernel
theorem dX0_addLoad_55 : decode cX0_addLoad 55 = .ok (.bipush 111, 2) := by decide +kernel
theorem dX0_addLoad_57 : decode cX0_addLoad 57 = .ok (.iload_n 3, 1) := by decide +kernel
theorem dX0_addLoad_58 : decode cX0_addLoad 58 = .ok (.iadd, 1) := by decide +kernel
theorem dX0_addLoad_59 : decode cX0_addLoad 59 = .ok (.iload_n 2, 1) := by decide +kernel
theorem dX0_addLoad_60 : decode cX0_addLoad 60 = .ok (.iastore, 1) := by decide +kernel
theorem dX0_addLoad_61 : decode cX0_addLoad 61 = .ok (.aload_n 0, 1) := by decide +kernel
theorem dX0_addLoad_62 : decode cX0_addLoad 62 = .ok (.getfield 11, 3) := by decide +kernel
theorem dX0_addLoad_65 : decode cX0_addLoad 65 = .ok (.iconst 5, 1) := by decide +kernel
theorem dX0_addLoad_66 : decode cX0_addLoad 66 = .ok (.iload_n 3, 1) := by decide +kernel
theorem dX0_addLoad_67 : decode cX0_addLoad 67 = .ok (.iconst 1, 1) := by decide +kernel
theorem dX0_addLoad_68 : decode cX0_addLoad 68 = .ok (.iadd, 1) := by decide +kernel
theorem dX0_addLoad_69 : decode cX0_addLoad 69 = .ok (.iastore, 1) := by decide +kernel
theorem dX0_addLoad_70 : decode cX0_addLoad 70 = .ok (.iload_n 3, 1) := by decide +kernel
theorem dX0_addLoad_71 : decode cX0_addLoad 71 = .ok (.ireturn, 1) := by decide +kernel
theorem dX0_switchLoad_0 : decode cX0_switchLoad 0 = .ok (.aload_n 0, 1) := by decide +kernel
theorem dX0_switchLoad_1 : decode cX0_switchLoad 1 = .ok (.iload_n 1, 1) := by decide +kernel
theorem dX0_switchLoad_2 : decode cX0_switchLoad 2 = .ok (.invokevirtual 42, 3) := by decide +kernel
theorem dX0_switchLoad_5 : decode cX0_switchLoad 5 = .ok (.ifCond .ne 5, 3) := by decide +kernel
theorem dX0_switchLoad_8 : decode cX0_switchLoad 8 = .ok (.iconst (-1), 1) := by decide +kernel
theorem dX0_switchLoad_9 : decode cX0_switchLoad 9 = .ok (.ireturn, 1) := by decide +kernel
theorem dX0_switchLoad_10 : decode cX0_switchLoad 10 = .ok (.aload_n 0, 1) := by decide +kernel
theorem dX0_switchLoad_11 : decode cX0_switchLoad 11 = .ok (.getfield 11, 3) := by decide +kernel
theorem dX0_switchLoad_14 : decode cX0_switchLoad 14 = .ok (.bipush 6, 2) := by decide +kernel
theorem dX0_switchLoad_16 : decode cX0_switchLoad 16 = .ok (.dup2, 1) := by decide +kernel
theorem dX0_switchLoad_17 : decode cX0_switchLoad 17 = .ok (.iaload, 1) := by decide +kernel
theorem dX0_switchLoad_18 : decode cX0_switchLoad 18 = .ok (.iconst 1, 1) := by decide +kernel
theorem dX0_switchLoad_19 : decode cX0_switchLoad 19 = .ok (.iload_n 1, 1) := by decide +kernel
theorem dX0_switchLoad_20 : decode cX0_switchLoad 20 = .ok (.ishl, 1) := by decide +kernel
theorem dX0_switchLoad_21 : decode cX0_switchLoad 21 = .ok (.ixor, 1) := by decide +kernel
theorem dX0_switchLoad_22 : decode cX0_switchLoad 22 = .ok (.iastore, 1) := by decide +kernel
theorem dX0_switchLoad_23 : decode cX0_switchLoad 23 = .ok (.aload_n 0, 1) := by decide +kernel
theorem dX0_switchLoad_24 : decode cX0_switchLoad 24 = .ok (.getfield 11, 3) := by decide +kernel
theorem dX0_switchLoad_27 : decode cX0_switchLoad 27 = .ok (.bipush 6, 2) := by decide +kernel
theorem dX0_switchLoad_29 : decode cX0_switchLoad 29 = .ok (.iaload, 1) := by decide +kernel
theorem dX0_switchLoad_30 : decode cX0_switchLoad 30 = .ok (.iload_n 1, 1) := by decide +kernel
theorem dX0_switchLoad_31 : decode cX0_switchLoad 31 = .ok (.ishr, 1) := by decide +kernel
theorem dX0_switchLoad_32 : decode cX0_switchLoad 32 = .ok (.iconst 1, 1) := by decide +kernel
theorem dX0_switchLoad_33 : decode cX0_switchLoad 33 = .ok (.iand, 1) := by decide +kernel
theorem dX0_switchLoad_34 : decode cX0_switchLoad 34 = .ok (.ireturn, 1) := by decide +kernel
theorem dX0_changeFuse_0 : decode cX0_changeFuse 0 = .ok (.aload_n 0, 1) := by decide +kernel
theorem dX0_changeFuse_1 : decode cX0_changeFuse 1 = .ok (.iload_n 1, 1) := by decide +kernel
theorem dX0_changeFuse_2 : decode cX0_changeFuse 2 = .ok (.invokevirtual 24, 3) := by decide +kernel
theorem dX0_changeFuse_5 : decode cX0_changeFuse 5 = .ok (.ifCond .ne 5, 3) := by decide +kernel
theorem dX0_changeFuse_8 : decode cX0_changeFuse 8 = .ok (.iconst (-1), 1) := by decide +kernel
theorem dX0_changeFuse_9 : decode cX0_changeFuse 9 = .ok (.ireturn, 1) := by decide +kernel
theorem dX0_changeFuse_10 : decode cX0_changeFuse 10 = .ok (.iload_n 2, 1) := by decide +kernel
theorem dX0_changeFuse_11 : decode cX0_changeFuse 11 = .ok (.iload_n 3, 1) := by decide +kernel
theorem dX0_changeFuse_12 : decode cX0_changeFuse 12 = .ok (.invokestatic 34, 3) := by decide +kernel
theorem dX0_changeFuse_15 : decode cX0_changeFuse 15 = .ok (.ifCond .ne 6, 3) := by decide +kernel
theorem dX0_changeFuse_18 : decode cX0_changeFuse 18 = .ok (.bipush (-2), 2) := by decide +kernel
theorem dX0_changeFuse_20 : decode cX0_changeFuse 20 = .ok (.ireturn, 1) := by decide +kernel
theorem dX0_changeFuse_21 : decode cX0_changeFuse 21 = .ok (.aload_n 0, 1) := by decide +kernel
theorem dX0_changeFuse_22 : decode cX0_changeFuse 22 = .ok (.getfield 11, 3) := by decide +kernel
theorem dX0_changeFuse_25 : decode cX0_changeFuse 25 = .ok (.bipush 47, 2) := by decide +kernel
theorem dX0_changeFuse_27 : decode cX0_changeFuse 27 = .ok (.iload_n 1, 1) := by decide +kernel
theorem dX0_changeFuse_28 : decode cX0_changeFuse 28 = .ok (.iadd, 1) := by decide +kernel
theorem dX0_changeFuse_29 : decode cX0_changeFuse 29 = .ok (.iaload, 1) := by decide +kernel
theorem dX0_changeFuse_30 : decode cX0_changeFuse 30 = .ok (.ifCond .le 6, 3) := by decide +kernel
theorem dX0_changeFuse_33 : decode cX0_changeFuse 33 = .ok (.bipush (-5), 2) := by decide +kernel
theorem dX0_changeFuse_35 : decode cX0_changeFuse 35 = .ok (.ireturn, 1) := by decide +kernel
theorem dX0_changeFuse_36 : decode cX0_changeFuse 36 = .ok (.aload_n 0, 1) := by decide +kernel
theorem dX0_changeFuse_37 : decode cX0_changeFuse 37 = .ok (.getfield 11, 3) := by decide +kernel
theorem dX0_changeFuse_40 : decode cX0_changeFuse 40 = .ok (.bipush 27, 2) := by decide +kernel
theorem dX0_changeFuse_42 : decode cX0_changeFuse 42 = .ok (.iload_n 1, 1) := by decide +kernel
theorem dX0_changeFuse_43 : decode cX0_changeFuse 43 = .ok (.iadd, 1) := by decide +kernel
theorem dX0_changeFuse_44 : decode cX0_changeFuse 44 = .ok (.iaload, 1) := by decide +kernel
theorem dX0_changeFuse_45 : decode cX0_changeFuse 45 = .ok (.istore 4, 2) := by decide +kernel
theorem dX0_changeFuse_47 : decode cX0_changeFuse 47 = .ok (.aload_n 0, 1) := by decide +kernel
theorem dX0_changeFuse_48 : decode cX0_changeFuse 48 = .ok (.iload_n 1, 1) := by decide +kernel
theorem dX0_changeFuse_49 : decode cX0_changeFuse 49 = .ok (.iload_n 2, 1) := by decide +kernel
theorem dX0_changeFuse_50 : decode cX0_changeFuse 50 = .ok (.iload_n 3, 1) := by decide +kernel
theorem dX0_changeFuse_51 : decode cX0_changeFuse 51 = .ok (.invokevirtual 38, 3) := by decide +kernel
theorem dX0_changeFuse_54 : decode cX0_changeFuse 54 = .ok (.iload 4, 2) := by decide +kernel
theorem dX0_changeFuse_56 : decode cX0_changeFuse 56 = .ok (.ireturn, 1) := by decide +kernel
theorem dX0_letPass_0 : decode cX0_letPass 0 = .ok (.iload_n 1, 1) := by decide +kernel
theorem dX0_letPass_1 : decode cX0_letPass 1 = .ok (.iconst 1, 1) := by decide +kernel
theorem dX0_letPass_2 : decode cX0_letPass 2 = .ok (.if_icmp .lt 9, 3) := by decide +kernel
theorem dX0_letPass_5 : decode cX0_letPass 5 = .ok (.iload_n 1, 1) := by decide +kernel
theorem dX0_letPass_6 : decode cX0_letPass 6 = .ok (.bipush 99, 2) := by decide +kernel
theorem dX0_letPass_8 : decode cX0_letPass 8 = .ok (.if_icmp .le 6, 3) := by decide +kernel
theorem dX0_letPass_11 : decode cX0_letPass 11 = .ok (.bipush (-2), 2) := by decide +kernel
theorem dX0_letPass_13 : decode cX0_letPass 13 = .ok (.ireturn, 1) := by decide +kernel
theorem dX0_letPass_14 : decode cX0_letPass 14 = .ok (.aload_n 0, 1) := by decide +kernel
theorem dX0_letPass_15 : decode cX0_letPass 15 = .ok (.getfield 11, 3) := by decide +kernel
theorem dX0_letPass_18 : decode cX0_letPass 18 = .ok (.iconst 3, 1) := by decide +kernel
theorem dX0_letPass_19 : decode cX0_letPass 19 = .ok (.iaload, 1) := by decide +kernel
theorem dX0_letPass_20 : decode cX0_letPass 20 = .ok (.iload_n 1, 1) := by decide +kernel
theorem dX0_letPass_21 : decode cX0_letPass 21 = .ok (.iadd, 1) := by decide +kernel
theorem dX0_letPass_22 : decode cX0_letPass 22 = .ok (.sipush 9999, 3) := by decide +kernel
theorem dX0_letPass_25 : decode cX0_letPass 25 = .ok (.if_icmp .le 6, 3) := by decide +kernel
theorem dX0_letPass_28 : decode cX0_letPass 28 = .ok (.bipush (-5), 2) := by decide +kernel
theorem dX0_letPass_30 : decode cX0_letPass 30 = .ok (.ireturn, 1) := by decide +kernel
theorem dX0_letPass_31 : decode cX0_letPass 31 = .ok (.iconst 0, 1) := by decide +kernel
theorem dX0_letPass_32 : decode cX0_letPass 32 = .ok (.istore_n 2, 1) := by decide +kernel
theorem dX0_letPass_33 : decode cX0_letPass 33 = .ok (.iconst 0, 1) := by decide +kernel
theorem dX0_letPass_34 : decode cX0_letPass 34 = .ok (.istore_n 3, 1) := by decide +kernel
theorem dX0_letPass_35 : decode cX0_letPass 35 = .ok (.iload_n 3, 1) := by decide +kernel
theorem dX0_letPass_36 : decode cX0_letPass 36 = .ok (.iload_n 1, 1) := by decide +kernel
theorem dX0_letPass_37 : decode cX0_letPass 37 = .ok (.if_icmp .ge 19, 3) := by decide +kernel
theorem dX0_letPass_40 : decode cX0_letPass 40 = .ok (.iload_n 2, 1) := by decide +kernel
theorem dX0_letPass_41 : decode cX0_letPass 41 = .ok (.aload_n 0, 1) := by decide +kernel
theorem dX0_letPass_42 : decode cX0_letPass 42 = .ok (.invokevirtual 45, 3) := by decide +kernel
theorem dX0_letPass_45 : decode cX0_letPass 45 = .ok (.invokestatic 49, 3) := by decide +kernel
theorem dX0_letPass_48 : decode cX0_letPass 48 = .ok (.iadd, 1) := by decide +kernel
theorem dX0_letPass_49 : decode cX0_letPass 49 = .ok (.istore_n 2, 1) := by decide +kernel
theorem dX0_letPass_50 : decode cX0_letPass 50 = .ok (.iinc 3 1, 3) := by decide +kernel
theorem dX0_letPass_53 : decode cX0_letPass 53 = .ok (.goto (-18), 3) := by decide +kernel
theorem dX0_letPass_56 : decode cX0_letPass 56 = .ok (.iload_n 2, 1) := by decide +kernel
theorem dX0_letPass_57 : decode cX0_letPass 57 = .ok (.ireturn, 1) := by decide +kernel
theorem dX0_leaveOnlyFault_0 : decode cX0_leaveOnlyFault 0 = .ok (.aload_n 0, 1) := by decide +kernel
theorem dX0_leaveOnlyFault_1 : decode cX0_leaveOnlyFault 1 = .ok (.getfield 11, 3) := by decide +kernel
theorem dX0_leaveOnlyFault_4 : decode cX0_leaveOnlyFault 4 = .ok (.bipush 57, 2) := by decide +kernel
theorem dX0_leaveOnlyFault_6 : decode cX0_leaveOnlyFault 6 = .ok (.bipush 67, 2) := by decide +kernel
theorem dX0_leaveOnlyFault_8 : decode cX0_leaveOnlyFault 8 = .ok (.iconst 0, 1) := by decide +kernel
theorem dX0_leaveOnlyFault_9 : decode cX0_leaveOnlyFault 9 = .ok (.invokestatic 55, 3) := by decide +kernel
theorem dX0_leaveOnlyFault_12 : decode cX0_leaveOnlyFault 12 = .ok (.aload_n 0, 1) := by decide +kernel
theorem dX0_leaveOnlyFault_13 : decode cX0_leaveOnlyFault 13 = .ok (.getfield 11, 3) := by decide +kernel
theorem dX0_leaveOnlyFault_16 : decode cX0_leaveOnlyFault 16 = .ok (.bipush 97, 2) := by decide +kernel
theorem dX0_leaveOnlyFault_18 : decode cX0_leaveOnlyFault 18 = .ok (.iload_n 1, 1) := by decide +kernel
theorem dX0_leaveOnlyFault_19 : decode cX0_leaveOnlyFault 19 = .ok (.iastore, 1) := by decide +kernel
theorem dX0_leaveOnlyFault_20 : decode cX0_leaveOnlyFault 20 = .ok (.aload_n 0, 1) := by decide +kernel
theorem dX0_leaveOnlyFault_21 : decode cX0_leaveOnlyFault 21 = .ok (.getfield 11, 3) := by decide +kernel
theorem dX0_leaveOnlyFault_24 : decode cX0_leaveOnlyFault 24 = .ok (.bipush 111, 2) := by decide +kernel
theorem dX0_leaveOnlyFault_26 : decode cX0_leaveOnlyFault 26 = .ok (.iload_n 2, 1) := by decide +kernel
theorem dX0_leaveOnlyFault_27 : decode cX0_leaveOnlyFault 27 = .ok (.iastore, 1) := by decide +kernel
theorem dX0_leaveOnlyFault_28 : decode cX0_leaveOnlyFault 28 = .ok (.aload_n 0, 1) := by decide +kernel
theorem dX0_leaveOnlyFault_29 : decode cX0_leaveOnlyFault 29 = .ok (.getfield 11, 3) := by decide +kernel
theorem dX0_leaveOnlyFault_32 : decode cX0_leaveOnlyFault 32 = .ok (.iconst 5, 1) := by decide +kernel
theorem dX0_leaveOnlyFault_33 : decode cX0_leaveOnlyFault 33 = .ok (.iconst 1, 1) := by decide +kernel
theorem dX0_leaveOnlyFault_34 : decode cX0_leaveOnlyFault 34 = .ok (.iastore, 1) := by decide +kernel
theorem dX0_leaveOnlyFault_35 : decode cX0_leaveOnlyFault 35 = .ok (.aload_n 0, 1) := by decide +kernel
theorem dX0_leaveOnlyFault_36 : decode cX0_leaveOnlyFault 36 = .ok (.getfield 11, 3) := by decide +kernel
theorem dX0_leaveOnlyFault_39 : decode cX0_leaveOnlyFault 39 = .ok (.bipush 6, 2) := by decide +kernel
theorem dX0_leaveOnlyFault_41 : decode cX0_leaveOnlyFault 41 = .ok (.iconst 1, 1) := by decide +kernel
theorem dX0_leaveOnlyFault_42 : decode cX0_leaveOnlyFault 42 = .ok (.iastore, 1) := by decide +kernel
theorem dX0_leaveOnlyFault_43 : decode cX0_leaveOnlyFault 43 = .ok (.return_, 1) := by decide +kernel
theorem dX0_isFuse_0 : decode cX0_isFuse 0 = .ok (.iload_n 0, 1) := by decide +kernel
theorem dX0_isFuse_1 : decode cX0_isFuse 1 = .ok (.iconst 1, 1) := by decide +kernel
theorem dX0_isFuse_2 : decode cX0_isFuse 2 = .ok (.if_icmp .lt 22, 3) := by decide +kernel
theorem dX0_isFuse_5 : decode cX0_isFuse 5 = .ok (.iload_n 0, 1) := by decide +kernel
theorem dX0_isFuse_6 : decode cX0_isFuse 6 = .ok (.bipush 100, 2) := by decide +kernel
theorem dX0_isFuse_8 : decode cX0_isFuse 8 = .ok (.if_icmp .gt 16, 3) := by decide +kernel
theorem dX0_isFuse_11 : decode cX0_isFuse 11 = .ok (.iload_n 1, 1) := by decide +kernel
theorem dX0_isFuse_12 : decode cX0_isFuse 12 = .ok (.ifCond .lt 12, 3) := by decide +kernel
theorem dX0_isFuse_15 : decode cX0_isFuse 15 = .ok (.iload_n 1, 1) := by decide +kernel
theorem dX0_isFuse_16 : decode cX0_isFuse 16 = .ok (.iconst 2, 1) := by decide +kernel
theorem dX0_isFuse_17 : decode cX0_isFuse 17 = .ok (.if_icmp .gt 7, 3) := by decide +kernel
theorem dX0_isFuse_20 : decode cX0_isFuse 20 = .ok (.iconst 1, 1) := by decide +kernel
theorem dX0_isFuse_21 : decode cX0_isFuse 21 = .ok (.goto 4, 3) := by decide +kernel
theorem dX0_isFuse_24 : decode cX0_isFuse 24 = .ok (.iconst 0, 1) := by decide +kernel
theorem dX0_isFuse_25 : decode cX0_isFuse 25 = .ok (.ireturn, 1) := by decide +kernel
theorem dX0_putNewFuse_0 : decode cX0_putNewFuse 0 = .ok (.aload_n 0, 1) := by decide +kernel
theorem dX0_putNewFuse_1 : decode cX0_putNewFuse 1 = .ok (.getfield 11, 3) := by decide +kernel
theorem dX0_putNewFuse_4 : decode cX0_putNewFuse 4 = .ok (.bipush 27, 2) := by decide +kernel
theorem dX0_putNewFuse_6 : decode cX0_putNewFuse 6 = .ok (.iload_n 1, 1) := by decide +kernel
theorem dX0_putNewFuse_7 : decode cX0_putNewFuse 7 = .ok (.iadd, 1) := by decide +kernel
theorem dX0_putNewFuse_8 : decode cX0_putNewFuse 8 = .ok (.iload_n 2, 1) := by decide +kernel
theorem dX0_putNewFuse_9 : decode cX0_putNewFuse 9 = .ok (.iastore, 1) := by decide +kernel
theorem dX0_putNewFuse_10 : decode cX0_putNewFuse 10 = .ok (.aload_n 0, 1) := by decide +kernel
theorem dX0_putNewFuse_11 : decode cX0_putNewFuse 11 = .ok (.getfield 11, 3) := by decide +kernel
theorem dX0_putNewFuse_14 : decode cX0_putNewFuse 14 = .ok (.bipush 37, 2) := by decide +kernel
theorem dX0_putNewFuse_16 : decode cX0_putNewFuse 16 = .ok (.iload_n 1, 1) := by decide +kernel
theorem dX0_putNewFuse_17 : decode cX0_putNewFuse 17 = .ok (.iadd, 1) := by decide +kernel
theorem dX0_putNewFuse_18 : decode cX0_putNewFuse 18 = .ok (.iload_n 3, 1) := by decide +kernel
theorem dX0_putNewFuse_19 : decode cX0_putNewFuse 19 = .ok (.iastore, 1) := by decide +kernel
theorem dX0_putNewFuse_20 : decode cX0_putNewFuse 20 = .ok (.aload_n 0, 1) := by decide +kernel
theorem dX0_putNewFuse_21 : decode cX0_putNewFuse 21 = .ok (.getfield 11, 3) := by decide +kernel
theorem dX0_putNewFuse_24 : decode cX0_putNewFuse 24 = .ok (.bipush 47, 2) := by decide +kernel
theorem dX0_putNewFuse_26 : decode cX0_putNewFuse 26 = .ok (.iload_n 1, 1) := by decide +kernel
theorem dX0_putNewFuse_27 : decode cX0_putNewFuse 27 = .ok (.iadd, 1) := by decide +kernel
theorem dX0_putNewFuse_28 : decode cX0_putNewFuse 28 = .ok (.iconst 0, 1) := by decide +kernel
theorem dX0_putNewFuse_29 : decode cX0_putNewFuse 29 = .ok (.iastore, 1) := by decide +kernel
theorem dX0_putNewFuse_30 : decode cX0_putNewFuse 30 = .ok (.aload_n 0, 1) := by decide +kernel
theorem dX0_putNewFuse_31 : decode cX0_putNewFuse 31 = .ok (.getfield 11, 3) := by decide +kernel
theorem dX0_putNewFuse_34 : decode cX0_putNewFuse 34 = .ok (.bipush 57, 2) := by decide +kernel
theorem dX0_putNewFuse_36 : decode cX0_putNewFuse 36 = .ok (.iload_n 1, 1) := by decide +kernel
theorem dX0_putNewFuse_37 : decode cX0_putNewFuse 37 = .ok (.iadd, 1) := by decide +kernel
theorem dX0_putNewFuse_38 : decode cX0_putNewFuse 38 = .ok (.iconst 0, 1) := by decide +kernel
theorem dX0_putNewFuse_39 : decode cX0_putNewFuse 39 = .ok (.iastore, 1) := by decide +kernel
theorem dX0_putNewFuse_40 : decode cX0_putNewFuse 40 = .ok (.aload_n 0, 1) := by decide +kernel
theorem dX0_putNewFuse_41 : decode cX0_putNewFuse 41 = .ok (.getfield 11, 3) := by decide +kernel
theorem dX0_putNewFuse_44 : decode cX0_putNewFuse 44 = .ok (.bipush 67, 2) := by decide +kernel
theorem dX0_putNewFuse_46 : decode cX0_putNewFuse 46 = .ok (.iload_n 1, 1) := by decide +kernel
theorem dX0_putNewFuse_47 : decode cX0_putNewFuse 47 = .ok (.iadd, 1) := by decide +kernel
theorem dX0_putNewFuse_48 : decode cX0_putNewFuse 48 = .ok (.iconst 0, 1) := by decide +kernel
theorem dX0_putNewFuse_49 : decode cX0_putNewFuse 49 = .ok (.iastore, 1) := by decide +kernel
theorem dX0_putNewFuse_50 : decode cX0_putNewFuse 50 = .ok (.aload_n 0, 1) := by decide +kernel
theorem dX0_putNewFuse_51 : decode cX0_putNewFuse 51 = .ok (.getfield 11, 3) := by decide +kernel
theorem dX0_putNewFuse_54 : decode cX0_putNewFuse 54 = .ok (.bipush 77, 2) := by decide +kernel
theorem dX0_putNewFuse_56 : decode cX0_putNewFuse 56 = .ok (.iload_n 1, 1) := by decide +kernel
theorem dX0_putNewFuse_57 : decode cX0_putNewFuse 57 = .ok (.iadd, 1) := by decide +kernel
theorem dX0_putNewFuse_58 : decode cX0_putNewFuse 58 = .ok (.iconst 0, 1) := by decide +kernel
theorem dX0_putNewFuse_59 : decode cX0_putNewFuse 59 = .ok (.iastore, 1) := by decide +kernel
theorem dX0_putNewFuse_60 : decode cX0_putNewFuse 60 = .ok (.aload_n 0, 1) := by decide +kernel
theorem dX0_putNewFuse_61 : decode cX0_putNewFuse 61 = .ok (.getfield 11, 3) := by decide +kernel
theorem dX0_putNewFuse_64 : decode cX0_putNewFuse 64 = .ok (.bipush 7, 2) := by decide +kernel
theorem dX0_putNewFuse_66 : decode cX0_putNewFuse 66 = .ok (.dup2, 1) := by decide +kernel
theorem dX0_putNewFuse_67 : decode cX0_putNewFuse 67 = .ok (.iaload, 1) := by decide +kernel
theorem dX0_putNewFuse_68 : decode cX0_putNewFuse 68 = .ok (.iconst 1, 1) := by decide +kernel
theorem dX0_putNewFuse_69 : decode cX0_putNewFuse 69 = .ok (.iload_n 1, 1) := by decide +kernel
theorem dX0_putNewFuse_70 : decode cX0_putNewFuse 70 = .ok (.ishl, 1) := by decide +kernel
theorem dX0_putNewFuse_71 : decode cX0_putNewFuse 71 = .ok (.iconst (-1), 1) := by decide +kernel
theorem dX0_putNewFuse_72 : decode cX0_putNewFuse 72 = .ok (.ixor, 1) := by decide +kernel
theorem dX0_putNewFuse_73 : decode cX0_putNewFuse 73 = .ok (.iand, 1) := by decide +kernel
theorem dX0_putNewFuse_74 : decode cX0_putNewFuse 74 = .ok (.iastore, 1) := by decide +kernel
theorem dX0_putNewFuse_75 : decode cX0_putNewFuse 75 = .ok (.return_, 1) := by decide +kernel
theorem dX0_tick_0 : decode cX0_tick 0 = .ok (.aload_n 0, 1) := by decide +kernel
theorem dX0_tick_1 : decode cX0_tick 1 = .ok (.invokevirtual 61, 3) := by decide +kernel
theorem dX0_tick_4 : decode cX0_tick 4 = .ok (.aload_n 0, 1) := by decide +kernel
theorem dX0_tick_5 : decode cX0_tick 5 = .ok (.invokevirtual 64, 3) := by decide +kernel
theorem dX0_tick_8 : decode cX0_tick 8 = .ok (.iconst 0, 1) := by decide +kernel
theorem dX0_tick_9 : decode cX0_tick 9 = .ok (.istore_n 1, 1) := by decide +kernel
theorem dX0_tick_10 : decode cX0_tick 10 = .ok (.iload_n 1, 1) := by decide +kernel
theorem dX0_tick_11 : decode cX0_tick 11 = .ok (.aload_n 0, 1) := by decide +kernel
theorem dX0_tick_12 : decode cX0_tick 12 = .ok (.getfield 11, 3) := by decide +kernel
theorem dX0_tick_15 : decode cX0_tick 15 = .ok (.iconst 4, 1) := by decide +kernel
theorem dX0_tick_16 : decode cX0_tick 16 = .ok (.iaload, 1) := by decide +kernel
theorem dX0_tick_17 : decode cX0_tick 17 = .ok (.if_icmp .ge 28, 3) := by decide +kernel
theorem dX0_tick_20 : decode cX0_tick 20 = .ok (.aload_n 0, 1) := by decide +kernel
theorem dX0_tick_21 : decode cX0_tick 21 = .ok (.iload_n 1, 1) := by decide +kernel
theorem dX0_tick_22 : decode cX0_tick 22 = .ok (.invokevirtual 67, 3) := by decide +kernel
theorem dX0_tick_25 : decode cX0_tick 25 = .ok (.ifCond .ne 14, 3) := by decide +kernel
theorem dX0_tick_28 : decode cX0_tick 28 = .ok (.aload_n 0, 1) := by decide +kernel
theorem dX0_tick_29 : decode cX0_tick 29 = .ok (.iload_n 1, 1) := by decide +kernel
theorem dX0_tick_30 : decode cX0_tick 30 = .ok (.aload_n 0, 1) := by decide +kernel
theorem dX0_tick_31 : decode cX0_tick 31 = .ok (.getfield 15, 3) := by decide +kernel
theorem dX0_tick_34 : decode cX0_tick 34 = .ok (.iload_n 1, 1) := by decide +kernel
theorem dX0_tick_35 : decode cX0_tick 35 = .ok (.iaload, 1) := by decide +kernel
theorem dX0_tick_36 : decode cX0_tick 36 = .ok (.invokevirtual 70, 3) := by decide +kernel
theorem dX0_tick_39 : decode cX0_tick 39 = .ok (.iinc 1 1, 3) := by decide +kernel
theorem dX0_tick_42 : decode cX0_tick 42 = .ok (.goto (-32), 3) := by decide +kernel
theorem dX0_tick_45 : decode cX0_tick 45 = .ok (.aload_n 0, 1) := by decide +kernel
theorem dX0_tick_46 : decode cX0_tick 46 = .ok (.aload_n 0, 1) := by decide +kernel
theorem dX0_tick_47 : decode cX0_tick 47 = .ok (.invokevirtual 74, 3) := by decide +kernel
theorem dX0_tick_50 : decode cX0_tick 50 = .ok (.invokevirtual 77, 3) := by decide +kernel
theorem dX0_tick_53 : decode cX0_tick 53 = .ok (.istore_n 1, 1) := by decide +kernel
theorem dX0_tick_54 : decode cX0_tick 54 = .ok (.iconst 0, 1) := by decide +kernel
theorem dX0_tick_55 : decode cX0_tick 55 = .ok (.istore_n 2, 1) := by decide +kernel
theorem dX0_tick_56 : decode cX0_tick 56 = .ok (.iload_n 2, 1) := by decide +kernel
theorem dX0_tick_57 : decode cX0_tick 57 = .ok (.aload_n 0, 1) := by decide +kernel
theorem dX0_tick_58 : decode cX0_tick 58 = .ok (.getfield 11, 3) := by decide +kernel
theorem dX0_tick_61 : decode cX0_tick 61 = .ok (.iconst 4, 1) := by decide +kernel
theorem dX0_tick_62 : decode cX0_tick 62 = .ok (.iaload, 1) := by decide +kernel
theorem dX0_tick_63 : decode cX0_tick 63 = .ok (.if_icmp .ge 22, 3) := by decide +kernel
theorem dX0_tick_66 : decode cX0_tick 66 = .ok (.iload_n 1, 1) := by decide +kernel
theorem dX0_tick_67 : decode cX0_tick 67 = .ok (.iload_n 2, 1) := by decide +kernel
theorem dX0_tick_68 : decode cX0_tick 68 = .ok (.ishr, 1) := by decide +kernel
theorem dX0_tick_69 : decode cX0_tick 69 = .ok (.iconst 1, 1) := by decide +kernel
theorem dX0_tick_70 : decode cX0_tick 70 = .ok (.iand, 1) := by decide +kernel
theorem dX0_tick_71 : decode cX0_tick 71 = .ok (.ifCond .eq 8, 3) := by decide +kernel
theorem dX0_tick_74 : decode cX0_tick 74 = .ok (.aload_n 0, 1) := by decide +kernel
theorem dX0_tick_75 : decode cX0_tick 75 = .ok (.iload_n 2, 1) := by decide +kernel
theorem dX0_tick_76 : decode cX0_tick 76 = .ok (.invokevirtual 80, 3) := by decide +kernel
theorem dX0_tick_79 : decode cX0_tick 79 = .ok (.iinc 2 1, 3) := by decide +kernel
theorem dX0_tick_82 : decode cX0_tick 82 = .ok (.goto (-26), 3) := by decide +kernel
theorem dX0_tick_85 : decode cX0_tick 85 = .ok (.aload_n 0, 1) := by decide +kernel
theorem dX0_tick_86 : decode cX0_tick 86 = .ok (.getfield 11, 3) := by decide +kernel
theorem dX0_tick_89 : decode cX0_tick 89 = .ok (.iconst 3, 1) := by decide +kernel
theorem dX0_tick_90 : decode cX0_tick 90 = .ok (.dup2, 1) := by decide +kernel
theorem dX0_tick_91 : decode cX0_tick 91 = .ok (.iaload, 1) := by decide +kernel
theorem dX0_tick_92 : decode cX0_tick 92 = .ok (.iconst 1, 1) := by decide +kernel
theorem dX0_tick_93 : decode cX0_tick 93 = .ok (.iadd, 1) := by decide +kernel
theorem dX0_tick_94 : decode cX0_tick 94 = .ok (.iastore, 1) := by decide +kernel
theorem dX0_tick_95 : decode cX0_tick 95 = .ok (.iload_n 1, 1) := by decide +kernel
theorem dX0_tick_96 : decode cX0_tick 96 = .ok (.ireturn, 1) := by decide +kernel
theorem dX0_addUpCurrents_0 : decode cX0_addUpCurrents 0 = .ok (.aload_n 0, 1) := by decide +kernel
theorem dX0_addUpCurrents_1 : decode cX0_addUpCurrents 1 = .ok (.getfield 15, 3) := by decide +kernel
theorem dX0_addUpCurrents_4 : decode cX0_addUpCurrents 4 = .ok (.iconst 0, 1) := by decide +kernel
theorem dX0_addUpCurrents_5 : decode cX0_addUpCurrents 5 = .ok (.invokestatic 84, 3) := by decide +kernel
theorem dX0_addUpCurrents_8 : decode cX0_addUpCurrents 8 = .ok (.aload_n 0, 1) := by decide +kernel
theorem dX0_addUpCurrents_9 : decode cX0_addUpCurrents 9 = .ok (.invokevirtual 87, 3) := by decide +kernel
theorem dX0_addUpCurrents_12 : decode cX0_addUpCurrents 12 = .ok (.istore_n 1, 1) := by decide +kernel
theorem dX0_addUpCurrents_13 : decode cX0_addUpCurrents 13 = .ok (.iconst 0, 1) := by decide +kernel
theorem dX0_addUpCurrents_14 : decode cX0_addUpCurrents 14 = .ok (.istore_n 2, 1) := by decide +kernel
theorem dX0_addUpCurrents_15 : decode cX0_addUpCurrents 15 = .ok (.iload_n 2, 1) := by decide +kernel
theorem dX0_addUpCurrents_16 : decode cX0_addUpCurrents 16 = .ok (.aload_n 0, 1) := by decide +kernel
theorem dX0_addUpCurrents_17 : decode cX0_addUpCurrents 17 = .ok (.getfield 11, 3) := by decide +kernel
theorem dX0_addUpCurrents_20 : decode cX0_addUpCurrents 20 = .ok (.iconst 5, 1) := by decide +kernel
theorem dX0_addUpCurrents_21 : decode cX0_addUpCurrents 21 = .ok (.iaload, 1) := by decide +kernel
theorem dX0_addUpCurrents_22 : decode cX0_addUpCurrents 22 = .ok (.if_icmp .ge 71, 3) := by decide +kernel
theorem dX0_addUpCurrents_25 : decode cX0_addUpCurrents 25 = .ok (.aload_n 0, 1) := by decide +kernel
theorem dX0_addUpCurrents_26 : decode cX0_addUpCurrents 26 = .ok (.getfield 11, 3) := by decide +kernel
theorem dX0_addUpCurrents_29 : decode cX0_addUpCurrents 29 = .ok (.bipush 6, 2) := by decide +kernel
theorem dX0_addUpCurrents_31 : decode cX0_addUpCurrents 31 = .ok (.iaload, 1) := by decide +kernel
theorem dX0_addUpCurrents_32 : decode cX0_addUpCurrents 32 = .ok (.iload_n 2, 1) := by decide +kernel
theorem dX0_addUpCurrents_33 : decode cX0_addUpCurrents 33 = .ok (.ishr, 1) := by decide +kernel
theorem dX0_addUpCurrents_34 : decode cX0_addUpCurrents 34 = .ok (.iconst 1, 1) := by decide +kernel
theorem dX0_addUpCurrents_35 : decode cX0_addUpCurrents 35 = .ok (.iand, 1) := by decide +kernel
theorem dX0_addUpCurrents_36 : decode cX0_addUpCurrents 36 = .ok (.ifCond .eq 23, 3) := by decide +kernel
theorem dX0_addUpCurrents_39 : decode cX0_addUpCurrents 39 = .ok (.iload_n 1, 1) := by decide +kernel
theorem dX0_addUpCurrents_40 : decode cX0_addUpCurrents 40 = .ok (.aload_n 0, 1) := by decide +kernel
theorem dX0_addUpCurrents_41 : decode cX0_addUpCurrents 41 = .ok (.getfield 11, 3) := by decide +kernel
theorem dX0_addUpCurrents_44 : decode cX0_addUpCurrents 44 = .ok (.bipush 97, 2) := by decide +kernel
theorem dX0_addUpCurrents_46 : decode cX0_addUpCurrents 46 = .ok (.iload_n 2, 1) := by decide +kernel
theorem dX0_addUpCurrents_47 : decode cX0_addUpCurrents 47 = .ok (.iadd, 1) := by decide +kernel
theorem dX0_addUpCurrents_48 : decode cX0_addUpCurrents 48 = .ok (.iaload, 1) := by decide +kernel
theorem dX0_addUpCurrents_49 : decode cX0_addUpCurrents 49 = .ok (.ishr, 1) := by decide +kernel
theorem dX0_addUpCurrents_50 : decode cX0_addUpCurrents 50 = .ok (.iconst 1, 1) := by decide +kernel
theorem dX0_addUpCurrents_51 : decode cX0_addUpCurrents 51 = .ok (.iand, 1) := by decide +kernel
theorem dX0_addUpCurrents_52 : decode cX0_addUpCurrents 52 = .ok (.ifCond .ne 7, 3) := by decide +kernel
theorem dX0_addUpCurrents_55 : decode cX0_addUpCurrents 55 = .ok (.iconst 1, 1) := by decide +kernel
theorem dX0_addUpCurrents_56 : decode cX0_addUpCurrents 56 = .ok (.goto 4, 3) := by decide +kernel
theorem dX0_addUpCurrents_59 : decode cX0_addUpCurrents 59 = .ok (.iconst 0, 1) := by decide +kernel
theorem dX0_addUpCurrents_60 : decode cX0_addUpCurrents 60 = .ok (.istore_n 3, 1) := by decide +kernel
theorem dX0_addUpCurrents_61 : decode cX0_addUpCurrents 61 = .ok (.iload_n 3, 1) := by decide +kernel
theorem dX0_addUpCurrents_62 : decode cX0_addUpCurrents 62 = .ok (.ifCond .eq 25, 3) := by decide +kernel
theorem dX0_addUpCurrents_65 : decode cX0_addUpCurrents 65 = .ok (.aload_n 0, 1) := by decide +kernel
theorem dX0_addUpCurrents_66 : decode cX0_addUpCurrents 66 = .ok (.aload_n 0, 1) := by decide +kernel
theorem dX0_addUpCurrents_67 : decode cX0_addUpCurrents 67 = .ok (.getfield 11, 3) := by decide +kernel
theorem dX0_addUpCurrents_70 : decode cX0_addUpCurrents 70 = .ok (.bipush 97, 2) := by decide +kernel
theorem dX0_addUpCurrents_72 : decode cX0_addUpCurrents 72 = .ok (.iload_n 2, 1) := by decide +kernel
theorem dX0_addUpCurrents_73 : decode cX0_addUpCurrents 73 = .ok (.iadd, 1) := by decide +kernel
theorem dX0_addUpCurrents_74 : decode cX0_addUpCurrents 74 = .ok (.iaload, 1) := by decide +kernel
theorem dX0_addUpCurrents_75 : decode cX0_addUpCurrents 75 = .ok (.aload_n 0, 1) := by decide +kernel
theorem dX0_addUpCurrents_76 : decode cX0_addUpCurrents 76 = .ok (.getfield 11, 3) := by decide +kernel
theorem dX0_addUpCurrents_79 : decode cX0_addUpCurrents 79 = .ok (.bipush 111, 2) := by decide +kernel
theorem dX0_addUpCurrents_81 : decode cX0_addUpCurrents 81 = .ok (.iload_n 2, 1) := by decide +kernel
theorem dX0_addUpCurrents_82 : decode cX0_addUpCurrents 82 = .ok (.iadd, 1) := by decide +kernel
theorem dX0_addUpCurrents_83 : decode cX0_addUpCurrents 83 = .ok (.iaload, 1) := by decide +kernel
theorem dX0_addUpCurrents_84 : decode cX0_addUpCurrents 84 = .ok (.invokevirtual 90, 3) := by decide +kernel
theorem dX0_addUpCurrents_87 : decode cX0_addUpCurrents 87 = .ok (.iinc 2 1, 3) := by decide +kernel
theorem dX0_addUpCurrents_90 : decode cX0_addUpCurrents 90 = .ok (.goto (-75), 3) := by decide +kernel
theorem dX0_addUpCurrents_93 : decode cX0_addUpCurrents 93 = .ok (.aload_n 0, 1) := by decide +kernel
theorem dX0_addUpCurrents_94 : decode cX0_addUpCurrents 94 = .ok (.getfield 11, 3) := by decide +kernel
theorem dX0_addUpCurrents_97 : decode cX0_addUpCurrents 97 = .ok (.iconst 4, 1) := by decide +kernel
theorem dX0_addUpCurrents_98 : decode cX0_addUpCurrents 98 = .ok (.iaload, 1) := by decide +kernel
theorem dX0_addUpCurrents_99 : decode cX0_addUpCurrents 99 = .ok (.iconst 1, 1) := by decide +kernel
theorem dX0_addUpCurrents_100 : decode cX0_addUpCurrents 100 = .ok (.isub, 1) := by decide +kernel
theorem dX0_addUpCurrents_101 : decode cX0_addUpCurrents 101 = .ok (.istore_n 2, 1) := by decide +kernel
theorem dX0_addUpCurrents_102 : decode cX0_addUpCurrents 102 = .ok (.iload_n 2, 1) := by decide +kernel
theorem dX0_addUpCurrents_103 : decode cX0_addUpCurrents 103 = .ok (.ifCond .le 28, 3) := by decide +kernel
theorem dX0_addUpCurrents_106 : decode cX0_addUpCurrents 106 = .ok (.aload_n 0, 1) := by decide +kernel
theorem dX0_addUpCurrents_107 : decode cX0_addUpCurrents 107 = .ok (.aload_n 0, 1) := by decide +kernel
theorem dX0_addUpCurrents_108 : decode cX0_addUpCurrents 108 = .ok (.getfield 11, 3) := by decide +kernel
theorem dX0_addUpCurrents_111 : decode cX0_addUpCurrents 111 = .ok (.bipush 17, 2) := by decide +kernel
theorem dX0_addUpCurrents_113 : decode cX0_addUpCurrents 113 = .ok (.iload_n 2, 1) := by decide +kernel
theorem dX0_addUpCurrents_114 : decode cX0_addUpCurrents 114 = .ok (.iadd, 1) := by decide +kernel
theorem dX0_addUpCurrents_115 : decode cX0_addUpCurrents 115 = .ok (.iaload, 1) := by decide +kernel
theorem dX0_addUpCurrents_116 : decode cX0_addUpCurrents 116 = .ok (.aload_n 0, 1) := by decide +kernel
theorem dX0_addUpCurrents_117 : decode cX0_addUpCurrents 117 = .ok (.getfield 15, 3) := by decide +kernel
theorem dX0_addUpCurrents_120 : decode cX0_addUpCurrents 120 = .ok (.iload_n 2, 1) := by decide +kernel
theorem dX0_addUpCurrents_121 : decode cX0_addUpCurrents 121 = .ok (.iaload, 1) := by decide +kernel
theorem dX0_addUpCurrents_122 : decode cX0_addUpCurrents 122 = .ok (.invokevirtual 90, 3) := by decide +kernel
theorem dX0_addUpCurrents_125 : decode cX0_addUpCurrents 125 = .ok (.iinc 2 (-1), 3) := by decide +kernel
theorem dX0_addUpCurrents_128 : decode cX0_addUpCurrents 128 = .ok (.goto (-26), 3) := by decide +kernel
theorem dX0_addUpCurrents_131 : decode cX0_addUpCurrents 131 = .ok (.return_, 1) := by decide +kernel
theorem dX0_addFlow_0 : decode cX0_addFlow 0 = .ok (.iload_n 1, 1) := by decide +kernel
theorem dX0_addFlow_1 : decode cX0_addFlow 1 = .ok (.ifCond .lt 19, 3) := by decide +kernel
theorem dX0_addFlow_4 : decode cX0_addFlow 4 = .ok (.iload_n 1, 1) := by decide +kernel
theorem dX0_addFlow_5 : decode cX0_addFlow 5 = .ok (.bipush 10, 2) := by decide +kernel
theorem dX0_addFlow_7 : decode cX0_addFlow 7 = .ok (.if_icmp .ge 13, 3) := by decide +kernel
theorem dX0_addFlow_10 : decode cX0_addFlow 10 = .ok (.aload_n 0, 1) := by decide +kernel
theorem dX0_addFlow_11 : decode cX0_addFlow 11 = .ok (.getfield 15, 3) := by decide +kernel
theorem dX0_addFlow_14 : decode cX0_addFlow 14 = .ok (.iload_n 1, 1) := by decide +kernel
theorem dX0_addFlow_15 : decode cX0_addFlow 15 = .ok (.dup2, 1) := by decide +kernel
theorem dX0_addFlow_16 : decode cX0_addFlow 16 = .ok (.iaload, 1) := by decide +kernel
theorem dX0_addFlow_17 : decode cX0_addFlow 17 = .ok (.iload_n 2, 1) := by decide +kernel
theorem dX0_addFlow_18 : decode cX0_addFlow 18 = .ok (.iadd, 1) := by decide +kernel
theorem dX0_addFlow_19 : decode cX0_addFlow 19 = .ok (.iastore, 1) := by decide +kernel
theorem dX0_addFlow_20 : decode cX0_addFlow 20 = .ok (.return_, 1) := by decide +kernel
theorem dX0_burnArcs_0 : decode cX0_burnArcs 0 = .ok (.iconst 0, 1) := by decide +kernel
theorem dX0_burnArcs_1 : decode cX0_burnArcs 1 = .ok (.istore_n 1, 1) := by decide +kernel
theorem dX0_burnArcs_2 : decode cX0_burnArcs 2 = .ok (.iload_n 1, 1) := by decide +kernel
theorem dX0_burnArcs_3 : decode cX0_burnArcs 3 = .ok (.aload_n 0, 1) := by decide +kernel
theorem dX0_burnArcs_4 : decode cX0_burnArcs 4 = .ok (.getfield 11, 3) := by decide +kernel
theorem dX0_burnArcs_7 : decode cX0_burnArcs 7 = .ok (.iconst 4, 1) := by decide +kernel
theorem dX0_burnArcs_8 : decode cX0_burnArcs 8 = .ok (.iaload, 1) := by decide +kernel
theorem dX0_burnArcs_9 : decode cX0_burnArcs 9 = .ok (.if_icmp .ge 62, 3) := by decide +kernel
theorem dX0_burnArcs_12 : decode cX0_burnArcs 12 = .ok (.aload_n 0, 1) := by decide +kernel
theorem dX0_burnArcs_13 : decode cX0_burnArcs 13 = .ok (.getfield 11, 3) := by decide +kernel
theorem dX0_burnArcs_16 : decode cX0_burnArcs 16 = .ok (.bipush 47, 2) := by decide +kernel
theorem dX0_burnArcs_18 : decode cX0_burnArcs 18 = .ok (.iload_n 1, 1) := by decide +kernel
theorem dX0_burnArcs_19 : decode cX0_burnArcs 19 = .ok (.iadd, 1) := by decide +kernel
theorem dX0_burnArcs_20 : decode cX0_burnArcs 20 = .ok (.iaload, 1) := by decide +kernel
theorem dX0_burnArcs_21 : decode cX0_burnArcs 21 = .ok (.ifCond .ne 6, 3) := by decide +kernel
theorem dX0_burnArcs_24 : decode cX0_burnArcs 24 = .ok (.goto 41, 3) := by decide +kernel
theorem dX0_burnArcs_27 : decode cX0_burnArcs 27 = .ok (.aload_n 0, 1) := by decide +kernel
theorem dX0_burnArcs_28 : decode cX0_burnArcs 28 = .ok (.getfield 11, 3) := by decide +kernel
theorem dX0_burnArcs_31 : decode cX0_burnArcs 31 = .ok (.bipush 47, 2) := by decide +kernel
theorem dX0_burnArcs_33 : decode cX0_burnArcs 33 = .ok (.iload_n 1, 1) := by decide +kernel
theorem dX0_burnArcs_34 : decode cX0_burnArcs 34 = .ok (.iadd, 1) := by decide +kernel
theorem dX0_burnArcs_35 : decode cX0_burnArcs 35 = .ok (.dup2, 1) := by decide +kernel
theorem dX0_burnArcs_36 : decode cX0_burnArcs 36 = .ok (.iaload, 1) := by decide +kernel
theorem dX0_burnArcs_37 : decode cX0_burnArcs 37 = .ok (.iconst 1, 1) := by decide +kernel
theorem dX0_burnArcs_38 : decode cX0_burnArcs 38 = .ok (.isub, 1) := by decide +kernel
theorem dX0_burnArcs_39 : decode cX0_burnArcs 39 = .ok (.iastore, 1) := by decide +kernel
theorem dX0_burnArcs_40 : decode cX0_burnArcs 40 = .ok (.aload_n 0, 1) := by decide +kernel
theorem dX0_burnArcs_41 : decode cX0_burnArcs 41 = .ok (.getfield 11, 3) := by decide +kernel
theorem dX0_burnArcs_44 : decode cX0_burnArcs 44 = .ok (.bipush 47, 2) := by decide +kernel
theorem dX0_burnArcs_46 : decode cX0_burnArcs 46 = .ok (.iload_n 1, 1) := by decide +kernel
theorem dX0_burnArcs_47 : decode cX0_burnArcs 47 = .ok (.iadd, 1) := by decide +kernel
theorem dX0_burnArcs_48 : decode cX0_burnArcs 48 = .ok (.iaload, 1) := by decide +kernel
theorem dX0_burnArcs_49 : decode cX0_burnArcs 49 = .ok (.ifCond .ne 16, 3) := by decide +kernel
theorem dX0_burnArcs_52 : decode cX0_burnArcs 52 = .ok (.aload_n 0, 1) := by decide +kernel
theorem dX0_burnArcs_53 : decode cX0_burnArcs 53 = .ok (.getfield 11, 3) := by decide +kernel
theorem dX0_burnArcs_56 : decode cX0_burnArcs 56 = .ok (.bipush 7, 2) := by decide +kernel
theorem dX0_burnArcs_58 : decode cX0_burnArcs 58 = .ok (.dup2, 1) := by decide +kernel
theorem dX0_burnArcs_59 : decode cX0_burnArcs 59 = .ok (.iaload, 1) := by decide +kernel
theorem dX0_burnArcs_60 : decode cX0_burnArcs 60 = .ok (.iconst 1, 1) := by decide +kernel
theorem dX0_burnArcs_61 : decode cX0_burnArcs 61 = .ok (.iload_n 1, 1) := by decide +kernel
theorem dX0_burnArcs_62 : decode cX0_burnArcs 62 = .ok (.ishl, 1) := by decide +kernel
theorem dX0_burnArcs_63 : decode cX0_burnArcs 63 = .ok (.ior, 1) := by decide +kernel
theorem dX0_burnArcs_64 : decode cX0_burnArcs 64 = .ok (.iastore, 1) := by decide +kernel
theorem dX0_burnArcs_65 : decode cX0_burnArcs 65 = .ok (.iinc 1 1, 3) := by decide +kernel
theorem dX0_burnArcs_68 : decode cX0_burnArcs 68 = .ok (.goto (-66), 3) := by decide +kernel
theorem dX0_burnArcs_71 : decode cX0_burnArcs 71 = .ok (.return_, 1) := by decide +kernel
theorem dX0_warm_0 : decode cX0_warm 0 = .ok (.aload_n 0, 1) := by decide +kernel
theorem dX0_warm_1 : decode cX0_warm 1 = .ok (.getfield 11, 3) := by decide +kernel
theorem dX0_warm_4 : decode cX0_warm 4 = .ok (.bipush 27, 2) := by decide +kernel
theorem dX0_warm_6 : decode cX0_warm 6 = .ok (.iload_n 1, 1) := by decide +kernel
theorem dX0_warm_7 : decode cX0_warm 7 = .ok (.iadd, 1) := by decide +kernel
theorem dX0_warm_8 : decode cX0_warm 8 = .ok (.iaload, 1) := by decide +kernel
theorem dX0_warm_9 : decode cX0_warm 9 = .ok (.istore_n 3, 1) := by decide +kernel
theorem dX0_warm_10 : decode cX0_warm 10 = .ok (.aload_n 0, 1) := by decide +kernel
theorem dX0_warm_11 : decode cX0_warm 11 = .ok (.getfield 11, 3) := by decide +kernel
theorem dX0_warm_14 : decode cX0_warm 14 = .ok (.bipush 57, 2) := by decide +kernel
theorem dX0_warm_16 : decode cX0_warm 16 = .ok (.iload_n 1, 1) := by decide +kernel
theorem dX0_warm_17 : decode cX0_warm 17 = .ok (.iadd, 1) := by decide +kernel
theorem dX0_warm_18 : decode cX0_warm 18 = .ok (.iaload, 1) := by decide +kernel
theorem dX0_warm_19 : decode cX0_warm 19 = .ok (.istore 4, 2) := by decide +kernel
theorem dX0_warm_21 : decode cX0_warm 21 = .ok (.iload_n 2, 1) := by decide +kernel
theorem dX0_warm_22 : decode cX0_warm 22 = .ok (.iload_n 2, 1) := by decide +kernel
theorem dX0_warm_23 : decode cX0_warm 23 = .ok (.imul, 1) := by decide +kernel
theorem dX0_warm_24 : decode cX0_warm 24 = .ok (.iload_n 3, 1) := by decide +kernel
theorem dX0_warm_25 : decode cX0_warm 25 = .ok (.iload_n 3, 1) := by decide +kernel
theorem dX0_warm_26 : decode cX0_warm 26 = .ok (.imul, 1) := by decide +kernel
theorem dX0_warm_27 : decode cX0_warm 27 = .ok (.isub, 1) := by decide +kernel
theorem dX0_warm_28 : decode cX0_warm 28 = .ok (.istore 5, 2) := by decide +kernel
theorem dX0_warm_30 : decode cX0_warm 30 = .ok (.iload_n 3, 1) := by decide +kernel
theorem dX0_warm_31 : decode cX0_warm 31 = .ok (.iload_n 3, 1) := by decide +kernel
theorem dX0_warm_32 : decode cX0_warm 32 = .ok (.imul, 1) := by decide +kernel
theorem dX0_warm_33 : decode cX0_warm 33 = .ok (.iload_n 2, 1) := by decide +kernel
theorem dX0_warm_34 : decode cX0_warm 34 = .ok (.iload_n 2, 1) := by decide +kernel
theorem dX0_warm_35 : decode cX0_warm 35 = .ok (.imul, 1) := by decide +kernel
theorem dX0_warm_36 : decode cX0_warm 36 = .ok (.isub, 1) := by decide +kernel
theorem dX0_warm_37 : decode cX0_warm 37 = .ok (.istore 6, 2) := by decide +kernel
theorem dX0_warm_39 : decode cX0_warm 39 = .ok (.iload_n 2, 1) := by decide +kernel
theorem dX0_warm_40 : decode cX0_warm 40 = .ok (.iload_n 3, 1) := by decide +kernel
theorem dX0_warm_41 : decode cX0_warm 41 = .ok (.if_icmp .le 25, 3) := by decide +kernel
theorem dX0_warm_44 : decode cX0_warm 44 = .ok (.aload_n 0, 1) := by decide +kernel
theorem dX0_warm_45 : decode cX0_warm 45 = .ok (.getfield 11, 3) := by decide +kernel
theorem dX0_warm_48 : decode cX0_warm 48 = .ok (.bipush 57, 2) := by decide +kernel
theorem dX0_warm_50 : decode cX0_warm 50 = .ok (.iload_n 1, 1) := by decide +kernel
theorem dX0_warm_51 : decode cX0_warm 51 = .ok (.iadd, 1) := by decide +kernel
theorem dX0_warm_52 : decode cX0_warm 52 = .ok (.ldc 93, 2) := by decide +kernel
theorem dX0_warm_54 : decode cX0_warm 54 = .ok (.iload 4, 2) := by decide +kernel
theorem dX0_warm_56 : decode cX0_warm 56 = .ok (.iload 5, 2) := by decide +kernel
theorem dX0_warm_58 : decode cX0_warm 58 = .ok (.iadd, 1) := by decide +kernel
theorem dX0_warm_59 : decode cX0_warm 59 = .ok (.invokestatic 94, 3) := by decide +kernel
theorem dX0_warm_62 : decode cX0_warm 62 = .ok (.iastore, 1) := by decide +kernel
theorem dX0_warm_63 : decode cX0_warm 63 = .ok (.goto 32, 3) := by decide +kernel
theorem dX0_warm_66 : decode cX0_warm 66 = .ok (.aload_n 0, 1) := by decide +kernel
theorem dX0_warm_67 : decode cX0_warm 67 = .ok (.getfield 11, 3) := by decide +kernel
theorem dX0_warm_70 : decode cX0_warm 70 = .ok (.bipush 57, 2) := by decide +kernel
theorem dX0_warm_72 : decode cX0_warm 72 = .ok (.iload_n 1, 1) := by decide +kernel
theorem dX0_warm_73 : decode cX0_warm 73 = .ok (.iadd, 1) := by decide +kernel
theorem dX0_warm_74 : decode cX0_warm 74 = .ok (.iconst 0, 1) := by decide +kernel
theorem dX0_warm_75 : decode cX0_warm 75 = .ok (.iload 4, 2) := by decide +kernel
theorem dX0_warm_77 : decode cX0_warm 77 = .ok (.iload 6, 2) := by decide +kernel
theorem dX0_warm_79 : decode cX0_warm 79 = .ok (.iconst 1, 1) := by decide +kernel
theorem dX0_warm_80 : decode cX0_warm 80 = .ok (.aload_n 0, 1) := by decide +kernel
theorem dX0_warm_81 : decode cX0_warm 81 = .ok (.getfield 11, 3) := by decide +kernel
theorem dX0_warm_84 : decode cX0_warm 84 = .ok (.iconst 1, 1) := by decide +kernel
theorem dX0_warm_85 : decode cX0_warm 85 = .ok (.iaload, 1) := by decide +kernel
theorem dX0_warm_86 : decode cX0_warm 86 = .ok (.invokestatic 100, 3) := by decide +kernel
theorem dX0_warm_89 : decode cX0_warm 89 = .ok (.idiv, 1) := by decide +kernel
theorem dX0_warm_90 : decode cX0_warm 90 = .ok (.isub, 1) := by decide +kernel
theorem dX0_warm_91 : decode cX0_warm 91 = .ok (.invokestatic 100, 3) := by decide +kernel
theorem dX0_warm_94 : decode cX0_warm 94 = .ok (.iastore, 1) := by decide +kernel
theorem dX0_warm_95 : decode cX0_warm 95 = .ok (.aload_n 0, 1) := by decide +kernel
theorem dX0_warm_96 : decode cX0_warm 96 = .ok (.getfield 11, 3) := by decide +kernel
theorem dX0_warm_99 : decode cX0_warm 99 = .ok (.bipush 37, 2) := by decide +kernel
theorem dX0_warm_101 : decode cX0_warm 101 = .ok (.iload_n 1, 1) := by decide +kernel
theorem dX0_warm_102 : decode cX0_warm 102 = .ok (.iadd, 1) := by decide +kernel
theorem dX0_warm_103 : decode cX0_warm 103 = .ok (.iaload, 1) := by decide +kernel
theorem dX0_warm_104 : decode cX0_warm 104 = .ok (.iconst 2, 1) := by decide +kernel
theorem dX0_warm_105 : decode cX0_warm 105 = .ok (.if_icmp .ne 15, 3) := by decide +kernel
theorem dX0_warm_108 : decode cX0_warm 108 = .ok (.iconst 2, 1) := by decide +kernel
theorem dX0_warm_109 : decode cX0_warm 109 = .ok (.iload_n 2, 1) := by decide +kernel
theorem dX0_warm_110 : decode cX0_warm 110 = .ok (.imul, 1) := by decide +kernel
theorem dX0_warm_111 : decode cX0_warm 111 = .ok (.iload_n 3, 1) := by decide +kernel
theorem dX0_warm_112 : decode cX0_warm 112 = .ok (.if_icmp .le 8, 3) := by decide +kernel
theorem dX0_warm_115 : decode cX0_warm 115 = .ok (.aload_n 0, 1) := by decide +kernel
theorem dX0_warm_116 : decode cX0_warm 116 = .ok (.iload_n 1, 1) := by decide +kernel
theorem dX0_warm_117 : decode cX0_warm 117 = .ok (.invokevirtual 103, 3) := by decide +kernel
theorem dX0_warm_120 : decode cX0_warm 120 = .ok (.return_, 1) := by decide +kernel
theorem dX0_creep_0 : decode cX0_creep 0 = .ok (.aload_n 0, 1) := by decide +kernel
theorem dX0_creep_1 : decode cX0_creep 1 = .ok (.getfield 11, 3) := by decide +kernel
theorem dX0_creep_4 : decode cX0_creep 4 = .ok (.bipush 77, 2) := by decide +kernel
theorem dX0_creep_6 : decode cX0_creep 6 = .ok (.iload_n 1, 1) := by decide +kernel
theorem dX0_creep_7 : decode cX0_creep 7 = .ok (.iadd, 1) := by decide +kernel
theorem dX0_creep_8 : decode cX0_creep 8 = .ok (.dup2, 1) := by decide +kernel
theorem dX0_creep_9 : decode cX0_creep 9 = .ok (.iaload, 1) := by decide +kernel
theorem dX0_creep_10 : decode cX0_creep 10 = .ok (.iconst 1, 1) := by decide +kernel
theorem dX0_creep_11 : decode cX0_creep 11 = .ok (.iadd, 1) := by decide +kernel
theorem dX0_creep_12 : decode cX0_creep 12 = .ok (.iastore, 1) := by decide +kernel
theorem dX0_creep_13 : decode cX0_creep 13 = .ok (.aload_n 0, 1) := by decide +kernel
theorem dX0_creep_14 : decode cX0_creep 14 = .ok (.getfield 11, 3) := by decide +kernel
theorem dX0_creep_17 : decode cX0_creep 17 = .ok (.bipush 77, 2) := by decide +kernel
theorem dX0_creep_19 : decode cX0_creep 19 = .ok (.iload_n 1, 1) := by decide +kernel
theorem dX0_creep_20 : decode cX0_creep 20 = .ok (.iadd, 1) := by decide +kernel
theorem dX0_creep_21 : decode cX0_creep 21 = .ok (.iaload, 1) := by decide +kernel
theorem dX0_creep_22 : decode cX0_creep 22 = .ok (.aload_n 0, 1) := by decide +kernel
theorem dX0_creep_23 : decode cX0_creep 23 = .ok (.getfield 11, 3) := by decide +kernel
theorem dX0_creep_26 : decode cX0_creep 26 = .ok (.iconst 2, 1) := by decide +kernel
theorem dX0_creep_27 : decode cX0_creep 27 = .ok (.iaload, 1) := by decide +kernel
theorem dX0_creep_28 : decode cX0_creep 28 = .ok (.if_icmp .ge 4, 3) := by decide +kernel
theorem dX0_creep_31 : decode cX0_creep 31 = .ok (.return_, 1) := by decide +kernel
theorem dX0_creep_32 : decode cX0_creep 32 = .ok (.aload_n 0, 1) := by decide +kernel
theorem dX0_creep_33 : decode cX0_creep 33 = .ok (.getfield 11, 3) := by decide +kernel
theorem dX0_creep_36 : decode cX0_creep 36 = .ok (.bipush 77, 2) := by decide +kernel
theorem dX0_creep_38 : decode cX0_creep 38 = .ok (.iload_n 1, 1) := by decide +kernel
theorem dX0_creep_39 : decode cX0_creep 39 = .ok (.iadd, 1) := by decide +kernel
theorem dX0_creep_40 : decode cX0_creep 40 = .ok (.iconst 0, 1) := by decide +kernel
theorem dX0_creep_41 : decode cX0_creep 41 = .ok (.iastore, 1) := by decide +kernel
theorem dX0_creep_42 : decode cX0_creep 42 = .ok (.aload_n 0, 1) := by decide +kernel
theorem dX0_creep_43 : decode cX0_creep 43 = .ok (.getfield 11, 3) := by decide +kernel
theorem dX0_creep_46 : decode cX0_creep 46 = .ok (.bipush 67, 2) := by decide +kernel
theorem dX0_creep_48 : decode cX0_creep 48 = .ok (.iload_n 1, 1) := by decide +kernel
theorem dX0_creep_49 : decode cX0_creep 49 = .ok (.iadd, 1) := by decide +kernel
theorem dX0_creep_50 : decode cX0_creep 50 = .ok (.dup2, 1) := by decide +kernel
theorem dX0_creep_51 : decode cX0_creep 51 = .ok (.iaload, 1) := by decide +kernel
theorem dX0_creep_52 : decode cX0_creep 52 = .ok (.iconst 1, 1) := by decide +kernel
theorem dX0_creep_53 : decode cX0_creep 53 = .ok (.iadd, 1) := by decide +kernel
theorem dX0_creep_54 : decode cX0_creep 54 = .ok (.iastore, 1) := by decide +kernel
theorem dX0_creep_55 : decode cX0_creep 55 = .ok (.return_, 1) := by decide +kernel
theorem dX0_molten_0 : decode cX0_molten 0 = .ok (.iconst 0, 1) := by decide +kernel
theorem dX0_molten_1 : decode cX0_molten 1 = .ok (.istore_n 1, 1) := by decide +kernel
theorem dX0_molten_2 : decode cX0_molten 2 = .ok (.iconst 0, 1) := by decide +kernel
theorem dX0_molten_3 : decode cX0_molten 3 = .ok (.istore_n 2, 1) := by decide +kernel
theorem dX0_molten_4 : decode cX0_molten 4 = .ok (.iload_n 2, 1) := by decide +kernel
theorem dX0_molten_5 : decode cX0_molten 5 = .ok (.aload_n 0, 1) := by decide +kernel
theorem dX0_molten_6 : decode cX0_molten 6 = .ok (.getfield 11, 3) := by decide +kernel
theorem dX0_molten_9 : decode cX0_molten 9 = .ok (.iconst 4, 1) := by decide +kernel
theorem dX0_molten_10 : decode cX0_molten 10 = .ok (.iaload, 1) := by decide +kernel
theorem dX0_molten_11 : decode cX0_molten 11 = .ok (.if_icmp .ge 40, 3) := by decide +kernel
theorem dX0_molten_14 : decode cX0_molten 14 = .ok (.aload_n 0, 1) := by decide +kernel
theorem dX0_molten_15 : decode cX0_molten 15 = .ok (.iload_n 2, 1) := by decide +kernel
theorem dX0_molten_16 : decode cX0_molten 16 = .ok (.invokevirtual 67, 3) := by decide +kernel
theorem dX0_molten_19 : decode cX0_molten 19 = .ok (.ifCond .ne 26, 3) := by decide +kernel
theorem dX0_molten_22 : decode cX0_molten 22 = .ok (.aload_n 0, 1) := by decide +kernel
theorem dX0_molten_23 : decode cX0_molten 23 = .ok (.getfield 11, 3) := by decide +kernel
theorem dX0_molten_26 : decode cX0_molten 26 = .ok (.bipush 57, 2) := by decide +kernel
theorem dX0_molten_28 : decode cX0_molten 28 = .ok (.iload_n 2, 1) := by decide +kernel
theorem dX0_molten_29 : decode cX0_molten 29 = .ok (.iadd, 1) := by decide +kernel
theorem dX0_molten_30 : decode cX0_molten 30 = .ok (.iaload, 1) := by decide +kernel
theorem dX0_molten_31 : decode cX0_molten 31 = .ok (.aload_n 0, 1) := by decide +kernel
theorem dX0_molten_32 : decode cX0_molten 32 = .ok (.iload_n 2, 1) := by decide +kernel
theorem dX0_molten_33 : decode cX0_molten 33 = .ok (.invokevirtual 106, 3) := by decide +kernel
theorem dX0_molten_36 : decode cX0_molten 36 = .ok (.if_icmp .lt 9, 3) := by decide +kernel
theorem dX0_molten_39 : decode cX0_molten 39 = .ok (.iload_n 1, 1) := by decide +kernel
theorem dX0_molten_40 : decode cX0_molten 40 = .ok (.iconst 1, 1) := by decide +kernel
theorem dX0_molten_41 : decode cX0_molten 41 = .ok (.iload_n 2, 1) := by decide +kernel
theorem dX0_molten_42 : decode cX0_molten 42 = .ok (.ishl, 1) := by decide +kernel
theorem dX0_molten_43 : decode cX0_molten 43 = .ok (.ior, 1) := by decide +kernel
theorem dX0_molten_44 : decode cX0_molten 44 = .ok (.istore_n 1, 1) := by decide +kernel
theorem dX0_molten_45 : decode cX0_molten 45 = .ok (.iinc 2 1, 3) := by decide +kernel
theorem dX0_molten_48 : decode cX0_molten 48 = .ok (.goto (-44), 3) := by decide +kernel
theorem dX0_molten_51 : decode cX0_molten 51 = .ok (.iload_n 1, 1) := by decide +kernel
theorem dX0_molten_52 : decode cX0_molten 52 = .ok (.ireturn, 1) := by decide +kernel
theorem dX0_nearestOf_0 : decode cX0_nearestOf 0 = .ok (.iconst 0, 1) := by decide +kernel
theorem dX0_nearestOf_1 : decode cX0_nearestOf 1 = .ok (.istore_n 2, 1) := by decide +kernel
theorem dX0_nearestOf_2 : decode cX0_nearestOf 2 = .ok (.iconst 0, 1) := by decide +kernel
theorem dX0_nearestOf_3 : decode cX0_nearestOf 3 = .ok (.istore_n 3, 1) := by decide +kernel
theorem dX0_nearestOf_4 : decode cX0_nearestOf 4 = .ok (.iload_n 3, 1) := by decide +kernel
theorem dX0_nearestOf_5 : decode cX0_nearestOf 5 = .ok (.aload_n 0, 1) := by decide +kernel
theorem dX0_nearestOf_6 : decode cX0_nearestOf 6 = .ok (.getfield 11, 3) := by decide +kernel
theorem dX0_nearestOf_9 : decode cX0_nearestOf 9 = .ok (.iconst 4, 1) := by decide +kernel
theorem dX0_nearestOf_10 : decode cX0_nearestOf 10 = .ok (.iaload, 1) := by decide +kernel
theorem dX0_nearestOf_11 : decode cX0_nearestOf 11 = .ok (.if_icmp .ge 28, 3) := by decide +kernel
theorem dX0_nearestOf_14 : decode cX0_nearestOf 14 = .ok (.aload_n 0, 1) := by decide +kernel
theorem dX0_nearestOf_15 : decode cX0_nearestOf 15 = .ok (.iload_n 3, 1) := by decide +kernel
theorem dX0_nearestOf_16 : decode cX0_nearestOf 16 = .ok (.invokevirtual 109, 3) := by decide +kernel
theorem dX0_nearestOf_19 : decode cX0_nearestOf 19 = .ok (.iload_n 1, 1) := by decide +kernel
theorem dX0_nearestOf_20 : decode cX0_nearestOf 20 = .ok (.iand, 1) := by decide +kernel
theorem dX0_nearestOf_21 : decode cX0_nearestOf 21 = .ok (.iconst 1, 1) := by decide +kernel
theorem dX0_nearestOf_22 : decode cX0_nearestOf 22 = .ok (.iload_n 3, 1) := by decide +kernel
theorem dX0_nearestOf_23 : decode cX0_nearestOf 23 = .ok (.ishl, 1) := by decide +kernel
theorem dX0_nearestOf_24 : decode cX0_nearestOf 24 = .ok (.if_icmp .ne 9, 3) := by decide +kernel
theorem dX0_nearestOf_27 : decode cX0_nearestOf 27 = .ok (.iload_n 2, 1) := by decide +kernel
theorem dX0_nearestOf_28 : decode cX0_nearestOf 28 = .ok (.iconst 1, 1) := by decide +kernel
theorem dX0_nearestOf_29 : decode cX0_nearestOf 29 = .ok (.iload_n 3, 1) := by decide +kernel
theorem dX0_nearestOf_30 : decode cX0_nearestOf 30 = .ok (.ishl, 1) := by decide +kernel
theorem dX0_nearestOf_31 : decode cX0_nearestOf 31 = .ok (.ior, 1) := by decide +kernel
theorem dX0_nearestOf_32 : decode cX0_nearestOf 32 = .ok (.istore_n 2, 1) := by decide +kernel
theorem dX0_nearestOf_33 : decode cX0_nearestOf 33 = .ok (.iinc 3 1, 3) := by decide +kernel
theorem dX0_nearestOf_36 : decode cX0_nearestOf 36 = .ok (.goto (-32), 3) := by decide +kernel
theorem dX0_nearestOf_39 : decode cX0_nearestOf 39 = .ok (.iload_n 2, 1) := by decide +kernel
theorem dX0_nearestOf_40 : decode cX0_nearestOf 40 = .ok (.ireturn, 1) := by decide +kernel
theorem dX0_blow_0 : decode cX0_blow 0 = .ok (.aload_n 0, 1) := by decide +kernel
theorem dX0_blow_1 : decode cX0_blow 1 = .ok (.getfield 11, 3) := by decide +kernel
theorem dX0_blow_4 : decode cX0_blow 4 = .ok (.bipush 47, 2) := by decide +kernel
theorem dX0_blow_6 : decode cX0_blow 6 = .ok (.iload_n 1, 1) := by decide +kernel
theorem dX0_blow_7 : decode cX0_blow 7 = .ok (.iadd, 1) := by decide +kernel
theorem dX0_blow_8 : decode cX0_blow 8 = .ok (.aload_n 0, 1) := by decide +kernel
theorem dX0_blow_9 : decode cX0_blow 9 = .ok (.getfield 11, 3) := by decide +kernel
theorem dX0_blow_12 : decode cX0_blow 12 = .ok (.iconst 0, 1) := by decide +kernel
theorem dX0_blow_13 : decode cX0_blow 13 = .ok (.iaload, 1) := by decide +kernel
theorem dX0_blow_14 : decode cX0_blow 14 = .ok (.iastore, 1) := by decide +kernel
theorem dX0_blow_15 : decode cX0_blow 15 = .ok (.aload_n 0, 1) := by decide +kernel
theorem dX0_blow_16 : decode cX0_blow 16 = .ok (.getfield 11, 3) := by decide +kernel
theorem dX0_blow_19 : decode cX0_blow 19 = .ok (.iconst 0, 1) := by decide +kernel
theorem dX0_blow_20 : decode cX0_blow 20 = .ok (.iaload, 1) := by decide +kernel
theorem dX0_blow_21 : decode cX0_blow 21 = .ok (.ifCond .ne 16, 3) := by decide +kernel
theorem dX0_blow_24 : decode cX0_blow 24 = .ok (.aload_n 0, 1) := by decide +kernel
theorem dX0_blow_25 : decode cX0_blow 25 = .ok (.getfield 11, 3) := by decide +kernel
theorem dX0_blow_28 : decode cX0_blow 28 = .ok (.bipush 7, 2) := by decide +kernel
theorem dX0_blow_30 : decode cX0_blow 30 = .ok (.dup2, 1) := by decide +kernel
theorem dX0_blow_31 : decode cX0_blow 31 = .ok (.iaload, 1) := by decide +kernel
theorem dX0_blow_32 : decode cX0_blow 32 = .ok (.iconst 1, 1) := by decide +kernel
theorem dX0_blow_33 : decode cX0_blow 33 = .ok (.iload_n 1, 1) := by decide +kernel
theorem dX0_blow_34 : decode cX0_blow 34 = .ok (.ishl, 1) := by decide +kernel
theorem dX0_blow_35 : decode cX0_blow 35 = .ok (.ior, 1) := by decide +kernel
theorem dX0_blow_36 : decode cX0_blow 36 = .ok (.iastore, 1) := by decide +kernel
theorem dX0_blow_37 : decode cX0_blow 37 = .ok (.aload_n 0, 1) := by decide +kernel
theorem dX0_blow_38 : decode cX0_blow 38 = .ok (.getfield 11, 3) := by decide +kernel
theorem dX0_blow_41 : decode cX0_blow 41 = .ok (.bipush 8, 2) := by decide +kernel
theorem dX0_blow_43 : decode cX0_blow 43 = .ok (.dup2, 1) := by decide +kernel
theorem dX0_blow_44 : decode cX0_blow 44 = .ok (.iaload, 1) := by decide +kernel
theorem dX0_blow_45 : decode cX0_blow 45 = .ok (.iconst 1, 1) := by decide +kernel
theorem dX0_blow_46 : decode cX0_blow 46 = .ok (.iadd, 1) := by decide +kernel
theorem dX0_blow_47 : decode cX0_blow 47 = .ok (.iastore, 1) := by decide +kernel
theorem dX0_blow_48 : decode cX0_blow 48 = .ok (.aload_n 0, 1) := by decide +kernel
theorem dX0_blow_49 : decode cX0_blow 49 = .ok (.getfield 11, 3) := by decide +kernel
theorem dX0_blow_52 : decode cX0_blow 52 = .ok (.bipush 87, 2) := by decide +kernel
theorem dX0_blow_54 : decode cX0_blow 54 = .ok (.iload_n 1, 1) := by decide +kernel
theorem dX0_blow_55 : decode cX0_blow 55 = .ok (.iadd, 1) := by decide +kernel
theorem dX0_blow_56 : decode cX0_blow 56 = .ok (.dup2, 1) := by decide +kernel
theorem dX0_blow_57 : decode cX0_blow 57 = .ok (.iaload, 1) := by decide +kernel
theorem dX0_blow_58 : decode cX0_blow 58 = .ok (.iconst 1, 1) := by decide +kernel
theorem dX0_blow_59 : decode cX0_blow 59 = .ok (.iadd, 1) := by decide +kernel
theorem dX0_blow_60 : decode cX0_blow 60 = .ok (.iastore, 1) := by decide +kernel
theorem dX0_blow_61 : decode cX0_blow 61 = .ok (.aload_n 0, 1) := by decide +kernel
theorem dX0_blow_62 : decode cX0_blow 62 = .ok (.getfield 11, 3) := by decide +kernel
theorem dX0_blow_65 : decode cX0_blow 65 = .ok (.bipush 9, 2) := by decide +kernel
theorem dX0_blow_67 : decode cX0_blow 67 = .ok (.aload_n 0, 1) := by decide +kernel
theorem dX0_blow_68 : decode cX0_blow 68 = .ok (.getfield 11, 3) := by decide +kernel
theorem dX0_blow_71 : decode cX0_blow 71 = .ok (.bipush 10, 2) := by decide +kernel
theorem dX0_blow_73 : decode cX0_blow 73 = .ok (.bipush 7, 2) := by decide +kernel
theorem dX0_blow_75 : decode cX0_blow 75 = .ok (.invokestatic 18, 3) := by decide +kernel
theorem dX0_blow_78 : decode cX0_blow 78 = .ok (.aload_n 0, 1) := by decide +kernel
theorem dX0_blow_79 : decode cX0_blow 79 = .ok (.getfield 11, 3) := by decide +kernel
theorem dX0_blow_82 : decode cX0_blow 82 = .ok (.bipush 9, 2) := by decide +kernel
theorem dX0_blow_84 : decode cX0_blow 84 = .ok (.iload_n 1, 1) := by decide +kernel
theorem dX0_blow_85 : decode cX0_blow 85 = .ok (.iastore, 1) := by decide +kernel
theorem dX0_blow_86 : decode cX0_blow 86 = .ok (.return_, 1) := by decide +kernel
theorem dX0_aboutBoard_0 : decode cX0_aboutBoard 0 = .ok (.aload_n 0, 1) := by decide +kernel
theorem dX0_aboutBoard_1 : decode cX0_aboutBoard 1 = .ok (.iload_n 1, 1) := by decide +kernel
theorem dX0_aboutBoard_2 : decode cX0_aboutBoard 2 = .ok (.invokevirtual 24, 3) := by decide +kernel
theorem dX0_aboutBoard_5 : decode cX0_aboutBoard 5 = .ok (.ifCond .ne 5, 3) := by decide +kernel
theorem dX0_aboutBoard_8 : decode cX0_aboutBoard 8 = .ok (.iconst (-1), 1) := by decide +kernel
theorem dX0_aboutBoard_9 : decode cX0_aboutBoard 9 = .ok (.ireturn, 1) := by decide +kernel
theorem dX0_aboutBoard_10 : decode cX0_aboutBoard 10 = .ok (.iload_n 2, 1) := by decide +kernel
theorem dX0_aboutBoard_11 : decode cX0_aboutBoard 11 = .ok (.tableswitch 173 0 11 #[61, 80, 90, 100, 106, 112, 122, 128, 138, 147, 153, 163], 61) := by decide +kernel
theorem dX0_aboutBoard_72 : decode cX0_aboutBoard 72 = .ok (.iload_n 1, 1) := by decide +kernel
theorem dX0_aboutBoard_73 : decode cX0_aboutBoard 73 = .ok (.ifCond .ne 8, 3) := by decide +kernel
theorem dX0_aboutBoard_76 : decode cX0_aboutBoard 76 = .ok (.bipush (-6), 2) := by decide +kernel
theorem dX0_aboutBoard_78 : decode cX0_aboutBoard 78 = .ok (.goto 12, 3) := by decide +kernel
theorem dX0_aboutBoard_81 : decode cX0_aboutBoard 81 = .ok (.aload_n 0, 1) := by decide +kernel
theorem dX0_aboutBoard_82 : decode cX0_aboutBoard 82 = .ok (.getfield 11, 3) := by decide +kernel
theorem dX0_aboutBoard_85 : decode cX0_aboutBoard 85 = .ok (.bipush 17, 2) := by decide +kernel
theorem dX0_aboutBoard_87 : decode cX0_aboutBoard 87 = .ok (.iload_n 1, 1) := by decide +kernel
theorem dX0_aboutBoard_88 : decode cX0_aboutBoard 88 = .ok (.iadd, 1) := by decide +kernel
theorem dX0_aboutBoard_89 : decode cX0_aboutBoard 89 = .ok (.iaload, 1) := by decide +kernel
theorem dX0_aboutBoard_90 : decode cX0_aboutBoard 90 = .ok (.ireturn, 1) := by decide +kernel
theorem dX0_aboutBoard_91 : decode cX0_aboutBoard 91 = .ok (.aload_n 0, 1) := by decide +kernel
theorem dX0_aboutBoard_92 : decode cX0_aboutBoard 92 = .ok (.getfield 11, 3) := by decide +kernel
theorem dX0_aboutBoard_95 : decode cX0_aboutBoard 95 = .ok (.bipush 27, 2) := by decide +kernel
theorem dX0_aboutBoard_97 : decode cX0_aboutBoard 97 = .ok (.iload_n 1, 1) := by decide +kernel
theorem dX0_aboutBoard_98 : decode cX0_aboutBoard 98 = .ok (.iadd, 1) := by decide +kernel
theorem dX0_aboutBoard_99 : decode cX0_aboutBoard 99 = .ok (.iaload, 1) := by decide +kernel
theorem dX0_aboutBoard_100 : decode cX0_aboutBoard 100 = .ok (.ireturn, 1) := by decide +kernel
theorem dX0_aboutBoard_101 : decode cX0_aboutBoard 101 = .ok (.aload_n 0, 1) := by decide +kernel
theorem dX0_aboutBoard_102 : decode cX0_aboutBoard 102 = .ok (.getfield 11, 3) := by decide +kernel
theorem dX0_aboutBoard_105 : decode cX0_aboutBoard 105 = .ok (.bipush 37, 2) := by decide +kernel
theorem dX0_aboutBoard_107 : decode cX0_aboutBoard 107 = .ok (.iload_n 1, 1) := by decide +kernel
theorem dX0_aboutBoard_108 : decode cX0_aboutBoard 108 = .ok (.iadd, 1) := by decide +kernel
theorem dX0_aboutBoard_109 : decode cX0_aboutBoard 109 = .ok (.iaload, 1) := by decide +kernel
theorem dX0_aboutBoard_110 : decode cX0_aboutBoard 110 = .ok (.ireturn, 1) := by decide +kernel
theorem dX0_aboutBoard_111 : decode cX0_aboutBoard 111 = .ok (.aload_n 0, 1) := by decide +kernel
theorem dX0_aboutBoard_112 : decode cX0_aboutBoard 112 = .ok (.iload_n 1, 1) := by decide +kernel
theorem dX0_aboutBoard_113 : decode cX0_aboutBoard 113 = .ok (.invokevirtual 67, 3) := by decide +kernel
theorem dX0_aboutBoard_116 : decode cX0_aboutBoard 116 = .ok (.ireturn, 1) := by decide +kernel
theorem dX0_aboutBoard_117 : decode cX0_aboutBoard 117 = .ok (.aload_n 0, 1) := by decide +kernel
theorem dX0_aboutBoard_118 : decode cX0_aboutBoard 118 = .ok (.iload_n 1, 1) := by decide +kernel
theorem dX0_aboutBoard_119 : decode cX0_aboutBoard 119 = .ok (.invokevirtual 112, 3) := by decide +kernel
theorem dX0_aboutBoard_122 : decode cX0_aboutBoard 122 = .ok (.ireturn, 1) := by decide +kernel
theorem dX0_aboutBoard_123 : decode cX0_aboutBoard 123 = .ok (.aload_n 0, 1) := by decide +kernel
theorem dX0_aboutBoard_124 : decode cX0_aboutBoard 124 = .ok (.getfield 11, 3) := by decide +kernel
theorem dX0_aboutBoard_127 : decode cX0_aboutBoard 127 = .ok (.bipush 57, 2) := by decide +kernel
theorem dX0_aboutBoard_129 : decode cX0_aboutBoard 129 = .ok (.iload_n 1, 1) := by decide +kernel
theorem dX0_aboutBoard_130 : decode cX0_aboutBoard 130 = .ok (.iadd, 1) := by decide +kernel
theorem dX0_aboutBoard_131 : decode cX0_aboutBoard 131 = .ok (.iaload, 1) := by decide +kernel
theorem dX0_aboutBoard_132 : decode cX0_aboutBoard 132 = .ok (.ireturn, 1) := by decide +kernel
theorem dX0_aboutBoard_133 : decode cX0_aboutBoard 133 = .ok (.aload_n 0, 1) := by decide +kernel
theorem dX0_aboutBoard_134 : decode cX0_aboutBoard 134 = .ok (.iload_n 1, 1) := by decide +kernel
theorem dX0_aboutBoard_135 : decode cX0_aboutBoard 135 = .ok (.invokevirtual 106, 3) := by decide +kernel
theorem dX0_aboutBoard_138 : decode cX0_aboutBoard 138 = .ok (.ireturn, 1) := by decide +kernel
theorem dX0_aboutBoard_139 : decode cX0_aboutBoard 139 = .ok (.aload_n 0, 1) := by decide +kernel
theorem dX0_aboutBoard_140 : decode cX0_aboutBoard 140 = .ok (.getfield 11, 3) := by decide +kernel
theorem dX0_aboutBoard_143 : decode cX0_aboutBoard 143 = .ok (.bipush 67, 2) := by decide +kernel
theorem dX0_aboutBoard_145 : decode cX0_aboutBoard 145 = .ok (.iload_n 1, 1) := by decide +kernel
theorem dX0_aboutBoard_146 : decode cX0_aboutBoard 146 = .ok (.iadd, 1) := by decide +kernel
theorem dX0_aboutBoard_147 : decode cX0_aboutBoard 147 = .ok (.iaload, 1) := by decide +kernel
theorem dX0_aboutBoard_148 : decode cX0_aboutBoard 148 = .ok (.ireturn, 1) := by decide +kernel
theorem dX0_aboutBoard_149 : decode cX0_aboutBoard 149 = .ok (.aload_n 0, 1) := by decide +kernel
theorem dX0_aboutBoard_150 : decode cX0_aboutBoard 150 = .ok (.invokevirtual 87, 3) := by decide +kernel
theorem dX0_aboutBoard_153 : decode cX0_aboutBoard 153 = .ok (.iload_n 1, 1) := by decide +kernel
theorem dX0_aboutBoard_154 : decode cX0_aboutBoard 154 = .ok (.ishr, 1) := by decide +kernel
theorem dX0_aboutBoard_155 : decode cX0_aboutBoard 155 = .ok (.iconst 1, 1) := by decide +kernel
theorem dX0_aboutBoard_156 : decode cX0_aboutBoard 156 = .ok (.iand, 1) := by decide +kernel
theorem dX0_aboutBoard_157 : decode cX0_aboutBoard 157 = .ok (.ireturn, 1) := by decide +kernel
theorem dX0_aboutBoard_158 : decode cX0_aboutBoard 158 = .ok (.aload_n 0, 1) := by decide +kernel
theorem dX0_aboutBoard_159 : decode cX0_aboutBoard 159 = .ok (.iload_n 1, 1) := by decide +kernel
theorem dX0_aboutBoard_160 : decode cX0_aboutBoard 160 = .ok (.invokevirtual 115, 3) := by decide +kernel
theorem dX0_aboutBoard_163 : decode cX0_aboutBoard 163 = .ok (.ireturn, 1) := by decide +kernel
theorem dX0_aboutBoard_164 : decode cX0_aboutBoard 164 = .ok (.aload_n 0, 1) := by decide +kernel
theorem dX0_aboutBoard_165 : decode cX0_aboutBoard 165 = .ok (.getfield 11, 3) := by decide +kernel
theorem dX0_aboutBoard_168 : decode cX0_aboutBoard 168 = .ok (.bipush 47, 2) := by decide +kernel
theorem dX0_aboutBoard_170 : decode cX0_aboutBoard 170 = .ok (.iload_n 1, 1) := by decide +kernel
theorem dX0_aboutBoard_171 : decode cX0_aboutBoard 171 = .ok (.iadd, 1) := by decide +kernel
theorem dX0_aboutBoard_172 : decode cX0_aboutBoard 172 = .ok (.iaload, 1) := by decide +kernel
theorem dX0_aboutBoard_173 : decode cX0_aboutBoard 173 = .ok (.ireturn, 1) := by decide +kernel
theorem dX0_aboutBoard_174 : decode cX0_aboutBoard 174 = .ok (.aload_n 0, 1) := by decide +kernel
theorem dX0_aboutBoard_175 : decode cX0_aboutBoard 175 = .ok (.getfield 11, 3) := by decide +kernel
theorem dX0_aboutBoard_178 : decode cX0_aboutBoard 178 = .ok (.bipush 87, 2) := by decide +kernel
theorem dX0_aboutBoard_180 : decode cX0_aboutBoard 180 = .ok (.iload_n 1, 1) := by decide +kernel
theorem dX0_aboutBoard_181 : decode cX0_aboutBoard 181 = .ok (.iadd, 1) := by decide +kernel
theorem dX0_aboutBoard_182 : decode cX0_aboutBoard 182 = .ok (.iaload, 1) := by decide +kernel
theorem dX0_aboutBoard_183 : decode cX0_aboutBoard 183 = .ok (.ireturn, 1) := by decide +kernel
theorem dX0_aboutBoard_184 : decode cX0_aboutBoard 184 = .ok (.bipush (-2), 2) := by decide +kernel
theorem dX0_aboutBoard_186 : decode cX0_aboutBoard 186 = .ok (.ireturn, 1) := by decide +kernel
theorem dX0_aboutLoad_0 : decode cX0_aboutLoad 0 = .ok (.aload_n 0, 1) := by decide +kernel
theorem dX0_aboutLoad_1 : decode cX0_aboutLoad 1 = .ok (.iload_n 1, 1) := by decide +kernel
theorem dX0_aboutLoad_2 : decode cX0_aboutLoad 2 = .ok (.invokevirtual 42, 3) := by decide +kernel
theorem dX0_aboutLoad_5 : decode cX0_aboutLoad 5 = .ok (.ifCond .ne 5, 3) := by decide +kernel
theorem dX0_aboutLoad_8 : decode cX0_aboutLoad 8 = .ok (.iconst (-1), 1) := by decide +kernel
theorem dX0_aboutLoad_9 : decode cX0_aboutLoad 9 = .ok (.ireturn, 1) := by decide +kernel
theorem dX0_aboutLoad_10 : decode cX0_aboutLoad 10 = .ok (.iload_n 2, 1) := by decide +kernel
theorem dX0_aboutLoad_11 : decode cX0_aboutLoad 11 = .ok (.tableswitch 74 0 3 #[29, 39, 49, 61], 29) := by decide +kernel
theorem dX0_aboutLoad_40 : decode cX0_aboutLoad 40 = .ok (.aload_n 0, 1) := by decide +kernel
theorem dX0_aboutLoad_41 : decode cX0_aboutLoad 41 = .ok (.getfield 11, 3) := by decide +kernel
theorem dX0_aboutLoad_44 : decode cX0_aboutLoad 44 = .ok (.bipush 97, 2) := by decide +kernel
theorem dX0_aboutLoad_46 : decode cX0_aboutLoad 46 = .ok (.iload_n 1, 1) := by decide +kernel
theorem dX0_aboutLoad_47 : decode cX0_aboutLoad 47 = .ok (.iadd, 1) := by decide +kernel
theorem dX0_aboutLoad_48 : decode cX0_aboutLoad 48 = .ok (.iaload, 1) := by decide +kernel
theorem dX0_aboutLoad_49 : decode cX0_aboutLoad 49 = .ok (.ireturn, 1) := by decide +kernel
theorem dX0_aboutLoad_50 : decode cX0_aboutLoad 50 = .ok (.aload_n 0, 1) := by decide +kernel
theorem dX0_aboutLoad_51 : decode cX0_aboutLoad 51 = .ok (.getfield 11, 3) := by decide +kernel
theorem dX0_aboutLoad_54 : decode cX0_aboutLoad 54 = .ok (.bipush 111, 2) := by decide +kernel
theorem dX0_aboutLoad_56 : decode cX0_aboutLoad 56 = .ok (.iload_n 1, 1) := by decide +kernel
theorem dX0_aboutLoad_57 : decode cX0_aboutLoad 57 = .ok (.iadd, 1) := by decide +kernel
theorem dX0_aboutLoad_58 : decode cX0_aboutLoad 58 = .ok (.iaload, 1) := by decide +kernel
theorem dX0_aboutLoad_59 : decode cX0_aboutLoad 59 = .ok (.ireturn, 1) := by decide +kernel
theorem dX0_aboutLoad_60 : decode cX0_aboutLoad 60 = .ok (.aload_n 0, 1) := by decide +kernel
theorem dX0_aboutLoad_61 : decode cX0_aboutLoad 61 = .ok (.getfield 11, 3) := by decide +kernel
theorem dX0_aboutLoad_64 : decode cX0_aboutLoad 64 = .ok (.bipush 6, 2) := by decide +kernel
theorem dX0_aboutLoad_66 : decode cX0_aboutLoad 66 = .ok (.iaload, 1) := by decide +kernel
theorem dX0_aboutLoad_67 : decode cX0_aboutLoad 67 = .ok (.iload_n 1, 1) := by decide +kernel
theorem dX0_aboutLoad_68 : decode cX0_aboutLoad 68 = .ok (.ishr, 1) := by decide +kernel
theorem dX0_aboutLoad_69 : decode cX0_aboutLoad 69 = .ok (.iconst 1, 1) := by decide +kernel
theorem dX0_aboutLoad_70 : decode cX0_aboutLoad 70 = .ok (.iand, 1) := by decide +kernel
theorem dX0_aboutLoad_71 : decode cX0_aboutLoad 71 = .ok (.ireturn, 1) := by decide +kernel
theorem dX0_aboutLoad_72 : decode cX0_aboutLoad 72 = .ok (.aload_n 0, 1) := by decide +kernel
theorem dX0_aboutLoad_73 : decode cX0_aboutLoad 73 = .ok (.aload_n 0, 1) := by decide +kernel
theorem dX0_aboutLoad_74 : decode cX0_aboutLoad 74 = .ok (.invokevirtual 118, 3) := by decide +kernel
theorem dX0_aboutLoad_77 : decode cX0_aboutLoad 77 = .ok (.invokevirtual 121, 3) := by decide +kernel
theorem dX0_aboutLoad_80 : decode cX0_aboutLoad 80 = .ok (.iload_n 1, 1) := by decide +kernel
theorem dX0_aboutLoad_81 : decode cX0_aboutLoad 81 = .ok (.ishr, 1) := by decide +kernel
theorem dX0_aboutLoad_82 : decode cX0_aboutLoad 82 = .ok (.iconst 1, 1) := by decide +kernel
theorem dX0_aboutLoad_83 : decode cX0_aboutLoad 83 = .ok (.iand, 1) := by decide +kernel
theorem dX0_aboutLoad_84 : decode cX0_aboutLoad 84 = .ok (.ireturn, 1) := by decide +kernel
theorem dX0_aboutLoad_85 : decode cX0_aboutLoad 85 = .ok (.bipush (-2), 2) := by decide +kernel
theorem dX0_aboutLoad_87 : decode cX0_aboutLoad 87 = .ok (.ireturn, 1) := by decide +kernel
theorem dX0_aboutHouse_0 : decode cX0_aboutHouse 0 = .ok (.iload_n 1, 1) := by decide +kernel
theorem dX0_aboutHouse_1 : decode cX0_aboutHouse 1 = .ok (.tableswitch 146 0 11 #[63, 70, 77, 84, 89, 98, 106, 111, 119, 125, 132, 139], 63) := by decide +kernel
theorem dX0_aboutHouse_64 : decode cX0_aboutHouse 64 = .ok (.aload_n 0, 1) := by decide +kernel
theorem dX0_aboutHouse_65 : decode cX0_aboutHouse 65 = .ok (.getfield 11, 3) := by decide +kernel
theorem dX0_aboutHouse_68 : decode cX0_aboutHouse 68 = .ok (.iconst 3, 1) := by decide +kernel
theorem dX0_aboutHouse_69 : decode cX0_aboutHouse 69 = .ok (.iaload, 1) := by decide +kernel
theorem dX0_aboutHouse_70 : decode cX0_aboutHouse 70 = .ok (.ireturn, 1) := by decide +kernel
theorem dX0_aboutHouse_71 : decode cX0_aboutHouse 71 = .ok (.aload_n 0, 1) := by decide +kernel
theorem dX0_aboutHouse_72 : decode cX0_aboutHouse 72 = .ok (.getfield 11, 3) := by decide +kernel
theorem dX0_aboutHouse_75 : decode cX0_aboutHouse 75 = .ok (.iconst 4, 1) := by decide +kernel
theorem dX0_aboutHouse_76 : decode cX0_aboutHouse 76 = .ok (.iaload, 1) := by decide +kernel
theorem dX0_aboutHouse_77 : decode cX0_aboutHouse 77 = .ok (.ireturn, 1) := by decide +kernel
theorem dX0_aboutHouse_78 : decode cX0_aboutHouse 78 = .ok (.aload_n 0, 1) := by decide +kernel
theorem dX0_aboutHouse_79 : decode cX0_aboutHouse 79 = .ok (.getfield 11, 3) := by decide +kernel
theorem dX0_aboutHouse_82 : decode cX0_aboutHouse 82 = .ok (.iconst 5, 1) := by decide +kernel
theorem dX0_aboutHouse_83 : decode cX0_aboutHouse 83 = .ok (.iaload, 1) := by decide +kernel
theorem dX0_aboutHouse_84 : decode cX0_aboutHouse 84 = .ok (.ireturn, 1) := by decide +kernel
theorem dX0_aboutHouse_85 : decode cX0_aboutHouse 85 = .ok (.aload_n 0, 1) := by decide +kernel
theorem dX0_aboutHouse_86 : decode cX0_aboutHouse 86 = .ok (.invokevirtual 87, 3) := by decide +kernel
theorem dX0_aboutHouse_89 : decode cX0_aboutHouse 89 = .ok (.ireturn, 1) := by decide +kernel
theorem dX0_aboutHouse_90 : decode cX0_aboutHouse 90 = .ok (.aload_n 0, 1) := by decide +kernel
theorem dX0_aboutHouse_91 : decode cX0_aboutHouse 91 = .ok (.aload_n 0, 1) := by decide +kernel
theorem dX0_aboutHouse_92 : decode cX0_aboutHouse 92 = .ok (.invokevirtual 118, 3) := by decide +kernel
theorem dX0_aboutHouse_95 : decode cX0_aboutHouse 95 = .ok (.invokevirtual 121, 3) := by decide +kernel
theorem dX0_aboutHouse_98 : decode cX0_aboutHouse 98 = .ok (.ireturn, 1) := by decide +kernel
theorem dX0_aboutHouse_99 : decode cX0_aboutHouse 99 = .ok (.aload_n 0, 1) := by decide +kernel
theorem dX0_aboutHouse_100 : decode cX0_aboutHouse 100 = .ok (.getfield 11, 3) := by decide +kernel
theorem dX0_aboutHouse_103 : decode cX0_aboutHouse 103 = .ok (.bipush 7, 2) := by decide +kernel
theorem dX0_aboutHouse_105 : decode cX0_aboutHouse 105 = .ok (.iaload, 1) := by decide +kernel
theorem dX0_aboutHouse_106 : decode cX0_aboutHouse 106 = .ok (.ireturn, 1) := by decide +kernel
theorem dX0_aboutHouse_107 : decode cX0_aboutHouse 107 = .ok (.aload_n 0, 1) := by decide +kernel
theorem dX0_aboutHouse_108 : decode cX0_aboutHouse 108 = .ok (.invokevirtual 124, 3) := by decide +kernel
theorem dX0_aboutHouse_111 : decode cX0_aboutHouse 111 = .ok (.ireturn, 1) := by decide +kernel
theorem dX0_aboutHouse_112 : decode cX0_aboutHouse 112 = .ok (.aload_n 0, 1) := by decide +kernel
theorem dX0_aboutHouse_113 : decode cX0_aboutHouse 113 = .ok (.getfield 11, 3) := by decide +kernel
theorem dX0_aboutHouse_116 : decode cX0_aboutHouse 116 = .ok (.bipush 8, 2) := by decide +kernel
theorem dX0_aboutHouse_118 : decode cX0_aboutHouse 118 = .ok (.iaload, 1) := by decide +kernel
theorem dX0_aboutHouse_119 : decode cX0_aboutHouse 119 = .ok (.ireturn, 1) := by decide +kernel
theorem dX0_aboutHouse_120 : decode cX0_aboutHouse 120 = .ok (.aload_n 0, 1) := by decide +kernel
theorem dX0_aboutHouse_121 : decode cX0_aboutHouse 121 = .ok (.iconst 0, 1) := by decide +kernel
theorem dX0_aboutHouse_122 : decode cX0_aboutHouse 122 = .ok (.invokevirtual 112, 3) := by decide +kernel
theorem dX0_aboutHouse_125 : decode cX0_aboutHouse 125 = .ok (.ireturn, 1) := by decide +kernel
theorem dX0_aboutHouse_126 : decode cX0_aboutHouse 126 = .ok (.aload_n 0, 1) := by decide +kernel
theorem dX0_aboutHouse_127 : decode cX0_aboutHouse 127 = .ok (.getfield 11, 3) := by decide +kernel
theorem dX0_aboutHouse_130 : decode cX0_aboutHouse 130 = .ok (.iconst 0, 1) := by decide +kernel
theorem dX0_aboutHouse_131 : decode cX0_aboutHouse 131 = .ok (.iaload, 1) := by decide +kernel
theorem dX0_aboutHouse_132 : decode cX0_aboutHouse 132 = .ok (.ireturn, 1) := by decide +kernel
theorem dX0_aboutHouse_133 : decode cX0_aboutHouse 133 = .ok (.aload_n 0, 1) := by decide +kernel
theorem dX0_aboutHouse_134 : decode cX0_aboutHouse 134 = .ok (.getfield 11, 3) := by decide +kernel
theorem dX0_aboutHouse_137 : decode cX0_aboutHouse 137 = .ok (.iconst 1, 1) := by decide +kernel
theorem dX0_aboutHouse_138 : decode cX0_aboutHouse 138 = .ok (.iaload, 1) := by decide +kernel
theorem dX0_aboutHouse_139 : decode cX0_aboutHouse 139 = .ok (.ireturn, 1) := by decide +kernel
theorem dX0_aboutHouse_140 : decode cX0_aboutHouse 140 = .ok (.aload_n 0, 1) := by decide +kernel
theorem dX0_aboutHouse_141 : decode cX0_aboutHouse 141 = .ok (.getfield 11, 3) := by decide +kernel
theorem dX0_aboutHouse_144 : decode cX0_aboutHouse 144 = .ok (.iconst 2, 1) := by decide +kernel
theorem dX0_aboutHouse_145 : decode cX0_aboutHouse 145 = .ok (.iaload, 1) := by decide +kernel
theorem dX0_aboutHouse_146 : decode cX0_aboutHouse 146 = .ok (.ireturn, 1) := by decide +kernel
theorem dX0_aboutHouse_147 : decode cX0_aboutHouse 147 = .ok (.bipush (-2), 2) := by decide +kernel
theorem dX0_aboutHouse_149 : decode cX0_aboutHouse 149 = .ok (.ireturn, 1) := by decide +kernel
theorem dX0_latestBlown_0 : decode cX0_latestBlown 0 = .ok (.iload_n 1, 1) := by decide +kernel
theorem dX0_latestBlown_1 : decode cX0_latestBlown 1 = .ok (.ifCond .lt 20, 3) := by decide +kernel
theorem dX0_latestBlown_4 : decode cX0_latestBlown 4 = .ok (.iload_n 1, 1) := by decide +kernel
theorem dX0_latestBlown_5 : decode cX0_latestBlown 5 = .ok (.bipush 8, 2) := by decide +kernel
theorem dX0_latestBlown_7 : decode cX0_latestBlown 7 = .ok (.if_icmp .ge 14, 3) := by decide +kernel
theorem dX0_latestBlown_10 : decode cX0_latestBlown 10 = .ok (.iload_n 1, 1) := by decide +kernel
theorem dX0_latestBlown_11 : decode cX0_latestBlown 11 = .ok (.aload_n 0, 1) := by decide +kernel
theorem dX0_latestBlown_12 : decode cX0_latestBlown 12 = .ok (.getfield 11, 3) := by decide +kernel
theorem dX0_latestBlown_15 : decode cX0_latestBlown 15 = .ok (.bipush 8, 2) := by decide +kernel
theorem dX0_latestBlown_17 : decode cX0_latestBlown 17 = .ok (.iaload, 1) := by decide +kernel
theorem dX0_latestBlown_18 : decode cX0_latestBlown 18 = .ok (.if_icmp .lt 5, 3) := by decide +kernel
theorem dX0_latestBlown_21 : decode cX0_latestBlown 21 = .ok (.iconst (-1), 1) := by decide +kernel
theorem dX0_latestBlown_22 : decode cX0_latestBlown 22 = .ok (.ireturn, 1) := by decide +kernel
theorem dX0_latestBlown_23 : decode cX0_latestBlown 23 = .ok (.aload_n 0, 1) := by decide +kernel
theorem dX0_latestBlown_24 : decode cX0_latestBlown 24 = .ok (.getfield 11, 3) := by decide +kernel
theorem dX0_latestBlown_27 : decode cX0_latestBlown 27 = .ok (.bipush 9, 2) := by decide +kernel
theorem dX0_latestBlown_29 : decode cX0_latestBlown 29 = .ok (.iload_n 1, 1) := by decide +kernel
theorem dX0_latestBlown_30 : decode cX0_latestBlown 30 = .ok (.iadd, 1) := by decide +kernel
theorem dX0_latestBlown_31 : decode cX0_latestBlown 31 = .ok (.iaload, 1) := by decide +kernel
theorem dX0_latestBlown_32 : decode cX0_latestBlown 32 = .ok (.ireturn, 1) := by decide +kernel
theorem dX0_fedThrough_0 : decode cX0_fedThrough 0 = .ok (.aload_n 0, 1) := by decide +kernel
theorem dX0_fedThrough_1 : decode cX0_fedThrough 1 = .ok (.iload_n 1, 1) := by decide +kernel
theorem dX0_fedThrough_2 : decode cX0_fedThrough 2 = .ok (.invokevirtual 24, 3) := by decide +kernel
theorem dX0_fedThrough_5 : decode cX0_fedThrough 5 = .ok (.ifCond .ne 5, 3) := by decide +kernel
theorem dX0_fedThrough_8 : decode cX0_fedThrough 8 = .ok (.iconst 0, 1) := by decide +kernel
theorem dX0_fedThrough_9 : decode cX0_fedThrough 9 = .ok (.ireturn, 1) := by decide +kernel
theorem dX0_fedThrough_10 : decode cX0_fedThrough 10 = .ok (.iconst 1, 1) := by decide +kernel
theorem dX0_fedThrough_11 : decode cX0_fedThrough 11 = .ok (.iload_n 1, 1) := by decide +kernel
theorem dX0_fedThrough_12 : decode cX0_fedThrough 12 = .ok (.ishl, 1) := by decide +kernel
theorem dX0_fedThrough_13 : decode cX0_fedThrough 13 = .ok (.istore_n 2, 1) := by decide +kernel
theorem dX0_fedThrough_14 : decode cX0_fedThrough 14 = .ok (.iload_n 1, 1) := by decide +kernel
theorem dX0_fedThrough_15 : decode cX0_fedThrough 15 = .ok (.iconst 1, 1) := by decide +kernel
theorem dX0_fedThrough_16 : decode cX0_fedThrough 16 = .ok (.iadd, 1) := by decide +kernel
theorem dX0_fedThrough_17 : decode cX0_fedThrough 17 = .ok (.istore_n 3, 1) := by decide +kernel
theorem dX0_fedThrough_18 : decode cX0_fedThrough 18 = .ok (.iload_n 3, 1) := by decide +kernel
theorem dX0_fedThrough_19 : decode cX0_fedThrough 19 = .ok (.aload_n 0, 1) := by decide +kernel
theorem dX0_fedThrough_20 : decode cX0_fedThrough 20 = .ok (.getfield 11, 3) := by decide +kernel
theorem dX0_fedThrough_23 : decode cX0_fedThrough 23 = .ok (.iconst 4, 1) := by decide +kernel
theorem dX0_fedThrough_24 : decode cX0_fedThrough 24 = .ok (.iaload, 1) := by decide +kernel
theorem dX0_fedThrough_25 : decode cX0_fedThrough 25 = .ok (.if_icmp .ge 31, 3) := by decide +kernel
theorem dX0_fedThrough_28 : decode cX0_fedThrough 28 = .ok (.iload_n 2, 1) := by decide +kernel
theorem dX0_fedThrough_29 : decode cX0_fedThrough 29 = .ok (.aload_n 0, 1) := by decide +kernel
theorem dX0_fedThrough_30 : decode cX0_fedThrough 30 = .ok (.getfield 11, 3) := by decide +kernel
theorem dX0_fedThrough_33 : decode cX0_fedThrough 33 = .ok (.bipush 17, 2) := by decide +kernel
theorem dX0_fedThrough_35 : decode cX0_fedThrough 35 = .ok (.iload_n 3, 1) := by decide +kernel
theorem dX0_fedThrough_36 : decode cX0_fedThrough 36 = .ok (.iadd, 1) := by decide +kernel
theorem dX0_fedThrough_37 : decode cX0_fedThrough 37 = .ok (.iaload, 1) := by decide +kernel
theorem dX0_fedThrough_38 : decode cX0_fedThrough 38 = .ok (.ishr, 1) := by decide +kernel
theorem dX0_fedThrough_39 : decode cX0_fedThrough 39 = .ok (.iconst 1, 1) := by decide +kernel
theorem dX0_fedThrough_40 : decode cX0_fedThrough 40 = .ok (.iand, 1) := by decide +kernel
theorem dX0_fedThrough_41 : decode cX0_fedThrough 41 = .ok (.ifCond .eq 9, 3) := by decide +kernel
theorem dX0_fedThrough_44 : decode cX0_fedThrough 44 = .ok (.iload_n 2, 1) := by decide +kernel
theorem dX0_fedThrough_45 : decode cX0_fedThrough 45 = .ok (.iconst 1, 1) := by decide +kernel
theorem dX0_fedThrough_46 : decode cX0_fedThrough 46 = .ok (.iload_n 3, 1) := by decide +kernel
theorem dX0_fedThrough_47 : decode cX0_fedThrough 47 = .ok (.ishl, 1) := by decide +kernel
theorem dX0_fedThrough_48 : decode cX0_fedThrough 48 = .ok (.ior, 1) := by decide +kernel
theorem dX0_fedThrough_49 : decode cX0_fedThrough 49 = .ok (.istore_n 2, 1) := by decide +kernel
theorem dX0_fedThrough_50 : decode cX0_fedThrough 50 = .ok (.iinc 3 1, 3) := by decide +kernel
theorem dX0_fedThrough_53 : decode cX0_fedThrough 53 = .ok (.goto (-35), 3) := by decide +kernel
theorem dX0_fedThrough_56 : decode cX0_fedThrough 56 = .ok (.iload_n 2, 1) := by decide +kernel
theorem dX0_fedThrough_57 : decode cX0_fedThrough 57 = .ok (.ireturn, 1) := by decide +kernel
theorem dX0_workingLoadsAt_0 : decode cX0_workingLoadsAt 0 = .ok (.iload_n 1, 1) := by decide +kernel
theorem dX0_workingLoadsAt_1 : decode cX0_workingLoadsAt 1 = .ok (.aload_n 0, 1) := by decide +kernel
theorem dX0_workingLoadsAt_2 : decode cX0_workingLoadsAt 2 = .ok (.invokevirtual 87, 3) := by decide +kernel
theorem dX0_workingLoadsAt_5 : decode cX0_workingLoadsAt 5 = .ok (.iconst (-1), 1) := by decide +kernel
theorem dX0_workingLoadsAt_6 : decode cX0_workingLoadsAt 6 = .ok (.ixor, 1) := by decide +kernel
theorem dX0_workingLoadsAt_7 : decode cX0_workingLoadsAt 7 = .ok (.iand, 1) := by decide +kernel
theorem dX0_workingLoadsAt_8 : decode cX0_workingLoadsAt 8 = .ok (.istore_n 2, 1) := by decide +kernel
theorem dX0_workingLoadsAt_9 : decode cX0_workingLoadsAt 9 = .ok (.iconst 0, 1) := by decide +kernel
theorem dX0_workingLoadsAt_10 : decode cX0_workingLoadsAt 10 = .ok (.istore_n 3, 1) := by decide +kernel
theorem dX0_workingLoadsAt_11 : decode cX0_workingLoadsAt 11 = .ok (.iconst 0, 1) := by decide +kernel
theorem dX0_workingLoadsAt_12 : decode cX0_workingLoadsAt 12 = .ok (.istore 4, 2) := by decide +kernel
theorem dX0_workingLoadsAt_14 : decode cX0_workingLoadsAt 14 = .ok (.iload 4, 2) := by decide +kernel
theorem dX0_workingLoadsAt_16 : decode cX0_workingLoadsAt 16 = .ok (.aload_n 0, 1) := by decide +kernel
theorem dX0_workingLoadsAt_17 : decode cX0_workingLoadsAt 17 = .ok (.getfield 11, 3) := by decide +kernel
theorem dX0_workingLoadsAt_20 : decode cX0_workingLoadsAt 20 = .ok (.iconst 5, 1) := by decide +kernel
theorem dX0_workingLoadsAt_21 : decode cX0_workingLoadsAt 21 = .ok (.iaload, 1) := by decide +kernel
theorem dX0_workingLoadsAt_22 : decode cX0_workingLoadsAt 22 = .ok (.if_icmp .ge 33, 3) := by decide +kernel
theorem dX0_workingLoadsAt_25 : decode cX0_workingLoadsAt 25 = .ok (.iload_n 2, 1) := by decide +kernel
theorem dX0_workingLoadsAt_26 : decode cX0_workingLoadsAt 26 = .ok (.aload_n 0, 1) := by decide +kernel
theorem dX0_workingLoadsAt_27 : decode cX0_workingLoadsAt 27 = .ok (.getfield 11, 3) := by decide +kernel
theorem dX0_workingLoadsAt_30 : decode cX0_workingLoadsAt 30 = .ok (.bipush 97, 2) := by decide +kernel
theorem dX0_workingLoadsAt_32 : decode cX0_workingLoadsAt 32 = .ok (.iload 4, 2) := by decide +kernel
theorem dX0_workingLoadsAt_34 : decode cX0_workingLoadsAt 34 = .ok (.iadd, 1) := by decide +kernel
theorem dX0_workingLoadsAt_35 : decode cX0_workingLoadsAt 35 = .ok (.iaload, 1) := by decide +kernel
theorem dX0_workingLoadsAt_36 : decode cX0_workingLoadsAt 36 = .ok (.ishr, 1) := by decide +kernel
theorem dX0_workingLoadsAt_37 : decode cX0_workingLoadsAt 37 = .ok (.iconst 1, 1) := by decide +kernel
theorem dX0_workingLoadsAt_38 : decode cX0_workingLoadsAt 38 = .ok (.iand, 1) := by decide +kernel
theorem dX0_workingLoadsAt_39 : decode cX0_workingLoadsAt 39 = .ok (.ifCond .eq 10, 3) := by decide +kernel
theorem dX0_workingLoadsAt_42 : decode cX0_workingLoadsAt 42 = .ok (.iload_n 3, 1) := by decide +kernel
theorem dX0_workingLoadsAt_43 : decode cX0_workingLoadsAt 43 = .ok (.iconst 1, 1) := by decide +kernel
theorem dX0_workingLoadsAt_44 : decode cX0_workingLoadsAt 44 = .ok (.iload 4, 2) := by decide +kernel
theorem dX0_workingLoadsAt_46 : decode cX0_workingLoadsAt 46 = .ok (.ishl, 1) := by decide +kernel
theorem dX0_workingLoadsAt_47 : decode cX0_workingLoadsAt 47 = .ok (.ior, 1) := by decide +kernel
theorem dX0_workingLoadsAt_48 : decode cX0_workingLoadsAt 48 = .ok (.istore_n 3, 1) := by decide +kernel
theorem dX0_workingLoadsAt_49 : decode cX0_workingLoadsAt 49 = .ok (.iinc 4 1, 3) := by decide +kernel
theorem dX0_workingLoadsAt_52 : decode cX0_workingLoadsAt 52 = .ok (.goto (-38), 3) := by decide +kernel
theorem dX0_workingLoadsAt_55 : decode cX0_workingLoadsAt 55 = .ok (.iload_n 3, 1) := by decide +kernel
theorem dX0_workingLoadsAt_56 : decode cX0_workingLoadsAt 56 = .ok (.aload_n 0, 1) := by decide +kernel
theorem dX0_workingLoadsAt_57 : decode cX0_workingLoadsAt 57 = .ok (.getfield 11, 3) := by decide +kernel
theorem dX0_workingLoadsAt_60 : decode cX0_workingLoadsAt 60 = .ok (.bipush 6, 2) := by decide +kernel
theorem dX0_workingLoadsAt_62 : decode cX0_workingLoadsAt 62 = .ok (.iaload, 1) := by decide +kernel
theorem dX0_workingLoadsAt_63 : decode cX0_workingLoadsAt 63 = .ok (.iand, 1) := by decide +kernel
theorem dX0_workingLoadsAt_64 : decode cX0_workingLoadsAt 64 = .ok (.ireturn, 1) := by decide +kernel
theorem dX0_allBoards_0 : decode cX0_allBoards 0 = .ok (.iconst 1, 1) := by decide +kernel
theorem dX0_allBoards_1 : decode cX0_allBoards 1 = .ok (.aload_n 0, 1) := by decide +kernel
theorem dX0_allBoards_2 : decode cX0_allBoards 2 = .ok (.getfield 11, 3) := by decide +kernel
theorem dX0_allBoards_5 : decode cX0_allBoards 5 = .ok (.iconst 4, 1) := by decide +kernel
theorem dX0_allBoards_6 : decode cX0_allBoards 6 = .ok (.iaload, 1) := by decide +kernel
theorem dX0_allBoards_7 : decode cX0_allBoards 7 = .ok (.ishl, 1) := by decide +kernel
theorem dX0_allBoards_8 : decode cX0_allBoards 8 = .ok (.iconst 1, 1) := by decide +kernel
theorem dX0_allBoards_9 : decode cX0_allBoards 9 = .ok (.isub, 1) := by decide +kernel
theorem dX0_allBoards_10 : decode cX0_allBoards 10 = .ok (.ireturn, 1) := by decide +kernel
theorem dX0_deadBoards_0 : decode cX0_deadBoards 0 = .ok (.aload_n 0, 1) := by decide +kernel
theorem dX0_deadBoards_1 : decode cX0_deadBoards 1 = .ok (.getfield 11, 3) := by decide +kernel
theorem dX0_deadBoards_4 : decode cX0_deadBoards 4 = .ok (.bipush 7, 2) := by decide +kernel
theorem dX0_deadBoards_6 : decode cX0_deadBoards 6 = .ok (.iaload, 1) := by decide +kernel
theorem dX0_deadBoards_7 : decode cX0_deadBoards 7 = .ok (.istore_n 1, 1) := by decide +kernel
theorem dX0_deadBoards_8 : decode cX0_deadBoards 8 = .ok (.iconst 1, 1) := by decide +kernel
theorem dX0_deadBoards_9 : decode cX0_deadBoards 9 = .ok (.istore_n 2, 1) := by decide +kernel
theorem dX0_deadBoards_10 : decode cX0_deadBoards 10 = .ok (.iload_n 2, 1) := by decide +kernel
theorem dX0_deadBoards_11 : decode cX0_deadBoards 11 = .ok (.aload_n 0, 1) := by decide +kernel
theorem dX0_deadBoards_12 : decode cX0_deadBoards 12 = .ok (.getfield 11, 3) := by decide +kernel
theorem dX0_deadBoards_15 : decode cX0_deadBoards 15 = .ok (.iconst 4, 1) := by decide +kernel
theorem dX0_deadBoards_16 : decode cX0_deadBoards 16 = .ok (.iaload, 1) := by decide +kernel
theorem dX0_deadBoards_17 : decode cX0_deadBoards 17 = .ok (.if_icmp .ge 31, 3) := by decide +kernel
theorem dX0_deadBoards_20 : decode cX0_deadBoards 20 = .ok (.iload_n 1, 1) := by decide +kernel
theorem dX0_deadBoards_21 : decode cX0_deadBoards 21 = .ok (.aload_n 0, 1) := by decide +kernel
theorem dX0_deadBoards_22 : decode cX0_deadBoards 22 = .ok (.getfield 11, 3) := by decide +kernel
theorem dX0_deadBoards_25 : decode cX0_deadBoards 25 = .ok (.bipush 17, 2) := by decide +kernel
theorem dX0_deadBoards_27 : decode cX0_deadBoards 27 = .ok (.iload_n 2, 1) := by decide +kernel
theorem dX0_deadBoards_28 : decode cX0_deadBoards 28 = .ok (.iadd, 1) := by decide +kernel
theorem dX0_deadBoards_29 : decode cX0_deadBoards 29 = .ok (.iaload, 1) := by decide +kernel
theorem dX0_deadBoards_30 : decode cX0_deadBoards 30 = .ok (.ishr, 1) := by decide +kernel
theorem dX0_deadBoards_31 : decode cX0_deadBoards 31 = .ok (.iconst 1, 1) := by decide +kernel
theorem dX0_deadBoards_32 : decode cX0_deadBoards 32 = .ok (.iand, 1) := by decide +kernel
theorem dX0_deadBoards_33 : decode cX0_deadBoards 33 = .ok (.ifCond .eq 9, 3) := by decide +kernel
theorem dX0_deadBoards_36 : decode cX0_deadBoards 36 = .ok (.iload_n 1, 1) := by decide +kernel
theorem dX0_deadBoards_37 : decode cX0_deadBoards 37 = .ok (.iconst 1, 1) := by decide +kernel
theorem dX0_deadBoards_38 : decode cX0_deadBoards 38 = .ok (.iload_n 2, 1) := by decide +kernel
theorem dX0_deadBoards_39 : decode cX0_deadBoards 39 = .ok (.ishl, 1) := by decide +kernel
theorem dX0_deadBoards_40 : decode cX0_deadBoards 40 = .ok (.ior, 1) := by decide +kernel
theorem dX0_deadBoards_41 : decode cX0_deadBoards 41 = .ok (.istore_n 1, 1) := by decide +kernel
theorem dX0_deadBoards_42 : decode cX0_deadBoards 42 = .ok (.iinc 2 1, 3) := by decide +kernel
theorem dX0_deadBoards_45 : decode cX0_deadBoards 45 = .ok (.goto (-35), 3) := by decide +kernel
theorem dX0_deadBoards_48 : decode cX0_deadBoards 48 = .ok (.iload_n 1, 1) := by decide +kernel
theorem dX0_deadBoards_49 : decode cX0_deadBoards 49 = .ok (.ireturn, 1) := by decide +kernel
theorem dX0_burningBoards_0 : decode cX0_burningBoards 0 = .ok (.iconst 0, 1) := by decide +kernel
theorem dX0_burningBoards_1 : decode cX0_burningBoards 1 = .ok (.istore_n 1, 1) := by decide +kernel
theorem dX0_burningBoards_2 : decode cX0_burningBoards 2 = .ok (.iconst 0, 1) := by decide +kernel
theorem dX0_burningBoards_3 : decode cX0_burningBoards 3 = .ok (.istore_n 2, 1) := by decide +kernel
theorem dX0_burningBoards_4 : decode cX0_burningBoards 4 = .ok (.iload_n 2, 1) := by decide +kernel
theorem dX0_burningBoards_5 : decode cX0_burningBoards 5 = .ok (.aload_n 0, 1) := by decide +kernel
theorem dX0_burningBoards_6 : decode cX0_burningBoards 6 = .ok (.getfield 11, 3) := by decide +kernel
theorem dX0_burningBoards_9 : decode cX0_burningBoards 9 = .ok (.iconst 4, 1) := by decide +kernel
theorem dX0_burningBoards_10 : decode cX0_burningBoards 10 = .ok (.iaload, 1) := by decide +kernel
theorem dX0_burningBoards_11 : decode cX0_burningBoards 11 = .ok (.if_icmp .ge 27, 3) := by decide +kernel
theorem dX0_burningBoards_14 : decode cX0_burningBoards 14 = .ok (.aload_n 0, 1) := by decide +kernel
theorem dX0_burningBoards_15 : decode cX0_burningBoards 15 = .ok (.getfield 11, 3) := by decide +kernel
theorem dX0_burningBoards_18 : decode cX0_burningBoards 18 = .ok (.bipush 47, 2) := by decide +kernel
theorem dX0_burningBoards_20 : decode cX0_burningBoards 20 = .ok (.iload_n 2, 1) := by decide +kernel
theorem dX0_burningBoards_21 : decode cX0_burningBoards 21 = .ok (.iadd, 1) := by decide +kernel
theorem dX0_burningBoards_22 : decode cX0_burningBoards 22 = .ok (.iaload, 1) := by decide +kernel
theorem dX0_burningBoards_23 : decode cX0_burningBoards 23 = .ok (.ifCond .le 9, 3) := by decide +kernel
theorem dX0_burningBoards_26 : decode cX0_burningBoards 26 = .ok (.iload_n 1, 1) := by decide +kernel
theorem dX0_burningBoards_27 : decode cX0_burningBoards 27 = .ok (.iconst 1, 1) := by decide +kernel
theorem dX0_burningBoards_28 : decode cX0_burningBoards 28 = .ok (.iload_n 2, 1) := by decide +kernel
theorem dX0_burningBoards_29 : decode cX0_burningBoards 29 = .ok (.ishl, 1) := by decide +kernel
theorem dX0_burningBoards_30 : decode cX0_burningBoards 30 = .ok (.ior, 1) := by decide +kernel
theorem dX0_burningBoards_31 : decode cX0_burningBoards 31 = .ok (.istore_n 1, 1) := by decide +kernel
theorem dX0_burningBoards_32 : decode cX0_burningBoards 32 = .ok (.iinc 2 1, 3) := by decide +kernel
theorem dX0_burningBoards_35 : decode cX0_burningBoards 35 = .ok (.goto (-31), 3) := by decide +kernel
theorem dX0_burningBoards_38 : decode cX0_burningBoards 38 = .ok (.iload_n 1, 1) := by decide +kernel
theorem dX0_burningBoards_39 : decode cX0_burningBoards 39 = .ok (.ireturn, 1) := by decide +kernel
theorem dX0_state_0 : decode cX0_state 0 = .ok (.aload_n 0, 1) := by decide +kernel
theorem dX0_state_1 : decode cX0_state 1 = .ok (.getfield 11, 3) := by decide +kernel
theorem dX0_state_4 : decode cX0_state 4 = .ok (.bipush 7, 2) := by decide +kernel
theorem dX0_state_6 : decode cX0_state 6 = .ok (.iaload, 1) := by decide +kernel
theorem dX0_state_7 : decode cX0_state 7 = .ok (.iload_n 1, 1) := by decide +kernel
theorem dX0_state_8 : decode cX0_state 8 = .ok (.ishr, 1) := by decide +kernel
theorem dX0_state_9 : decode cX0_state 9 = .ok (.iconst 1, 1) := by decide +kernel
theorem dX0_state_10 : decode cX0_state 10 = .ok (.iand, 1) := by decide +kernel
theorem dX0_state_11 : decode cX0_state 11 = .ok (.ifCond .eq 5, 3) := by decide +kernel
theorem dX0_state_14 : decode cX0_state 14 = .ok (.iconst 2, 1) := by decide +kernel
theorem dX0_state_15 : decode cX0_state 15 = .ok (.ireturn, 1) := by decide +kernel
theorem dX0_state_16 : decode cX0_state 16 = .ok (.aload_n 0, 1) := by decide +kernel
theorem dX0_state_17 : decode cX0_state 17 = .ok (.getfield 11, 3) := by decide +kernel
theorem dX0_state_20 : decode cX0_state 20 = .ok (.bipush 47, 2) := by decide +kernel
theorem dX0_state_22 : decode cX0_state 22 = .ok (.iload_n 1, 1) := by decide +kernel
theorem dX0_state_23 : decode cX0_state 23 = .ok (.iadd, 1) := by decide +kernel
theorem dX0_state_24 : decode cX0_state 24 = .ok (.iaload, 1) := by decide +kernel
theorem dX0_state_25 : decode cX0_state 25 = .ok (.ifCond .le 7, 3) := by decide +kernel
theorem dX0_state_28 : decode cX0_state 28 = .ok (.iconst 1, 1) := by decide +kernel
theorem dX0_state_29 : decode cX0_state 29 = .ok (.goto 4, 3) := by decide +kernel
theorem dX0_state_32 : decode cX0_state 32 = .ok (.iconst 0, 1) := by decide +kernel
theorem dX0_state_33 : decode cX0_state 33 = .ok (.ireturn, 1) := by decide +kernel
theorem dX0_current_0 : decode cX0_current 0 = .ok (.aload_n 0, 1) := by decide +kernel
theorem dX0_current_1 : decode cX0_current 1 = .ok (.invokevirtual 61, 3) := by decide +kernel
theorem dX0_current_4 : decode cX0_current 4 = .ok (.aload_n 0, 1) := by decide +kernel
theorem dX0_current_5 : decode cX0_current 5 = .ok (.getfield 15, 3) := by decide +kernel
theorem dX0_current_8 : decode cX0_current 8 = .ok (.iload_n 1, 1) := by decide +kernel
theorem dX0_current_9 : decode cX0_current 9 = .ok (.iaload, 1) := by decide +kernel
theorem dX0_current_10 : decode cX0_current 10 = .ok (.ireturn, 1) := by decide +kernel
theorem dX0_meltingHeat_0 : decode cX0_meltingHeat 0 = .ok (.aload_n 0, 1) := by decide +kernel
theorem dX0_meltingHeat_1 : decode cX0_meltingHeat 1 = .ok (.getfield 11, 3) := by decide +kernel
theorem dX0_meltingHeat_4 : decode cX0_meltingHeat 4 = .ok (.bipush 27, 2) := by decide +kernel
theorem dX0_meltingHeat_6 : decode cX0_meltingHeat 6 = .ok (.iload_n 1, 1) := by decide +kernel
theorem dX0_meltingHeat_7 : decode cX0_meltingHeat 7 = .ok (.iadd, 1) := by decide +kernel
theorem dX0_meltingHeat_8 : decode cX0_meltingHeat 8 = .ok (.iaload, 1) := by decide +kernel
theorem dX0_meltingHeat_9 : decode cX0_meltingHeat 9 = .ok (.istore_n 2, 1) := by decide +kernel
theorem dX0_meltingHeat_10 : decode cX0_meltingHeat 10 = .ok (.iload_n 2, 1) := by decide +kernel
theorem dX0_meltingHeat_11 : decode cX0_meltingHeat 11 = .ok (.iload_n 2, 1) := by decide +kernel
theorem dX0_meltingHeat_12 : decode cX0_meltingHeat 12 = .ok (.imul, 1) := by decide +kernel
theorem dX0_meltingHeat_13 : decode cX0_meltingHeat 13 = .ok (.aload_n 0, 1) := by decide +kernel
theorem dX0_meltingHeat_14 : decode cX0_meltingHeat 14 = .ok (.getfield 11, 3) := by decide +kernel
theorem dX0_meltingHeat_17 : decode cX0_meltingHeat 17 = .ok (.bipush 37, 2) := by decide +kernel
theorem dX0_meltingHeat_19 : decode cX0_meltingHeat 19 = .ok (.iload_n 1, 1) := by decide +kernel
theorem dX0_meltingHeat_20 : decode cX0_meltingHeat 20 = .ok (.iadd, 1) := by decide +kernel
theorem dX0_meltingHeat_21 : decode cX0_meltingHeat 21 = .ok (.iaload, 1) := by decide +kernel
theorem dX0_meltingHeat_22 : decode cX0_meltingHeat 22 = .ok (.invokestatic 127, 3) := by decide +kernel
theorem dX0_meltingHeat_25 : decode cX0_meltingHeat 25 = .ok (.imul, 1) := by decide +kernel
theorem dX0_meltingHeat_26 : decode cX0_meltingHeat 26 = .ok (.istore_n 3, 1) := by decide +kernel
theorem dX0_meltingHeat_27 : decode cX0_meltingHeat 27 = .ok (.iconst 1, 1) := by decide +kernel
theorem dX0_meltingHeat_28 : decode cX0_meltingHeat 28 = .ok (.iload_n 3, 1) := by decide +kernel
theorem dX0_meltingHeat_29 : decode cX0_meltingHeat 29 = .ok (.bipush 20, 2) := by decide +kernel
theorem dX0_meltingHeat_31 : decode cX0_meltingHeat 31 = .ok (.iload_n 2, 1) := by decide +kernel
theorem dX0_meltingHeat_32 : decode cX0_meltingHeat 32 = .ok (.imul, 1) := by decide +kernel
theorem dX0_meltingHeat_33 : decode cX0_meltingHeat 33 = .ok (.aload_n 0, 1) := by decide +kernel
theorem dX0_meltingHeat_34 : decode cX0_meltingHeat 34 = .ok (.getfield 11, 3) := by decide +kernel
theorem dX0_meltingHeat_37 : decode cX0_meltingHeat 37 = .ok (.bipush 67, 2) := by decide +kernel
theorem dX0_meltingHeat_39 : decode cX0_meltingHeat 39 = .ok (.iload_n 1, 1) := by decide +kernel
theorem dX0_meltingHeat_40 : decode cX0_meltingHeat 40 = .ok (.iadd, 1) := by decide +kernel
theorem dX0_meltingHeat_41 : decode cX0_meltingHeat 41 = .ok (.iaload, 1) := by decide +kernel
theorem dX0_meltingHeat_42 : decode cX0_meltingHeat 42 = .ok (.imul, 1) := by decide +kernel
theorem dX0_meltingHeat_43 : decode cX0_meltingHeat 43 = .ok (.isub, 1) := by decide +kernel
theorem dX0_meltingHeat_44 : decode cX0_meltingHeat 44 = .ok (.invokestatic 100, 3) := by decide +kernel
theorem dX0_meltingHeat_47 : decode cX0_meltingHeat 47 = .ok (.ireturn, 1) := by decide +kernel
theorem dX0_heatFactor_0 : decode cX0_heatFactor 0 = .ok (.iload_n 0, 1) := by decide +kernel
theorem dX0_heatFactor_1 : decode cX0_heatFactor 1 = .ok (.lookupswitch 33 #[(0, 27), (1, 30)], 27) := by decide +kernel
theorem dX0_heatFactor_28 : decode cX0_heatFactor 28 = .ok (.bipush 8, 2) := by decide +kernel
theorem dX0_heatFactor_30 : decode cX0_heatFactor 30 = .ok (.ireturn, 1) := by decide +kernel
theorem dX0_heatFactor_31 : decode cX0_heatFactor 31 = .ok (.bipush 40, 2) := by decide +kernel
theorem dX0_heatFactor_33 : decode cX0_heatFactor 33 = .ok (.ireturn, 1) := by decide +kernel
theorem dX0_heatFactor_34 : decode cX0_heatFactor 34 = .ok (.bipush 20, 2) := by decide +kernel
theorem dX0_heatFactor_36 : decode cX0_heatFactor 36 = .ok (.ireturn, 1) := by decide +kernel
theorem dX0_boardsAhead_0 : decode cX0_boardsAhead 0 = .ok (.iconst 0, 1) := by decide +kernel
theorem dX0_boardsAhead_1 : decode cX0_boardsAhead 1 = .ok (.istore_n 2, 1) := by decide +kernel
theorem dX0_boardsAhead_2 : decode cX0_boardsAhead 2 = .ok (.iload_n 1, 1) := by decide +kernel
theorem dX0_boardsAhead_3 : decode cX0_boardsAhead 3 = .ok (.istore_n 3, 1) := by decide +kernel
theorem dX0_boardsAhead_4 : decode cX0_boardsAhead 4 = .ok (.iload_n 1, 1) := by decide +kernel
theorem dX0_boardsAhead_5 : decode cX0_boardsAhead 5 = .ok (.istore 4, 2) := by decide +kernel
theorem dX0_boardsAhead_7 : decode cX0_boardsAhead 7 = .ok (.iload 4, 2) := by decide +kernel
theorem dX0_boardsAhead_9 : decode cX0_boardsAhead 9 = .ok (.ifCond .le 32, 3) := by decide +kernel
theorem dX0_boardsAhead_12 : decode cX0_boardsAhead 12 = .ok (.iload 4, 2) := by decide +kernel
theorem dX0_boardsAhead_14 : decode cX0_boardsAhead 14 = .ok (.iload_n 3, 1) := by decide +kernel
theorem dX0_boardsAhead_15 : decode cX0_boardsAhead 15 = .ok (.if_icmp .eq 6, 3) := by decide +kernel
theorem dX0_boardsAhead_18 : decode cX0_boardsAhead 18 = .ok (.goto 17, 3) := by decide +kernel
theorem dX0_boardsAhead_21 : decode cX0_boardsAhead 21 = .ok (.aload_n 0, 1) := by decide +kernel
theorem dX0_boardsAhead_22 : decode cX0_boardsAhead 22 = .ok (.getfield 11, 3) := by decide +kernel
theorem dX0_boardsAhead_25 : decode cX0_boardsAhead 25 = .ok (.bipush 17, 2) := by decide +kernel
theorem dX0_boardsAhead_27 : decode cX0_boardsAhead 27 = .ok (.iload 4, 2) := by decide +kernel
theorem dX0_boardsAhead_29 : decode cX0_boardsAhead 29 = .ok (.iadd, 1) := by decide +kernel
theorem dX0_boardsAhead_30 : decode cX0_boardsAhead 30 = .ok (.iaload, 1) := by decide +kernel
theorem dX0_boardsAhead_31 : decode cX0_boardsAhead 31 = .ok (.istore_n 3, 1) := by decide +kernel
theorem dX0_boardsAhead_32 : decode cX0_boardsAhead 32 = .ok (.iinc 2 1, 3) := by decide +kernel
theorem dX0_boardsAhead_35 : decode cX0_boardsAhead 35 = .ok (.iinc 4 (-1), 3) := by decide +kernel
theorem dX0_boardsAhead_38 : decode cX0_boardsAhead 38 = .ok (.goto (-31), 3) := by decide +kernel
theorem dX0_boardsAhead_41 : decode cX0_boardsAhead 41 = .ok (.iload_n 2, 1) := by decide +kernel
theorem dX0_boardsAhead_42 : decode cX0_boardsAhead 42 = .ok (.ireturn, 1) := by decide +kernel
