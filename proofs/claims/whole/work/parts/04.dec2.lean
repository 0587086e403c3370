theorem dX10_init_30 : decode cX10_init 30 = .ok (.dup, 1) := by decide +kernel
theorem dX10_init_31 : decode cX10_init 31 = .ok (.invokespecial 9, 3) := by decide +kernel
theorem dX10_init_34 : decode cX10_init 34 = .ok (.putfield 19, 3) := by decide +kernel
theorem dX10_init_37 : decode cX10_init 37 = .ok (.aload_n 0, 1) := by decide +kernel
theorem dX10_init_38 : decode cX10_init 38 = .ok (.iconst 0, 1) := by decide +kernel
theorem dX10_init_39 : decode cX10_init 39 = .ok (.putfield 22, 3) := by decide +kernel
theorem dX10_init_42 : decode cX10_init 42 = .ok (.aload_n 0, 1) := by decide +kernel
theorem dX10_init_43 : decode cX10_init 43 = .ok (.iconst 0, 1) := by decide +kernel
theorem dX10_init_44 : decode cX10_init 44 = .ok (.putfield 26, 3) := by decide +kernel
theorem dX10_init_47 : decode cX10_init 47 = .ok (.aload_n 0, 1) := by decide +kernel
theorem dX10_init_48 : decode cX10_init 48 = .ok (.new 29, 3) := by decide +kernel
theorem dX10_init_51 : decode cX10_init 51 = .ok (.dup, 1) := by decide +kernel
theorem dX10_init_52 : decode cX10_init 52 = .ok (.invokespecial 31, 3) := by decide +kernel
theorem dX10_init_55 : decode cX10_init 55 = .ok (.putfield 32, 3) := by decide +kernel
theorem dX10_init_58 : decode cX10_init 58 = .ok (.aload_n 0, 1) := by decide +kernel
theorem dX10_init_59 : decode cX10_init 59 = .ok (.new 36, 3) := by decide +kernel
theorem dX10_init_62 : decode cX10_init 62 = .ok (.dup, 1) := by decide +kernel
theorem dX10_init_63 : decode cX10_init 63 = .ok (.invokespecial 38, 3) := by decide +kernel
theorem dX10_init_66 : decode cX10_init 66 = .ok (.putfield 39, 3) := by decide +kernel
theorem dX10_init_69 : decode cX10_init 69 = .ok (.aload_n 0, 1) := by decide +kernel
theorem dX10_init_70 : decode cX10_init 70 = .ok (.new 43, 3) := by decide +kernel
theorem dX10_init_73 : decode cX10_init 73 = .ok (.dup, 1) := by decide +kernel
theorem dX10_init_74 : decode cX10_init 74 = .ok (.invokespecial 45, 3) := by decide +kernel
theorem dX10_init_77 : decode cX10_init 77 = .ok (.putfield 46, 3) := by decide +kernel
theorem dX10_init_80 : decode cX10_init 80 = .ok (.aload_n 0, 1) := by decide +kernel
theorem dX10_init_81 : decode cX10_init 81 = .ok (.new 50, 3) := by decide +kernel
theorem dX10_init_84 : decode cX10_init 84 = .ok (.dup, 1) := by decide +kernel
theorem dX10_init_85 : decode cX10_init 85 = .ok (.invokespecial 52, 3) := by decide +kernel
theorem dX10_init_88 : decode cX10_init 88 = .ok (.putfield 53, 3) := by decide +kernel
theorem dX10_init_91 : decode cX10_init 91 = .ok (.aload_n 0, 1) := by decide +kernel
theorem dX10_init_92 : decode cX10_init 92 = .ok (.iconst 0, 1) := by decide +kernel
theorem dX10_init_93 : decode cX10_init 93 = .ok (.putfield 57, 3) := by decide +kernel
theorem dX10_init_96 : decode cX10_init 96 = .ok (.aload_n 0, 1) := by decide +kernel
theorem dX10_init_97 : decode cX10_init 97 = .ok (.iconst 1, 1) := by decide +kernel
theorem dX10_init_98 : decode cX10_init 98 = .ok (.putfield 61, 3) := by decide +kernel
theorem dX10_init_101 : decode cX10_init 101 = .ok (.aload_n 0, 1) := by decide +kernel
theorem dX10_init_102 : decode cX10_init 102 = .ok (.iconst 0, 1) := by decide +kernel
theorem dX10_init_103 : decode cX10_init 103 = .ok (.putfield 64, 3) := by decide +kernel
theorem dX10_init_106 : decode cX10_init 106 = .ok (.aload_n 0, 1) := by decide +kernel
theorem dX10_init_107 : decode cX10_init 107 = .ok (.iconst 0, 1) := by decide +kernel
theorem dX10_init_108 : decode cX10_init 108 = .ok (.putfield 67, 3) := by decide +kernel
theorem dX10_init_111 : decode cX10_init 111 = .ok (.aload_n 0, 1) := by decide +kernel
theorem dX10_init_112 : decode cX10_init 112 = .ok (.iconst 0, 1) := by decide +kernel
theorem dX10_init_113 : decode cX10_init 113 = .ok (.putfield 70, 3) := by decide +kernel
theorem dX10_init_116 : decode cX10_init 116 = .ok (.return_, 1) := by decide +kernel
theorem dX10_valley_0 : decode cX10_valley 0 = .ok (.iload_n 1, 1) := by decide +kernel
theorem dX10_valley_1 : decode cX10_valley 1 = .ok (.iconst 1, 1) := by decide +kernel
theorem dX10_valley_2 : decode cX10_valley 2 = .ok (.bipush 40, 2) := by decide +kernel
theorem dX10_valley_4 : decode cX10_valley 4 = .ok (.invokestatic 73, 3) := by decide +kernel
theorem dX10_valley_7 : decode cX10_valley 7 = .ok (.ifCond .ne 10, 3) := by decide +kernel
theorem dX10_valley_10 : decode cX10_valley 10 = .ok (.aload_n 0, 1) := by decide +kernel
theorem dX10_valley_11 : decode cX10_valley 11 = .ok (.bipush (-2), 2) := by decide +kernel
theorem dX10_valley_13 : decode cX10_valley 13 = .ok (.invokevirtual 77, 3) := by decide +kernel
theorem dX10_valley_16 : decode cX10_valley 16 = .ok (.ireturn, 1) := by decide +kernel
theorem dX10_valley_17 : decode cX10_valley 17 = .ok (.aload_n 0, 1) := by decide +kernel
theorem dX10_valley_18 : decode cX10_valley 18 = .ok (.getfield 10, 3) := by decide +kernel
theorem dX10_valley_21 : decode cX10_valley 21 = .ok (.getfield 81, 3) := by decide +kernel
theorem dX10_valley_24 : decode cX10_valley 24 = .ok (.invokevirtual 85, 3) := by decide +kernel
theorem dX10_valley_27 : decode cX10_valley 27 = .ok (.istore_n 2, 1) := by decide +kernel
theorem dX10_valley_28 : decode cX10_valley 28 = .ok (.aload_n 0, 1) := by decide +kernel
theorem dX10_valley_29 : decode cX10_valley 29 = .ok (.getfield 10, 3) := by decide +kernel
theorem dX10_valley_32 : decode cX10_valley 32 = .ok (.iload_n 1, 1) := by decide +kernel
theorem dX10_valley_33 : decode cX10_valley 33 = .ok (.invokevirtual 91, 3) := by decide +kernel
theorem dX10_valley_36 : decode cX10_valley 36 = .ok (.iload_n 2, 1) := by decide +kernel
theorem dX10_valley_37 : decode cX10_valley 37 = .ok (.ireturn, 1) := by decide +kernel
theorem dX10_wind_0 : decode cX10_wind 0 = .ok (.iload_n 1, 1) := by decide +kernel
theorem dX10_wind_1 : decode cX10_wind 1 = .ok (.iconst 0, 1) := by decide +kernel
theorem dX10_wind_2 : decode cX10_wind 2 = .ok (.iconst 5, 1) := by decide +kernel
theorem dX10_wind_3 : decode cX10_wind 3 = .ok (.invokestatic 73, 3) := by decide +kernel
theorem dX10_wind_6 : decode cX10_wind 6 = .ok (.ifCond .eq 13, 3) := by decide +kernel
theorem dX10_wind_9 : decode cX10_wind 9 = .ok (.iload_n 2, 1) := by decide +kernel
theorem dX10_wind_10 : decode cX10_wind 10 = .ok (.bipush (-4), 2) := by decide +kernel
theorem dX10_wind_12 : decode cX10_wind 12 = .ok (.iconst 4, 1) := by decide +kernel
theorem dX10_wind_13 : decode cX10_wind 13 = .ok (.invokestatic 73, 3) := by decide +kernel
theorem dX10_wind_16 : decode cX10_wind 16 = .ok (.ifCond .ne 10, 3) := by decide +kernel
theorem dX10_wind_19 : decode cX10_wind 19 = .ok (.aload_n 0, 1) := by decide +kernel
theorem dX10_wind_20 : decode cX10_wind 20 = .ok (.bipush (-10), 2) := by decide +kernel
theorem dX10_wind_22 : decode cX10_wind 22 = .ok (.invokevirtual 77, 3) := by decide +kernel
theorem dX10_wind_25 : decode cX10_wind 25 = .ok (.ireturn, 1) := by decide +kernel
theorem dX10_wind_26 : decode cX10_wind 26 = .ok (.aload_n 0, 1) := by decide +kernel
theorem dX10_wind_27 : decode cX10_wind 27 = .ok (.getfield 10, 3) := by decide +kernel
theorem dX10_wind_30 : decode cX10_wind 30 = .ok (.getfield 95, 3) := by decide +kernel
theorem dX10_wind_33 : decode cX10_wind 33 = .ok (.iload_n 1, 1) := by decide +kernel
theorem dX10_wind_34 : decode cX10_wind 34 = .ok (.iaload, 1) := by decide +kernel
theorem dX10_wind_35 : decode cX10_wind 35 = .ok (.istore_n 3, 1) := by decide +kernel
theorem dX10_wind_36 : decode cX10_wind 36 = .ok (.aload_n 0, 1) := by decide +kernel
theorem dX10_wind_37 : decode cX10_wind 37 = .ok (.getfield 10, 3) := by decide +kernel
theorem dX10_wind_40 : decode cX10_wind 40 = .ok (.getfield 95, 3) := by decide +kernel
theorem dX10_wind_43 : decode cX10_wind 43 = .ok (.iload_n 1, 1) := by decide +kernel
theorem dX10_wind_44 : decode cX10_wind 44 = .ok (.iload_n 2, 1) := by decide +kernel
theorem dX10_wind_45 : decode cX10_wind 45 = .ok (.iastore, 1) := by decide +kernel
theorem dX10_wind_46 : decode cX10_wind 46 = .ok (.aload_n 0, 1) := by decide +kernel
theorem dX10_wind_47 : decode cX10_wind 47 = .ok (.getfield 10, 3) := by decide +kernel
theorem dX10_wind_50 : decode cX10_wind 50 = .ok (.getfield 99, 3) := by decide +kernel
theorem dX10_wind_53 : decode cX10_wind 53 = .ok (.invokevirtual 103, 3) := by decide +kernel
theorem dX10_wind_56 : decode cX10_wind 56 = .ok (.iload_n 3, 1) := by decide +kernel
theorem dX10_wind_57 : decode cX10_wind 57 = .ok (.ireturn, 1) := by decide +kernel
theorem dX10_player_0 : decode cX10_player 0 = .ok (.iload_n 1, 1) := by decide +kernel
theorem dX10_player_1 : decode cX10_player 1 = .ok (.invokestatic 108, 3) := by decide +kernel
theorem dX10_player_4 : decode cX10_player 4 = .ok (.ifCond .eq 20, 3) := by decide +kernel
theorem dX10_player_7 : decode cX10_player 7 = .ok (.iload_n 2, 1) := by decide +kernel
theorem dX10_player_8 : decode cX10_player 8 = .ok (.invokestatic 112, 3) := by decide +kernel
theorem dX10_player_11 : decode cX10_player 11 = .ok (.ifCond .eq 13, 3) := by decide +kernel
theorem dX10_player_14 : decode cX10_player 14 = .ok (.iload_n 3, 1) := by decide +kernel
theorem dX10_player_15 : decode cX10_player 15 = .ok (.iconst 1, 1) := by decide +kernel
theorem dX10_player_16 : decode cX10_player 16 = .ok (.bipush 9, 2) := by decide +kernel
theorem dX10_player_18 : decode cX10_player 18 = .ok (.invokestatic 73, 3) := by decide +kernel
theorem dX10_player_21 : decode cX10_player 21 = .ok (.ifCond .ne 10, 3) := by decide +kernel
theorem dX10_player_24 : decode cX10_player 24 = .ok (.aload_n 0, 1) := by decide +kernel
theorem dX10_player_25 : decode cX10_player 25 = .ok (.bipush (-2), 2) := by decide +kernel
theorem dX10_player_27 : decode cX10_player 27 = .ok (.invokevirtual 77, 3) := by decide +kernel
theorem dX10_player_30 : decode cX10_player 30 = .ok (.ireturn, 1) := by decide +kernel
theorem dX10_player_31 : decode cX10_player 31 = .ok (.aload_n 0, 1) := by decide +kernel
theorem dX10_player_32 : decode cX10_player 32 = .ok (.getfield 10, 3) := by decide +kernel
theorem dX10_player_35 : decode cX10_player 35 = .ok (.getfield 81, 3) := by decide +kernel
theorem dX10_player_38 : decode cX10_player 38 = .ok (.invokevirtual 115, 3) := by decide +kernel
theorem dX10_player_41 : decode cX10_player 41 = .ok (.ifCond .eq 8, 3) := by decide +kernel
theorem dX10_player_44 : decode cX10_player 44 = .ok (.aload_n 0, 1) := by decide +kernel
theorem dX10_player_45 : decode cX10_player 45 = .ok (.invokevirtual 119, 3) := by decide +kernel
theorem dX10_player_48 : decode cX10_player 48 = .ok (.ireturn, 1) := by decide +kernel
theorem dX10_player_49 : decode cX10_player 49 = .ok (.aload_n 0, 1) := by decide +kernel
theorem dX10_player_50 : decode cX10_player 50 = .ok (.getfield 10, 3) := by decide +kernel
theorem dX10_player_53 : decode cX10_player 53 = .ok (.getfield 99, 3) := by decide +kernel
theorem dX10_player_56 : decode cX10_player 56 = .ok (.invokevirtual 103, 3) := by decide +kernel
theorem dX10_player_59 : decode cX10_player 59 = .ok (.aload_n 0, 1) := by decide +kernel
theorem dX10_player_60 : decode cX10_player 60 = .ok (.getfield 10, 3) := by decide +kernel
theorem dX10_player_63 : decode cX10_player 63 = .ok (.getfield 81, 3) := by decide +kernel
theorem dX10_player_66 : decode cX10_player 66 = .ok (.iload_n 1, 1) := by decide +kernel
theorem dX10_player_67 : decode cX10_player 67 = .ok (.iload_n 2, 1) := by decide +kernel
theorem dX10_player_68 : decode cX10_player 68 = .ok (.iload_n 3, 1) := by decide +kernel
theorem dX10_player_69 : decode cX10_player 69 = .ok (.iconst 0, 1) := by decide +kernel
theorem dX10_player_70 : decode cX10_player 70 = .ok (.invokevirtual 122, 3) := by decide +kernel
theorem dX10_player_73 : decode cX10_player 73 = .ok (.iconst 1, 1) := by decide +kernel
theorem dX10_player_74 : decode cX10_player 74 = .ok (.isub, 1) := by decide +kernel
theorem dX10_player_75 : decode cX10_player 75 = .ok (.ireturn, 1) := by decide +kernel
theorem dX10_type_0 : decode cX10_type 0 = .ok (.iload_n 1, 1) := by decide +kernel
theorem dX10_type_1 : decode cX10_type 1 = .ok (.iconst 0, 1) := by decide +kernel
theorem dX10_type_2 : decode cX10_type 2 = .ok (.bipush 127, 2) := by decide +kernel
theorem dX10_type_4 : decode cX10_type 4 = .ok (.invokestatic 73, 3) := by decide +kernel
theorem dX10_type_7 : decode cX10_type 7 = .ok (.ifCond .ne 10, 3) := by decide +kernel
theorem dX10_type_10 : decode cX10_type 10 = .ok (.aload_n 0, 1) := by decide +kernel
theorem dX10_type_11 : decode cX10_type 11 = .ok (.bipush (-2), 2) := by decide +kernel
theorem dX10_type_13 : decode cX10_type 13 = .ok (.invokevirtual 77, 3) := by decide +kernel
theorem dX10_type_16 : decode cX10_type 16 = .ok (.ireturn, 1) := by decide +kernel
theorem dX10_type_17 : decode cX10_type 17 = .ok (.aload_n 0, 1) := by decide +kernel
theorem dX10_type_18 : decode cX10_type 18 = .ok (.getfield 32, 3) := by decide +kernel
theorem dX10_type_21 : decode cX10_type 21 = .ok (.getfield 126, 3) := by decide +kernel
theorem dX10_type_24 : decode cX10_type 24 = .ok (.invokevirtual 130, 3) := by decide +kernel
theorem dX10_type_27 : decode cX10_type 27 = .ok (.ifCond .eq 8, 3) := by decide +kernel
theorem dX10_type_30 : decode cX10_type 30 = .ok (.aload_n 0, 1) := by decide +kernel
theorem dX10_type_31 : decode cX10_type 31 = .ok (.invokevirtual 119, 3) := by decide +kernel
theorem dX10_type_34 : decode cX10_type 34 = .ok (.ireturn, 1) := by decide +kernel
theorem dX10_type_35 : decode cX10_type 35 = .ok (.aload_n 0, 1) := by decide +kernel
theorem dX10_type_36 : decode cX10_type 36 = .ok (.getfield 32, 3) := by decide +kernel
theorem dX10_type_39 : decode cX10_type 39 = .ok (.getfield 126, 3) := by decide +kernel
theorem dX10_type_42 : decode cX10_type 42 = .ok (.iload_n 1, 1) := by decide +kernel
theorem dX10_type_43 : decode cX10_type 43 = .ok (.invokevirtual 133, 3) := by decide +kernel
theorem dX10_type_46 : decode cX10_type 46 = .ok (.ireturn, 1) := by decide +kernel
theorem dX10_clear_0 : decode cX10_clear 0 = .ok (.aload_n 0, 1) := by decide +kernel
theorem dX10_clear_1 : decode cX10_clear 1 = .ok (.getfield 32, 3) := by decide +kernel
theorem dX10_clear_4 : decode cX10_clear 4 = .ok (.getfield 126, 3) := by decide +kernel
theorem dX10_clear_7 : decode cX10_clear 7 = .ok (.invokevirtual 136, 3) := by decide +kernel
theorem dX10_clear_10 : decode cX10_clear 10 = .ok (.ireturn, 1) := by decide +kernel
theorem dX10_read_0 : decode cX10_read 0 = .ok (.aload_n 0, 1) := by decide +kernel
theorem dX10_read_1 : decode cX10_read 1 = .ok (.getfield 32, 3) := by decide +kernel
theorem dX10_read_4 : decode cX10_read 4 = .ok (.getfield 126, 3) := by decide +kernel
theorem dX10_read_7 : decode cX10_read 7 = .ok (.invokevirtual 139, 3) := by decide +kernel
theorem dX10_read_10 : decode cX10_read 10 = .ok (.aload_n 0, 1) := by decide +kernel
theorem dX10_read_11 : decode cX10_read 11 = .ok (.getfield 32, 3) := by decide +kernel
theorem dX10_read_14 : decode cX10_read 14 = .ok (.invokevirtual 142, 3) := by decide +kernel
theorem dX10_read_17 : decode cX10_read 17 = .ok (.ifCond .ne 8, 3) := by decide +kernel
theorem dX10_read_20 : decode cX10_read 20 = .ok (.aload_n 0, 1) := by decide +kernel
theorem dX10_read_21 : decode cX10_read 21 = .ok (.invokevirtual 145, 3) := by decide +kernel
theorem dX10_read_24 : decode cX10_read 24 = .ok (.ireturn, 1) := by decide +kernel
theorem dX10_read_25 : decode cX10_read 25 = .ok (.iconst 1, 1) := by decide +kernel
theorem dX10_read_26 : decode cX10_read 26 = .ok (.istore_n 1, 1) := by decide +kernel
theorem dX10_read_27 : decode cX10_read 27 = .ok (.aload_n 0, 1) := by decide +kernel
theorem dX10_read_28 : decode cX10_read 28 = .ok (.getfield 32, 3) := by decide +kernel
theorem dX10_read_31 : decode cX10_read 31 = .ok (.getfield 126, 3) := by decide +kernel
theorem dX10_read_34 : decode cX10_read 34 = .ok (.invokevirtual 148, 3) := by decide +kernel
theorem dX10_read_37 : decode cX10_read 37 = .ok (.ifCond .eq 31, 3) := by decide +kernel
theorem dX10_read_40 : decode cX10_read 40 = .ok (.iload_n 1, 1) := by decide +kernel
theorem dX10_read_41 : decode cX10_read 41 = .ok (.sipush 150, 3) := by decide +kernel
theorem dX10_read_44 : decode cX10_read 44 = .ok (.if_icmp .gt 24, 3) := by decide +kernel
theorem dX10_read_47 : decode cX10_read 47 = .ok (.aload_n 0, 1) := by decide +kernel
theorem dX10_read_48 : decode cX10_read 48 = .ok (.getfield 32, 3) := by decide +kernel
theorem dX10_read_51 : decode cX10_read 51 = .ok (.invokevirtual 151, 3) := by decide +kernel
theorem dX10_read_54 : decode cX10_read 54 = .ok (.ifCond .ne 8, 3) := by decide +kernel
theorem dX10_read_57 : decode cX10_read 57 = .ok (.aload_n 0, 1) := by decide +kernel
theorem dX10_read_58 : decode cX10_read 58 = .ok (.invokevirtual 145, 3) := by decide +kernel
theorem dX10_read_61 : decode cX10_read 61 = .ok (.ireturn, 1) := by decide +kernel
theorem dX10_read_62 : decode cX10_read 62 = .ok (.iinc 1 1, 3) := by decide +kernel
theorem dX10_read_65 : decode cX10_read 65 = .ok (.goto (-38), 3) := by decide +kernel
theorem dX10_read_68 : decode cX10_read 68 = .ok (.aload_n 0, 1) := by decide +kernel
theorem dX10_read_69 : decode cX10_read 69 = .ok (.getfield 10, 3) := by decide +kernel
theorem dX10_read_72 : decode cX10_read 72 = .ok (.aload_n 0, 1) := by decide +kernel
theorem dX10_read_73 : decode cX10_read 73 = .ok (.getfield 32, 3) := by decide +kernel
theorem dX10_read_76 : decode cX10_read 76 = .ok (.getfield 154, 3) := by decide +kernel
theorem dX10_read_79 : decode cX10_read 79 = .ok (.invokevirtual 157, 3) := by decide +kernel
theorem dX10_read_82 : decode cX10_read 82 = .ok (.iload_n 1, 1) := by decide +kernel
theorem dX10_read_83 : decode cX10_read 83 = .ok (.ireturn, 1) := by decide +kernel
theorem dX10_hits_0 : decode cX10_hits 0 = .ok (.aload_n 0, 1) := by decide +kernel
theorem dX10_hits_1 : decode cX10_hits 1 = .ok (.getfield 10, 3) := by decide +kernel
theorem dX10_hits_4 : decode cX10_hits 4 = .ok (.getfield 81, 3) := by decide +kernel
theorem dX10_hits_7 : decode cX10_hits 7 = .ok (.iload_n 1, 1) := by decide +kernel
theorem dX10_hits_8 : decode cX10_hits 8 = .ok (.invokevirtual 161, 3) := by decide +kernel
theorem dX10_hits_11 : decode cX10_hits 11 = .ok (.ifCond .ne 10, 3) := by decide +kernel
theorem dX10_hits_14 : decode cX10_hits 14 = .ok (.aload_n 0, 1) := by decide +kernel
theorem dX10_hits_15 : decode cX10_hits 15 = .ok (.bipush (-2), 2) := by decide +kernel
theorem dX10_hits_17 : decode cX10_hits 17 = .ok (.invokevirtual 77, 3) := by decide +kernel
theorem dX10_hits_20 : decode cX10_hits 20 = .ok (.ireturn, 1) := by decide +kernel
theorem dX10_hits_21 : decode cX10_hits 21 = .ok (.aload_n 0, 1) := by decide +kernel
theorem dX10_hits_22 : decode cX10_hits 22 = .ok (.getfield 10, 3) := by decide +kernel
theorem dX10_hits_25 : decode cX10_hits 25 = .ok (.iload_n 1, 1) := by decide +kernel
theorem dX10_hits_26 : decode cX10_hits 26 = .ok (.invokevirtual 164, 3) := by decide +kernel
theorem dX10_hits_29 : decode cX10_hits 29 = .ok (.ifCond .ne 8, 3) := by decide +kernel
theorem dX10_hits_32 : decode cX10_hits 32 = .ok (.aload_n 0, 1) := by decide +kernel
theorem dX10_hits_33 : decode cX10_hits 33 = .ok (.invokevirtual 167, 3) := by decide +kernel
theorem dX10_hits_36 : decode cX10_hits 36 = .ok (.ireturn, 1) := by decide +kernel
theorem dX10_hits_37 : decode cX10_hits 37 = .ok (.aload_n 0, 1) := by decide +kernel
theorem dX10_hits_38 : decode cX10_hits 38 = .ok (.getfield 10, 3) := by decide +kernel
theorem dX10_hits_41 : decode cX10_hits 41 = .ok (.invokevirtual 170, 3) := by decide +kernel
theorem dX10_hits_44 : decode cX10_hits 44 = .ok (.aload_n 0, 1) := by decide +kernel
theorem dX10_hits_45 : decode cX10_hits 45 = .ok (.getfield 10, 3) := by decide +kernel
theorem dX10_hits_48 : decode cX10_hits 48 = .ok (.iload_n 1, 1) := by decide +kernel
theorem dX10_hits_49 : decode cX10_hits 49 = .ok (.invokevirtual 173, 3) := by decide +kernel
theorem dX10_hits_52 : decode cX10_hits 52 = .ok (.ireturn, 1) := by decide +kernel
theorem dX10_picks_0 : decode cX10_picks 0 = .ok (.iload_n 1, 1) := by decide +kernel
theorem dX10_picks_1 : decode cX10_picks 1 = .ok (.invokestatic 112, 3) := by decide +kernel
theorem dX10_picks_4 : decode cX10_picks 4 = .ok (.ifCond .ne 10, 3) := by decide +kernel
theorem dX10_picks_7 : decode cX10_picks 7 = .ok (.aload_n 0, 1) := by decide +kernel
theorem dX10_picks_8 : decode cX10_picks 8 = .ok (.bipush (-2), 2) := by decide +kernel
theorem dX10_picks_10 : decode cX10_picks 10 = .ok (.invokevirtual 77, 3) := by decide +kernel
theorem dX10_picks_13 : decode cX10_picks 13 = .ok (.ireturn, 1) := by decide +kernel
theorem dX10_picks_14 : decode cX10_picks 14 = .ok (.aload_n 0, 1) := by decide +kernel
theorem dX10_picks_15 : decode cX10_picks 15 = .ok (.getfield 10, 3) := by decide +kernel
theorem dX10_picks_18 : decode cX10_picks 18 = .ok (.invokevirtual 176, 3) := by decide +kernel
theorem dX10_picks_21 : decode cX10_picks 21 = .ok (.ifCond .eq 8, 3) := by decide +kernel
theorem dX10_picks_24 : decode cX10_picks 24 = .ok (.aload_n 0, 1) := by decide +kernel
theorem dX10_picks_25 : decode cX10_picks 25 = .ok (.invokevirtual 167, 3) := by decide +kernel
theorem dX10_picks_28 : decode cX10_picks 28 = .ok (.ireturn, 1) := by decide +kernel
theorem dX10_picks_29 : decode cX10_picks 29 = .ok (.aload_n 0, 1) := by decide +kernel
theorem dX10_picks_30 : decode cX10_picks 30 = .ok (.getfield 10, 3) := by decide +kernel
theorem dX10_picks_33 : decode cX10_picks 33 = .ok (.invokevirtual 170, 3) := by decide +kernel
theorem dX10_picks_36 : decode cX10_picks 36 = .ok (.aload_n 0, 1) := by decide +kernel
theorem dX10_picks_37 : decode cX10_picks 37 = .ok (.getfield 10, 3) := by decide +kernel
theorem dX10_picks_40 : decode cX10_picks 40 = .ok (.iload_n 1, 1) := by decide +kernel
theorem dX10_picks_41 : decode cX10_picks 41 = .ok (.invokevirtual 179, 3) := by decide +kernel
theorem dX10_picks_44 : decode cX10_picks 44 = .ok (.aload_n 0, 1) := by decide +kernel
theorem dX10_picks_45 : decode cX10_picks 45 = .ok (.getfield 10, 3) := by decide +kernel
theorem dX10_picks_48 : decode cX10_picks 48 = .ok (.getfield 182, 3) := by decide +kernel
theorem dX10_picks_51 : decode cX10_picks 51 = .ok (.iconst 5, 1) := by decide +kernel
theorem dX10_picks_52 : decode cX10_picks 52 = .ok (.iaload, 1) := by decide +kernel
theorem dX10_picks_53 : decode cX10_picks 53 = .ok (.ireturn, 1) := by decide +kernel
theorem dX10_cock_0 : decode cX10_cock 0 = .ok (.iload_n 1, 1) := by decide +kernel
theorem dX10_cock_1 : decode cX10_cock 1 = .ok (.invokestatic 108, 3) := by decide +kernel
theorem dX10_cock_4 : decode cX10_cock 4 = .ok (.ifCond .eq 13, 3) := by decide +kernel
theorem dX10_cock_7 : decode cX10_cock 7 = .ok (.iload_n 2, 1) := by decide +kernel
theorem dX10_cock_8 : decode cX10_cock 8 = .ok (.iconst 1, 1) := by decide +kernel
theorem dX10_cock_9 : decode cX10_cock 9 = .ok (.bipush 9, 2) := by decide +kernel
theorem dX10_cock_11 : decode cX10_cock 11 = .ok (.invokestatic 73, 3) := by decide +kernel
theorem dX10_cock_14 : decode cX10_cock 14 = .ok (.ifCond .ne 10, 3) := by decide +kernel
theorem dX10_cock_17 : decode cX10_cock 17 = .ok (.aload_n 0, 1) := by decide +kernel
theorem dX10_cock_18 : decode cX10_cock 18 = .ok (.bipush (-2), 2) := by decide +kernel
theorem dX10_cock_20 : decode cX10_cock 20 = .ok (.invokevirtual 77, 3) := by decide +kernel
theorem dX10_cock_23 : decode cX10_cock 23 = .ok (.ireturn, 1) := by decide +kernel
theorem dX10_cock_24 : decode cX10_cock 24 = .ok (.aload_n 0, 1) := by decide +kernel
theorem dX10_cock_25 : decode cX10_cock 25 = .ok (.getfield 10, 3) := by decide +kernel
theorem dX10_cock_28 : decode cX10_cock 28 = .ok (.getfield 182, 3) := by decide +kernel
theorem dX10_cock_31 : decode cX10_cock 31 = .ok (.iconst 1, 1) := by decide +kernel
theorem dX10_cock_32 : decode cX10_cock 32 = .ok (.iaload, 1) := by decide +kernel
theorem dX10_cock_33 : decode cX10_cock 33 = .ok (.istore_n 3, 1) := by decide +kernel
theorem dX10_cock_34 : decode cX10_cock 34 = .ok (.aload_n 0, 1) := by decide +kernel
theorem dX10_cock_35 : decode cX10_cock 35 = .ok (.getfield 10, 3) := by decide +kernel
theorem dX10_cock_38 : decode cX10_cock 38 = .ok (.invokevirtual 170, 3) := by decide +kernel
theorem dX10_cock_41 : decode cX10_cock 41 = .ok (.aload_n 0, 1) := by decide +kernel
theorem dX10_cock_42 : decode cX10_cock 42 = .ok (.getfield 10, 3) := by decide +kernel
theorem dX10_cock_45 : decode cX10_cock 45 = .ok (.iload_n 1, 1) := by decide +kernel
theorem dX10_cock_46 : decode cX10_cock 46 = .ok (.iload_n 2, 1) := by decide +kernel
theorem dX10_cock_47 : decode cX10_cock 47 = .ok (.invokevirtual 185, 3) := by decide +kernel
theorem dX10_cock_50 : decode cX10_cock 50 = .ok (.iload_n 3, 1) := by decide +kernel
theorem dX10_cock_51 : decode cX10_cock 51 = .ok (.ireturn, 1) := by decide +kernel
theorem dX10_hours_0 : decode cX10_hours 0 = .ok (.iload_n 1, 1) := by decide +kernel
theorem dX10_hours_1 : decode cX10_hours 1 = .ok (.iconst 1, 1) := by decide +kernel
theorem dX10_hours_2 : decode cX10_hours 2 = .ok (.bipush 99, 2) := by decide +kernel
theorem dX10_hours_4 : decode cX10_hours 4 = .ok (.invokestatic 73, 3) := by decide +kernel
theorem dX10_hours_7 : decode cX10_hours 7 = .ok (.ifCond .ne 10, 3) := by decide +kernel
theorem dX10_hours_10 : decode cX10_hours 10 = .ok (.aload_n 0, 1) := by decide +kernel
theorem dX10_hours_11 : decode cX10_hours 11 = .ok (.bipush (-2), 2) := by decide +kernel
theorem dX10_hours_13 : decode cX10_hours 13 = .ok (.invokevirtual 77, 3) := by decide +kernel
theorem dX10_hours_16 : decode cX10_hours 16 = .ok (.ireturn, 1) := by decide +kernel
theorem dX10_hours_17 : decode cX10_hours 17 = .ok (.aload_n 0, 1) := by decide +kernel
theorem dX10_hours_18 : decode cX10_hours 18 = .ok (.getfield 10, 3) := by decide +kernel
theorem dX10_hours_21 : decode cX10_hours 21 = .ok (.invokevirtual 170, 3) := by decide +kernel
theorem dX10_hours_24 : decode cX10_hours 24 = .ok (.aload_n 0, 1) := by decide +kernel
theorem dX10_hours_25 : decode cX10_hours 25 = .ok (.getfield 10, 3) := by decide +kernel
theorem dX10_hours_28 : decode cX10_hours 28 = .ok (.iload_n 1, 1) := by decide +kernel
theorem dX10_hours_29 : decode cX10_hours 29 = .ok (.invokevirtual 189, 3) := by decide +kernel
theorem dX10_hours_32 : decode cX10_hours 32 = .ok (.aload_n 0, 1) := by decide +kernel
theorem dX10_hours_33 : decode cX10_hours 33 = .ok (.getfield 10, 3) := by decide +kernel
theorem dX10_hours_36 : decode cX10_hours 36 = .ok (.invokevirtual 192, 3) := by decide +kernel
theorem dX10_hours_39 : decode cX10_hours 39 = .ok (.ireturn, 1) := by decide +kernel
theorem dX10_undo_0 : decode cX10_undo 0 = .ok (.aload_n 0, 1) := by decide +kernel
theorem dX10_undo_1 : decode cX10_undo 1 = .ok (.getfield 10, 3) := by decide +kernel
theorem dX10_undo_4 : decode cX10_undo 4 = .ok (.getfield 99, 3) := by decide +kernel
theorem dX10_undo_7 : decode cX10_undo 7 = .ok (.invokevirtual 195, 3) := by decide +kernel
theorem dX10_undo_10 : decode cX10_undo 10 = .ok (.ifCond .ne 8, 3) := by decide +kernel
theorem dX10_undo_13 : decode cX10_undo 13 = .ok (.aload_n 0, 1) := by decide +kernel
theorem dX10_undo_14 : decode cX10_undo 14 = .ok (.invokevirtual 167, 3) := by decide +kernel
theorem dX10_undo_17 : decode cX10_undo 17 = .ok (.ireturn, 1) := by decide +kernel
theorem dX10_undo_18 : decode cX10_undo 18 = .ok (.aload_n 0, 1) := by decide +kernel
theorem dX10_undo_19 : decode cX10_undo 19 = .ok (.getfield 10, 3) := by decide +kernel
theorem dX10_undo_22 : decode cX10_undo 22 = .ok (.getfield 99, 3) := by decide +kernel
theorem dX10_undo_25 : decode cX10_undo 25 = .ok (.aload_n 0, 1) := by decide +kernel
theorem dX10_undo_26 : decode cX10_undo 26 = .ok (.getfield 10, 3) := by decide +kernel
theorem dX10_undo_29 : decode cX10_undo 29 = .ok (.getfield 182, 3) := by decide +kernel
theorem dX10_undo_32 : decode cX10_undo 32 = .ok (.invokevirtual 196, 3) := by decide +kernel
theorem dX10_undo_35 : decode cX10_undo 35 = .ok (.aload_n 0, 1) := by decide +kernel
theorem dX10_undo_36 : decode cX10_undo 36 = .ok (.getfield 10, 3) := by decide +kernel
theorem dX10_undo_39 : decode cX10_undo 39 = .ok (.invokevirtual 192, 3) := by decide +kernel
theorem dX10_undo_42 : decode cX10_undo 42 = .ok (.ireturn, 1) := by decide +kernel
theorem dX10_now_0 : decode cX10_now 0 = .ok (.iload_n 1, 1) := by decide +kernel
theorem dX10_now_1 : decode cX10_now 1 = .ok (.bipush 6, 2) := by decide +kernel
theorem dX10_now_3 : decode cX10_now 3 = .ok (.if_icmp .ne 25, 3) := by decide +kernel
theorem dX10_now_6 : decode cX10_now 6 = .ok (.aload_n 0, 1) := by decide +kernel
theorem dX10_now_7 : decode cX10_now 7 = .ok (.getfield 10, 3) := by decide +kernel
theorem dX10_now_10 : decode cX10_now 10 = .ok (.aload_n 0, 1) := by decide +kernel
theorem dX10_now_11 : decode cX10_now 11 = .ok (.getfield 10, 3) := by decide +kernel
theorem dX10_now_14 : decode cX10_now 14 = .ok (.invokevirtual 200, 3) := by decide +kernel
theorem dX10_now_17 : decode cX10_now 17 = .ok (.aload_n 0, 1) := by decide +kernel
theorem dX10_now_18 : decode cX10_now 18 = .ok (.getfield 10, 3) := by decide +kernel
theorem dX10_now_21 : decode cX10_now 21 = .ok (.invokevirtual 192, 3) := by decide +kernel
theorem dX10_now_24 : decode cX10_now 24 = .ok (.invokevirtual 203, 3) := by decide +kernel
theorem dX10_now_27 : decode cX10_now 27 = .ok (.ireturn, 1) := by decide +kernel
theorem dX10_now_28 : decode cX10_now 28 = .ok (.iload_n 1, 1) := by decide +kernel
theorem dX10_now_29 : decode cX10_now 29 = .ok (.iconst 0, 1) := by decide +kernel
theorem dX10_now_30 : decode cX10_now 30 = .ok (.iconst 5, 1) := by decide +kernel
theorem dX10_now_31 : decode cX10_now 31 = .ok (.invokestatic 73, 3) := by decide +kernel
theorem dX10_now_34 : decode cX10_now 34 = .ok (.ifCond .ne 10, 3) := by decide +kernel
theorem dX10_now_37 : decode cX10_now 37 = .ok (.aload_n 0, 1) := by decide +kernel
theorem dX10_now_38 : decode cX10_now 38 = .ok (.bipush (-10), 2) := by decide +kernel
theorem dX10_now_40 : decode cX10_now 40 = .ok (.invokevirtual 77, 3) := by decide +kernel
theorem dX10_now_43 : decode cX10_now 43 = .ok (.ireturn, 1) := by decide +kernel
theorem dX10_now_44 : decode cX10_now 44 = .ok (.aload_n 0, 1) := by decide +kernel
theorem dX10_now_45 : decode cX10_now 45 = .ok (.getfield 10, 3) := by decide +kernel
theorem dX10_now_48 : decode cX10_now 48 = .ok (.getfield 182, 3) := by decide +kernel
theorem dX10_now_51 : decode cX10_now 51 = .ok (.iload_n 1, 1) := by decide +kernel
theorem dX10_now_52 : decode cX10_now 52 = .ok (.iaload, 1) := by decide +kernel
theorem dX10_now_53 : decode cX10_now 53 = .ok (.ireturn, 1) := by decide +kernel
theorem dX10_of_0 : decode cX10_of 0 = .ok (.aload_n 0, 1) := by decide +kernel
theorem dX10_of_1 : decode cX10_of 1 = .ok (.getfield 10, 3) := by decide +kernel
theorem dX10_of_4 : decode cX10_of 4 = .ok (.getfield 81, 3) := by decide +kernel
theorem dX10_of_7 : decode cX10_of 7 = .ok (.iload_n 1, 1) := by decide +kernel
theorem dX10_of_8 : decode cX10_of 8 = .ok (.invokevirtual 161, 3) := by decide +kernel
theorem dX10_of_11 : decode cX10_of 11 = .ok (.ifCond .eq 12, 3) := by decide +kernel
theorem dX10_of_14 : decode cX10_of 14 = .ok (.iload_n 2, 1) := by decide +kernel
theorem dX10_of_15 : decode cX10_of 15 = .ok (.iconst 0, 1) := by decide +kernel
theorem dX10_of_16 : decode cX10_of 16 = .ok (.iconst 3, 1) := by decide +kernel
theorem dX10_of_17 : decode cX10_of 17 = .ok (.invokestatic 73, 3) := by decide +kernel
theorem dX10_of_20 : decode cX10_of 20 = .ok (.ifCond .ne 10, 3) := by decide +kernel
theorem dX10_of_23 : decode cX10_of 23 = .ok (.aload_n 0, 1) := by decide +kernel
theorem dX10_of_24 : decode cX10_of 24 = .ok (.bipush (-2), 2) := by decide +kernel
theorem dX10_of_26 : decode cX10_of 26 = .ok (.invokevirtual 77, 3) := by decide +kernel
theorem dX10_of_29 : decode cX10_of 29 = .ok (.ireturn, 1) := by decide +kernel
theorem dX10_of_30 : decode cX10_of 30 = .ok (.iload_n 2, 1) := by decide +kernel
theorem dX10_of_31 : decode cX10_of 31 = .ok (.iconst 3, 1) := by decide +kernel
theorem dX10_of_32 : decode cX10_of 32 = .ok (.if_icmp .ne 21, 3) := by decide +kernel
theorem dX10_of_35 : decode cX10_of 35 = .ok (.aload_n 0, 1) := by decide +kernel
theorem dX10_of_36 : decode cX10_of 36 = .ok (.getfield 10, 3) := by decide +kernel
theorem dX10_of_39 : decode cX10_of 39 = .ok (.iload_n 1, 1) := by decide +kernel
theorem dX10_of_40 : decode cX10_of 40 = .ok (.aload_n 0, 1) := by decide +kernel
theorem dX10_of_41 : decode cX10_of 41 = .ok (.getfield 10, 3) := by decide +kernel
theorem dX10_of_44 : decode cX10_of 44 = .ok (.invokevirtual 192, 3) := by decide +kernel
theorem dX10_of_47 : decode cX10_of 47 = .ok (.invokevirtual 207, 3) := by decide +kernel
theorem dX10_of_50 : decode cX10_of 50 = .ok (.goto 15, 3) := by decide +kernel
theorem dX10_of_53 : decode cX10_of 53 = .ok (.aload_n 0, 1) := by decide +kernel
theorem dX10_of_54 : decode cX10_of 54 = .ok (.getfield 10, 3) := by decide +kernel
theorem dX10_of_57 : decode cX10_of 57 = .ok (.getfield 81, 3) := by decide +kernel
theorem dX10_of_60 : decode cX10_of 60 = .ok (.iload_n 1, 1) := by decide +kernel
theorem dX10_of_61 : decode cX10_of 61 = .ok (.iload_n 2, 1) := by decide +kernel
theorem dX10_of_62 : decode cX10_of 62 = .ok (.invokevirtual 210, 3) := by decide +kernel
theorem dX10_of_65 : decode cX10_of 65 = .ok (.ireturn, 1) := by decide +kernel
theorem dX10_reach_0 : decode cX10_reach 0 = .ok (.aload_n 0, 1) := by decide +kernel
theorem dX10_reach_1 : decode cX10_reach 1 = .ok (.getfield 10, 3) := by decide +kernel
theorem dX10_reach_4 : decode cX10_reach 4 = .ok (.getfield 81, 3) := by decide +kernel
theorem dX10_reach_7 : decode cX10_reach 7 = .ok (.iload_n 1, 1) := by decide +kernel
theorem dX10_reach_8 : decode cX10_reach 8 = .ok (.invokevirtual 161, 3) := by decide +kernel
theorem dX10_reach_11 : decode cX10_reach 11 = .ok (.ifCond .eq 13, 3) := by decide +kernel
theorem dX10_reach_14 : decode cX10_reach 14 = .ok (.iload_n 2, 1) := by decide +kernel
theorem dX10_reach_15 : decode cX10_reach 15 = .ok (.iconst 0, 1) := by decide +kernel
theorem dX10_reach_16 : decode cX10_reach 16 = .ok (.bipush 47, 2) := by decide +kernel
theorem dX10_reach_18 : decode cX10_reach 18 = .ok (.invokestatic 73, 3) := by decide +kernel
theorem dX10_reach_21 : decode cX10_reach 21 = .ok (.ifCond .ne 10, 3) := by decide +kernel
theorem dX10_reach_24 : decode cX10_reach 24 = .ok (.aload_n 0, 1) := by decide +kernel
theorem dX10_reach_25 : decode cX10_reach 25 = .ok (.bipush (-2), 2) := by decide +kernel
theorem dX10_reach_27 : decode cX10_reach 27 = .ok (.invokevirtual 77, 3) := by decide +kernel
theorem dX10_reach_30 : decode cX10_reach 30 = .ok (.ireturn, 1) := by decide +kernel
theorem dX10_reach_31 : decode cX10_reach 31 = .ok (.aload_n 0, 1) := by decide +kernel
theorem dX10_reach_32 : decode cX10_reach 32 = .ok (.getfield 10, 3) := by decide +kernel
theorem dX10_reach_35 : decode cX10_reach 35 = .ok (.iload_n 1, 1) := by decide +kernel
theorem dX10_reach_36 : decode cX10_reach 36 = .ok (.aload_n 0, 1) := by decide +kernel
theorem dX10_reach_37 : decode cX10_reach 37 = .ok (.getfield 10, 3) := by decide +kernel
theorem dX10_reach_40 : decode cX10_reach 40 = .ok (.invokevirtual 192, 3) := by decide +kernel
theorem dX10_reach_43 : decode cX10_reach 43 = .ok (.iload_n 2, 1) := by decide +kernel
theorem dX10_reach_44 : decode cX10_reach 44 = .ok (.iadd, 1) := by decide +kernel
theorem dX10_reach_45 : decode cX10_reach 45 = .ok (.invokevirtual 213, 3) := by decide +kernel
theorem dX10_reach_48 : decode cX10_reach 48 = .ok (.ireturn, 1) := by decide +kernel
theorem dX10_may_0 : decode cX10_may 0 = .ok (.aload_n 0, 1) := by decide +kernel
theorem dX10_may_1 : decode cX10_may 1 = .ok (.getfield 10, 3) := by decide +kernel
theorem dX10_may_4 : decode cX10_may 4 = .ok (.invokevirtual 176, 3) := by decide +kernel
theorem dX10_may_7 : decode cX10_may 7 = .ok (.ifCond .eq 27, 3) := by decide +kernel
theorem dX10_may_10 : decode cX10_may 10 = .ok (.aload_n 0, 1) := by decide +kernel
theorem dX10_may_11 : decode cX10_may 11 = .ok (.getfield 10, 3) := by decide +kernel
theorem dX10_may_14 : decode cX10_may 14 = .ok (.aload_n 0, 1) := by decide +kernel
theorem dX10_may_15 : decode cX10_may 15 = .ok (.getfield 10, 3) := by decide +kernel
theorem dX10_may_18 : decode cX10_may 18 = .ok (.invokevirtual 200, 3) := by decide +kernel
theorem dX10_may_21 : decode cX10_may 21 = .ok (.aload_n 0, 1) := by decide +kernel
theorem dX10_may_22 : decode cX10_may 22 = .ok (.getfield 10, 3) := by decide +kernel
theorem dX10_may_25 : decode cX10_may 25 = .ok (.invokevirtual 192, 3) := by decide +kernel
theorem dX10_may_28 : decode cX10_may 28 = .ok (.invokevirtual 216, 3) := by decide +kernel
theorem dX10_may_31 : decode cX10_may 31 = .ok (.goto 4, 3) := by decide +kernel
theorem dX10_may_34 : decode cX10_may 34 = .ok (.iconst 0, 1) := by decide +kernel
theorem dX10_may_35 : decode cX10_may 35 = .ok (.ireturn, 1) := by decide +kernel
theorem dX10_rally_0 : decode cX10_rally 0 = .ok (.iload_n 1, 1) := by decide +kernel
theorem dX10_rally_1 : decode cX10_rally 1 = .ok (.iconst 0, 1) := by decide +kernel
theorem dX10_rally_2 : decode cX10_rally 2 = .ok (.aload_n 0, 1) := by decide +kernel
theorem dX10_rally_3 : decode cX10_rally 3 = .ok (.getfield 10, 3) := by decide +kernel
theorem dX10_rally_6 : decode cX10_rally 6 = .ok (.invokevirtual 219, 3) := by decide +kernel
theorem dX10_rally_9 : decode cX10_rally 9 = .ok (.invokestatic 73, 3) := by decide +kernel
theorem dX10_rally_12 : decode cX10_rally 12 = .ok (.ifCond .eq 14, 3) := by decide +kernel
theorem dX10_rally_15 : decode cX10_rally 15 = .ok (.iload_n 2, 1) := by decide +kernel
theorem dX10_rally_16 : decode cX10_rally 16 = .ok (.iconst (-1), 1) := by decide +kernel
theorem dX10_rally_17 : decode cX10_rally 17 = .ok (.if_icmp .eq 9, 3) := by decide +kernel
theorem dX10_rally_20 : decode cX10_rally 20 = .ok (.iload_n 2, 1) := by decide +kernel
theorem dX10_rally_21 : decode cX10_rally 21 = .ok (.bipush (-2), 2) := by decide +kernel
theorem dX10_rally_23 : decode cX10_rally 23 = .ok (.if_icmp .ge 10, 3) := by decide +kernel
theorem dX10_rally_26 : decode cX10_rally 26 = .ok (.aload_n 0, 1) := by decide +kernel
theorem dX10_rally_27 : decode cX10_rally 27 = .ok (.bipush (-10), 2) := by decide +kernel
theorem dX10_rally_29 : decode cX10_rally 29 = .ok (.invokevirtual 77, 3) := by decide +kernel
theorem dX10_rally_32 : decode cX10_rally 32 = .ok (.ireturn, 1) := by decide +kernel
theorem dX10_rally_33 : decode cX10_rally 33 = .ok (.aload_n 0, 1) := by decide +kernel
theorem dX10_rally_34 : decode cX10_rally 34 = .ok (.getfield 46, 3) := by decide +kernel
theorem dX10_rally_37 : decode cX10_rally 37 = .ok (.aload_n 0, 1) := by decide +kernel
theorem dX10_rally_38 : decode cX10_rally 38 = .ok (.getfield 10, 3) := by decide +kernel
theorem dX10_rally_41 : decode cX10_rally 41 = .ok (.iload_n 1, 1) := by decide +kernel
theorem dX10_rally_42 : decode cX10_rally 42 = .ok (.invokevirtual 222, 3) := by decide +kernel
theorem dX10_rally_45 : decode cX10_rally 45 = .ok (.istore_n 3, 1) := by decide +kernel
theorem dX10_rally_46 : decode cX10_rally 46 = .ok (.iload_n 3, 1) := by decide +kernel
theorem dX10_rally_47 : decode cX10_rally 47 = .ok (.ifCond .ge 6, 3) := by decide +kernel
theorem dX10_rally_50 : decode cX10_rally 50 = .ok (.bipush (-6), 2) := by decide +kernel
theorem dX10_rally_52 : decode cX10_rally 52 = .ok (.ireturn, 1) := by decide +kernel
theorem dX10_rally_53 : decode cX10_rally 53 = .ok (.iload_n 2, 1) := by decide +kernel
theorem dX10_rally_54 : decode cX10_rally 54 = .ok (.bipush (-2), 2) := by decide +kernel
theorem dX10_rally_56 : decode cX10_rally 56 = .ok (.if_icmp .ne 5, 3) := by decide +kernel
theorem dX10_rally_59 : decode cX10_rally 59 = .ok (.iload_n 3, 1) := by decide +kernel
theorem dX10_rally_60 : decode cX10_rally 60 = .ok (.ireturn, 1) := by decide +kernel
theorem dX10_rally_61 : decode cX10_rally 61 = .ok (.iload_n 2, 1) := by decide +kernel
theorem dX10_rally_62 : decode cX10_rally 62 = .ok (.iload_n 3, 1) := by decide +kernel
theorem dX10_rally_63 : decode cX10_rally 63 = .ok (.if_icmp .ge 15, 3) := by decide +kernel
theorem dX10_rally_66 : decode cX10_rally 66 = .ok (.aload_n 0, 1) := by decide +kernel
theorem dX10_rally_67 : decode cX10_rally 67 = .ok (.getfield 46, 3) := by decide +kernel
theorem dX10_rally_70 : decode cX10_rally 70 = .ok (.iload_n 2, 1) := by decide +kernel
theorem dX10_rally_71 : decode cX10_rally 71 = .ok (.iload_n 3, 1) := by decide +kernel
theorem dX10_rally_72 : decode cX10_rally 72 = .ok (.invokevirtual 226, 3) := by decide +kernel
theorem dX10_rally_75 : decode cX10_rally 75 = .ok (.goto 5, 3) := by decide +kernel
theorem dX10_rally_78 : decode cX10_rally 78 = .ok (.bipush (-5), 2) := by decide +kernel
theorem dX10_rally_80 : decode cX10_rally 80 = .ok (.ireturn, 1) := by decide +kernel
theorem dX10_lasts_0 : decode cX10_lasts 0 = .ok (.aload_n 0, 1) := by decide +kernel
theorem dX10_lasts_1 : decode cX10_lasts 1 = .ok (.getfield 10, 3) := by decide +kernel
theorem dX10_lasts_4 : decode cX10_lasts 4 = .ok (.invokevirtual 176, 3) := by decide +kernel
theorem dX10_lasts_7 : decode cX10_lasts 7 = .ok (.ifCond .ne 5, 3) := by decide +kernel
theorem dX10_lasts_10 : decode cX10_lasts 10 = .ok (.iconst 0, 1) := by decide +kernel
theorem dX10_lasts_11 : decode cX10_lasts 11 = .ok (.ireturn, 1) := by decide +kernel
theorem dX10_lasts_12 : decode cX10_lasts 12 = .ok (.aload_n 0, 1) := by decide +kernel
theorem dX10_lasts_13 : decode cX10_lasts 13 = .ok (.getfield 39, 3) := by decide +kernel
theorem dX10_lasts_16 : decode cX10_lasts 16 = .ok (.aload_n 0, 1) := by decide +kernel
theorem dX10_lasts_17 : decode cX10_lasts 17 = .ok (.getfield 10, 3) := by decide +kernel
theorem dX10_lasts_20 : decode cX10_lasts 20 = .ok (.invokevirtual 229, 3) := by decide +kernel
theorem dX10_lasts_23 : decode cX10_lasts 23 = .ok (.aload_n 0, 1) := by decide +kernel
theorem dX10_lasts_24 : decode cX10_lasts 24 = .ok (.getfield 39, 3) := by decide +kernel
theorem dX10_lasts_27 : decode cX10_lasts 27 = .ok (.aload_n 0, 1) := by decide +kernel
theorem dX10_lasts_28 : decode cX10_lasts 28 = .ok (.getfield 10, 3) := by decide +kernel
theorem dX10_lasts_31 : decode cX10_lasts 31 = .ok (.iconst 1, 1) := by decide +kernel
theorem dX10_lasts_32 : decode cX10_lasts 32 = .ok (.invokevirtual 232, 3) := by decide +kernel
theorem dX10_lasts_35 : decode cX10_lasts 35 = .ok (.invokevirtual 235, 3) := by decide +kernel
theorem dX10_lasts_38 : decode cX10_lasts 38 = .ok (.ireturn, 1) := by decide +kernel
theorem dX10_place_0 : decode cX10_place 0 = .ok (.iload_n 1, 1) := by decide +kernel
theorem dX10_place_1 : decode cX10_place 1 = .ok (.iconst (-1), 1) := by decide +kernel
theorem dX10_place_2 : decode cX10_place 2 = .ok (.if_icmp .eq 24, 3) := by decide +kernel
theorem dX10_place_5 : decode cX10_place 5 = .ok (.aload_n 0, 1) := by decide +kernel
theorem dX10_place_6 : decode cX10_place 6 = .ok (.getfield 10, 3) := by decide +kernel
theorem dX10_place_9 : decode cX10_place 9 = .ok (.getfield 81, 3) := by decide +kernel
theorem dX10_place_12 : decode cX10_place 12 = .ok (.iload_n 1, 1) := by decide +kernel
theorem dX10_place_13 : decode cX10_place 13 = .ok (.invokevirtual 161, 3) := by decide +kernel
theorem dX10_place_16 : decode cX10_place 16 = .ok (.ifCond .ne 10, 3) := by decide +kernel
theorem dX10_place_19 : decode cX10_place 19 = .ok (.aload_n 0, 1) := by decide +kernel
theorem dX10_place_20 : decode cX10_place 20 = .ok (.bipush (-10), 2) := by decide +kernel
theorem dX10_place_22 : decode cX10_place 22 = .ok (.invokevirtual 77, 3) := by decide +kernel
theorem dX10_place_25 : decode cX10_place 25 = .ok (.ireturn, 1) := by decide +kernel
theorem dX10_place_26 : decode cX10_place 26 = .ok (.aload_n 0, 1) := by decide +kernel
theorem dX10_place_27 : decode cX10_place 27 = .ok (.getfield 10, 3) := by decide +kernel
theorem dX10_place_30 : decode cX10_place 30 = .ok (.invokevirtual 176, 3) := by decide +kernel
theorem dX10_place_33 : decode cX10_place 33 = .ok (.ifCond .ne 5, 3) := by decide +kernel
theorem dX10_place_36 : decode cX10_place 36 = .ok (.iconst 0, 1) := by decide +kernel
theorem dX10_place_37 : decode cX10_place 37 = .ok (.ireturn, 1) := by decide +kernel
theorem dX10_place_38 : decode cX10_place 38 = .ok (.aload_n 0, 1) := by decide +kernel
theorem dX10_place_39 : decode cX10_place 39 = .ok (.getfield 39, 3) := by decide +kernel
theorem dX10_place_42 : decode cX10_place 42 = .ok (.aload_n 0, 1) := by decide +kernel
theorem dX10_place_43 : decode cX10_place 43 = .ok (.getfield 10, 3) := by decide +kernel
theorem dX10_place_46 : decode cX10_place 46 = .ok (.invokevirtual 229, 3) := by decide +kernel
theorem dX10_place_49 : decode cX10_place 49 = .ok (.aload_n 0, 1) := by decide +kernel
theorem dX10_place_50 : decode cX10_place 50 = .ok (.getfield 39, 3) := by decide +kernel
theorem dX10_place_53 : decode cX10_place 53 = .ok (.aload_n 0, 1) := by decide +kernel
theorem dX10_place_54 : decode cX10_place 54 = .ok (.getfield 10, 3) := by decide +kernel
theorem dX10_place_57 : decode cX10_place 57 = .ok (.getfield 81, 3) := by decide +kernel
theorem dX10_place_60 : decode cX10_place 60 = .ok (.invokevirtual 85, 3) := by decide +kernel
theorem dX10_place_63 : decode cX10_place 63 = .ok (.invokevirtual 238, 3) := by decide +kernel
theorem dX10_place_66 : decode cX10_place 66 = .ok (.istore_n 2, 1) := by decide +kernel
theorem dX10_place_67 : decode cX10_place 67 = .ok (.iload_n 1, 1) := by decide +kernel
theorem dX10_place_68 : decode cX10_place 68 = .ok (.iconst (-1), 1) := by decide +kernel
theorem dX10_place_69 : decode cX10_place 69 = .ok (.if_icmp .ne 14, 3) := by decide +kernel
theorem dX10_place_72 : decode cX10_place 72 = .ok (.aload_n 0, 1) := by decide +kernel
theorem dX10_place_73 : decode cX10_place 73 = .ok (.getfield 39, 3) := by decide +kernel
theorem dX10_place_76 : decode cX10_place 76 = .ok (.iload_n 2, 1) := by decide +kernel
theorem dX10_place_77 : decode cX10_place 77 = .ok (.invokevirtual 235, 3) := by decide +kernel
theorem dX10_place_80 : decode cX10_place 80 = .ok (.goto 8, 3) := by decide +kernel
theorem dX10_place_83 : decode cX10_place 83 = .ok (.iload_n 2, 1) := by decide +kernel
theorem dX10_place_84 : decode cX10_place 84 = .ok (.iload_n 1, 1) := by decide +kernel
theorem dX10_place_85 : decode cX10_place 85 = .ok (.ishr, 1) := by decide +kernel
theorem dX10_place_86 : decode cX10_place 86 = .ok (.iconst 1, 1) := by decide +kernel
theorem dX10_place_87 : decode cX10_place 87 = .ok (.iand, 1) := by decide +kernel
theorem dX10_place_88 : decode cX10_place 88 = .ok (.ireturn, 1) := by decide +kernel
theorem dX10_seen_0 : decode cX10_seen 0 = .ok (.aload_n 0, 1) := by decide +kernel
theorem dX10_seen_1 : decode cX10_seen 1 = .ok (.getfield 10, 3) := by decide +kernel
theorem dX10_seen_4 : decode cX10_seen 4 = .ok (.getfield 81, 3) := by decide +kernel
theorem dX10_seen_7 : decode cX10_seen 7 = .ok (.iload_n 1, 1) := by decide +kernel
theorem dX10_seen_8 : decode cX10_seen 8 = .ok (.invokevirtual 161, 3) := by decide +kernel
theorem dX10_seen_11 : decode cX10_seen 11 = .ok (.ifCond .eq 22, 3) := by decide +kernel
theorem dX10_seen_14 : decode cX10_seen 14 = .ok (.iload_n 2, 1) := by decide +kernel
theorem dX10_seen_15 : decode cX10_seen 15 = .ok (.iconst 0, 1) := by decide +kernel
theorem dX10_seen_16 : decode cX10_seen 16 = .ok (.bipush 99, 2) := by decide +kernel
theorem dX10_seen_18 : decode cX10_seen 18 = .ok (.invokestatic 73, 3) := by decide +kernel
theorem dX10_seen_21 : decode cX10_seen 21 = .ok (.ifCond .eq 12, 3) := by decide +kernel
theorem dX10_seen_24 : decode cX10_seen 24 = .ok (.iload_n 3, 1) := by decide +kernel
theorem dX10_seen_25 : decode cX10_seen 25 = .ok (.iconst 0, 1) := by decide +kernel
theorem dX10_seen_26 : decode cX10_seen 26 = .ok (.iconst 1, 1) := by decide +kernel
theorem dX10_seen_27 : decode cX10_seen 27 = .ok (.invokestatic 73, 3) := by decide +kernel
theorem dX10_seen_30 : decode cX10_seen 30 = .ok (.ifCond .ne 10, 3) := by decide +kernel
theorem dX10_seen_33 : decode cX10_seen 33 = .ok (.aload_n 0, 1) := by decide +kernel
theorem dX10_seen_34 : decode cX10_seen 34 = .ok (.bipush (-2), 2) := by decide +kernel
theorem dX10_seen_36 : decode cX10_seen 36 = .ok (.invokevirtual 77, 3) := by decide +kernel
theorem dX10_seen_39 : decode cX10_seen 39 = .ok (.ireturn, 1) := by decide +kernel
theorem dX10_seen_40 : decode cX10_seen 40 = .ok (.aload_n 0, 1) := by decide +kernel
theorem dX10_seen_41 : decode cX10_seen 41 = .ok (.getfield 10, 3) := by decide +kernel
theorem dX10_seen_44 : decode cX10_seen 44 = .ok (.getfield 241, 3) := by decide +kernel
theorem dX10_seen_47 : decode cX10_seen 47 = .ok (.invokevirtual 115, 3) := by decide +kernel
theorem dX10_seen_50 : decode cX10_seen 50 = .ok (.ifCond .eq 10, 3) := by decide +kernel
theorem dX10_seen_53 : decode cX10_seen 53 = .ok (.aload_n 0, 1) := by decide +kernel
theorem dX10_seen_54 : decode cX10_seen 54 = .ok (.invokevirtual 119, 3) := by decide +kernel
theorem dX10_seen_57 : decode cX10_seen 57 = .ok (.goto 17, 3) := by decide +kernel
theorem dX10_seen_60 : decode cX10_seen 60 = .ok (.aload_n 0, 1) := by decide +kernel
theorem dX10_seen_61 : decode cX10_seen 61 = .ok (.getfield 10, 3) := by decide +kernel
theorem dX10_seen_64 : decode cX10_seen 64 = .ok (.getfield 241, 3) := by decide +kernel
theorem dX10_seen_67 : decode cX10_seen 67 = .ok (.iload_n 1, 1) := by decide +kernel
theorem dX10_seen_68 : decode cX10_seen 68 = .ok (.iload_n 2, 1) := by decide +kernel
theorem dX10_seen_69 : decode cX10_seen 69 = .ok (.iload_n 3, 1) := by decide +kernel
theorem dX10_seen_70 : decode cX10_seen 70 = .ok (.iconst 0, 1) := by decide +kernel
theorem dX10_seen_71 : decode cX10_seen 71 = .ok (.invokevirtual 122, 3) := by decide +kernel
theorem dX10_seen_74 : decode cX10_seen 74 = .ok (.ireturn, 1) := by decide +kernel
theorem dX10_heavy_0 : decode cX10_heavy 0 = .ok (.iload_n 1, 1) := by decide +kernel
theorem dX10_heavy_1 : decode cX10_heavy 1 = .ok (.iconst 0, 1) := by decide +kernel
theorem dX10_heavy_2 : decode cX10_heavy 2 = .ok (.iconst 2, 1) := by decide +kernel
theorem dX10_heavy_3 : decode cX10_heavy 3 = .ok (.invokestatic 73, 3) := by decide +kernel
theorem dX10_heavy_6 : decode cX10_heavy 6 = .ok (.ifCond .ne 10, 3) := by decide +kernel
theorem dX10_heavy_9 : decode cX10_heavy 9 = .ok (.aload_n 0, 1) := by decide +kernel
theorem dX10_heavy_10 : decode cX10_heavy 10 = .ok (.bipush (-2), 2) := by decide +kernel
theorem dX10_heavy_12 : decode cX10_heavy 12 = .ok (.invokevirtual 77, 3) := by decide +kernel
theorem dX10_heavy_15 : decode cX10_heavy 15 = .ok (.ireturn, 1) := by decide +kernel
theorem dX10_heavy_16 : decode cX10_heavy 16 = .ok (.aload_n 0, 1) := by decide +kernel
theorem dX10_heavy_17 : decode cX10_heavy 17 = .ok (.getfield 53, 3) := by decide +kernel
theorem dX10_heavy_20 : decode cX10_heavy 20 = .ok (.aload_n 0, 1) := by decide +kernel
theorem dX10_heavy_21 : decode cX10_heavy 21 = .ok (.getfield 10, 3) := by decide +kernel
theorem dX10_heavy_24 : decode cX10_heavy 24 = .ok (.invokevirtual 244, 3) := by decide +kernel
theorem dX10_heavy_27 : decode cX10_heavy 27 = .ok (.istore_n 2, 1) := by decide +kernel
theorem dX10_heavy_28 : decode cX10_heavy 28 = .ok (.iload_n 1, 1) := by decide +kernel
theorem dX10_heavy_29 : decode cX10_heavy 29 = .ok (.ifCond .ne 8, 3) := by decide +kernel
theorem dX10_heavy_32 : decode cX10_heavy 32 = .ok (.iload_n 2, 1) := by decide +kernel
theorem dX10_heavy_33 : decode cX10_heavy 33 = .ok (.invokestatic 248, 3) := by decide +kernel
theorem dX10_heavy_36 : decode cX10_heavy 36 = .ok (.ireturn, 1) := by decide +kernel
theorem dX10_heavy_37 : decode cX10_heavy 37 = .ok (.iload_n 1, 1) := by decide +kernel
theorem dX10_heavy_38 : decode cX10_heavy 38 = .ok (.iconst 1, 1) := by decide +kernel
theorem dX10_heavy_39 : decode cX10_heavy 39 = .ok (.if_icmp .ne 10, 3) := by decide +kernel
theorem dX10_heavy_42 : decode cX10_heavy 42 = .ok (.iload_n 2, 1) := by decide +kernel
theorem dX10_heavy_43 : decode cX10_heavy 43 = .ok (.invokestatic 253, 3) := by decide +kernel
theorem dX10_heavy_46 : decode cX10_heavy 46 = .ok (.goto 7, 3) := by decide +kernel
theorem dX10_heavy_49 : decode cX10_heavy 49 = .ok (.iload_n 2, 1) := by decide +kernel
theorem dX10_heavy_50 : decode cX10_heavy 50 = .ok (.invokestatic 256, 3) := by decide +kernel
theorem dX10_heavy_53 : decode cX10_heavy 53 = .ok (.ireturn, 1) := by decide +kernel
theorem dX10_tell_0 : decode cX10_tell 0 = .ok (.aload_n 0, 1) := by decide +kernel
theorem dX10_tell_1 : decode cX10_tell 1 = .ok (.getfield 10, 3) := by decide +kernel
theorem dX10_tell_4 : decode cX10_tell 4 = .ok (.getfield 81, 3) := by decide +kernel
theorem dX10_tell_7 : decode cX10_tell 7 = .ok (.iload_n 1, 1) := by decide +kernel
theorem dX10_tell_8 : decode cX10_tell 8 = .ok (.invokevirtual 161, 3) := by decide +kernel
theorem dX10_tell_11 : decode cX10_tell 11 = .ok (.ifCond .ne 10, 3) := by decide +kernel
theorem dX10_tell_14 : decode cX10_tell 14 = .ok (.aload_n 0, 1) := by decide +kernel
theorem dX10_tell_15 : decode cX10_tell 15 = .ok (.bipush (-2), 2) := by decide +kernel
theorem dX10_tell_17 : decode cX10_tell 17 = .ok (.invokevirtual 77, 3) := by decide +kernel
theorem dX10_tell_20 : decode cX10_tell 20 = .ok (.ireturn, 1) := by decide +kernel
theorem dX10_tell_21 : decode cX10_tell 21 = .ok (.aload_n 0, 1) := by decide +kernel
theorem dX10_tell_22 : decode cX10_tell 22 = .ok (.getfield 53, 3) := by decide +kernel
theorem dX10_tell_25 : decode cX10_tell 25 = .ok (.aload_n 0, 1) := by decide +kernel
theorem dX10_tell_26 : decode cX10_tell 26 = .ok (.getfield 10, 3) := by decide +kernel
theorem dX10_tell_29 : decode cX10_tell 29 = .ok (.iload_n 1, 1) := by decide +kernel
theorem dX10_tell_30 : decode cX10_tell 30 = .ok (.aload_n 0, 1) := by decide +kernel
theorem dX10_tell_31 : decode cX10_tell 31 = .ok (.getfield 53, 3) := by decide +kernel
theorem dX10_tell_34 : decode cX10_tell 34 = .ok (.aload_n 0, 1) := by decide +kernel
theorem dX10_tell_35 : decode cX10_tell 35 = .ok (.getfield 10, 3) := by decide +kernel
theorem dX10_tell_38 : decode cX10_tell 38 = .ok (.invokevirtual 244, 3) := by decide +kernel
theorem dX10_tell_41 : decode cX10_tell 41 = .ok (.invokevirtual 259, 3) := by decide +kernel
theorem dX10_tell_44 : decode cX10_tell 44 = .ok (.ireturn, 1) := by decide +kernel
theorem dX10_note_0 : decode cX10_note 0 = .ok (.iload_n 1, 1) := by decide +kernel
theorem dX10_note_1 : decode cX10_note 1 = .ok (.iconst 1, 1) := by decide +kernel
theorem dX10_note_2 : decode cX10_note 2 = .ok (.bipush 9, 2) := by decide +kernel
theorem dX10_note_4 : decode cX10_note 4 = .ok (.invokestatic 73, 3) := by decide +kernel
theorem dX10_note_7 : decode cX10_note 7 = .ok (.ifCond .eq 34, 3) := by decide +kernel
theorem dX10_note_10 : decode cX10_note 10 = .ok (.iload_n 2, 1) := by decide +kernel
theorem dX10_note_11 : decode cX10_note 11 = .ok (.iconst 0, 1) := by decide +kernel
theorem dX10_note_12 : decode cX10_note 12 = .ok (.bipush 30, 2) := by decide +kernel
theorem dX10_note_14 : decode cX10_note 14 = .ok (.invokestatic 73, 3) := by decide +kernel
theorem dX10_note_17 : decode cX10_note 17 = .ok (.ifCond .eq 24, 3) := by decide +kernel
theorem dX10_note_20 : decode cX10_note 20 = .ok (.iload_n 3, 1) := by decide +kernel
theorem dX10_note_21 : decode cX10_note 21 = .ok (.bipush (-4), 2) := by decide +kernel
theorem dX10_note_23 : decode cX10_note 23 = .ok (.iconst 4, 1) := by decide +kernel
theorem dX10_note_24 : decode cX10_note 24 = .ok (.invokestatic 73, 3) := by decide +kernel
theorem dX10_note_27 : decode cX10_note 27 = .ok (.ifCond .eq 14, 3) := by decide +kernel
theorem dX10_note_30 : decode cX10_note 30 = .ok (.iload 4, 2) := by decide +kernel
theorem dX10_note_32 : decode cX10_note 32 = .ok (.iconst 0, 1) := by decide +kernel
theorem dX10_note_33 : decode cX10_note 33 = .ok (.bipush 99, 2) := by decide +kernel
theorem dX10_note_35 : decode cX10_note 35 = .ok (.invokestatic 73, 3) := by decide +kernel
theorem dX10_note_38 : decode cX10_note 38 = .ok (.ifCond .ne 10, 3) := by decide +kernel
theorem dX10_note_41 : decode cX10_note 41 = .ok (.aload_n 0, 1) := by decide +kernel
theorem dX10_note_42 : decode cX10_note 42 = .ok (.bipush (-2), 2) := by decide +kernel
theorem dX10_note_44 : decode cX10_note 44 = .ok (.invokevirtual 77, 3) := by decide +kernel
theorem dX10_note_47 : decode cX10_note 47 = .ok (.ireturn, 1) := by decide +kernel
theorem dX10_note_48 : decode cX10_note 48 = .ok (.aload_n 0, 1) := by decide +kernel
theorem dX10_note_49 : decode cX10_note 49 = .ok (.getfield 10, 3) := by decide +kernel
theorem dX10_note_52 : decode cX10_note 52 = .ok (.getfield 263, 3) := by decide +kernel
theorem dX10_note_55 : decode cX10_note 55 = .ok (.invokevirtual 115, 3) := by decide +kernel
theorem dX10_note_58 : decode cX10_note 58 = .ok (.ifCond .eq 10, 3) := by decide +kernel
theorem dX10_note_61 : decode cX10_note 61 = .ok (.aload_n 0, 1) := by decide +kernel
theorem dX10_note_62 : decode cX10_note 62 = .ok (.invokevirtual 119, 3) := by decide +kernel
theorem dX10_note_65 : decode cX10_note 65 = .ok (.goto 18, 3) := by decide +kernel
theorem dX10_note_68 : decode cX10_note 68 = .ok (.aload_n 0, 1) := by decide +kernel
theorem dX10_note_69 : decode cX10_note 69 = .ok (.getfield 10, 3) := by decide +kernel
theorem dX10_note_72 : decode cX10_note 72 = .ok (.getfield 263, 3) := by decide +kernel
theorem dX10_note_75 : decode cX10_note 75 = .ok (.iload_n 1, 1) := by decide +kernel
theorem dX10_note_76 : decode cX10_note 76 = .ok (.iload_n 2, 1) := by decide +kernel
theorem dX10_note_77 : decode cX10_note 77 = .ok (.iload_n 3, 1) := by decide +kernel
theorem dX10_note_78 : decode cX10_note 78 = .ok (.iload 4, 2) := by decide +kernel
theorem dX10_note_80 : decode cX10_note 80 = .ok (.invokevirtual 122, 3) := by decide +kernel
theorem dX10_note_83 : decode cX10_note 83 = .ok (.ireturn, 1) := by decide +kernel
theorem dX10_mark_0 : decode cX10_mark 0 = .ok (.aload_n 0, 1) := by decide +kernel
theorem dX10_mark_1 : decode cX10_mark 1 = .ok (.getfield 10, 3) := by decide +kernel
theorem dX10_mark_4 : decode cX10_mark 4 = .ok (.getfield 81, 3) := by decide +kernel
theorem dX10_mark_7 : decode cX10_mark 7 = .ok (.iload_n 1, 1) := by decide +kernel
theorem dX10_mark_8 : decode cX10_mark 8 = .ok (.invokevirtual 161, 3) := by decide +kernel
theorem dX10_mark_11 : decode cX10_mark 11 = .ok (.ifCond .eq 34, 3) := by decide +kernel
theorem dX10_mark_14 : decode cX10_mark 14 = .ok (.iload_n 2, 1) := by decide +kernel
theorem dX10_mark_15 : decode cX10_mark 15 = .ok (.iconst 1, 1) := by decide +kernel
theorem dX10_mark_16 : decode cX10_mark 16 = .ok (.bipush 9, 2) := by decide +kernel
theorem dX10_mark_18 : decode cX10_mark 18 = .ok (.invokestatic 73, 3) := by decide +kernel
theorem dX10_mark_21 : decode cX10_mark 21 = .ok (.ifCond .eq 24, 3) := by decide +kernel
theorem dX10_mark_24 : decode cX10_mark 24 = .ok (.iload_n 3, 1) := by decide +kernel
theorem dX10_mark_25 : decode cX10_mark 25 = .ok (.iconst 0, 1) := by decide +kernel
theorem dX10_mark_26 : decode cX10_mark 26 = .ok (.bipush 23, 2) := by decide +kernel
theorem dX10_mark_28 : decode cX10_mark 28 = .ok (.invokestatic 73, 3) := by decide +kernel
theorem dX10_mark_31 : decode cX10_mark 31 = .ok (.ifCond .eq 14, 3) := by decide +kernel
theorem dX10_mark_34 : decode cX10_mark 34 = .ok (.iload 4, 2) := by decide +kernel
theorem dX10_mark_36 : decode cX10_mark 36 = .ok (.iconst 0, 1) := by decide +kernel
theorem dX10_mark_37 : decode cX10_mark 37 = .ok (.bipush 30, 2) := by decide +kernel
theorem dX10_mark_39 : decode cX10_mark 39 = .ok (.invokestatic 73, 3) := by decide +kernel
theorem dX10_mark_42 : decode cX10_mark 42 = .ok (.ifCond .ne 10, 3) := by decide +kernel
theorem dX10_mark_45 : decode cX10_mark 45 = .ok (.aload_n 0, 1) := by decide +kernel
theorem dX10_mark_46 : decode cX10_mark 46 = .ok (.bipush (-2), 2) := by decide +kernel
theorem dX10_mark_48 : decode cX10_mark 48 = .ok (.invokevirtual 77, 3) := by decide +kernel
theorem dX10_mark_51 : decode cX10_mark 51 = .ok (.ireturn, 1) := by decide +kernel
theorem dX10_mark_52 : decode cX10_mark 52 = .ok (.aload_n 0, 1) := by decide +kernel
theorem dX10_mark_53 : decode cX10_mark 53 = .ok (.getfield 10, 3) := by decide +kernel
theorem dX10_mark_56 : decode cX10_mark 56 = .ok (.getfield 266, 3) := by decide +kernel
theorem dX10_mark_59 : decode cX10_mark 59 = .ok (.invokevirtual 115, 3) := by decide +kernel
theorem dX10_mark_62 : decode cX10_mark 62 = .ok (.ifCond .eq 10, 3) := by decide +kernel
theorem dX10_mark_65 : decode cX10_mark 65 = .ok (.aload_n 0, 1) := by decide +kernel
theorem dX10_mark_66 : decode cX10_mark 66 = .ok (.invokevirtual 119, 3) := by decide +kernel
theorem dX10_mark_69 : decode cX10_mark 69 = .ok (.goto 18, 3) := by decide +kernel
theorem dX10_mark_72 : decode cX10_mark 72 = .ok (.aload_n 0, 1) := by decide +kernel
theorem dX10_mark_73 : decode cX10_mark 73 = .ok (.getfield 10, 3) := by decide +kernel
theorem dX10_mark_76 : decode cX10_mark 76 = .ok (.getfield 266, 3) := by decide +kernel
theorem dX10_mark_79 : decode cX10_mark 79 = .ok (.iload_n 1, 1) := by decide +kernel
theorem dX10_mark_80 : decode cX10_mark 80 = .ok (.iload_n 2, 1) := by decide +kernel
theorem dX10_mark_81 : decode cX10_mark 81 = .ok (.iload_n 3, 1) := by decide +kernel
theorem dX10_mark_82 : decode cX10_mark 82 = .ok (.iload 4, 2) := by decide +kernel
theorem dX10_mark_84 : decode cX10_mark 84 = .ok (.invokevirtual 122, 3) := by decide +kernel
theorem dX10_mark_87 : decode cX10_mark 87 = .ok (.ireturn, 1) := by decide +kernel
theorem dX10_forget_0 : decode cX10_forget 0 = .ok (.iload_n 1, 1) := by decide +kernel
theorem dX10_forget_1 : decode cX10_forget 1 = .ok (.tableswitch 60 0 2 #[27, 38, 49], 27) := by decide +kernel
theorem dX10_forget_28 : decode cX10_forget 28 = .ok (.aload_n 0, 1) := by decide +kernel
theorem dX10_forget_29 : decode cX10_forget 29 = .ok (.getfield 10, 3) := by decide +kernel
theorem dX10_forget_32 : decode cX10_forget 32 = .ok (.getfield 241, 3) := by decide +kernel
theorem dX10_forget_35 : decode cX10_forget 35 = .ok (.invokevirtual 269, 3) := by decide +kernel
theorem dX10_forget_38 : decode cX10_forget 38 = .ok (.ireturn, 1) := by decide +kernel
theorem dX10_forget_39 : decode cX10_forget 39 = .ok (.aload_n 0, 1) := by decide +kernel
theorem dX10_forget_40 : decode cX10_forget 40 = .ok (.getfield 10, 3) := by decide +kernel
theorem dX10_forget_43 : decode cX10_forget 43 = .ok (.getfield 263, 3) := by decide +kernel
theorem dX10_forget_46 : decode cX10_forget 46 = .ok (.invokevirtual 269, 3) := by decide +kernel
theorem dX10_forget_49 : decode cX10_forget 49 = .ok (.ireturn, 1) := by decide +kernel
theorem dX10_forget_50 : decode cX10_forget 50 = .ok (.aload_n 0, 1) := by decide +kernel
theorem dX10_forget_51 : decode cX10_forget 51 = .ok (.getfield 10, 3) := by decide +kernel
theorem dX10_forget_54 : decode cX10_forget 54 = .ok (.getfield 266, 3) := by decide +kernel
theorem dX10_forget_57 : decode cX10_forget 57 = .ok (.invokevirtual 269, 3) := by decide +kernel
theorem dX10_forget_60 : decode cX10_forget 60 = .ok (.ireturn, 1) := by decide +kernel
theorem dX10_forget_61 : decode cX10_forget 61 = .ok (.aload_n 0, 1) := by decide +kernel
theorem dX10_forget_62 : decode cX10_forget 62 = .ok (.bipush (-2), 2) := by decide +kernel
theorem dX10_forget_64 : decode cX10_forget 64 = .ok (.invokevirtual 77, 3) := by decide +kernel
theorem dX10_forget_67 : decode cX10_forget 67 = .ok (.ireturn, 1) := by decide +kernel
theorem dX10_is_0 : decode cX10_is 0 = .ok (.aload_n 0, 1) := by decide +kernel
theorem dX10_is_1 : decode cX10_is 1 = .ok (.getfield 53, 3) := by decide +kernel
theorem dX10_is_4 : decode cX10_is 4 = .ok (.aload_n 0, 1) := by decide +kernel
theorem dX10_is_5 : decode cX10_is 5 = .ok (.getfield 10, 3) := by decide +kernel
theorem dX10_is_8 : decode cX10_is 8 = .ok (.invokevirtual 270, 3) := by decide +kernel
theorem dX10_is_11 : decode cX10_is 11 = .ok (.ireturn, 1) := by decide +kernel
theorem dX10_look_0 : decode cX10_look 0 = .ok (.aload_n 0, 1) := by decide +kernel
theorem dX10_look_1 : decode cX10_look 1 = .ok (.getfield 53, 3) := by decide +kernel
theorem dX10_look_4 : decode cX10_look 4 = .ok (.aload_n 0, 1) := by decide +kernel
theorem dX10_look_5 : decode cX10_look 5 = .ok (.getfield 10, 3) := by decide +kernel
theorem dX10_look_8 : decode cX10_look 8 = .ok (.invokevirtual 273, 3) := by decide +kernel
theorem dX10_look_11 : decode cX10_look 11 = .ok (.ireturn, 1) := by decide +kernel
theorem dX10_kinds_0 : decode cX10_kinds 0 = .ok (.aload_n 0, 1) := by decide +kernel
theorem dX10_kinds_1 : decode cX10_kinds 1 = .ok (.getfield 10, 3) := by decide +kernel
theorem dX10_kinds_4 : decode cX10_kinds 4 = .ok (.getfield 81, 3) := by decide +kernel
theorem dX10_kinds_7 : decode cX10_kinds 7 = .ok (.iload_n 1, 1) := by decide +kernel
theorem dX10_kinds_8 : decode cX10_kinds 8 = .ok (.invokevirtual 161, 3) := by decide +kernel
theorem dX10_kinds_11 : decode cX10_kinds 11 = .ok (.ifCond .ne 10, 3) := by decide +kernel
theorem dX10_kinds_14 : decode cX10_kinds 14 = .ok (.aload_n 0, 1) := by decide +kernel
theorem dX10_kinds_15 : decode cX10_kinds 15 = .ok (.bipush (-2), 2) := by decide +kernel
theorem dX10_kinds_17 : decode cX10_kinds 17 = .ok (.invokevirtual 77, 3) := by decide +kernel
theorem dX10_kinds_20 : decode cX10_kinds 20 = .ok (.ireturn, 1) := by decide +kernel
theorem dX10_kinds_21 : decode cX10_kinds 21 = .ok (.aload_n 0, 1) := by decide +kernel
theorem dX10_kinds_22 : decode cX10_kinds 22 = .ok (.getfield 53, 3) := by decide +kernel
theorem dX10_kinds_25 : decode cX10_kinds 25 = .ok (.aload_n 0, 1) := by decide +kernel
theorem dX10_kinds_26 : decode cX10_kinds 26 = .ok (.getfield 10, 3) := by decide +kernel
theorem dX10_kinds_29 : decode cX10_kinds 29 = .ok (.iload_n 1, 1) := by decide +kernel
theorem dX10_kinds_30 : decode cX10_kinds 30 = .ok (.invokevirtual 276, 3) := by decide +kernel
theorem dX10_kinds_33 : decode cX10_kinds 33 = .ok (.ireturn, 1) := by decide +kernel
theorem dX10_ask_0 : decode cX10_ask 0 = .ok (.aload_n 0, 1) := by decide +kernel
theorem dX10_ask_1 : decode cX10_ask 1 = .ok (.getfield 10, 3) := by decide +kernel
theorem dX10_ask_4 : decode cX10_ask 4 = .ok (.getfield 81, 3) := by decide +kernel
theorem dX10_ask_7 : decode cX10_ask 7 = .ok (.iload_n 1, 1) := by decide +kernel
theorem dX10_ask_8 : decode cX10_ask 8 = .ok (.invokevirtual 161, 3) := by decide +kernel
theorem dX10_ask_11 : decode cX10_ask 11 = .ok (.ifCond .ne 10, 3) := by decide +kernel
theorem dX10_ask_14 : decode cX10_ask 14 = .ok (.aload_n 0, 1) := by decide +kernel
theorem dX10_ask_15 : decode cX10_ask 15 = .ok (.bipush (-2), 2) := by decide +kernel
theorem dX10_ask_17 : decode cX10_ask 17 = .ok (.invokevirtual 77, 3) := by decide +kernel
theorem dX10_ask_20 : decode cX10_ask 20 = .ok (.ireturn, 1) := by decide +kernel
theorem dX10_ask_21 : decode cX10_ask 21 = .ok (.aload_n 0, 1) := by decide +kernel
theorem dX10_ask_22 : decode cX10_ask 22 = .ok (.getfield 53, 3) := by decide +kernel
theorem dX10_ask_25 : decode cX10_ask 25 = .ok (.aload_n 0, 1) := by decide +kernel
theorem dX10_ask_26 : decode cX10_ask 26 = .ok (.getfield 10, 3) := by decide +kernel
theorem dX10_ask_29 : decode cX10_ask 29 = .ok (.iload_n 1, 1) := by decide +kernel
theorem dX10_ask_30 : decode cX10_ask 30 = .ok (.invokevirtual 279, 3) := by decide +kernel
theorem dX10_ask_33 : decode cX10_ask 33 = .ok (.ireturn, 1) := by decide +kernel
theorem dX10_yours_0 : decode cX10_yours 0 = .ok (.aload_n 0, 1) := by decide +kernel
theorem dX10_yours_1 : decode cX10_yours 1 = .ok (.getfield 10, 3) := by decide +kernel
theorem dX10_yours_4 : decode cX10_yours 4 = .ok (.getfield 81, 3) := by decide +kernel
theorem dX10_yours_7 : decode cX10_yours 7 = .ok (.iload_n 1, 1) := by decide +kernel
theorem dX10_yours_8 : decode cX10_yours 8 = .ok (.invokevirtual 161, 3) := by decide +kernel
theorem dX10_yours_11 : decode cX10_yours 11 = .ok (.ifCond .eq 22, 3) := by decide +kernel
theorem dX10_yours_14 : decode cX10_yours 14 = .ok (.aload_n 0, 1) := by decide +kernel
theorem dX10_yours_15 : decode cX10_yours 15 = .ok (.getfield 10, 3) := by decide +kernel
theorem dX10_yours_18 : decode cX10_yours 18 = .ok (.getfield 81, 3) := by decide +kernel
theorem dX10_yours_21 : decode cX10_yours 21 = .ok (.iload_n 2, 1) := by decide +kernel
theorem dX10_yours_22 : decode cX10_yours 22 = .ok (.invokevirtual 161, 3) := by decide +kernel
theorem dX10_yours_25 : decode cX10_yours 25 = .ok (.ifCond .eq 8, 3) := by decide +kernel
theorem dX10_yours_28 : decode cX10_yours 28 = .ok (.iload_n 1, 1) := by decide +kernel
theorem dX10_yours_29 : decode cX10_yours 29 = .ok (.iload_n 2, 1) := by decide +kernel
theorem dX10_yours_30 : decode cX10_yours 30 = .ok (.if_icmp .ne 10, 3) := by decide +kernel
theorem dX10_yours_33 : decode cX10_yours 33 = .ok (.aload_n 0, 1) := by decide +kernel
theorem dX10_yours_34 : decode cX10_yours 34 = .ok (.bipush (-2), 2) := by decide +kernel
theorem dX10_yours_36 : decode cX10_yours 36 = .ok (.invokevirtual 77, 3) := by decide +kernel
theorem dX10_yours_39 : decode cX10_yours 39 = .ok (.ireturn, 1) := by decide +kernel
theorem dX10_yours_40 : decode cX10_yours 40 = .ok (.aload_n 0, 1) := by decide +kernel
theorem dX10_yours_41 : decode cX10_yours 41 = .ok (.getfield 10, 3) := by decide +kernel
theorem dX10_yours_44 : decode cX10_yours 44 = .ok (.invokevirtual 176, 3) := by decide +kernel
theorem dX10_yours_47 : decode cX10_yours 47 = .ok (.ifCond .eq 39, 3) := by decide +kernel
theorem dX10_yours_50 : decode cX10_yours 50 = .ok (.aload_n 0, 1) := by decide +kernel
theorem dX10_yours_51 : decode cX10_yours 51 = .ok (.getfield 10, 3) := by decide +kernel
theorem dX10_yours_54 : decode cX10_yours 54 = .ok (.iload_n 1, 1) := by decide +kernel
theorem dX10_yours_55 : decode cX10_yours 55 = .ok (.aload_n 0, 1) := by decide +kernel
theorem dX10_yours_56 : decode cX10_yours 56 = .ok (.getfield 10, 3) := by decide +kernel
theorem dX10_yours_59 : decode cX10_yours 59 = .ok (.invokevirtual 200, 3) := by decide +kernel
theorem dX10_yours_62 : decode cX10_yours 62 = .ok (.invokevirtual 282, 3) := by decide +kernel
theorem dX10_yours_65 : decode cX10_yours 65 = .ok (.ifCond .eq 21, 3) := by decide +kernel
theorem dX10_yours_68 : decode cX10_yours 68 = .ok (.aload_n 0, 1) := by decide +kernel
theorem dX10_yours_69 : decode cX10_yours 69 = .ok (.getfield 10, 3) := by decide +kernel
theorem dX10_yours_72 : decode cX10_yours 72 = .ok (.iload_n 2, 1) := by decide +kernel
theorem dX10_yours_73 : decode cX10_yours 73 = .ok (.aload_n 0, 1) := by decide +kernel
theorem dX10_yours_74 : decode cX10_yours 74 = .ok (.getfield 10, 3) := by decide +kernel
theorem dX10_yours_77 : decode cX10_yours 77 = .ok (.invokevirtual 200, 3) := by decide +kernel
theorem dX10_yours_80 : decode cX10_yours 80 = .ok (.invokevirtual 282, 3) := by decide +kernel
theorem dX10_yours_83 : decode cX10_yours 83 = .ok (.ifCond .ne 8, 3) := by decide +kernel
theorem dX10_yours_86 : decode cX10_yours 86 = .ok (.aload_n 0, 1) := by decide +kernel
theorem dX10_yours_87 : decode cX10_yours 87 = .ok (.invokevirtual 167, 3) := by decide +kernel
theorem dX10_yours_90 : decode cX10_yours 90 = .ok (.ireturn, 1) := by decide +kernel
theorem dX10_yours_91 : decode cX10_yours 91 = .ok (.aload_n 0, 1) := by decide +kernel
theorem dX10_yours_92 : decode cX10_yours 92 = .ok (.getfield 10, 3) := by decide +kernel
theorem dX10_yours_95 : decode cX10_yours 95 = .ok (.iload_n 1, 1) := by decide +kernel
theorem dX10_yours_96 : decode cX10_yours 96 = .ok (.aload_n 0, 1) := by decide +kernel
theorem dX10_yours_97 : decode cX10_yours 97 = .ok (.getfield 10, 3) := by decide +kernel
theorem dX10_yours_100 : decode cX10_yours 100 = .ok (.invokevirtual 192, 3) := by decide +kernel
theorem dX10_yours_103 : decode cX10_yours 103 = .ok (.invokevirtual 286, 3) := by decide +kernel
theorem dX10_yours_106 : decode cX10_yours 106 = .ok (.istore_n 3, 1) := by decide +kernel
theorem dX10_yours_107 : decode cX10_yours 107 = .ok (.aload_n 0, 1) := by decide +kernel
theorem dX10_yours_108 : decode cX10_yours 108 = .ok (.getfield 10, 3) := by decide +kernel
theorem dX10_yours_111 : decode cX10_yours 111 = .ok (.iload_n 2, 1) := by decide +kernel
theorem dX10_yours_112 : decode cX10_yours 112 = .ok (.aload_n 0, 1) := by decide +kernel
theorem dX10_yours_113 : decode cX10_yours 113 = .ok (.getfield 10, 3) := by decide +kernel
theorem dX10_yours_116 : decode cX10_yours 116 = .ok (.invokevirtual 192, 3) := by decide +kernel
theorem dX10_yours_119 : decode cX10_yours 119 = .ok (.invokevirtual 286, 3) := by decide +kernel
theorem dX10_yours_122 : decode cX10_yours 122 = .ok (.istore 4, 2) := by decide +kernel
theorem dX10_yours_124 : decode cX10_yours 124 = .ok (.iconst 0, 1) := by decide +kernel
theorem dX10_yours_125 : decode cX10_yours 125 = .ok (.istore 5, 2) := by decide +kernel
theorem dX10_yours_127 : decode cX10_yours 127 = .ok (.iconst 0, 1) := by decide +kernel
theorem dX10_yours_128 : decode cX10_yours 128 = .ok (.istore 6, 2) := by decide +kernel
theorem dX10_yours_130 : decode cX10_yours 130 = .ok (.iload 6, 2) := by decide +kernel
theorem dX10_yours_132 : decode cX10_yours 132 = .ok (.iconst 4, 1) := by decide +kernel
theorem dX10_yours_133 : decode cX10_yours 133 = .ok (.if_icmp .ge 35, 3) := by decide +kernel
theorem dX10_yours_136 : decode cX10_yours 136 = .ok (.iload 6, 2) := by decide +kernel
theorem dX10_yours_138 : decode cX10_yours 138 = .ok (.iconst 1, 1) := by decide +kernel
theorem dX10_yours_139 : decode cX10_yours 139 = .ok (.iand, 1) := by decide +kernel
theorem dX10_yours_140 : decode cX10_yours 140 = .ok (.iload 6, 2) := by decide +kernel
theorem dX10_yours_142 : decode cX10_yours 142 = .ok (.iconst 1, 1) := by decide +kernel
theorem dX10_yours_143 : decode cX10_yours 143 = .ok (.ishr, 1) := by decide +kernel
theorem dX10_yours_144 : decode cX10_yours 144 = .ok (.iload_n 3, 1) := by decide +kernel
theorem dX10_yours_145 : decode cX10_yours 145 = .ok (.iload 4, 2) := by decide +kernel
theorem dX10_yours_147 : decode cX10_yours 147 = .ok (.invokestatic 289, 3) := by decide +kernel
theorem dX10_yours_150 : decode cX10_yours 150 = .ok (.ifCond .eq 12, 3) := by decide +kernel
theorem dX10_yours_153 : decode cX10_yours 153 = .ok (.iload 5, 2) := by decide +kernel
theorem dX10_yours_155 : decode cX10_yours 155 = .ok (.iconst 1, 1) := by decide +kernel
theorem dX10_yours_156 : decode cX10_yours 156 = .ok (.iload 6, 2) := by decide +kernel
theorem dX10_yours_158 : decode cX10_yours 158 = .ok (.ishl, 1) := by decide +kernel
theorem dX10_yours_159 : decode cX10_yours 159 = .ok (.ior, 1) := by decide +kernel
theorem dX10_yours_160 : decode cX10_yours 160 = .ok (.istore 5, 2) := by decide +kernel
theorem dX10_yours_162 : decode cX10_yours 162 = .ok (.iinc 6 1, 3) := by decide +kernel
theorem dX10_yours_165 : decode cX10_yours 165 = .ok (.goto (-35), 3) := by decide +kernel
theorem dX10_yours_168 : decode cX10_yours 168 = .ok (.iload 5, 2) := by decide +kernel
theorem dX10_yours_170 : decode cX10_yours 170 = .ok (.ireturn, 1) := by decide +kernel
theorem dX10_gusts_0 : decode cX10_gusts 0 = .ok (.aload_n 0, 1) := by decide +kernel
theorem dX10_gusts_1 : decode cX10_gusts 1 = .ok (.getfield 10, 3) := by decide +kernel
theorem dX10_gusts_4 : decode cX10_gusts 4 = .ok (.getfield 81, 3) := by decide +kernel
theorem dX10_gusts_7 : decode cX10_gusts 7 = .ok (.iload_n 1, 1) := by decide +kernel
theorem dX10_gusts_8 : decode cX10_gusts 8 = .ok (.invokevirtual 161, 3) := by decide +kernel
theorem dX10_gusts_11 : decode cX10_gusts 11 = .ok (.ifCond .eq 13, 3) := by decide +kernel
theorem dX10_gusts_14 : decode cX10_gusts 14 = .ok (.iload_n 2, 1) := by decide +kernel
theorem dX10_gusts_15 : decode cX10_gusts 15 = .ok (.iconst 0, 1) := by decide +kernel
theorem dX10_gusts_16 : decode cX10_gusts 16 = .ok (.bipush 10, 2) := by decide +kernel
theorem dX10_gusts_18 : decode cX10_gusts 18 = .ok (.invokestatic 73, 3) := by decide +kernel
theorem dX10_gusts_21 : decode cX10_gusts 21 = .ok (.ifCond .ne 10, 3) := by decide +kernel
theorem dX10_gusts_24 : decode cX10_gusts 24 = .ok (.aload_n 0, 1) := by decide +kernel
theorem dX10_gusts_25 : decode cX10_gusts 25 = .ok (.bipush (-2), 2) := by decide +kernel
theorem dX10_gusts_27 : decode cX10_gusts 27 = .ok (.invokevirtual 77, 3) := by decide +kernel
theorem dX10_gusts_30 : decode cX10_gusts 30 = .ok (.ireturn, 1) := by decide +kernel
theorem dX10_gusts_31 : decode cX10_gusts 31 = .ok (.aload_n 0, 1) := by decide +kernel
theorem dX10_gusts_32 : decode cX10_gusts 32 = .ok (.getfield 10, 3) := by decide +kernel
theorem dX10_gusts_35 : decode cX10_gusts 35 = .ok (.aload_n 0, 1) := by decide +kernel
theorem dX10_gusts_36 : decode cX10_gusts 36 = .ok (.getfield 10, 3) := by decide +kernel
theorem dX10_gusts_39 : decode cX10_gusts 39 = .ok (.invokevirtual 192, 3) := by decide +kernel
theorem dX10_gusts_42 : decode cX10_gusts 42 = .ok (.invokevirtual 295, 3) := by decide +kernel
theorem dX10_gusts_45 : decode cX10_gusts 45 = .ok (.istore_n 3, 1) := by decide +kernel
theorem dX10_gusts_46 : decode cX10_gusts 46 = .ok (.aload_n 0, 1) := by decide +kernel
theorem dX10_gusts_47 : decode cX10_gusts 47 = .ok (.getfield 10, 3) := by decide +kernel
theorem dX10_gusts_50 : decode cX10_gusts 50 = .ok (.iload_n 1, 1) := by decide +kernel
theorem dX10_gusts_51 : decode cX10_gusts 51 = .ok (.iload_n 3, 1) := by decide +kernel
theorem dX10_gusts_52 : decode cX10_gusts 52 = .ok (.invokevirtual 298, 3) := by decide +kernel
theorem dX10_gusts_55 : decode cX10_gusts 55 = .ok (.ifCond .eq 10, 3) := by decide +kernel
theorem dX10_gusts_58 : decode cX10_gusts 58 = .ok (.bipush 10, 2) := by decide +kernel
theorem dX10_gusts_60 : decode cX10_gusts 60 = .ok (.iload_n 2, 1) := by decide +kernel
theorem dX10_gusts_61 : decode cX10_gusts 61 = .ok (.isub, 1) := by decide +kernel
theorem dX10_gusts_62 : decode cX10_gusts 62 = .ok (.goto 4, 3) := by decide +kernel
theorem dX10_gusts_65 : decode cX10_gusts 65 = .ok (.iconst 0, 1) := by decide +kernel
theorem dX10_gusts_66 : decode cX10_gusts 66 = .ok (.istore 4, 2) := by decide +kernel
theorem dX10_gusts_68 : decode cX10_gusts 68 = .ok (.aload_n 0, 1) := by decide +kernel
theorem dX10_gusts_69 : decode cX10_gusts 69 = .ok (.getfield 10, 3) := by decide +kernel
theorem dX10_gusts_72 : decode cX10_gusts 72 = .ok (.iload_n 1, 1) := by decide +kernel
theorem dX10_gusts_73 : decode cX10_gusts 73 = .ok (.bipush (-4), 2) := by decide +kernel
theorem dX10_gusts_75 : decode cX10_gusts 75 = .ok (.iload_n 3, 1) := by decide +kernel
theorem dX10_gusts_76 : decode cX10_gusts 76 = .ok (.iconst 4, 1) := by decide +kernel
theorem dX10_gusts_77 : decode cX10_gusts 77 = .ok (.isub, 1) := by decide +kernel
theorem dX10_gusts_78 : decode cX10_gusts 78 = .ok (.invokestatic 301, 3) := by decide +kernel
theorem dX10_gusts_81 : decode cX10_gusts 81 = .ok (.invokevirtual 298, 3) := by decide +kernel
theorem dX10_gusts_84 : decode cX10_gusts 84 = .ok (.ifCond .eq 7, 3) := by decide +kernel
theorem dX10_gusts_87 : decode cX10_gusts 87 = .ok (.iload_n 2, 1) := by decide +kernel
theorem dX10_gusts_88 : decode cX10_gusts 88 = .ok (.goto 4, 3) := by decide +kernel
theorem dX10_gusts_91 : decode cX10_gusts 91 = .ok (.iconst 0, 1) := by decide +kernel
theorem dX10_gusts_92 : decode cX10_gusts 92 = .ok (.istore 5, 2) := by decide +kernel
theorem dX10_gusts_94 : decode cX10_gusts 94 = .ok (.aload_n 0, 1) := by decide +kernel
theorem dX10_gusts_95 : decode cX10_gusts 95 = .ok (.iload 4, 2) := by decide +kernel
theorem dX10_gusts_97 : decode cX10_gusts 97 = .ok (.iload 5, 2) := by decide +kernel
theorem dX10_gusts_99 : decode cX10_gusts 99 = .ok (.iadd, 1) := by decide +kernel
theorem dX10_gusts_100 : decode cX10_gusts 100 = .ok (.invokevirtual 306, 3) := by decide +kernel
theorem dX10_gusts_103 : decode cX10_gusts 103 = .ok (.iconst 1, 1) := by decide +kernel
theorem dX10_gusts_104 : decode cX10_gusts 104 = .ok (.ireturn, 1) := by decide +kernel
theorem dX10_centuries_0 : decode cX10_centuries 0 = .ok (.iload_n 1, 1) := by decide +kernel
theorem dX10_centuries_1 : decode cX10_centuries 1 = .ok (.iconst 0, 1) := by decide +kernel
theorem dX10_centuries_2 : decode cX10_centuries 2 = .ok (.ldc_w 309, 3) := by decide +kernel
theorem dX10_centuries_5 : decode cX10_centuries 5 = .ok (.invokestatic 73, 3) := by decide +kernel
theorem dX10_centuries_8 : decode cX10_centuries 8 = .ok (.ifCond .eq 13, 3) := by decide +kernel
theorem dX10_centuries_11 : decode cX10_centuries 11 = .ok (.iload_n 2, 1) := by decide +kernel
theorem dX10_centuries_12 : decode cX10_centuries 12 = .ok (.iconst 0, 1) := by decide +kernel
theorem dX10_centuries_13 : decode cX10_centuries 13 = .ok (.bipush 60, 2) := by decide +kernel
theorem dX10_centuries_15 : decode cX10_centuries 15 = .ok (.invokestatic 73, 3) := by decide +kernel
theorem dX10_centuries_18 : decode cX10_centuries 18 = .ok (.ifCond .ne 10, 3) := by decide +kernel
theorem dX10_centuries_21 : decode cX10_centuries 21 = .ok (.aload_n 0, 1) := by decide +kernel
theorem dX10_centuries_22 : decode cX10_centuries 22 = .ok (.bipush (-2), 2) := by decide +kernel
theorem dX10_centuries_24 : decode cX10_centuries 24 = .ok (.invokevirtual 77, 3) := by decide +kernel
theorem dX10_centuries_27 : decode cX10_centuries 27 = .ok (.ireturn, 1) := by decide +kernel
theorem dX10_centuries_28 : decode cX10_centuries 28 = .ok (.aload_n 0, 1) := by decide +kernel
theorem dX10_centuries_29 : decode cX10_centuries 29 = .ok (.iload_n 1, 1) := by decide +kernel
theorem dX10_centuries_30 : decode cX10_centuries 30 = .ok (.iload_n 2, 1) := by decide +kernel
theorem dX10_centuries_31 : decode cX10_centuries 31 = .ok (.invokevirtual 310, 3) := by decide +kernel
theorem dX10_centuries_34 : decode cX10_centuries 34 = .ok (.ireturn, 1) := by decide +kernel
theorem dX10_part_0 : decode cX10_part 0 = .ok (.iload_n 1, 1) := by decide +kernel
theorem dX10_part_1 : decode cX10_part 1 = .ok (.iconst 0, 1) := by decide +kernel
theorem dX10_part_2 : decode cX10_part 2 = .ok (.iconst 1, 1) := by decide +kernel
theorem dX10_part_3 : decode cX10_part 3 = .ok (.invokestatic 73, 3) := by decide +kernel
theorem dX10_part_6 : decode cX10_part 6 = .ok (.ifCond .ne 11, 3) := by decide +kernel
theorem dX10_part_9 : decode cX10_part 9 = .ok (.aload_n 0, 1) := by decide +kernel
theorem dX10_part_10 : decode cX10_part 10 = .ok (.bipush (-2), 2) := by decide +kernel
theorem dX10_part_12 : decode cX10_part 12 = .ok (.invokevirtual 77, 3) := by decide +kernel
theorem dX10_part_15 : decode cX10_part 15 = .ok (.i2l, 1) := by decide +kernel
theorem dX10_part_16 : decode cX10_part 16 = .ok (.lreturn, 1) := by decide +kernel
theorem dX10_part_17 : decode cX10_part 17 = .ok (.iload_n 1, 1) := by decide +kernel
theorem dX10_part_18 : decode cX10_part 18 = .ok (.ifCond .ne 11, 3) := by decide +kernel
theorem dX10_part_21 : decode cX10_part 21 = .ok (.aload_n 0, 1) := by decide +kernel
theorem dX10_part_22 : decode cX10_part 22 = .ok (.getfield 57, 3) := by decide +kernel
theorem dX10_part_25 : decode cX10_part 25 = .ok (.i2l, 1) := by decide +kernel
theorem dX10_part_26 : decode cX10_part 26 = .ok (.goto 8, 3) := by decide +kernel
theorem dX10_part_29 : decode cX10_part 29 = .ok (.aload_n 0, 1) := by decide +kernel
theorem dX10_part_30 : decode cX10_part 30 = .ok (.getfield 61, 3) := by decide +kernel
theorem dX10_part_33 : decode cX10_part 33 = .ok (.i2l, 1) := by decide +kernel
theorem dX10_part_34 : decode cX10_part 34 = .ok (.lreturn, 1) := by decide +kernel
theorem dX10_image_0 : decode cX10_image 0 = .ok (.iload_n 1, 1) := by decide +kernel
theorem dX10_image_1 : decode cX10_image 1 = .ok (.iconst 0, 1) := by decide +kernel
theorem dX10_image_2 : decode cX10_image 2 = .ok (.iconst 1, 1) := by decide +kernel
theorem dX10_image_3 : decode cX10_image 3 = .ok (.invokestatic 73, 3) := by decide +kernel
theorem dX10_image_6 : decode cX10_image 6 = .ok (.ifCond .ne 10, 3) := by decide +kernel
theorem dX10_image_9 : decode cX10_image 9 = .ok (.aload_n 0, 1) := by decide +kernel
theorem dX10_image_10 : decode cX10_image 10 = .ok (.bipush (-2), 2) := by decide +kernel
theorem dX10_image_12 : decode cX10_image 12 = .ok (.invokevirtual 77, 3) := by decide +kernel
theorem dX10_image_15 : decode cX10_image 15 = .ok (.ireturn, 1) := by decide +kernel
theorem dX10_image_16 : decode cX10_image 16 = .ok (.iload_n 1, 1) := by decide +kernel
theorem dX10_image_17 : decode cX10_image 17 = .ok (.ifCond .ne 22, 3) := by decide +kernel
theorem dX10_image_20 : decode cX10_image 20 = .ok (.aload_n 0, 1) := by decide +kernel
theorem dX10_image_21 : decode cX10_image 21 = .ok (.getfield 16, 3) := by decide +kernel
theorem dX10_image_24 : decode cX10_image 24 = .ok (.aload_n 0, 1) := by decide +kernel
theorem dX10_image_25 : decode cX10_image 25 = .ok (.getfield 10, 3) := by decide +kernel
theorem dX10_image_28 : decode cX10_image 28 = .ok (.invokevirtual 157, 3) := by decide +kernel
theorem dX10_image_31 : decode cX10_image 31 = .ok (.aload_n 0, 1) := by decide +kernel
theorem dX10_image_32 : decode cX10_image 32 = .ok (.iconst 1, 1) := by decide +kernel
theorem dX10_image_33 : decode cX10_image 33 = .ok (.putfield 22, 3) := by decide +kernel
theorem dX10_image_36 : decode cX10_image 36 = .ok (.goto 19, 3) := by decide +kernel
theorem dX10_image_39 : decode cX10_image 39 = .ok (.aload_n 0, 1) := by decide +kernel
theorem dX10_image_40 : decode cX10_image 40 = .ok (.getfield 19, 3) := by decide +kernel
theorem dX10_image_43 : decode cX10_image 43 = .ok (.aload_n 0, 1) := by decide +kernel
theorem dX10_image_44 : decode cX10_image 44 = .ok (.getfield 10, 3) := by decide +kernel
theorem dX10_image_47 : decode cX10_image 47 = .ok (.invokevirtual 157, 3) := by decide +kernel
theorem dX10_image_50 : decode cX10_image 50 = .ok (.aload_n 0, 1) := by decide +kernel
theorem dX10_image_51 : decode cX10_image 51 = .ok (.iconst 1, 1) := by decide +kernel
theorem dX10_image_52 : decode cX10_image 52 = .ok (.putfield 26, 3) := by decide +kernel
theorem dX10_image_55 : decode cX10_image 55 = .ok (.iconst 1, 1) := by decide +kernel
theorem dX10_image_56 : decode cX10_image 56 = .ok (.ireturn, 1) := by decide +kernel
theorem dX10_from_0 : decode cX10_from 0 = .ok (.iload_n 1, 1) := by decide +kernel
theorem dX10_from_1 : decode cX10_from 1 = .ok (.iconst 0, 1) := by decide +kernel
theorem dX10_from_2 : decode cX10_from 2 = .ok (.iconst 1, 1) := by decide +kernel
theorem dX10_from_3 : decode cX10_from 3 = .ok (.invokestatic 73, 3) := by decide +kernel
theorem dX10_from_6 : decode cX10_from 6 = .ok (.ifCond .ne 10, 3) := by decide +kernel
theorem dX10_from_9 : decode cX10_from 9 = .ok (.aload_n 0, 1) := by decide +kernel
theorem dX10_from_10 : decode cX10_from 10 = .ok (.bipush (-2), 2) := by decide +kernel
theorem dX10_from_12 : decode cX10_from 12 = .ok (.invokevirtual 77, 3) := by decide +kernel
theorem dX10_from_15 : decode cX10_from 15 = .ok (.ireturn, 1) := by decide +kernel
theorem dX10_from_16 : decode cX10_from 16 = .ok (.iload_n 1, 1) := by decide +kernel
theorem dX10_from_17 : decode cX10_from 17 = .ok (.ifCond .ne 13, 3) := by decide +kernel
theorem dX10_from_20 : decode cX10_from 20 = .ok (.aload_n 0, 1) := by decide +kernel
theorem dX10_from_21 : decode cX10_from 21 = .ok (.getfield 22, 3) := by decide +kernel
theorem dX10_from_24 : decode cX10_from 24 = .ok (.ifCond .eq 13, 3) := by decide +kernel
theorem dX10_from_27 : decode cX10_from 27 = .ok (.goto 15, 3) := by decide +kernel
theorem dX10_from_30 : decode cX10_from 30 = .ok (.aload_n 0, 1) := by decide +kernel
theorem dX10_from_31 : decode cX10_from 31 = .ok (.getfield 26, 3) := by decide +kernel
theorem dX10_from_34 : decode cX10_from 34 = .ok (.ifCond .ne 8, 3) := by decide +kernel
theorem dX10_from_37 : decode cX10_from 37 = .ok (.aload_n 0, 1) := by decide +kernel
theorem dX10_from_38 : decode cX10_from 38 = .ok (.invokevirtual 167, 3) := by decide +kernel
theorem dX10_from_41 : decode cX10_from 41 = .ok (.ireturn, 1) := by decide +kernel
theorem dX10_from_42 : decode cX10_from 42 = .ok (.aload_n 0, 1) := by decide +kernel
theorem dX10_from_43 : decode cX10_from 43 = .ok (.getfield 10, 3) := by decide +kernel
theorem dX10_from_46 : decode cX10_from 46 = .ok (.iload_n 1, 1) := by decide +kernel
theorem dX10_from_47 : decode cX10_from 47 = .ok (.ifCond .ne 10, 3) := by decide +kernel
theorem dX10_from_50 : decode cX10_from 50 = .ok (.aload_n 0, 1) := by decide +kernel
theorem dX10_from_51 : decode cX10_from 51 = .ok (.getfield 16, 3) := by decide +kernel
theorem dX10_from_54 : decode cX10_from 54 = .ok (.goto 7, 3) := by decide +kernel
theorem dX10_from_57 : decode cX10_from 57 = .ok (.aload_n 0, 1) := by decide +kernel
theorem dX10_from_58 : decode cX10_from 58 = .ok (.getfield 19, 3) := by decide +kernel
theorem dX10_from_61 : decode cX10_from 61 = .ok (.invokevirtual 157, 3) := by decide +kernel
theorem dX10_from_64 : decode cX10_from 64 = .ok (.iconst 1, 1) := by decide +kernel
theorem dX10_from_65 : decode cX10_from 65 = .ok (.ireturn, 1) := by decide +kernel
theorem dX10_status_0 : decode cX10_status 0 = .ok (.iload_n 1, 1) := by decide +kernel
theorem dX10_status_1 : decode cX10_status 1 = .ok (.tableswitch 42 0 2 #[27, 32, 37], 27) := by decide +kernel
theorem dX10_status_28 : decode cX10_status 28 = .ok (.aload_n 0, 1) := by decide +kernel
theorem dX10_status_29 : decode cX10_status 29 = .ok (.getfield 64, 3) := by decide +kernel
theorem dX10_status_32 : decode cX10_status 32 = .ok (.ireturn, 1) := by decide +kernel
theorem dX10_status_33 : decode cX10_status 33 = .ok (.aload_n 0, 1) := by decide +kernel
theorem dX10_status_34 : decode cX10_status 34 = .ok (.getfield 67, 3) := by decide +kernel
theorem dX10_status_37 : decode cX10_status 37 = .ok (.ireturn, 1) := by decide +kernel
theorem dX10_status_38 : decode cX10_status 38 = .ok (.aload_n 0, 1) := by decide +kernel
theorem dX10_status_39 : decode cX10_status 39 = .ok (.getfield 70, 3) := by decide +kernel
theorem dX10_status_42 : decode cX10_status 42 = .ok (.ireturn, 1) := by decide +kernel
theorem dX10_status_43 : decode cX10_status 43 = .ok (.aload_n 0, 1) := by decide +kernel
theorem dX10_status_44 : decode cX10_status 44 = .ok (.iconst (-1), 1) := by decide +kernel
theorem dX10_status_45 : decode cX10_status 45 = .ok (.invokevirtual 77, 3) := by decide +kernel
theorem dX10_status_48 : decode cX10_status 48 = .ok (.ireturn, 1) := by decide +kernel
theorem dX10_count_0 : decode cX10_count 0 = .ok (.iload_n 1, 1) := by decide +kernel
theorem dX10_count_1 : decode cX10_count 1 = .ok (.iconst 0, 1) := by decide +kernel
theorem dX10_count_2 : decode cX10_count 2 = .ok (.bipush 8, 2) := by decide +kernel
theorem dX10_count_4 : decode cX10_count 4 = .ok (.invokestatic 73, 3) := by decide +kernel
theorem dX10_count_7 : decode cX10_count 7 = .ok (.ifCond .eq 11, 3) := by decide +kernel
theorem dX10_count_10 : decode cX10_count 10 = .ok (.aload_n 0, 1) := by decide +kernel
theorem dX10_count_11 : decode cX10_count 11 = .ok (.iload_n 1, 1) := by decide +kernel
theorem dX10_count_12 : decode cX10_count 12 = .ok (.invokevirtual 313, 3) := by decide +kernel
theorem dX10_count_15 : decode cX10_count 15 = .ok (.goto 9, 3) := by decide +kernel
theorem dX10_count_18 : decode cX10_count 18 = .ok (.aload_n 0, 1) := by decide +kernel
theorem dX10_count_19 : decode cX10_count 19 = .ok (.bipush (-2), 2) := by decide +kernel
theorem dX10_count_21 : decode cX10_count 21 = .ok (.invokevirtual 77, 3) := by decide +kernel
theorem dX10_count_24 : decode cX10_count 24 = .ok (.ireturn, 1) := by decide +kernel
theorem dX10_digest_0 : decode cX10_digest 0 = .ok (.ldc2_w 316, 3) := by decide +kernel
theorem dX10_digest_3 : decode cX10_digest 3 = .ok (.lstore_n 1, 1) := by decide +kernel
theorem dX10_digest_4 : decode cX10_digest 4 = .ok (.iconst 0, 1) := by decide +kernel
theorem dX10_digest_5 : decode cX10_digest 5 = .ok (.istore_n 3, 1) := by decide +kernel
theorem dX10_digest_6 : decode cX10_digest 6 = .ok (.iload_n 3, 1) := by decide +kernel
theorem dX10_digest_7 : decode cX10_digest 7 = .ok (.bipush 8, 2) := by decide +kernel
theorem dX10_digest_9 : decode cX10_digest 9 = .ok (.if_icmp .gt 22, 3) := by decide +kernel
theorem dX10_digest_12 : decode cX10_digest 12 = .ok (.ldc2_w 318, 3) := by decide +kernel
theorem dX10_digest_15 : decode cX10_digest 15 = .ok (.lload_n 1, 1) := by decide +kernel
theorem dX10_digest_16 : decode cX10_digest 16 = .ok (.lmul, 1) := by decide +kernel
theorem dX10_digest_17 : decode cX10_digest 17 = .ok (.aload_n 0, 1) := by decide +kernel
theorem dX10_digest_18 : decode cX10_digest 18 = .ok (.iload_n 3, 1) := by decide +kernel
theorem dX10_digest_19 : decode cX10_digest 19 = .ok (.invokevirtual 313, 3) := by decide +kernel
theorem dX10_digest_22 : decode cX10_digest 22 = .ok (.i2l, 1) := by decide +kernel
theorem dX10_digest_23 : decode cX10_digest 23 = .ok (.ladd, 1) := by decide +kernel
theorem dX10_digest_24 : decode cX10_digest 24 = .ok (.lstore_n 1, 1) := by decide +kernel
theorem dX10_digest_25 : decode cX10_digest 25 = .ok (.iinc 3 1, 3) := by decide +kernel
theorem dX10_digest_28 : decode cX10_digest 28 = .ok (.goto (-22), 3) := by decide +kernel
theorem dX10_digest_31 : decode cX10_digest 31 = .ok (.aload_n 0, 1) := by decide +kernel
theorem dX10_digest_32 : decode cX10_digest 32 = .ok (.getfield 10, 3) := by decide +kernel
theorem dX10_digest_35 : decode cX10_digest 35 = .ok (.lload_n 1, 1) := by decide +kernel
theorem dX10_digest_36 : decode cX10_digest 36 = .ok (.invokevirtual 320, 3) := by decide +kernel
theorem dX10_digest_39 : decode cX10_digest 39 = .ok (.lstore_n 1, 1) := by decide +kernel
theorem dX10_digest_40 : decode cX10_digest 40 = .ok (.ldc2_w 318, 3) := by decide +kernel
theorem dX10_digest_43 : decode cX10_digest 43 = .ok (.lload_n 1, 1) := by decide +kernel
theorem dX10_digest_44 : decode cX10_digest 44 = .ok (.lmul, 1) := by decide +kernel
theorem dX10_digest_45 : decode cX10_digest 45 = .ok (.aload_n 0, 1) := by decide +kernel
theorem dX10_digest_46 : decode cX10_digest 46 = .ok (.getfield 57, 3) := by decide +kernel
theorem dX10_digest_49 : decode cX10_digest 49 = .ok (.i2l, 1) := by decide +kernel
theorem dX10_digest_50 : decode cX10_digest 50 = .ok (.ladd, 1) := by decide +kernel
theorem dX10_digest_51 : decode cX10_digest 51 = .ok (.lstore_n 1, 1) := by decide +kernel
theorem dX10_digest_52 : decode cX10_digest 52 = .ok (.ldc2_w 318, 3) := by decide +kernel
theorem dX10_digest_55 : decode cX10_digest 55 = .ok (.lload_n 1, 1) := by decide +kernel
theorem dX10_digest_56 : decode cX10_digest 56 = .ok (.lmul, 1) := by decide +kernel
theorem dX10_digest_57 : decode cX10_digest 57 = .ok (.aload_n 0, 1) := by decide +kernel
theorem dX10_digest_58 : decode cX10_digest 58 = .ok (.getfield 61, 3) := by decide +kernel
theorem dX10_digest_61 : decode cX10_digest 61 = .ok (.i2l, 1) := by decide +kernel
theorem dX10_digest_62 : decode cX10_digest 62 = .ok (.ladd, 1) := by decide +kernel
theorem dX10_digest_63 : decode cX10_digest 63 = .ok (.lreturn, 1) := by decide +kernel
theorem dX10_refuseBad_0 : decode cX10_refuseBad 0 = .ok (.aload_n 0, 1) := by decide +kernel
theorem dX10_refuseBad_1 : decode cX10_refuseBad 1 = .ok (.dup, 1) := by decide +kernel
theorem dX10_refuseBad_2 : decode cX10_refuseBad 2 = .ok (.getfield 64, 3) := by decide +kernel
theorem dX10_refuseBad_5 : decode cX10_refuseBad 5 = .ok (.iconst 1, 1) := by decide +kernel
theorem dX10_refuseBad_6 : decode cX10_refuseBad 6 = .ok (.iadd, 1) := by decide +kernel
theorem dX10_refuseBad_7 : decode cX10_refuseBad 7 = .ok (.putfield 64, 3) := by decide +kernel
theorem dX10_refuseBad_10 : decode cX10_refuseBad 10 = .ok (.iload_n 1, 1) := by decide +kernel
theorem dX10_refuseBad_11 : decode cX10_refuseBad 11 = .ok (.ireturn, 1) := by decide +kernel
theorem dX10_refuseNo_0 : decode cX10_refuseNo 0 = .ok (.aload_n 0, 1) := by decide +kernel
theorem dX10_refuseNo_1 : decode cX10_refuseNo 1 = .ok (.dup, 1) := by decide +kernel
theorem dX10_refuseNo_2 : decode cX10_refuseNo 2 = .ok (.getfield 67, 3) := by decide +kernel
theorem dX10_refuseNo_5 : decode cX10_refuseNo 5 = .ok (.iconst 1, 1) := by decide +kernel
theorem dX10_refuseNo_6 : decode cX10_refuseNo 6 = .ok (.iadd, 1) := by decide +kernel
theorem dX10_refuseNo_7 : decode cX10_refuseNo 7 = .ok (.putfield 67, 3) := by decide +kernel
theorem dX10_refuseNo_10 : decode cX10_refuseNo 10 = .ok (.bipush (-3), 2) := by decide +kernel
theorem dX10_refuseNo_12 : decode cX10_refuseNo 12 = .ok (.ireturn, 1) := by decide +kernel
theorem dX10_refuseFull_0 : decode cX10_refuseFull 0 = .ok (.aload_n 0, 1) := by decide +kernel
theorem dX10_refuseFull_1 : decode cX10_refuseFull 1 = .ok (.dup, 1) := by decide +kernel
theorem dX10_refuseFull_2 : decode cX10_refuseFull 2 = .ok (.getfield 70, 3) := by decide +kernel
theorem dX10_refuseFull_5 : decode cX10_refuseFull 5 = .ok (.iconst 1, 1) := by decide +kernel
theorem dX10_refuseFull_6 : decode cX10_refuseFull 6 = .ok (.iadd, 1) := by decide +kernel
theorem dX10_refuseFull_7 : decode cX10_refuseFull 7 = .ok (.putfield 70, 3) := by decide +kernel
theorem dX10_refuseFull_10 : decode cX10_refuseFull 10 = .ok (.bipush (-4), 2) := by decide +kernel
theorem dX10_refuseFull_12 : decode cX10_refuseFull 12 = .ok (.ireturn, 1) := by decide +kernel
theorem dX10_fault_0 : decode cX10_fault 0 = .ok (.bipush (-10), 2) := by decide +kernel
theorem dX10_fault_2 : decode cX10_fault 2 = .ok (.aload_n 0, 1) := by decide +kernel
theorem dX10_fault_3 : decode cX10_fault 3 = .ok (.getfield 32, 3) := by decide +kernel
theorem dX10_fault_6 : decode cX10_fault 6 = .ok (.getfield 126, 3) := by decide +kernel
theorem dX10_fault_9 : decode cX10_fault 9 = .ok (.invokevirtual 324, 3) := by decide +kernel
theorem dX10_fault_12 : decode cX10_fault 12 = .ok (.isub, 1) := by decide +kernel
theorem dX10_fault_13 : decode cX10_fault 13 = .ok (.ireturn, 1) := by decide +kernel
theorem dX10_howMany_0 : decode cX10_howMany 0 = .ok (.iload_n 1, 1) := by decide +kernel
theorem dX10_howMany_1 : decode cX10_howMany 1 = .ok (.tableswitch 130 0 7 #[47, 58, 70, 78, 86, 97, 108, 119], 47) := by decide +kernel
theorem dX10_howMany_48 : decode cX10_howMany 48 = .ok (.aload_n 0, 1) := by decide +kernel
theorem dX10_howMany_49 : decode cX10_howMany 49 = .ok (.getfield 10, 3) := by decide +kernel
theorem dX10_howMany_52 : decode cX10_howMany 52 = .ok (.getfield 81, 3) := by decide +kernel
theorem dX10_howMany_55 : decode cX10_howMany 55 = .ok (.invokevirtual 85, 3) := by decide +kernel
theorem dX10_howMany_58 : decode cX10_howMany 58 = .ok (.ireturn, 1) := by decide +kernel
theorem dX10_howMany_59 : decode cX10_howMany 59 = .ok (.aload_n 0, 1) := by decide +kernel
theorem dX10_howMany_60 : decode cX10_howMany 60 = .ok (.getfield 10, 3) := by decide +kernel
theorem dX10_howMany_63 : decode cX10_howMany 63 = .ok (.iconst 1, 1) := by decide +kernel
theorem dX10_howMany_64 : decode cX10_howMany 64 = .ok (.invokevirtual 232, 3) := by decide +kernel
theorem dX10_howMany_67 : decode cX10_howMany 67 = .ok (.invokestatic 248, 3) := by decide +kernel
theorem dX10_howMany_70 : decode cX10_howMany 70 = .ok (.ireturn, 1) := by decide +kernel
theorem dX10_howMany_71 : decode cX10_howMany 71 = .ok (.aload_n 0, 1) := by decide +kernel
theorem dX10_howMany_72 : decode cX10_howMany 72 = .ok (.getfield 10, 3) := by decide +kernel
theorem dX10_howMany_75 : decode cX10_howMany 75 = .ok (.invokevirtual 192, 3) := by decide +kernel
theorem dX10_howMany_78 : decode cX10_howMany 78 = .ok (.ireturn, 1) := by decide +kernel
theorem dX10_howMany_79 : decode cX10_howMany 79 = .ok (.aload_n 0, 1) := by decide +kernel
theorem dX10_howMany_80 : decode cX10_howMany 80 = .ok (.getfield 10, 3) := by decide +kernel
theorem dX10_howMany_83 : decode cX10_howMany 83 = .ok (.getfield 327, 3) := by decide +kernel
theorem dX10_howMany_86 : decode cX10_howMany 86 = .ok (.ireturn, 1) := by decide +kernel
theorem dX10_howMany_87 : decode cX10_howMany 87 = .ok (.aload_n 0, 1) := by decide +kernel
theorem dX10_howMany_88 : decode cX10_howMany 88 = .ok (.getfield 10, 3) := by decide +kernel
theorem dX10_howMany_91 : decode cX10_howMany 91 = .ok (.getfield 241, 3) := by decide +kernel
theorem dX10_howMany_94 : decode cX10_howMany 94 = .ok (.invokevirtual 85, 3) := by decide +kernel
theorem dX10_howMany_97 : decode cX10_howMany 97 = .ok (.ireturn, 1) := by decide +kernel
theorem dX10_howMany_98 : decode cX10_howMany 98 = .ok (.aload_n 0, 1) := by decide +kernel
theorem dX10_howMany_99 : decode cX10_howMany 99 = .ok (.getfield 10, 3) := by decide +kernel
theorem dX10_howMany_102 : decode cX10_howMany 102 = .ok (.getfield 263, 3) := by decide +kernel
theorem dX10_howMany_105 : decode cX10_howMany 105 = .ok (.invokevirtual 85, 3) := by decide +kernel
theorem dX10_howMany_108 : decode cX10_howMany 108 = .ok (.ireturn, 1) := by decide +kernel
theorem dX10_howMany_109 : decode cX10_howMany 109 = .ok (.aload_n 0, 1) := by decide +kernel
theorem dX10_howMany_110 : decode cX10_howMany 110 = .ok (.getfield 10, 3) := by decide +kernel
theorem dX10_howMany_113 : decode cX10_howMany 113 = .ok (.getfield 266, 3) := by decide +kernel
theorem dX10_howMany_116 : decode cX10_howMany 116 = .ok (.invokevirtual 85, 3) := by decide +kernel
theorem dX10_howMany_119 : decode cX10_howMany 119 = .ok (.ireturn, 1) := by decide +kernel
theorem dX10_howMany_120 : decode cX10_howMany 120 = .ok (.aload_n 0, 1) := by decide +kernel
theorem dX10_howMany_121 : decode cX10_howMany 121 = .ok (.getfield 10, 3) := by decide +kernel
theorem dX10_howMany_124 : decode cX10_howMany 124 = .ok (.getfield 99, 3) := by decide +kernel
theorem dX10_howMany_127 : decode cX10_howMany 127 = .ok (.invokevirtual 195, 3) := by decide +kernel
theorem dX10_howMany_130 : decode cX10_howMany 130 = .ok (.ireturn, 1) := by decide +kernel
theorem dX10_howMany_131 : decode cX10_howMany 131 = .ok (.aload_n 0, 1) := by decide +kernel
theorem dX10_howMany_132 : decode cX10_howMany 132 = .ok (.getfield 32, 3) := by decide +kernel
theorem dX10_howMany_135 : decode cX10_howMany 135 = .ok (.getfield 126, 3) := by decide +kernel
theorem dX10_howMany_138 : decode cX10_howMany 138 = .ok (.invokevirtual 330, 3) := by decide +kernel
theorem dX10_howMany_141 : decode cX10_howMany 141 = .ok (.ireturn, 1) := by decide +kernel
theorem dX10_keepTenths_0 : decode cX10_keepTenths 0 = .ok (.aload_n 0, 1) := by decide +kernel
theorem dX10_keepTenths_1 : decode cX10_keepTenths 1 = .ok (.iload_n 1, 1) := by decide +kernel
theorem dX10_keepTenths_2 : decode cX10_keepTenths 2 = .ok (.putfield 57, 3) := by decide +kernel
theorem dX10_keepTenths_5 : decode cX10_keepTenths 5 = .ok (.aload_n 0, 1) := by decide +kernel
theorem dX10_keepTenths_6 : decode cX10_keepTenths 6 = .ok (.bipush 10, 2) := by decide +kernel
theorem dX10_keepTenths_8 : decode cX10_keepTenths 8 = .ok (.putfield 61, 3) := by decide +kernel
theorem dX10_keepTenths_11 : decode cX10_keepTenths 11 = .ok (.bipush 10, 2) := by decide +kernel
theorem dX10_keepTenths_13 : decode cX10_keepTenths 13 = .ok (.istore_n 2, 1) := by decide +kernel
theorem dX10_keepTenths_14 : decode cX10_keepTenths 14 = .ok (.iload_n 2, 1) := by decide +kernel
theorem dX10_keepTenths_15 : decode cX10_keepTenths 15 = .ok (.iconst 1, 1) := by decide +kernel
theorem dX10_keepTenths_16 : decode cX10_keepTenths 16 = .ok (.if_icmp .le 47, 3) := by decide +kernel
theorem dX10_keepTenths_19 : decode cX10_keepTenths 19 = .ok (.aload_n 0, 1) := by decide +kernel
theorem dX10_keepTenths_20 : decode cX10_keepTenths 20 = .ok (.getfield 57, 3) := by decide +kernel
theorem dX10_keepTenths_23 : decode cX10_keepTenths 23 = .ok (.iload_n 2, 1) := by decide +kernel
theorem dX10_keepTenths_24 : decode cX10_keepTenths 24 = .ok (.irem, 1) := by decide +kernel
theorem dX10_keepTenths_25 : decode cX10_keepTenths 25 = .ok (.ifCond .ne 32, 3) := by decide +kernel
theorem dX10_keepTenths_28 : decode cX10_keepTenths 28 = .ok (.aload_n 0, 1) := by decide +kernel
theorem dX10_keepTenths_29 : decode cX10_keepTenths 29 = .ok (.getfield 61, 3) := by decide +kernel
theorem dX10_keepTenths_32 : decode cX10_keepTenths 32 = .ok (.iload_n 2, 1) := by decide +kernel
theorem dX10_keepTenths_33 : decode cX10_keepTenths 33 = .ok (.irem, 1) := by decide +kernel
theorem dX10_keepTenths_34 : decode cX10_keepTenths 34 = .ok (.ifCond .ne 23, 3) := by decide +kernel
theorem dX10_keepTenths_37 : decode cX10_keepTenths 37 = .ok (.aload_n 0, 1) := by decide +kernel
theorem dX10_keepTenths_38 : decode cX10_keepTenths 38 = .ok (.dup, 1) := by decide +kernel
theorem dX10_keepTenths_39 : decode cX10_keepTenths 39 = .ok (.getfield 57, 3) := by decide +kernel
theorem dX10_keepTenths_42 : decode cX10_keepTenths 42 = .ok (.iload_n 2, 1) := by decide +kernel
theorem dX10_keepTenths_43 : decode cX10_keepTenths 43 = .ok (.idiv, 1) := by decide +kernel
theorem dX10_keepTenths_44 : decode cX10_keepTenths 44 = .ok (.putfield 57, 3) := by decide +kernel
theorem dX10_keepTenths_47 : decode cX10_keepTenths 47 = .ok (.aload_n 0, 1) := by decide +kernel
theorem dX10_keepTenths_48 : decode cX10_keepTenths 48 = .ok (.dup, 1) := by decide +kernel
theorem dX10_keepTenths_49 : decode cX10_keepTenths 49 = .ok (.getfield 61, 3) := by decide +kernel
theorem dX10_keepTenths_52 : decode cX10_keepTenths 52 = .ok (.iload_n 2, 1) := by decide +kernel
theorem dX10_keepTenths_53 : decode cX10_keepTenths 53 = .ok (.idiv, 1) := by decide +kernel
theorem dX10_keepTenths_54 : decode cX10_keepTenths 54 = .ok (.putfield 61, 3) := by decide +kernel
theorem dX10_keepTenths_57 : decode cX10_keepTenths 57 = .ok (.iinc 2 (-1), 3) := by decide +kernel
theorem dX10_keepTenths_60 : decode cX10_keepTenths 60 = .ok (.goto (-46), 3) := by decide +kernel
theorem dX10_keepTenths_63 : decode cX10_keepTenths 63 = .ok (.return_, 1) := by decide +kernel
theorem dX10_strokesOver_0 : decode cX10_strokesOver 0 = .ok (.iload_n 1, 1) := by decide +kernel
theorem dX10_strokesOver_1 : decode cX10_strokesOver 1 = .ok (.i2l, 1) := by decide +kernel
theorem dX10_strokesOver_2 : decode cX10_strokesOver 2 = .ok (.lstore_n 3, 1) := by decide +kernel
theorem dX10_strokesOver_3 : decode cX10_strokesOver 3 = .ok (.aload_n 0, 1) := by decide +kernel
theorem dX10_strokesOver_4 : decode cX10_strokesOver 4 = .ok (.getfield 10, 3) := by decide +kernel
theorem dX10_strokesOver_7 : decode cX10_strokesOver 7 = .ok (.invokevirtual 200, 3) := by decide +kernel
theorem dX10_strokesOver_10 : decode cX10_strokesOver 10 = .ok (.istore 5, 2) := by decide +kernel
theorem dX10_strokesOver_12 : decode cX10_strokesOver 12 = .ok (.aload_n 0, 1) := by decide +kernel
theorem dX10_strokesOver_13 : decode cX10_strokesOver 13 = .ok (.getfield 10, 3) := by decide +kernel
theorem dX10_strokesOver_16 : decode cX10_strokesOver 16 = .ok (.invokevirtual 176, 3) := by decide +kernel
theorem dX10_strokesOver_19 : decode cX10_strokesOver 19 = .ok (.istore 6, 2) := by decide +kernel
theorem dX10_strokesOver_21 : decode cX10_strokesOver 21 = .ok (.iconst 0, 1) := by decide +kernel
theorem dX10_strokesOver_22 : decode cX10_strokesOver 22 = .ok (.istore 7, 2) := by decide +kernel
theorem dX10_strokesOver_24 : decode cX10_strokesOver 24 = .ok (.iconst 0, 1) := by decide +kernel
theorem dX10_strokesOver_25 : decode cX10_strokesOver 25 = .ok (.istore 8, 2) := by decide +kernel
theorem dX10_strokesOver_27 : decode cX10_strokesOver 27 = .ok (.iload 8, 2) := by decide +kernel
theorem dX10_strokesOver_29 : decode cX10_strokesOver 29 = .ok (.iload_n 2, 1) := by decide +kernel
theorem dX10_strokesOver_30 : decode cX10_strokesOver 30 = .ok (.if_icmp .ge 104, 3) := by decide +kernel
theorem dX10_strokesOver_33 : decode cX10_strokesOver 33 = .ok (.lload_n 3, 1) := by decide +kernel
theorem dX10_strokesOver_34 : decode cX10_strokesOver 34 = .ok (.ldc2_w 331, 3) := by decide +kernel
theorem dX10_strokesOver_37 : decode cX10_strokesOver 37 = .ok (.lmul, 1) := by decide +kernel
theorem dX10_strokesOver_38 : decode cX10_strokesOver 38 = .ok (.ldc2_w 333, 3) := by decide +kernel
theorem dX10_strokesOver_41 : decode cX10_strokesOver 41 = .ok (.ladd, 1) := by decide +kernel
theorem dX10_strokesOver_42 : decode cX10_strokesOver 42 = .ok (.ldc2_w 335, 3) := by decide +kernel
theorem dX10_strokesOver_45 : decode cX10_strokesOver 45 = .ok (.lrem, 1) := by decide +kernel
theorem dX10_strokesOver_46 : decode cX10_strokesOver 46 = .ok (.lstore_n 3, 1) := by decide +kernel
theorem dX10_strokesOver_47 : decode cX10_strokesOver 47 = .ok (.iload 6, 2) := by decide +kernel
theorem dX10_strokesOver_49 : decode cX10_strokesOver 49 = .ok (.ifCond .ne 18, 3) := by decide +kernel
theorem dX10_strokesOver_52 : decode cX10_strokesOver 52 = .ok (.lload_n 3, 1) := by decide +kernel
theorem dX10_strokesOver_53 : decode cX10_strokesOver 53 = .ok (.ldc2_w 337, 3) := by decide +kernel
theorem dX10_strokesOver_56 : decode cX10_strokesOver 56 = .ok (.ldiv, 1) := by decide +kernel
theorem dX10_strokesOver_57 : decode cX10_strokesOver 57 = .ok (.ldc2_w 339, 3) := by decide +kernel
theorem dX10_strokesOver_60 : decode cX10_strokesOver 60 = .ok (.lrem, 1) := by decide +kernel
theorem dX10_strokesOver_61 : decode cX10_strokesOver 61 = .ok (.l2i, 1) := by decide +kernel
theorem dX10_strokesOver_62 : decode cX10_strokesOver 62 = .ok (.istore 5, 2) := by decide +kernel
theorem dX10_strokesOver_64 : decode cX10_strokesOver 64 = .ok (.iconst 1, 1) := by decide +kernel
theorem dX10_strokesOver_65 : decode cX10_strokesOver 65 = .ok (.istore 6, 2) := by decide +kernel
theorem dX10_strokesOver_67 : decode cX10_strokesOver 67 = .ok (.lload_n 3, 1) := by decide +kernel
theorem dX10_strokesOver_68 : decode cX10_strokesOver 68 = .ok (.ldc2_w 341, 3) := by decide +kernel
theorem dX10_strokesOver_71 : decode cX10_strokesOver 71 = .ok (.ldiv, 1) := by decide +kernel
theorem dX10_strokesOver_72 : decode cX10_strokesOver 72 = .ok (.ldc2_w 343, 3) := by decide +kernel
theorem dX10_strokesOver_75 : decode cX10_strokesOver 75 = .ok (.lrem, 1) := by decide +kernel
theorem dX10_strokesOver_76 : decode cX10_strokesOver 76 = .ok (.l2i, 1) := by decide +kernel
theorem dX10_strokesOver_77 : decode cX10_strokesOver 77 = .ok (.istore 9, 2) := by decide +kernel
theorem dX10_strokesOver_79 : decode cX10_strokesOver 79 = .ok (.aload_n 0, 1) := by decide +kernel
theorem dX10_strokesOver_80 : decode cX10_strokesOver 80 = .ok (.getfield 10, 3) := by decide +kernel
theorem dX10_strokesOver_83 : decode cX10_strokesOver 83 = .ok (.iload 9, 2) := by decide +kernel
theorem dX10_strokesOver_85 : decode cX10_strokesOver 85 = .ok (.iload 5, 2) := by decide +kernel
theorem dX10_strokesOver_87 : decode cX10_strokesOver 87 = .ok (.invokevirtual 282, 3) := by decide +kernel
theorem dX10_strokesOver_90 : decode cX10_strokesOver 90 = .ok (.ifCond .eq 38, 3) := by decide +kernel
theorem dX10_strokesOver_93 : decode cX10_strokesOver 93 = .ok (.aload_n 0, 1) := by decide +kernel
theorem dX10_strokesOver_94 : decode cX10_strokesOver 94 = .ok (.getfield 10, 3) := by decide +kernel
theorem dX10_strokesOver_97 : decode cX10_strokesOver 97 = .ok (.iload 9, 2) := by decide +kernel
theorem dX10_strokesOver_99 : decode cX10_strokesOver 99 = .ok (.aload_n 0, 1) := by decide +kernel
theorem dX10_strokesOver_100 : decode cX10_strokesOver 100 = .ok (.getfield 10, 3) := by decide +kernel
theorem dX10_strokesOver_103 : decode cX10_strokesOver 103 = .ok (.invokevirtual 192, 3) := by decide +kernel
theorem dX10_strokesOver_106 : decode cX10_strokesOver 106 = .ok (.iload 8, 2) := by decide +kernel
theorem dX10_strokesOver_108 : decode cX10_strokesOver 108 = .ok (.iadd, 1) := by decide +kernel
theorem dX10_strokesOver_109 : decode cX10_strokesOver 109 = .ok (.invokevirtual 286, 3) := by decide +kernel
theorem dX10_strokesOver_112 : decode cX10_strokesOver 112 = .ok (.istore 6, 2) := by decide +kernel
theorem dX10_strokesOver_114 : decode cX10_strokesOver 114 = .ok (.iload 6, 2) := by decide +kernel
theorem dX10_strokesOver_116 : decode cX10_strokesOver 116 = .ok (.ifCond .eq 12, 3) := by decide +kernel
theorem dX10_strokesOver_119 : decode cX10_strokesOver 119 = .ok (.iconst 1, 1) := by decide +kernel
theorem dX10_strokesOver_120 : decode cX10_strokesOver 120 = .ok (.iload 5, 2) := by decide +kernel
theorem dX10_strokesOver_122 : decode cX10_strokesOver 122 = .ok (.isub, 1) := by decide +kernel
theorem dX10_strokesOver_123 : decode cX10_strokesOver 123 = .ok (.istore 5, 2) := by decide +kernel
theorem dX10_strokesOver_125 : decode cX10_strokesOver 125 = .ok (.iinc 7 1, 3) := by decide +kernel
theorem dX10_strokesOver_128 : decode cX10_strokesOver 128 = .ok (.iinc 8 1, 3) := by decide +kernel
theorem dX10_strokesOver_131 : decode cX10_strokesOver 131 = .ok (.goto (-104), 3) := by decide +kernel
theorem dX10_strokesOver_134 : decode cX10_strokesOver 134 = .ok (.iload 7, 2) := by decide +kernel
theorem dX10_strokesOver_136 : decode cX10_strokesOver 136 = .ok (.ireturn, 1) := by decide +kernel
theorem dX10_isWithin_0 : decode cX10_isWithin 0 = .ok (.iload_n 0, 1) := by decide +kernel
theorem dX10_isWithin_1 : decode cX10_isWithin 1 = .ok (.iload_n 1, 1) := by decide +kernel
theorem dX10_isWithin_2 : decode cX10_isWithin 2 = .ok (.if_icmp .lt 12, 3) := by decide +kernel
theorem dX10_isWithin_5 : decode cX10_isWithin 5 = .ok (.iload_n 0, 1) := by decide +kernel
theorem dX10_isWithin_6 : decode cX10_isWithin 6 = .ok (.iload_n 2, 1) := by decide +kernel
theorem dX10_isWithin_7 : decode cX10_isWithin 7 = .ok (.if_icmp .gt 7, 3) := by decide +kernel
theorem dX10_isWithin_10 : decode cX10_isWithin 10 = .ok (.iconst 1, 1) := by decide +kernel
theorem dX10_isWithin_11 : decode cX10_isWithin 11 = .ok (.goto 4, 3) := by decide +kernel
theorem dX10_isWithin_14 : decode cX10_isWithin 14 = .ok (.iconst 0, 1) := by decide +kernel
theorem dX10_isWithin_15 : decode cX10_isWithin 15 = .ok (.ireturn, 1) := by decide +kernel
theorem dX10_isKind_0 : decode cX10_isKind 0 = .ok (.iload_n 0, 1) := by decide +kernel
theorem dX10_isKind_1 : decode cX10_isKind 1 = .ok (.iconst 0, 1) := by decide +kernel
theorem dX10_isKind_2 : decode cX10_isKind 2 = .ok (.iconst 5, 1) := by decide +kernel
theorem dX10_isKind_3 : decode cX10_isKind 3 = .ok (.invokestatic 73, 3) := by decide +kernel
theorem dX10_isKind_6 : decode cX10_isKind 6 = .ok (.ireturn, 1) := by decide +kernel
theorem dX10_isHill_0 : decode cX10_isHill 0 = .ok (.iload_n 0, 1) := by decide +kernel
theorem dX10_isHill_1 : decode cX10_isHill 1 = .ok (.iconst 0, 1) := by decide +kernel
theorem dX10_isHill_2 : decode cX10_isHill 2 = .ok (.iconst 1, 1) := by decide +kernel
theorem dX10_isHill_3 : decode cX10_isHill 3 = .ok (.invokestatic 73, 3) := by decide +kernel
theorem dX10_isHill_6 : decode cX10_isHill 6 = .ok (.ireturn, 1) := by decide +kernel
theorem dX10_lowestBit_0 : decode cX10_lowestBit 0 = .ok (.iconst 0, 1) := by decide +kernel
theorem dX10_lowestBit_1 : decode cX10_lowestBit 1 = .ok (.istore_n 1, 1) := by decide +kernel
theorem dX10_lowestBit_2 : decode cX10_lowestBit 2 = .ok (.iload_n 1, 1) := by decide +kernel
theorem dX10_lowestBit_3 : decode cX10_lowestBit 3 = .ok (.bipush 32, 2) := by decide +kernel
theorem dX10_lowestBit_5 : decode cX10_lowestBit 5 = .ok (.if_icmp .ge 19, 3) := by decide +kernel
theorem dX10_lowestBit_8 : decode cX10_lowestBit 8 = .ok (.iload_n 0, 1) := by decide +kernel
theorem dX10_lowestBit_9 : decode cX10_lowestBit 9 = .ok (.iload_n 1, 1) := by decide +kernel
theorem dX10_lowestBit_10 : decode cX10_lowestBit 10 = .ok (.ishr, 1) := by decide +kernel
theorem dX10_lowestBit_11 : decode cX10_lowestBit 11 = .ok (.iconst 1, 1) := by decide +kernel
theorem dX10_lowestBit_12 : decode cX10_lowestBit 12 = .ok (.iand, 1) := by decide +kernel
theorem dX10_lowestBit_13 : decode cX10_lowestBit 13 = .ok (.ifCond .eq 5, 3) := by decide +kernel
theorem dX10_lowestBit_16 : decode cX10_lowestBit 16 = .ok (.iload_n 1, 1) := by decide +kernel
theorem dX10_lowestBit_17 : decode cX10_lowestBit 17 = .ok (.ireturn, 1) := by decide +kernel
theorem dX10_lowestBit_18 : decode cX10_lowestBit 18 = .ok (.iinc 1 1, 3) := by decide +kernel
theorem dX10_lowestBit_21 : decode cX10_lowestBit 21 = .ok (.goto (-19), 3) := by decide +kernel
theorem dX10_lowestBit_24 : decode cX10_lowestBit 24 = .ok (.iconst (-1), 1) := by decide +kernel
theorem dX10_lowestBit_25 : decode cX10_lowestBit 25 = .ok (.ireturn, 1) := by decide +kernel
theorem dX10_highestBit_0 : decode cX10_highestBit 0 = .ok (.bipush 31, 2) := by decide +kernel
theorem dX10_highestBit_2 : decode cX10_highestBit 2 = .ok (.istore_n 1, 1) := by decide +kernel
theorem dX10_highestBit_3 : decode cX10_highestBit 3 = .ok (.iload_n 1, 1) := by decide +kernel
theorem dX10_highestBit_4 : decode cX10_highestBit 4 = .ok (.ifCond .lt 19, 3) := by decide +kernel
theorem dX10_highestBit_7 : decode cX10_highestBit 7 = .ok (.iload_n 0, 1) := by decide +kernel
theorem dX10_highestBit_8 : decode cX10_highestBit 8 = .ok (.iload_n 1, 1) := by decide +kernel
theorem dX10_highestBit_9 : decode cX10_highestBit 9 = .ok (.ishr, 1) := by decide +kernel
theorem dX10_highestBit_10 : decode cX10_highestBit 10 = .ok (.iconst 1, 1) := by decide +kernel
theorem dX10_highestBit_11 : decode cX10_highestBit 11 = .ok (.iand, 1) := by decide +kernel
theorem dX10_highestBit_12 : decode cX10_highestBit 12 = .ok (.ifCond .eq 5, 3) := by decide +kernel
theorem dX10_highestBit_15 : decode cX10_highestBit 15 = .ok (.iload_n 1, 1) := by decide +kernel
theorem dX10_highestBit_16 : decode cX10_highestBit 16 = .ok (.ireturn, 1) := by decide +kernel
theorem dX10_highestBit_17 : decode cX10_highestBit 17 = .ok (.iinc 1 (-1), 3) := by decide +kernel
theorem dX10_highestBit_20 : decode cX10_highestBit 20 = .ok (.goto (-17), 3) := by decide +kernel
theorem dX10_highestBit_23 : decode cX10_highestBit 23 = .ok (.iconst (-1), 1) := by decide +kernel
theorem dX10_highestBit_24 : decode cX10_highestBit 24 = .ok (.ireturn, 1) := by decide +kernel
theorem dX11_init_0 : decode cX11_init 0 = .ok (.aload_n 0, 1) := by decide +kernel
theorem dX11_init_1 : decode cX11_init 1 = .ok (.invokespecial 1, 3) := by decide +kernel
theorem dX11_init_4 : decode cX11_init 4 = .ok (.aload_n 0, 1) := by decide +kernel
theorem dX11_init_5 : decode cX11_init 5 = .ok (.sipush 159, 3) := by decide +kernel
theorem dX11_init_8 : decode cX11_init 8 = .ok (.newarray .int, 2) := by decide +kernel
theorem dX11_init_10 : decode cX11_init 10 = .ok (.putfield 7, 3) := by decide +kernel
theorem dX11_init_13 : decode cX11_init 13 = .ok (.aload_n 0, 1) := by decide +kernel
theorem dX11_init_14 : decode cX11_init 14 = .ok (.sipush 318, 3) := by decide +kernel
theorem dX11_init_17 : decode cX11_init 17 = .ok (.newarray .int, 2) := by decide +kernel
theorem dX11_init_19 : decode cX11_init 19 = .ok (.putfield 13, 3) := by decide +kernel
theorem dX11_init_22 : decode cX11_init 22 = .ok (.aload_n 0, 1) := by decide +kernel
theorem dX11_init_23 : decode cX11_init 23 = .ok (.iconst 2, 1) := by decide +kernel
theorem dX11_init_24 : decode cX11_init 24 = .ok (.newarray .boolean, 2) := by decide +kernel
theorem dX11_init_26 : decode cX11_init 26 = .ok (.putfield 16, 3) := by decide +kernel
theorem dX11_init_29 : decode cX11_init 29 = .ok (.aload_n 0, 1) := by decide +kernel
theorem dX11_init_30 : decode cX11_init 30 = .ok (.iconst 3, 1) := by decide +kernel
theorem dX11_init_31 : decode cX11_init 31 = .ok (.newarray .int, 2) := by decide +kernel
theorem dX11_init_33 : decode cX11_init 33 = .ok (.putfield 20, 3) := by decide +kernel
theorem dX11_init_36 : decode cX11_init 36 = .ok (.aload_n 0, 1) := by decide +kernel
theorem dX11_init_37 : decode cX11_init 37 = .ok (.lconst 1, 1) := by decide +kernel
theorem dX11_init_38 : decode cX11_init 38 = .ok (.putfield 23, 3) := by decide +kernel
theorem dX11_init_41 : decode cX11_init 41 = .ok (.aload_n 0, 1) := by decide +kernel
theorem dX11_init_42 : decode cX11_init 42 = .ok (.sipush 5376, 3) := by decide +kernel
theorem dX11_init_45 : decode cX11_init 45 = .ok (.newarray .int, 2) := by decide +kernel
theorem dX11_init_47 : decode cX11_init 47 = .ok (.putfield 27, 3) := by decide +kernel
theorem dX11_init_50 : decode cX11_init 50 = .ok (.aload_n 0, 1) := by decide +kernel
theorem dX11_init_51 : decode cX11_init 51 = .ok (.bipush 40, 2) := by decide +kernel
theorem dX11_init_53 : decode cX11_init 53 = .ok (.newarray .int, 2) := by decide +kernel
theorem dX11_init_55 : decode cX11_init 55 = .ok (.putfield 30, 3) := by decide +kernel
theorem dX11_init_58 : decode cX11_init 58 = .ok (.aload_n 0, 1) := by decide +kernel
theorem dX11_init_59 : decode cX11_init 59 = .ok (.bipush 6, 2) := by decide +kernel
theorem dX11_init_61 : decode cX11_init 61 = .ok (.newarray .int, 2) := by decide +kernel
theorem dX11_init_63 : decode cX11_init 63 = .ok (.putfield 33, 3) := by decide +kernel
theorem dX11_init_66 : decode cX11_init 66 = .ok (.aload_n 0, 1) := by decide +kernel
theorem dX11_init_67 : decode cX11_init 67 = .ok (.sipush 150, 3) := by decide +kernel
theorem dX11_init_70 : decode cX11_init 70 = .ok (.newarray .int, 2) := by decide +kernel
theorem dX11_init_72 : decode cX11_init 72 = .ok (.putfield 36, 3) := by decide +kernel
theorem dX11_init_75 : decode cX11_init 75 = .ok (.aload_n 0, 1) := by decide +kernel
theorem dX11_init_76 : decode cX11_init 76 = .ok (.bipush 103, 2) := by decide +kernel
theorem dX11_init_78 : decode cX11_init 78 = .ok (.newarray .int, 2) := by decide +kernel
theorem dX11_init_80 : decode cX11_init 80 = .ok (.putfield 39, 3) := by decide +kernel
theorem dX11_init_83 : decode cX11_init 83 = .ok (.aload_n 0, 1) := by decide +kernel
theorem dX11_init_84 : decode cX11_init 84 = .ok (.iconst 3, 1) := by decide +kernel
theorem dX11_init_85 : decode cX11_init 85 = .ok (.newarray .int, 2) := by decide +kernel
theorem dX11_init_87 : decode cX11_init 87 = .ok (.putfield 42, 3) := by decide +kernel
theorem dX11_init_90 : decode cX11_init 90 = .ok (.aload_n 0, 1) := by decide +kernel
theorem dX11_init_91 : decode cX11_init 91 = .ok (.getfield 7, 3) := by decide +kernel
theorem dX11_init_94 : decode cX11_init 94 = .ok (.bipush 10, 2) := by decide +kernel
theorem dX11_init_96 : decode cX11_init 96 = .ok (.invokestatic 45, 3) := by decide +kernel
theorem dX11_init_99 : decode cX11_init 99 = .ok (.return_, 1) := by decide +kernel
theorem dX11_in_0 : decode cX11_in 0 = .ok (.lload_n 0, 1) := by decide +kernel
theorem dX11_in_1 : decode cX11_in 1 = .ok (.lload_n 2, 1) := by decide +kernel
theorem dX11_in_2 : decode cX11_in 2 = .ok (.lcmp, 1) := by decide +kernel
theorem dX11_in_3 : decode cX11_in 3 = .ok (.ifCond .lt 14, 3) := by decide +kernel
theorem dX11_in_6 : decode cX11_in 6 = .ok (.lload_n 0, 1) := by decide +kernel
theorem dX11_in_7 : decode cX11_in 7 = .ok (.lload 4, 2) := by decide +kernel
theorem dX11_in_9 : decode cX11_in 9 = .ok (.lcmp, 1) := by decide +kernel
theorem dX11_in_10 : decode cX11_in 10 = .ok (.ifCond .gt 7, 3) := by decide +kernel
theorem dX11_in_13 : decode cX11_in 13 = .ok (.iconst 1, 1) := by decide +kernel
theorem dX11_in_14 : decode cX11_in 14 = .ok (.goto 4, 3) := by decide +kernel
theorem dX11_in_17 : decode cX11_in 17 = .ok (.iconst 0, 1) := by decide +kernel
theorem dX11_in_18 : decode cX11_in 18 = .ok (.ireturn, 1) := by decide +kernel
theorem dX11_bad_0 : decode cX11_bad 0 = .ok (.aload_n 0, 1) := by decide +kernel
theorem dX11_bad_1 : decode cX11_bad 1 = .ok (.getfield 20, 3) := by decide +kernel
theorem dX11_bad_4 : decode cX11_bad 4 = .ok (.iconst 0, 1) := by decide +kernel
theorem dX11_bad_5 : decode cX11_bad 5 = .ok (.dup2, 1) := by decide +kernel
theorem dX11_bad_6 : decode cX11_bad 6 = .ok (.iaload, 1) := by decide +kernel
theorem dX11_bad_7 : decode cX11_bad 7 = .ok (.iconst 1, 1) := by decide +kernel
theorem dX11_bad_8 : decode cX11_bad 8 = .ok (.iadd, 1) := by decide +kernel
theorem dX11_bad_9 : decode cX11_bad 9 = .ok (.iastore, 1) := by decide +kernel
theorem dX11_bad_10 : decode cX11_bad 10 = .ok (.iload_n 1, 1) := by decide +kernel
theorem dX11_bad_11 : decode cX11_bad 11 = .ok (.ireturn, 1) := by decide +kernel
theorem dX11_no_0 : decode cX11_no 0 = .ok (.aload_n 0, 1) := by decide +kernel
theorem dX11_no_1 : decode cX11_no 1 = .ok (.getfield 20, 3) := by decide +kernel
theorem dX11_no_4 : decode cX11_no 4 = .ok (.iconst 1, 1) := by decide +kernel
theorem dX11_no_5 : decode cX11_no 5 = .ok (.dup2, 1) := by decide +kernel
theorem dX11_no_6 : decode cX11_no 6 = .ok (.iaload, 1) := by decide +kernel
theorem dX11_no_7 : decode cX11_no 7 = .ok (.iconst 1, 1) := by decide +kernel
theorem dX11_no_8 : decode cX11_no 8 = .ok (.iadd, 1) := by decide +kernel
theorem dX11_no_9 : decode cX11_no 9 = .ok (.iastore, 1) := by decide +kernel
theorem dX11_no_10 : decode cX11_no 10 = .ok (.bipush (-3), 2) := by decide +kernel
theorem dX11_no_12 : decode cX11_no 12 = .ok (.ireturn, 1) := by decide +kernel
theorem dX11_full_0 : decode cX11_full 0 = .ok (.aload_n 0, 1) := by decide +kernel
theorem dX11_full_1 : decode cX11_full 1 = .ok (.getfield 20, 3) := by decide +kernel
theorem dX11_full_4 : decode cX11_full 4 = .ok (.iconst 2, 1) := by decide +kernel
theorem dX11_full_5 : decode cX11_full 5 = .ok (.dup2, 1) := by decide +kernel
theorem dX11_full_6 : decode cX11_full 6 = .ok (.iaload, 1) := by decide +kernel
theorem dX11_full_7 : decode cX11_full 7 = .ok (.iconst 1, 1) := by decide +kernel
theorem dX11_full_8 : decode cX11_full 8 = .ok (.iadd, 1) := by decide +kernel
theorem dX11_full_9 : decode cX11_full 9 = .ok (.iastore, 1) := by decide +kernel
theorem dX11_full_10 : decode cX11_full 10 = .ok (.bipush (-4), 2) := by decide +kernel
theorem dX11_full_12 : decode cX11_full 12 = .ok (.ireturn, 1) := by decide +kernel
theorem dX11_has_0 : decode cX11_has 0 = .ok (.iload_n 0, 1) := by decide +kernel
theorem dX11_has_1 : decode cX11_has 1 = .ok (.iload_n 1, 1) := by decide +kernel
theorem dX11_has_2 : decode cX11_has 2 = .ok (.ishr, 1) := by decide +kernel
theorem dX11_has_3 : decode cX11_has 3 = .ok (.iconst 1, 1) := by decide +kernel
theorem dX11_has_4 : decode cX11_has 4 = .ok (.iand, 1) := by decide +kernel
theorem dX11_has_5 : decode cX11_has 5 = .ok (.iconst 1, 1) := by decide +kernel
theorem dX11_has_6 : decode cX11_has 6 = .ok (.if_icmp .ne 7, 3) := by decide +kernel
theorem dX11_has_9 : decode cX11_has 9 = .ok (.iconst 1, 1) := by decide +kernel
theorem dX11_has_10 : decode cX11_has 10 = .ok (.goto 4, 3) := by decide +kernel
theorem dX11_has_13 : decode cX11_has 13 = .ok (.iconst 0, 1) := by decide +kernel
theorem dX11_has_14 : decode cX11_has 14 = .ok (.ireturn, 1) := by decide +kernel
theorem dX11_begin_0 : decode cX11_begin 0 = .ok (.iconst 0, 1) := by decide +kernel
theorem dX11_begin_1 : decode cX11_begin 1 = .ok (.istore_n 2, 1) := by decide +kernel
theorem dX11_begin_2 : decode cX11_begin 2 = .ok (.iload_n 2, 1) := by decide +kernel
theorem dX11_begin_3 : decode cX11_begin 3 = .ok (.bipush 103, 2) := by decide +kernel
theorem dX11_begin_5 : decode cX11_begin 5 = .ok (.if_icmp .ge 13, 3) := by decide +kernel
theorem dX11_begin_8 : decode cX11_begin 8 = .ok (.aload_n 0, 1) := by decide +kernel
theorem dX11_begin_9 : decode cX11_begin 9 = .ok (.iload_n 2, 1) := by decide +kernel
theorem dX11_begin_10 : decode cX11_begin 10 = .ok (.iconst 0, 1) := by decide +kernel
theorem dX11_begin_11 : decode cX11_begin 11 = .ok (.iastore, 1) := by decide +kernel
theorem dX11_begin_12 : decode cX11_begin 12 = .ok (.iinc 2 1, 3) := by decide +kernel
theorem dX11_begin_15 : decode cX11_begin 15 = .ok (.goto (-13), 3) := by decide +kernel
theorem dX11_begin_18 : decode cX11_begin 18 = .ok (.aload_n 0, 1) := by decide +kernel
theorem dX11_begin_19 : decode cX11_begin 19 = .ok (.iconst 5, 1) := by decide +kernel
theorem dX11_begin_20 : decode cX11_begin 20 = .ok (.iload_n 1, 1) := by decide +kernel
theorem dX11_begin_21 : decode cX11_begin 21 = .ok (.iastore, 1) := by decide +kernel
theorem dX11_begin_22 : decode cX11_begin 22 = .ok (.aload_n 0, 1) := by decide +kernel
theorem dX11_begin_23 : decode cX11_begin 23 = .ok (.bipush 7, 2) := by decide +kernel
theorem dX11_begin_25 : decode cX11_begin 25 = .ok (.iconst 1, 1) := by decide +kernel
theorem dX11_begin_26 : decode cX11_begin 26 = .ok (.iastore, 1) := by decide +kernel
theorem dX11_begin_27 : decode cX11_begin 27 = .ok (.aload_n 0, 1) := by decide +kernel
theorem dX11_begin_28 : decode cX11_begin 28 = .ok (.bipush 9, 2) := by decide +kernel
theorem dX11_begin_30 : decode cX11_begin 30 = .ok (.iconst 1, 1) := by decide +kernel
theorem dX11_begin_31 : decode cX11_begin 31 = .ok (.iastore, 1) := by decide +kernel
theorem dX11_begin_32 : decode cX11_begin 32 = .ok (.return_, 1) := by decide +kernel
theorem dX11_many_0 : decode cX11_many 0 = .ok (.aload_n 0, 1) := by decide +kernel
theorem dX11_many_1 : decode cX11_many 1 = .ok (.getfield 7, 3) := by decide +kernel
theorem dX11_many_4 : decode cX11_many 4 = .ok (.iconst 0, 1) := by decide +kernel
theorem dX11_many_5 : decode cX11_many 5 = .ok (.iaload, 1) := by decide +kernel
theorem dX11_many_6 : decode cX11_many 6 = .ok (.ireturn, 1) := by decide +kernel
theorem dX11_isPlayer_0 : decode cX11_isPlayer 0 = .ok (.iload_n 1, 1) := by decide +kernel
theorem dX11_isPlayer_1 : decode cX11_isPlayer 1 = .ok (.i2l, 1) := by decide +kernel
theorem dX11_isPlayer_2 : decode cX11_isPlayer 2 = .ok (.lconst 0, 1) := by decide +kernel
theorem dX11_isPlayer_3 : decode cX11_isPlayer 3 = .ok (.aload_n 0, 1) := by decide +kernel
theorem dX11_isPlayer_4 : decode cX11_isPlayer 4 = .ok (.invokevirtual 49, 3) := by decide +kernel
theorem dX11_isPlayer_7 : decode cX11_isPlayer 7 = .ok (.iconst 1, 1) := by decide +kernel
theorem dX11_isPlayer_8 : decode cX11_isPlayer 8 = .ok (.isub, 1) := by decide +kernel
theorem dX11_isPlayer_9 : decode cX11_isPlayer 9 = .ok (.i2l, 1) := by decide +kernel
theorem dX11_isPlayer_10 : decode cX11_isPlayer 10 = .ok (.invokestatic 53, 3) := by decide +kernel
theorem dX11_isPlayer_13 : decode cX11_isPlayer 13 = .ok (.ireturn, 1) := by decide +kernel
theorem dX11_isKind_0 : decode cX11_isKind 0 = .ok (.iload_n 0, 1) := by decide +kernel
theorem dX11_isKind_1 : decode cX11_isKind 1 = .ok (.i2l, 1) := by decide +kernel
theorem dX11_isKind_2 : decode cX11_isKind 2 = .ok (.lconst 0, 1) := by decide +kernel
theorem dX11_isKind_3 : decode cX11_isKind 3 = .ok (.ldc2_w 57, 3) := by decide +kernel
theorem dX11_isKind_6 : decode cX11_isKind 6 = .ok (.invokestatic 53, 3) := by decide +kernel
theorem dX11_isKind_9 : decode cX11_isKind 9 = .ok (.ireturn, 1) := by decide +kernel
theorem dX11_isNine_0 : decode cX11_isNine 0 = .ok (.iload_n 0, 1) := by decide +kernel
theorem dX11_isNine_1 : decode cX11_isNine 1 = .ok (.i2l, 1) := by decide +kernel
theorem dX11_isNine_2 : decode cX11_isNine 2 = .ok (.lconst 1, 1) := by decide +kernel
theorem dX11_isNine_3 : decode cX11_isNine 3 = .ok (.ldc2_w 59, 3) := by decide +kernel
theorem dX11_isNine_6 : decode cX11_isNine 6 = .ok (.invokestatic 53, 3) := by decide +kernel
theorem dX11_isNine_9 : decode cX11_isNine 9 = .ok (.ireturn, 1) := by decide +kernel
theorem dX11_isHill_0 : decode cX11_isHill 0 = .ok (.iload_n 0, 1) := by decide +kernel
theorem dX11_isHill_1 : decode cX11_isHill 1 = .ok (.i2l, 1) := by decide +kernel
theorem dX11_isHill_2 : decode cX11_isHill 2 = .ok (.lconst 0, 1) := by decide +kernel
theorem dX11_isHill_3 : decode cX11_isHill 3 = .ok (.lconst 1, 1) := by decide +kernel
theorem dX11_isHill_4 : decode cX11_isHill 4 = .ok (.invokestatic 53, 3) := by decide +kernel
theorem dX11_isHill_7 : decode cX11_isHill 7 = .ok (.ireturn, 1) := by decide +kernel
theorem dX11_isWind_0 : decode cX11_isWind 0 = .ok (.iload_n 0, 1) := by decide +kernel
theorem dX11_isWind_1 : decode cX11_isWind 1 = .ok (.i2l, 1) := by decide +kernel
theorem dX11_isWind_2 : decode cX11_isWind 2 = .ok (.ldc2_w 61, 3) := by decide +kernel
theorem dX11_isWind_5 : decode cX11_isWind 5 = .ok (.ldc2_w 63, 3) := by decide +kernel
theorem dX11_isWind_8 : decode cX11_isWind 8 = .ok (.invokestatic 53, 3) := by decide +kernel
theorem dX11_isWind_11 : decode cX11_isWind 11 = .ok (.ireturn, 1) := by decide +kernel
theorem dX11_valley_0 : decode cX11_valley 0 = .ok (.iload_n 1, 1) := by decide +kernel
theorem dX11_valley_1 : decode cX11_valley 1 = .ok (.i2l, 1) := by decide +kernel
theorem dX11_valley_2 : decode cX11_valley 2 = .ok (.lconst 1, 1) := by decide +kernel
theorem dX11_valley_3 : decode cX11_valley 3 = .ok (.ldc2_w 65, 3) := by decide +kernel
theorem dX11_valley_6 : decode cX11_valley 6 = .ok (.invokestatic 53, 3) := by decide +kernel
theorem dX11_valley_9 : decode cX11_valley 9 = .ok (.ifCond .ne 10, 3) := by decide +kernel
theorem dX11_valley_12 : decode cX11_valley 12 = .ok (.aload_n 0, 1) := by decide +kernel
theorem dX11_valley_13 : decode cX11_valley 13 = .ok (.bipush (-2), 2) := by decide +kernel
theorem dX11_valley_15 : decode cX11_valley 15 = .ok (.invokevirtual 67, 3) := by decide +kernel
theorem dX11_valley_18 : decode cX11_valley 18 = .ok (.ireturn, 1) := by decide +kernel
theorem dX11_valley_19 : decode cX11_valley 19 = .ok (.aload_n 0, 1) := by decide +kernel
theorem dX11_valley_20 : decode cX11_valley 20 = .ok (.invokevirtual 49, 3) := by decide +kernel
theorem dX11_valley_23 : decode cX11_valley 23 = .ok (.istore_n 2, 1) := by decide +kernel
theorem dX11_valley_24 : decode cX11_valley 24 = .ok (.aload_n 0, 1) := by decide +kernel
theorem dX11_valley_25 : decode cX11_valley 25 = .ok (.getfield 7, 3) := by decide +kernel
theorem dX11_valley_28 : decode cX11_valley 28 = .ok (.iload_n 1, 1) := by decide +kernel
theorem dX11_valley_29 : decode cX11_valley 29 = .ok (.invokestatic 45, 3) := by decide +kernel
theorem dX11_valley_32 : decode cX11_valley 32 = .ok (.iload_n 2, 1) := by decide +kernel
theorem dX11_valley_33 : decode cX11_valley 33 = .ok (.ireturn, 1) := by decide +kernel
theorem dX11_wind_0 : decode cX11_wind 0 = .ok (.iload_n 1, 1) := by decide +kernel
theorem dX11_wind_1 : decode cX11_wind 1 = .ok (.i2l, 1) := by decide +kernel
theorem dX11_wind_2 : decode cX11_wind 2 = .ok (.lconst 0, 1) := by decide +kernel
theorem dX11_wind_3 : decode cX11_wind 3 = .ok (.ldc2_w 57, 3) := by decide +kernel
theorem dX11_wind_6 : decode cX11_wind 6 = .ok (.invokestatic 53, 3) := by decide +kernel
theorem dX11_wind_9 : decode cX11_wind 9 = .ok (.ifCond .eq 10, 3) := by decide +kernel
theorem dX11_wind_12 : decode cX11_wind 12 = .ok (.iload_n 2, 1) := by decide +kernel
theorem dX11_wind_13 : decode cX11_wind 13 = .ok (.invokestatic 71, 3) := by decide +kernel
theorem dX11_wind_16 : decode cX11_wind 16 = .ok (.ifCond .ne 10, 3) := by decide +kernel
theorem dX11_wind_19 : decode cX11_wind 19 = .ok (.aload_n 0, 1) := by decide +kernel
theorem dX11_wind_20 : decode cX11_wind 20 = .ok (.bipush (-10), 2) := by decide +kernel
theorem dX11_wind_22 : decode cX11_wind 22 = .ok (.invokevirtual 67, 3) := by decide +kernel
theorem dX11_wind_25 : decode cX11_wind 25 = .ok (.ireturn, 1) := by decide +kernel
theorem dX11_wind_26 : decode cX11_wind 26 = .ok (.aload_n 0, 1) := by decide +kernel
theorem dX11_wind_27 : decode cX11_wind 27 = .ok (.getfield 7, 3) := by decide +kernel
theorem dX11_wind_30 : decode cX11_wind 30 = .ok (.bipush 13, 2) := by decide +kernel
theorem dX11_wind_32 : decode cX11_wind 32 = .ok (.iload_n 1, 1) := by decide +kernel
theorem dX11_wind_33 : decode cX11_wind 33 = .ok (.iadd, 1) := by decide +kernel
theorem dX11_wind_34 : decode cX11_wind 34 = .ok (.iaload, 1) := by decide +kernel
theorem dX11_wind_35 : decode cX11_wind 35 = .ok (.istore_n 3, 1) := by decide +kernel
theorem dX11_wind_36 : decode cX11_wind 36 = .ok (.aload_n 0, 1) := by decide +kernel
theorem dX11_wind_37 : decode cX11_wind 37 = .ok (.getfield 7, 3) := by decide +kernel
theorem dX11_wind_40 : decode cX11_wind 40 = .ok (.bipush 13, 2) := by decide +kernel
theorem dX11_wind_42 : decode cX11_wind 42 = .ok (.iload_n 1, 1) := by decide +kernel
theorem dX11_wind_43 : decode cX11_wind 43 = .ok (.iadd, 1) := by decide +kernel
theorem dX11_wind_44 : decode cX11_wind 44 = .ok (.iload_n 2, 1) := by decide +kernel
theorem dX11_wind_45 : decode cX11_wind 45 = .ok (.iastore, 1) := by decide +kernel
theorem dX11_wind_46 : decode cX11_wind 46 = .ok (.aload_n 0, 1) := by decide +kernel
theorem dX11_wind_47 : decode cX11_wind 47 = .ok (.getfield 7, 3) := by decide +kernel
theorem dX11_wind_50 : decode cX11_wind 50 = .ok (.iconst 4, 1) := by decide +kernel
theorem dX11_wind_51 : decode cX11_wind 51 = .ok (.iconst 0, 1) := by decide +kernel
theorem dX11_wind_52 : decode cX11_wind 52 = .ok (.iastore, 1) := by decide +kernel
theorem dX11_wind_53 : decode cX11_wind 53 = .ok (.iload_n 3, 1) := by decide +kernel
theorem dX11_wind_54 : decode cX11_wind 54 = .ok (.ireturn, 1) := by decide +kernel
theorem dX11_layPlayer_0 : decode cX11_layPlayer 0 = .ok (.aload_n 0, 1) := by decide +kernel
theorem dX11_layPlayer_1 : decode cX11_layPlayer 1 = .ok (.iconst 0, 1) := by decide +kernel
theorem dX11_layPlayer_2 : decode cX11_layPlayer 2 = .ok (.iaload, 1) := by decide +kernel
theorem dX11_layPlayer_3 : decode cX11_layPlayer 3 = .ok (.istore 4, 2) := by decide +kernel
theorem dX11_layPlayer_5 : decode cX11_layPlayer 5 = .ok (.aload_n 0, 1) := by decide +kernel
theorem dX11_layPlayer_6 : decode cX11_layPlayer 6 = .ok (.bipush 19, 2) := by decide +kernel
theorem dX11_layPlayer_8 : decode cX11_layPlayer 8 = .ok (.iload 4, 2) := by decide +kernel
theorem dX11_layPlayer_10 : decode cX11_layPlayer 10 = .ok (.iadd, 1) := by decide +kernel
theorem dX11_layPlayer_11 : decode cX11_layPlayer 11 = .ok (.iload_n 1, 1) := by decide +kernel
theorem dX11_layPlayer_12 : decode cX11_layPlayer 12 = .ok (.iastore, 1) := by decide +kernel
theorem dX11_layPlayer_13 : decode cX11_layPlayer 13 = .ok (.aload_n 0, 1) := by decide +kernel
theorem dX11_layPlayer_14 : decode cX11_layPlayer 14 = .ok (.bipush 26, 2) := by decide +kernel
theorem dX11_layPlayer_16 : decode cX11_layPlayer 16 = .ok (.iload 4, 2) := by decide +kernel
theorem dX11_layPlayer_18 : decode cX11_layPlayer 18 = .ok (.iadd, 1) := by decide +kernel
theorem dX11_layPlayer_19 : decode cX11_layPlayer 19 = .ok (.iload_n 2, 1) := by decide +kernel
theorem dX11_layPlayer_20 : decode cX11_layPlayer 20 = .ok (.iastore, 1) := by decide +kernel
theorem dX11_layPlayer_21 : decode cX11_layPlayer 21 = .ok (.aload_n 0, 1) := by decide +kernel
theorem dX11_layPlayer_22 : decode cX11_layPlayer 22 = .ok (.bipush 33, 2) := by decide +kernel
theorem dX11_layPlayer_24 : decode cX11_layPlayer 24 = .ok (.iload 4, 2) := by decide +kernel
theorem dX11_layPlayer_26 : decode cX11_layPlayer 26 = .ok (.iadd, 1) := by decide +kernel
theorem dX11_layPlayer_27 : decode cX11_layPlayer 27 = .ok (.iload_n 3, 1) := by decide +kernel
theorem dX11_layPlayer_28 : decode cX11_layPlayer 28 = .ok (.iastore, 1) := by decide +kernel
theorem dX11_layPlayer_29 : decode cX11_layPlayer 29 = .ok (.aload_n 0, 1) := by decide +kernel
theorem dX11_layPlayer_30 : decode cX11_layPlayer 30 = .ok (.iconst 0, 1) := by decide +kernel
theorem dX11_layPlayer_31 : decode cX11_layPlayer 31 = .ok (.dup2, 1) := by decide +kernel
theorem dX11_layPlayer_32 : decode cX11_layPlayer 32 = .ok (.iaload, 1) := by decide +kernel
theorem dX11_layPlayer_33 : decode cX11_layPlayer 33 = .ok (.iconst 1, 1) := by decide +kernel
theorem dX11_layPlayer_34 : decode cX11_layPlayer 34 = .ok (.iadd, 1) := by decide +kernel
theorem dX11_layPlayer_35 : decode cX11_layPlayer 35 = .ok (.iastore, 1) := by decide +kernel
theorem dX11_layPlayer_36 : decode cX11_layPlayer 36 = .ok (.return_, 1) := by decide +kernel
theorem dX11_player_0 : decode cX11_player 0 = .ok (.iload_n 1, 1) := by decide +kernel
theorem dX11_player_1 : decode cX11_player 1 = .ok (.invokestatic 75, 3) := by decide +kernel
theorem dX11_player_4 : decode cX11_player 4 = .ok (.ifCond .eq 17, 3) := by decide +kernel
theorem dX11_player_7 : decode cX11_player 7 = .ok (.iload_n 2, 1) := by decide +kernel
theorem dX11_player_8 : decode cX11_player 8 = .ok (.invokestatic 78, 3) := by decide +kernel
theorem dX11_player_11 : decode cX11_player 11 = .ok (.ifCond .eq 10, 3) := by decide +kernel
theorem dX11_player_14 : decode cX11_player 14 = .ok (.iload_n 3, 1) := by decide +kernel
theorem dX11_player_15 : decode cX11_player 15 = .ok (.invokestatic 81, 3) := by decide +kernel
theorem dX11_player_18 : decode cX11_player 18 = .ok (.ifCond .ne 10, 3) := by decide +kernel
theorem dX11_player_21 : decode cX11_player 21 = .ok (.aload_n 0, 1) := by decide +kernel
theorem dX11_player_22 : decode cX11_player 22 = .ok (.bipush (-2), 2) := by decide +kernel
theorem dX11_player_24 : decode cX11_player 24 = .ok (.invokevirtual 67, 3) := by decide +kernel
theorem dX11_player_27 : decode cX11_player 27 = .ok (.ireturn, 1) := by decide +kernel
theorem dX11_player_28 : decode cX11_player 28 = .ok (.aload_n 0, 1) := by decide +kernel
theorem dX11_player_29 : decode cX11_player 29 = .ok (.invokevirtual 49, 3) := by decide +kernel
theorem dX11_player_32 : decode cX11_player 32 = .ok (.bipush 7, 2) := by decide +kernel
theorem dX11_player_34 : decode cX11_player 34 = .ok (.if_icmp .ne 8, 3) := by decide +kernel
theorem dX11_player_37 : decode cX11_player 37 = .ok (.aload_n 0, 1) := by decide +kernel
theorem dX11_player_38 : decode cX11_player 38 = .ok (.invokevirtual 84, 3) := by decide +kernel
theorem dX11_player_41 : decode cX11_player 41 = .ok (.ireturn, 1) := by decide +kernel
theorem dX11_player_42 : decode cX11_player 42 = .ok (.aload_n 0, 1) := by decide +kernel
theorem dX11_player_43 : decode cX11_player 43 = .ok (.getfield 7, 3) := by decide +kernel
theorem dX11_player_46 : decode cX11_player 46 = .ok (.iload_n 1, 1) := by decide +kernel
theorem dX11_player_47 : decode cX11_player 47 = .ok (.iload_n 2, 1) := by decide +kernel
theorem dX11_player_48 : decode cX11_player 48 = .ok (.iload_n 3, 1) := by decide +kernel
theorem dX11_player_49 : decode cX11_player 49 = .ok (.invokestatic 87, 3) := by decide +kernel
theorem dX11_player_52 : decode cX11_player 52 = .ok (.aload_n 0, 1) := by decide +kernel
theorem dX11_player_53 : decode cX11_player 53 = .ok (.getfield 7, 3) := by decide +kernel
theorem dX11_player_56 : decode cX11_player 56 = .ok (.iconst 4, 1) := by decide +kernel
theorem dX11_player_57 : decode cX11_player 57 = .ok (.iconst 0, 1) := by decide +kernel
theorem dX11_player_58 : decode cX11_player 58 = .ok (.iastore, 1) := by decide +kernel
theorem dX11_player_59 : decode cX11_player 59 = .ok (.aload_n 0, 1) := by decide +kernel
theorem dX11_player_60 : decode cX11_player 60 = .ok (.invokevirtual 49, 3) := by decide +kernel
theorem dX11_player_63 : decode cX11_player 63 = .ok (.iconst 1, 1) := by decide +kernel
theorem dX11_player_64 : decode cX11_player 64 = .ok (.isub, 1) := by decide +kernel
theorem dX11_player_65 : decode cX11_player 65 = .ok (.ireturn, 1) := by decide +kernel
theorem dX11_fliesAs_0 : decode cX11_fliesAs 0 = .ok (.iload_n 2, 1) := by decide +kernel
theorem dX11_fliesAs_1 : decode cX11_fliesAs 1 = .ok (.iload_n 3, 1) := by decide +kernel
theorem dX11_fliesAs_2 : decode cX11_fliesAs 2 = .ok (.iadd, 1) := by decide +kernel
theorem dX11_fliesAs_3 : decode cX11_fliesAs 3 = .ok (.iload_n 1, 1) := by decide +kernel
theorem dX11_fliesAs_4 : decode cX11_fliesAs 4 = .ok (.if_icmp .le 11, 3) := by decide +kernel
theorem dX11_fliesAs_7 : decode cX11_fliesAs 7 = .ok (.iload_n 2, 1) := by decide +kernel
theorem dX11_fliesAs_8 : decode cX11_fliesAs 8 = .ok (.iload_n 3, 1) := by decide +kernel
theorem dX11_fliesAs_9 : decode cX11_fliesAs 9 = .ok (.iadd, 1) := by decide +kernel
theorem dX11_fliesAs_10 : decode cX11_fliesAs 10 = .ok (.iload_n 1, 1) := by decide +kernel
theorem dX11_fliesAs_11 : decode cX11_fliesAs 11 = .ok (.isub, 1) := by decide +kernel
theorem dX11_fliesAs_12 : decode cX11_fliesAs 12 = .ok (.goto 4, 3) := by decide +kernel
theorem dX11_fliesAs_15 : decode cX11_fliesAs 15 = .ok (.iconst 0, 1) := by decide +kernel
theorem dX11_fliesAs_16 : decode cX11_fliesAs 16 = .ok (.istore 4, 2) := by decide +kernel
theorem dX11_fliesAs_18 : decode cX11_fliesAs 18 = .ok (.iload 4, 2) := by decide +kernel
theorem dX11_fliesAs_20 : decode cX11_fliesAs 20 = .ok (.iconst 2, 1) := by decide +kernel
theorem dX11_fliesAs_21 : decode cX11_fliesAs 21 = .ok (.iadd, 1) := by decide +kernel
theorem dX11_fliesAs_22 : decode cX11_fliesAs 22 = .ok (.istore 5, 2) := by decide +kernel
theorem dX11_fliesAs_24 : decode cX11_fliesAs 24 = .ok (.iload_n 0, 1) := by decide +kernel
theorem dX11_fliesAs_25 : decode cX11_fliesAs 25 = .ok (.tableswitch 96 1 5 #[35, 38, 45, 60, 77], 35) := by decide +kernel
theorem dX11_fliesAs_60 : decode cX11_fliesAs 60 = .ok (.iload 5, 2) := by decide +kernel
theorem dX11_fliesAs_62 : decode cX11_fliesAs 62 = .ok (.ireturn, 1) := by decide +kernel
theorem dX11_fliesAs_63 : decode cX11_fliesAs 63 = .ok (.iload 4, 2) := by decide +kernel
theorem dX11_fliesAs_65 : decode cX11_fliesAs 65 = .ok (.iconst 1, 1) := by decide +kernel
theorem dX11_fliesAs_66 : decode cX11_fliesAs 66 = .ok (.iadd, 1) := by decide +kernel
theorem dX11_fliesAs_67 : decode cX11_fliesAs 67 = .ok (.iconst 2, 1) := by decide +kernel
theorem dX11_fliesAs_68 : decode cX11_fliesAs 68 = .ok (.idiv, 1) := by decide +kernel
theorem dX11_fliesAs_69 : decode cX11_fliesAs 69 = .ok (.ireturn, 1) := by decide +kernel
theorem dX11_fliesAs_70 : decode cX11_fliesAs 70 = .ok (.iload_n 1, 1) := by decide +kernel
theorem dX11_fliesAs_71 : decode cX11_fliesAs 71 = .ok (.iconst 2, 1) := by decide +kernel
theorem dX11_fliesAs_72 : decode cX11_fliesAs 72 = .ok (.if_icmp .gt 10, 3) := by decide +kernel
theorem dX11_fliesAs_75 : decode cX11_fliesAs 75 = .ok (.iload 5, 2) := by decide +kernel
theorem dX11_fliesAs_77 : decode cX11_fliesAs 77 = .ok (.iconst 3, 1) := by decide +kernel
theorem dX11_fliesAs_78 : decode cX11_fliesAs 78 = .ok (.iadd, 1) := by decide +kernel
theorem dX11_fliesAs_79 : decode cX11_fliesAs 79 = .ok (.goto 5, 3) := by decide +kernel
theorem dX11_fliesAs_82 : decode cX11_fliesAs 82 = .ok (.iload 5, 2) := by decide +kernel
theorem dX11_fliesAs_84 : decode cX11_fliesAs 84 = .ok (.ireturn, 1) := by decide +kernel
theorem dX11_fliesAs_85 : decode cX11_fliesAs 85 = .ok (.iload 4, 2) := by decide +kernel
theorem dX11_fliesAs_87 : decode cX11_fliesAs 87 = .ok (.iload_n 2, 1) := by decide +kernel
theorem dX11_fliesAs_88 : decode cX11_fliesAs 88 = .ok (.iconst 2, 1) := by decide +kernel
theorem dX11_fliesAs_89 : decode cX11_fliesAs 89 = .ok (.idiv, 1) := by decide +kernel
theorem dX11_fliesAs_90 : decode cX11_fliesAs 90 = .ok (.if_icmp .ge 9, 3) := by decide +kernel
theorem dX11_fliesAs_93 : decode cX11_fliesAs 93 = .ok (.iload_n 2, 1) := by decide +kernel
theorem dX11_fliesAs_94 : decode cX11_fliesAs 94 = .ok (.iconst 2, 1) := by decide +kernel
theorem dX11_fliesAs_95 : decode cX11_fliesAs 95 = .ok (.idiv, 1) := by decide +kernel
theorem dX11_fliesAs_96 : decode cX11_fliesAs 96 = .ok (.goto 5, 3) := by decide +kernel
theorem dX11_fliesAs_99 : decode cX11_fliesAs 99 = .ok (.iload 4, 2) := by decide +kernel
theorem dX11_fliesAs_101 : decode cX11_fliesAs 101 = .ok (.ireturn, 1) := by decide +kernel
theorem dX11_fliesAs_102 : decode cX11_fliesAs 102 = .ok (.iconst 2, 1) := by decide +kernel
theorem dX11_fliesAs_103 : decode cX11_fliesAs 103 = .ok (.iload 5, 2) := by decide +kernel
theorem dX11_fliesAs_105 : decode cX11_fliesAs 105 = .ok (.imul, 1) := by decide +kernel
theorem dX11_fliesAs_106 : decode cX11_fliesAs 106 = .ok (.iload_n 1, 1) := by decide +kernel
theorem dX11_fliesAs_107 : decode cX11_fliesAs 107 = .ok (.if_icmp .le 12, 3) := by decide +kernel
theorem dX11_fliesAs_110 : decode cX11_fliesAs 110 = .ok (.iconst 2, 1) := by decide +kernel
theorem dX11_fliesAs_111 : decode cX11_fliesAs 111 = .ok (.iload 5, 2) := by decide +kernel
theorem dX11_fliesAs_113 : decode cX11_fliesAs 113 = .ok (.imul, 1) := by decide +kernel
theorem dX11_fliesAs_114 : decode cX11_fliesAs 114 = .ok (.iload_n 1, 1) := by decide +kernel
theorem dX11_fliesAs_115 : decode cX11_fliesAs 115 = .ok (.isub, 1) := by decide +kernel
theorem dX11_fliesAs_116 : decode cX11_fliesAs 116 = .ok (.goto 4, 3) := by decide +kernel
theorem dX11_fliesAs_119 : decode cX11_fliesAs 119 = .ok (.iconst 0, 1) := by decide +kernel
theorem dX11_fliesAs_120 : decode cX11_fliesAs 120 = .ok (.ireturn, 1) := by decide +kernel
theorem dX11_fliesAs_121 : decode cX11_fliesAs 121 = .ok (.iload 4, 2) := by decide +kernel
theorem dX11_fliesAs_123 : decode cX11_fliesAs 123 = .ok (.ireturn, 1) := by decide +kernel
theorem dX11_hitsAs_0 : decode cX11_hitsAs 0 = .ok (.iload_n 1, 1) := by decide +kernel
theorem dX11_hitsAs_1 : decode cX11_hitsAs 1 = .ok (.bipush 6, 2) := by decide +kernel
theorem dX11_hitsAs_3 : decode cX11_hitsAs 3 = .ok (.iadd, 1) := by decide +kernel
theorem dX11_hitsAs_4 : decode cX11_hitsAs 4 = .ok (.istore_n 3, 1) := by decide +kernel
theorem dX11_hitsAs_5 : decode cX11_hitsAs 5 = .ok (.iload_n 3, 1) := by decide +kernel
theorem dX11_hitsAs_6 : decode cX11_hitsAs 6 = .ok (.iconst 1, 1) := by decide +kernel
theorem dX11_hitsAs_7 : decode cX11_hitsAs 7 = .ok (.iadd, 1) := by decide +kernel
theorem dX11_hitsAs_8 : decode cX11_hitsAs 8 = .ok (.iconst 2, 1) := by decide +kernel
theorem dX11_hitsAs_9 : decode cX11_hitsAs 9 = .ok (.idiv, 1) := by decide +kernel
theorem dX11_hitsAs_10 : decode cX11_hitsAs 10 = .ok (.istore 4, 2) := by decide +kernel
theorem dX11_hitsAs_12 : decode cX11_hitsAs 12 = .ok (.iload_n 0, 1) := by decide +kernel
theorem dX11_hitsAs_13 : decode cX11_hitsAs 13 = .ok (.tableswitch 85 1 5 #[35, 38, 42, 55, 68], 35) := by decide +kernel
theorem dX11_hitsAs_48 : decode cX11_hitsAs 48 = .ok (.iload 4, 2) := by decide +kernel
theorem dX11_hitsAs_50 : decode cX11_hitsAs 50 = .ok (.ireturn, 1) := by decide +kernel
theorem dX11_hitsAs_51 : decode cX11_hitsAs 51 = .ok (.iload_n 3, 1) := by decide +kernel
theorem dX11_hitsAs_52 : decode cX11_hitsAs 52 = .ok (.iconst 5, 1) := by decide +kernel
theorem dX11_hitsAs_53 : decode cX11_hitsAs 53 = .ok (.iadd, 1) := by decide +kernel
theorem dX11_hitsAs_54 : decode cX11_hitsAs 54 = .ok (.ireturn, 1) := by decide +kernel
theorem dX11_hitsAs_55 : decode cX11_hitsAs 55 = .ok (.iload_n 2, 1) := by decide +kernel
theorem dX11_hitsAs_56 : decode cX11_hitsAs 56 = .ok (.bipush 6, 2) := by decide +kernel
theorem dX11_hitsAs_58 : decode cX11_hitsAs 58 = .ok (.if_icmp .ge 7, 3) := by decide +kernel
theorem dX11_hitsAs_61 : decode cX11_hitsAs 61 = .ok (.iconst 0, 1) := by decide +kernel
theorem dX11_hitsAs_62 : decode cX11_hitsAs 62 = .ok (.goto 5, 3) := by decide +kernel
theorem dX11_hitsAs_65 : decode cX11_hitsAs 65 = .ok (.iload 4, 2) := by decide +kernel
theorem dX11_hitsAs_67 : decode cX11_hitsAs 67 = .ok (.ireturn, 1) := by decide +kernel
theorem dX11_hitsAs_68 : decode cX11_hitsAs 68 = .ok (.iload_n 2, 1) := by decide +kernel
theorem dX11_hitsAs_69 : decode cX11_hitsAs 69 = .ok (.bipush 7, 2) := by decide +kernel
theorem dX11_hitsAs_71 : decode cX11_hitsAs 71 = .ok (.irem, 1) := by decide +kernel
theorem dX11_hitsAs_72 : decode cX11_hitsAs 72 = .ok (.ifCond .ne 7, 3) := by decide +kernel
theorem dX11_hitsAs_75 : decode cX11_hitsAs 75 = .ok (.iconst 1, 1) := by decide +kernel
theorem dX11_hitsAs_76 : decode cX11_hitsAs 76 = .ok (.goto 4, 3) := by decide +kernel
theorem dX11_hitsAs_79 : decode cX11_hitsAs 79 = .ok (.iload_n 3, 1) := by decide +kernel
theorem dX11_hitsAs_80 : decode cX11_hitsAs 80 = .ok (.ireturn, 1) := by decide +kernel
theorem dX11_hitsAs_81 : decode cX11_hitsAs 81 = .ok (.iload_n 2, 1) := by decide +kernel
theorem dX11_hitsAs_82 : decode cX11_hitsAs 82 = .ok (.bipush 18, 2) := by decide +kernel
theorem dX11_hitsAs_84 : decode cX11_hitsAs 84 = .ok (.if_icmp .lt 10, 3) := by decide +kernel
theorem dX11_hitsAs_87 : decode cX11_hitsAs 87 = .ok (.iload_n 3, 1) := by decide +kernel
theorem dX11_hitsAs_88 : decode cX11_hitsAs 88 = .ok (.bipush 9, 2) := by decide +kernel
theorem dX11_hitsAs_90 : decode cX11_hitsAs 90 = .ok (.iadd, 1) := by decide +kernel
theorem dX11_hitsAs_91 : decode cX11_hitsAs 91 = .ok (.goto 6, 3) := by decide +kernel
theorem dX11_hitsAs_94 : decode cX11_hitsAs 94 = .ok (.iload_n 3, 1) := by decide +kernel
theorem dX11_hitsAs_95 : decode cX11_hitsAs 95 = .ok (.iconst 5, 1) := by decide +kernel
theorem dX11_hitsAs_96 : decode cX11_hitsAs 96 = .ok (.iadd, 1) := by decide +kernel
theorem dX11_hitsAs_97 : decode cX11_hitsAs 97 = .ok (.ireturn, 1) := by decide +kernel
theorem dX11_hitsAs_98 : decode cX11_hitsAs 98 = .ok (.iload_n 3, 1) := by decide +kernel
theorem dX11_hitsAs_99 : decode cX11_hitsAs 99 = .ok (.ireturn, 1) := by decide +kernel
theorem dX11_helps_0 : decode cX11_helps 0 = .ok (.aload_n 0, 1) := by decide +kernel
theorem dX11_helps_1 : decode cX11_helps 1 = .ok (.bipush 13, 2) := by decide +kernel
theorem dX11_helps_3 : decode cX11_helps 3 = .ok (.iload_n 2, 1) := by decide +kernel
theorem dX11_helps_4 : decode cX11_helps 4 = .ok (.bipush 6, 2) := by decide +kernel
theorem dX11_helps_6 : decode cX11_helps 6 = .ok (.irem, 1) := by decide +kernel
theorem dX11_helps_7 : decode cX11_helps 7 = .ok (.iadd, 1) := by decide +kernel
theorem dX11_helps_8 : decode cX11_helps 8 = .ok (.iaload, 1) := by decide +kernel
theorem dX11_helps_9 : decode cX11_helps 9 = .ok (.istore_n 3, 1) := by decide +kernel
theorem dX11_helps_10 : decode cX11_helps 10 = .ok (.iload_n 1, 1) := by decide +kernel
theorem dX11_helps_11 : decode cX11_helps 11 = .ok (.ifCond .ne 7, 3) := by decide +kernel
theorem dX11_helps_14 : decode cX11_helps 14 = .ok (.iload_n 3, 1) := by decide +kernel
theorem dX11_helps_15 : decode cX11_helps 15 = .ok (.goto 5, 3) := by decide +kernel
theorem dX11_helps_18 : decode cX11_helps 18 = .ok (.iload_n 3, 1) := by decide +kernel
theorem dX11_helps_19 : decode cX11_helps 19 = .ok (.ineg, 1) := by decide +kernel
theorem dX11_helps_20 : decode cX11_helps 20 = .ok (.ireturn, 1) := by decide +kernel
theorem dX11_reachFrom_0 : decode cX11_reachFrom 0 = .ok (.aload_n 0, 1) := by decide +kernel
theorem dX11_reachFrom_1 : decode cX11_reachFrom 1 = .ok (.bipush 6, 2) := by decide +kernel
theorem dX11_reachFrom_3 : decode cX11_reachFrom 3 = .ok (.iaload, 1) := by decide +kernel
theorem dX11_reachFrom_4 : decode cX11_reachFrom 4 = .ok (.iload 4, 2) := by decide +kernel
theorem dX11_reachFrom_6 : decode cX11_reachFrom 6 = .ok (.aload_n 0, 1) := by decide +kernel
theorem dX11_reachFrom_7 : decode cX11_reachFrom 7 = .ok (.bipush 19, 2) := by decide +kernel
theorem dX11_reachFrom_9 : decode cX11_reachFrom 9 = .ok (.iload_n 1, 1) := by decide +kernel
theorem dX11_reachFrom_10 : decode cX11_reachFrom 10 = .ok (.iadd, 1) := by decide +kernel
theorem dX11_reachFrom_11 : decode cX11_reachFrom 11 = .ok (.iaload, 1) := by decide +kernel
theorem dX11_reachFrom_12 : decode cX11_reachFrom 12 = .ok (.aload_n 0, 1) := by decide +kernel
theorem dX11_reachFrom_13 : decode cX11_reachFrom 13 = .ok (.bipush 33, 2) := by decide +kernel
theorem dX11_reachFrom_15 : decode cX11_reachFrom 15 = .ok (.iload_n 1, 1) := by decide +kernel
theorem dX11_reachFrom_16 : decode cX11_reachFrom 16 = .ok (.iadd, 1) := by decide +kernel
theorem dX11_reachFrom_17 : decode cX11_reachFrom 17 = .ok (.iaload, 1) := by decide +kernel
theorem dX11_reachFrom_18 : decode cX11_reachFrom 18 = .ok (.iload_n 3, 1) := by decide +kernel
theorem dX11_reachFrom_19 : decode cX11_reachFrom 19 = .ok (.bipush 24, 2) := by decide +kernel
theorem dX11_reachFrom_21 : decode cX11_reachFrom 21 = .ok (.irem, 1) := by decide +kernel
theorem dX11_reachFrom_22 : decode cX11_reachFrom 22 = .ok (.invokestatic 91, 3) := by decide +kernel
theorem dX11_reachFrom_25 : decode cX11_reachFrom 25 = .ok (.aload_n 0, 1) := by decide +kernel
theorem dX11_reachFrom_26 : decode cX11_reachFrom 26 = .ok (.iload_n 2, 1) := by decide +kernel
theorem dX11_reachFrom_27 : decode cX11_reachFrom 27 = .ok (.iload_n 3, 1) := by decide +kernel
theorem dX11_reachFrom_28 : decode cX11_reachFrom 28 = .ok (.invokestatic 95, 3) := by decide +kernel
theorem dX11_reachFrom_31 : decode cX11_reachFrom 31 = .ok (.invokestatic 99, 3) := by decide +kernel
theorem dX11_reachFrom_34 : decode cX11_reachFrom 34 = .ok (.ireturn, 1) := by decide +kernel
theorem dX11_carries_0 : decode cX11_carries 0 = .ok (.aload_n 0, 1) := by decide +kernel
theorem dX11_carries_1 : decode cX11_carries 1 = .ok (.iload_n 1, 1) := by decide +kernel
theorem dX11_carries_2 : decode cX11_carries 2 = .ok (.iload_n 2, 1) := by decide +kernel
theorem dX11_carries_3 : decode cX11_carries 3 = .ok (.iload_n 3, 1) := by decide +kernel
theorem dX11_carries_4 : decode cX11_carries 4 = .ok (.aload_n 0, 1) := by decide +kernel
theorem dX11_carries_5 : decode cX11_carries 5 = .ok (.bipush 7, 2) := by decide +kernel
theorem dX11_carries_7 : decode cX11_carries 7 = .ok (.iaload, 1) := by decide +kernel
theorem dX11_carries_8 : decode cX11_carries 8 = .ok (.invokestatic 103, 3) := by decide +kernel
theorem dX11_carries_11 : decode cX11_carries 11 = .ok (.aload_n 0, 1) := by decide +kernel
theorem dX11_carries_12 : decode cX11_carries 12 = .ok (.iconst 5, 1) := by decide +kernel
theorem dX11_carries_13 : decode cX11_carries 13 = .ok (.iaload, 1) := by decide +kernel
theorem dX11_carries_14 : decode cX11_carries 14 = .ok (.if_icmp .lt 7, 3) := by decide +kernel
theorem dX11_carries_17 : decode cX11_carries 17 = .ok (.iconst 1, 1) := by decide +kernel
theorem dX11_carries_18 : decode cX11_carries 18 = .ok (.goto 4, 3) := by decide +kernel
theorem dX11_carries_21 : decode cX11_carries 21 = .ok (.iconst 0, 1) := by decide +kernel
theorem dX11_carries_22 : decode cX11_carries 22 = .ok (.ireturn, 1) := by decide +kernel
theorem dX11_save_0 : decode cX11_save 0 = .ok (.aload_n 0, 1) := by decide +kernel
theorem dX11_save_1 : decode cX11_save 1 = .ok (.getfield 7, 3) := by decide +kernel
theorem dX11_save_4 : decode cX11_save 4 = .ok (.iconst 4, 1) := by decide +kernel
theorem dX11_save_5 : decode cX11_save 5 = .ok (.iaload, 1) := by decide +kernel
theorem dX11_save_6 : decode cX11_save 6 = .ok (.bipush 8, 2) := by decide +kernel
theorem dX11_save_8 : decode cX11_save 8 = .ok (.if_icmp .ne 43, 3) := by decide +kernel
theorem dX11_save_11 : decode cX11_save 11 = .ok (.iconst 0, 1) := by decide +kernel
theorem dX11_save_12 : decode cX11_save 12 = .ok (.istore_n 1, 1) := by decide +kernel
theorem dX11_save_13 : decode cX11_save 13 = .ok (.iload_n 1, 1) := by decide +kernel
theorem dX11_save_14 : decode cX11_save 14 = .ok (.bipush 49, 2) := by decide +kernel
theorem dX11_save_16 : decode cX11_save 16 = .ok (.if_icmp .ge 27, 3) := by decide +kernel
theorem dX11_save_19 : decode cX11_save 19 = .ok (.aload_n 0, 1) := by decide +kernel
theorem dX11_save_20 : decode cX11_save 20 = .ok (.getfield 7, 3) := by decide +kernel
theorem dX11_save_23 : decode cX11_save 23 = .ok (.bipush 103, 2) := by decide +kernel
theorem dX11_save_25 : decode cX11_save 25 = .ok (.iload_n 1, 1) := by decide +kernel
theorem dX11_save_26 : decode cX11_save 26 = .ok (.iadd, 1) := by decide +kernel
theorem dX11_save_27 : decode cX11_save 27 = .ok (.aload_n 0, 1) := by decide +kernel
theorem dX11_save_28 : decode cX11_save 28 = .ok (.getfield 7, 3) := by decide +kernel
theorem dX11_save_31 : decode cX11_save 31 = .ok (.bipush 110, 2) := by decide +kernel
theorem dX11_save_33 : decode cX11_save 33 = .ok (.iload_n 1, 1) := by decide +kernel
theorem dX11_save_34 : decode cX11_save 34 = .ok (.iadd, 1) := by decide +kernel
theorem dX11_save_35 : decode cX11_save 35 = .ok (.iaload, 1) := by decide +kernel
theorem dX11_save_36 : decode cX11_save 36 = .ok (.iastore, 1) := by decide +kernel
theorem dX11_save_37 : decode cX11_save 37 = .ok (.iinc 1 1, 3) := by decide +kernel
theorem dX11_save_40 : decode cX11_save 40 = .ok (.goto (-27), 3) := by decide +kernel
theorem dX11_save_43 : decode cX11_save 43 = .ok (.aload_n 0, 1) := by decide +kernel
theorem dX11_save_44 : decode cX11_save 44 = .ok (.getfield 7, 3) := by decide +kernel
theorem dX11_save_47 : decode cX11_save 47 = .ok (.iconst 4, 1) := by decide +kernel
theorem dX11_save_48 : decode cX11_save 48 = .ok (.bipush 7, 2) := by decide +kernel
theorem dX11_save_50 : decode cX11_save 50 = .ok (.iastore, 1) := by decide +kernel
theorem dX11_save_51 : decode cX11_save 51 = .ok (.iconst 0, 1) := by decide +kernel
theorem dX11_save_52 : decode cX11_save 52 = .ok (.istore_n 1, 1) := by decide +kernel
theorem dX11_save_53 : decode cX11_save 53 = .ok (.iload_n 1, 1) := by decide +kernel
theorem dX11_save_54 : decode cX11_save 54 = .ok (.bipush 7, 2) := by decide +kernel
theorem dX11_save_56 : decode cX11_save 56 = .ok (.if_icmp .ge 37, 3) := by decide +kernel
theorem dX11_save_59 : decode cX11_save 59 = .ok (.aload_n 0, 1) := by decide +kernel
theorem dX11_save_60 : decode cX11_save 60 = .ok (.getfield 7, 3) := by decide +kernel
theorem dX11_save_63 : decode cX11_save 63 = .ok (.bipush 103, 2) := by decide +kernel
theorem dX11_save_65 : decode cX11_save 65 = .ok (.bipush 7, 2) := by decide +kernel
theorem dX11_save_67 : decode cX11_save 67 = .ok (.aload_n 0, 1) := by decide +kernel
theorem dX11_save_68 : decode cX11_save 68 = .ok (.getfield 7, 3) := by decide +kernel
theorem dX11_save_71 : decode cX11_save 71 = .ok (.iconst 4, 1) := by decide +kernel
theorem dX11_save_72 : decode cX11_save 72 = .ok (.iaload, 1) := by decide +kernel
theorem dX11_save_73 : decode cX11_save 73 = .ok (.imul, 1) := by decide +kernel
theorem dX11_save_74 : decode cX11_save 74 = .ok (.iadd, 1) := by decide +kernel
theorem dX11_save_75 : decode cX11_save 75 = .ok (.iload_n 1, 1) := by decide +kernel
theorem dX11_save_76 : decode cX11_save 76 = .ok (.iadd, 1) := by decide +kernel
theorem dX11_save_77 : decode cX11_save 77 = .ok (.aload_n 0, 1) := by decide +kernel
theorem dX11_save_78 : decode cX11_save 78 = .ok (.getfield 7, 3) := by decide +kernel
theorem dX11_save_81 : decode cX11_save 81 = .ok (.bipush 6, 2) := by decide +kernel
theorem dX11_save_83 : decode cX11_save 83 = .ok (.iload_n 1, 1) := by decide +kernel
theorem dX11_save_84 : decode cX11_save 84 = .ok (.iadd, 1) := by decide +kernel
theorem dX11_save_85 : decode cX11_save 85 = .ok (.iaload, 1) := by decide +kernel
theorem dX11_save_86 : decode cX11_save 86 = .ok (.iastore, 1) := by decide +kernel
theorem dX11_save_87 : decode cX11_save 87 = .ok (.iinc 1 1, 3) := by decide +kernel
theorem dX11_save_90 : decode cX11_save 90 = .ok (.goto (-37), 3) := by decide +kernel
theorem dX11_save_93 : decode cX11_save 93 = .ok (.aload_n 0, 1) := by decide +kernel
theorem dX11_save_94 : decode cX11_save 94 = .ok (.getfield 7, 3) := by decide +kernel
theorem dX11_save_97 : decode cX11_save 97 = .ok (.iconst 4, 1) := by decide +kernel
theorem dX11_save_98 : decode cX11_save 98 = .ok (.dup2, 1) := by decide +kernel
theorem dX11_save_99 : decode cX11_save 99 = .ok (.iaload, 1) := by decide +kernel
theorem dX11_save_100 : decode cX11_save 100 = .ok (.iconst 1, 1) := by decide +kernel
theorem dX11_save_101 : decode cX11_save 101 = .ok (.iadd, 1) := by decide +kernel
theorem dX11_save_102 : decode cX11_save 102 = .ok (.iastore, 1) := by decide +kernel
theorem dX11_save_103 : decode cX11_save 103 = .ok (.return_, 1) := by decide +kernel
theorem dX11_isAt_0 : decode cX11_isAt 0 = .ok (.aload_n 0, 1) := by decide +kernel
theorem dX11_isAt_1 : decode cX11_isAt 1 = .ok (.bipush 9, 2) := by decide +kernel
theorem dX11_isAt_3 : decode cX11_isAt 3 = .ok (.iaload, 1) := by decide +kernel
theorem dX11_isAt_4 : decode cX11_isAt 4 = .ok (.iconst 1, 1) := by decide +kernel
theorem dX11_isAt_5 : decode cX11_isAt 5 = .ok (.if_icmp .ne 20, 3) := by decide +kernel
theorem dX11_isAt_8 : decode cX11_isAt 8 = .ok (.aload_n 0, 1) := by decide +kernel
theorem dX11_isAt_9 : decode cX11_isAt 9 = .ok (.bipush 26, 2) := by decide +kernel
theorem dX11_isAt_11 : decode cX11_isAt 11 = .ok (.iload_n 1, 1) := by decide +kernel
theorem dX11_isAt_12 : decode cX11_isAt 12 = .ok (.iadd, 1) := by decide +kernel
theorem dX11_isAt_13 : decode cX11_isAt 13 = .ok (.iaload, 1) := by decide +kernel
theorem dX11_isAt_14 : decode cX11_isAt 14 = .ok (.aload_n 0, 1) := by decide +kernel
theorem dX11_isAt_15 : decode cX11_isAt 15 = .ok (.bipush 8, 2) := by decide +kernel
theorem dX11_isAt_17 : decode cX11_isAt 17 = .ok (.iaload, 1) := by decide +kernel
theorem dX11_isAt_18 : decode cX11_isAt 18 = .ok (.if_icmp .ne 7, 3) := by decide +kernel
theorem dX11_isAt_21 : decode cX11_isAt 21 = .ok (.iconst 1, 1) := by decide +kernel
theorem dX11_isAt_22 : decode cX11_isAt 22 = .ok (.goto 4, 3) := by decide +kernel
theorem dX11_isAt_25 : decode cX11_isAt 25 = .ok (.iconst 0, 1) := by decide +kernel
theorem dX11_isAt_26 : decode cX11_isAt 26 = .ok (.ireturn, 1) := by decide +kernel
theorem dX11_canHit_0 : decode cX11_canHit 0 = .ok (.aload_n 0, 1) := by decide +kernel
theorem dX11_canHit_1 : decode cX11_canHit 1 = .ok (.iload_n 1, 1) := by decide +kernel
theorem dX11_canHit_2 : decode cX11_canHit 2 = .ok (.invokestatic 107, 3) := by decide +kernel
theorem dX11_canHit_5 : decode cX11_canHit 5 = .ok (.ifCond .eq 17, 3) := by decide +kernel
theorem dX11_canHit_8 : decode cX11_canHit 8 = .ok (.aload_n 0, 1) := by decide +kernel
theorem dX11_canHit_9 : decode cX11_canHit 9 = .ok (.bipush 12, 2) := by decide +kernel
theorem dX11_canHit_11 : decode cX11_canHit 11 = .ok (.iaload, 1) := by decide +kernel
theorem dX11_canHit_12 : decode cX11_canHit 12 = .ok (.sipush 9999, 3) := by decide +kernel
theorem dX11_canHit_15 : decode cX11_canHit 15 = .ok (.if_icmp .ge 7, 3) := by decide +kernel
theorem dX11_canHit_18 : decode cX11_canHit 18 = .ok (.iconst 1, 1) := by decide +kernel
theorem dX11_canHit_19 : decode cX11_canHit 19 = .ok (.goto 4, 3) := by decide +kernel
theorem dX11_canHit_22 : decode cX11_canHit 22 = .ok (.iconst 0, 1) := by decide +kernel
theorem dX11_canHit_23 : decode cX11_canHit 23 = .ok (.ireturn, 1) := by decide +kernel
theorem dX11_more_0 : decode cX11_more 0 = .ok (.iload_n 0, 1) := by decide +kernel
theorem dX11_more_1 : decode cX11_more 1 = .ok (.sipush 9999, 3) := by decide +kernel
theorem dX11_more_4 : decode cX11_more 4 = .ok (.if_icmp .ge 9, 3) := by decide +kernel
theorem dX11_more_7 : decode cX11_more 7 = .ok (.iload_n 0, 1) := by decide +kernel
theorem dX11_more_8 : decode cX11_more 8 = .ok (.iconst 1, 1) := by decide +kernel
theorem dX11_more_9 : decode cX11_more 9 = .ok (.iadd, 1) := by decide +kernel
theorem dX11_more_10 : decode cX11_more 10 = .ok (.goto 6, 3) := by decide +kernel
theorem dX11_more_13 : decode cX11_more 13 = .ok (.sipush 9999, 3) := by decide +kernel
theorem dX11_more_16 : decode cX11_more 16 = .ok (.ireturn, 1) := by decide +kernel
theorem dX11_goHit_0 : decode cX11_goHit 0 = .ok (.aload_n 0, 1) := by decide +kernel
theorem dX11_goHit_1 : decode cX11_goHit 1 = .ok (.iload_n 1, 1) := by decide +kernel
theorem dX11_goHit_2 : decode cX11_goHit 2 = .ok (.aload_n 0, 1) := by decide +kernel
theorem dX11_goHit_3 : decode cX11_goHit 3 = .ok (.bipush 8, 2) := by decide +kernel
theorem dX11_goHit_5 : decode cX11_goHit 5 = .ok (.iaload, 1) := by decide +kernel
theorem dX11_goHit_6 : decode cX11_goHit 6 = .ok (.aload_n 0, 1) := by decide +kernel
theorem dX11_goHit_7 : decode cX11_goHit 7 = .ok (.bipush 12, 2) := by decide +kernel
theorem dX11_goHit_9 : decode cX11_goHit 9 = .ok (.iaload, 1) := by decide +kernel
theorem dX11_goHit_10 : decode cX11_goHit 10 = .ok (.invokestatic 111, 3) := by decide +kernel
theorem dX11_goHit_13 : decode cX11_goHit 13 = .ok (.istore_n 2, 1) := by decide +kernel
theorem dX11_goHit_14 : decode cX11_goHit 14 = .ok (.iload_n 2, 1) := by decide +kernel
theorem dX11_goHit_15 : decode cX11_goHit 15 = .ok (.ifCond .eq 27, 3) := by decide +kernel
theorem dX11_goHit_18 : decode cX11_goHit 18 = .ok (.aload_n 0, 1) := by decide +kernel
theorem dX11_goHit_19 : decode cX11_goHit 19 = .ok (.bipush 8, 2) := by decide +kernel
theorem dX11_goHit_21 : decode cX11_goHit 21 = .ok (.iconst 1, 1) := by decide +kernel
theorem dX11_goHit_22 : decode cX11_goHit 22 = .ok (.aload_n 0, 1) := by decide +kernel
theorem dX11_goHit_23 : decode cX11_goHit 23 = .ok (.bipush 8, 2) := by decide +kernel
theorem dX11_goHit_25 : decode cX11_goHit 25 = .ok (.iaload, 1) := by decide +kernel
theorem dX11_goHit_26 : decode cX11_goHit 26 = .ok (.isub, 1) := by decide +kernel
theorem dX11_goHit_27 : decode cX11_goHit 27 = .ok (.iastore, 1) := by decide +kernel
theorem dX11_goHit_28 : decode cX11_goHit 28 = .ok (.aload_n 0, 1) := by decide +kernel
theorem dX11_goHit_29 : decode cX11_goHit 29 = .ok (.bipush 10, 2) := by decide +kernel
theorem dX11_goHit_31 : decode cX11_goHit 31 = .ok (.aload_n 0, 1) := by decide +kernel
theorem dX11_goHit_32 : decode cX11_goHit 32 = .ok (.bipush 10, 2) := by decide +kernel
theorem dX11_goHit_34 : decode cX11_goHit 34 = .ok (.iaload, 1) := by decide +kernel
theorem dX11_goHit_35 : decode cX11_goHit 35 = .ok (.invokestatic 115, 3) := by decide +kernel
theorem dX11_goHit_38 : decode cX11_goHit 38 = .ok (.iastore, 1) := by decide +kernel
theorem dX11_goHit_39 : decode cX11_goHit 39 = .ok (.goto 24, 3) := by decide +kernel
theorem dX11_goHit_42 : decode cX11_goHit 42 = .ok (.aload_n 0, 1) := by decide +kernel
theorem dX11_goHit_43 : decode cX11_goHit 43 = .ok (.bipush 9, 2) := by decide +kernel
theorem dX11_goHit_45 : decode cX11_goHit 45 = .ok (.iconst 0, 1) := by decide +kernel
theorem dX11_goHit_46 : decode cX11_goHit 46 = .ok (.iastore, 1) := by decide +kernel
theorem dX11_goHit_47 : decode cX11_goHit 47 = .ok (.aload_n 0, 1) := by decide +kernel
theorem dX11_goHit_48 : decode cX11_goHit 48 = .ok (.bipush 10, 2) := by decide +kernel
theorem dX11_goHit_50 : decode cX11_goHit 50 = .ok (.iconst 0, 1) := by decide +kernel
theorem dX11_goHit_51 : decode cX11_goHit 51 = .ok (.iastore, 1) := by decide +kernel
theorem dX11_goHit_52 : decode cX11_goHit 52 = .ok (.aload_n 0, 1) := by decide +kernel
theorem dX11_goHit_53 : decode cX11_goHit 53 = .ok (.bipush 11, 2) := by decide +kernel
theorem dX11_goHit_55 : decode cX11_goHit 55 = .ok (.aload_n 0, 1) := by decide +kernel
theorem dX11_goHit_56 : decode cX11_goHit 56 = .ok (.bipush 11, 2) := by decide +kernel
theorem dX11_goHit_58 : decode cX11_goHit 58 = .ok (.iaload, 1) := by decide +kernel
theorem dX11_goHit_59 : decode cX11_goHit 59 = .ok (.invokestatic 115, 3) := by decide +kernel
theorem dX11_goHit_62 : decode cX11_goHit 62 = .ok (.iastore, 1) := by decide +kernel
theorem dX11_goHit_63 : decode cX11_goHit 63 = .ok (.aload_n 0, 1) := by decide +kernel
theorem dX11_goHit_64 : decode cX11_goHit 64 = .ok (.bipush 12, 2) := by decide +kernel
theorem dX11_goHit_66 : decode cX11_goHit 66 = .ok (.dup2, 1) := by decide +kernel
theorem dX11_goHit_67 : decode cX11_goHit 67 = .ok (.iaload, 1) := by decide +kernel
theorem dX11_goHit_68 : decode cX11_goHit 68 = .ok (.iconst 1, 1) := by decide +kernel
theorem dX11_goHit_69 : decode cX11_goHit 69 = .ok (.iadd, 1) := by decide +kernel
theorem dX11_goHit_70 : decode cX11_goHit 70 = .ok (.iastore, 1) := by decide +kernel
theorem dX11_goHit_71 : decode cX11_goHit 71 = .ok (.iload_n 2, 1) := by decide +kernel
theorem dX11_goHit_72 : decode cX11_goHit 72 = .ok (.ifCond .eq 7, 3) := by decide +kernel
theorem dX11_goHit_75 : decode cX11_goHit 75 = .ok (.iconst 1, 1) := by decide +kernel
theorem dX11_goHit_76 : decode cX11_goHit 76 = .ok (.goto 4, 3) := by decide +kernel
theorem dX11_goHit_79 : decode cX11_goHit 79 = .ok (.iconst 0, 1) := by decide +kernel
theorem dX11_goHit_80 : decode cX11_goHit 80 = .ok (.ireturn, 1) := by decide +kernel
theorem dX11_hits_0 : decode cX11_hits 0 = .ok (.aload_n 0, 1) := by decide +kernel
theorem dX11_hits_1 : decode cX11_hits 1 = .ok (.iload_n 1, 1) := by decide +kernel
theorem dX11_hits_2 : decode cX11_hits 2 = .ok (.invokevirtual 118, 3) := by decide +kernel
theorem dX11_hits_5 : decode cX11_hits 5 = .ok (.ifCond .ne 10, 3) := by decide +kernel
theorem dX11_hits_8 : decode cX11_hits 8 = .ok (.aload_n 0, 1) := by decide +kernel
theorem dX11_hits_9 : decode cX11_hits 9 = .ok (.bipush (-2), 2) := by decide +kernel
theorem dX11_hits_11 : decode cX11_hits 11 = .ok (.invokevirtual 67, 3) := by decide +kernel
theorem dX11_hits_14 : decode cX11_hits 14 = .ok (.ireturn, 1) := by decide +kernel
theorem dX11_hits_15 : decode cX11_hits 15 = .ok (.aload_n 0, 1) := by decide +kernel
theorem dX11_hits_16 : decode cX11_hits 16 = .ok (.getfield 7, 3) := by decide +kernel
theorem dX11_hits_19 : decode cX11_hits 19 = .ok (.iload_n 1, 1) := by decide +kernel
theorem dX11_hits_20 : decode cX11_hits 20 = .ok (.invokestatic 121, 3) := by decide +kernel
theorem dX11_hits_23 : decode cX11_hits 23 = .ok (.ifCond .ne 8, 3) := by decide +kernel
theorem dX11_hits_26 : decode cX11_hits 26 = .ok (.aload_n 0, 1) := by decide +kernel
theorem dX11_hits_27 : decode cX11_hits 27 = .ok (.invokevirtual 124, 3) := by decide +kernel
theorem dX11_hits_30 : decode cX11_hits 30 = .ok (.ireturn, 1) := by decide +kernel
theorem dX11_hits_31 : decode cX11_hits 31 = .ok (.aload_n 0, 1) := by decide +kernel
theorem dX11_hits_32 : decode cX11_hits 32 = .ok (.invokevirtual 127, 3) := by decide +kernel
theorem dX11_hits_35 : decode cX11_hits 35 = .ok (.aload_n 0, 1) := by decide +kernel
theorem dX11_hits_36 : decode cX11_hits 36 = .ok (.getfield 7, 3) := by decide +kernel
theorem dX11_hits_39 : decode cX11_hits 39 = .ok (.iload_n 1, 1) := by decide +kernel
theorem dX11_hits_40 : decode cX11_hits 40 = .ok (.invokestatic 130, 3) := by decide +kernel
theorem dX11_hits_43 : decode cX11_hits 43 = .ok (.ireturn, 1) := by decide +kernel
theorem dX11_picks_0 : decode cX11_picks 0 = .ok (.iload_n 1, 1) := by decide +kernel
theorem dX11_picks_1 : decode cX11_picks 1 = .ok (.invokestatic 78, 3) := by decide +kernel
theorem dX11_picks_4 : decode cX11_picks 4 = .ok (.ifCond .ne 10, 3) := by decide +kernel
theorem dX11_picks_7 : decode cX11_picks 7 = .ok (.aload_n 0, 1) := by decide +kernel
theorem dX11_picks_8 : decode cX11_picks 8 = .ok (.bipush (-2), 2) := by decide +kernel
theorem dX11_picks_10 : decode cX11_picks 10 = .ok (.invokevirtual 67, 3) := by decide +kernel
theorem dX11_picks_13 : decode cX11_picks 13 = .ok (.ireturn, 1) := by decide +kernel
theorem dX11_picks_14 : decode cX11_picks 14 = .ok (.aload_n 0, 1) := by decide +kernel
theorem dX11_picks_15 : decode cX11_picks 15 = .ok (.getfield 7, 3) := by decide +kernel
theorem dX11_picks_18 : decode cX11_picks 18 = .ok (.bipush 9, 2) := by decide +kernel
theorem dX11_picks_20 : decode cX11_picks 20 = .ok (.iaload, 1) := by decide +kernel
theorem dX11_picks_21 : decode cX11_picks 21 = .ok (.iconst 1, 1) := by decide +kernel
theorem dX11_picks_22 : decode cX11_picks 22 = .ok (.if_icmp .ne 8, 3) := by decide +kernel
theorem dX11_picks_25 : decode cX11_picks 25 = .ok (.aload_n 0, 1) := by decide +kernel
theorem dX11_picks_26 : decode cX11_picks 26 = .ok (.invokevirtual 124, 3) := by decide +kernel
theorem dX11_picks_29 : decode cX11_picks 29 = .ok (.ireturn, 1) := by decide +kernel
theorem dX11_picks_30 : decode cX11_picks 30 = .ok (.aload_n 0, 1) := by decide +kernel
theorem dX11_picks_31 : decode cX11_picks 31 = .ok (.invokevirtual 127, 3) := by decide +kernel
theorem dX11_picks_34 : decode cX11_picks 34 = .ok (.aload_n 0, 1) := by decide +kernel
theorem dX11_picks_35 : decode cX11_picks 35 = .ok (.getfield 7, 3) := by decide +kernel
theorem dX11_picks_38 : decode cX11_picks 38 = .ok (.bipush 9, 2) := by decide +kernel
theorem dX11_picks_40 : decode cX11_picks 40 = .ok (.iconst 1, 1) := by decide +kernel
theorem dX11_picks_41 : decode cX11_picks 41 = .ok (.iastore, 1) := by decide +kernel
theorem dX11_picks_42 : decode cX11_picks 42 = .ok (.aload_n 0, 1) := by decide +kernel
theorem dX11_picks_43 : decode cX11_picks 43 = .ok (.getfield 7, 3) := by decide +kernel
theorem dX11_picks_46 : decode cX11_picks 46 = .ok (.bipush 8, 2) := by decide +kernel
theorem dX11_picks_48 : decode cX11_picks 48 = .ok (.iload_n 1, 1) := by decide +kernel
theorem dX11_picks_49 : decode cX11_picks 49 = .ok (.iastore, 1) := by decide +kernel
theorem dX11_picks_50 : decode cX11_picks 50 = .ok (.aload_n 0, 1) := by decide +kernel
theorem dX11_picks_51 : decode cX11_picks 51 = .ok (.getfield 7, 3) := by decide +kernel
theorem dX11_picks_54 : decode cX11_picks 54 = .ok (.bipush 11, 2) := by decide +kernel
theorem dX11_picks_56 : decode cX11_picks 56 = .ok (.iaload, 1) := by decide +kernel
theorem dX11_picks_57 : decode cX11_picks 57 = .ok (.ireturn, 1) := by decide +kernel
theorem dX11_cock_0 : decode cX11_cock 0 = .ok (.iload_n 1, 1) := by decide +kernel
theorem dX11_cock_1 : decode cX11_cock 1 = .ok (.invokestatic 75, 3) := by decide +kernel
theorem dX11_cock_4 : decode cX11_cock 4 = .ok (.ifCond .eq 10, 3) := by decide +kernel
theorem dX11_cock_7 : decode cX11_cock 7 = .ok (.iload_n 2, 1) := by decide +kernel
theorem dX11_cock_8 : decode cX11_cock 8 = .ok (.invokestatic 81, 3) := by decide +kernel
theorem dX11_cock_11 : decode cX11_cock 11 = .ok (.ifCond .ne 10, 3) := by decide +kernel
theorem dX11_cock_14 : decode cX11_cock 14 = .ok (.aload_n 0, 1) := by decide +kernel
theorem dX11_cock_15 : decode cX11_cock 15 = .ok (.bipush (-2), 2) := by decide +kernel
theorem dX11_cock_17 : decode cX11_cock 17 = .ok (.invokevirtual 67, 3) := by decide +kernel
theorem dX11_cock_20 : decode cX11_cock 20 = .ok (.ireturn, 1) := by decide +kernel
theorem dX11_cock_21 : decode cX11_cock 21 = .ok (.aload_n 0, 1) := by decide +kernel
theorem dX11_cock_22 : decode cX11_cock 22 = .ok (.getfield 7, 3) := by decide +kernel
theorem dX11_cock_25 : decode cX11_cock 25 = .ok (.bipush 7, 2) := by decide +kernel
theorem dX11_cock_27 : decode cX11_cock 27 = .ok (.iaload, 1) := by decide +kernel
theorem dX11_cock_28 : decode cX11_cock 28 = .ok (.istore_n 3, 1) := by decide +kernel
theorem dX11_cock_29 : decode cX11_cock 29 = .ok (.aload_n 0, 1) := by decide +kernel
theorem dX11_cock_30 : decode cX11_cock 30 = .ok (.invokevirtual 127, 3) := by decide +kernel
theorem dX11_cock_33 : decode cX11_cock 33 = .ok (.aload_n 0, 1) := by decide +kernel
theorem dX11_cock_34 : decode cX11_cock 34 = .ok (.getfield 7, 3) := by decide +kernel
theorem dX11_cock_37 : decode cX11_cock 37 = .ok (.bipush 6, 2) := by decide +kernel
theorem dX11_cock_39 : decode cX11_cock 39 = .ok (.iload_n 1, 1) := by decide +kernel
theorem dX11_cock_40 : decode cX11_cock 40 = .ok (.iastore, 1) := by decide +kernel
theorem dX11_cock_41 : decode cX11_cock 41 = .ok (.aload_n 0, 1) := by decide +kernel
theorem dX11_cock_42 : decode cX11_cock 42 = .ok (.getfield 7, 3) := by decide +kernel
theorem dX11_cock_45 : decode cX11_cock 45 = .ok (.bipush 7, 2) := by decide +kernel
theorem dX11_cock_47 : decode cX11_cock 47 = .ok (.iload_n 2, 1) := by decide +kernel
theorem dX11_cock_48 : decode cX11_cock 48 = .ok (.iastore, 1) := by decide +kernel
theorem dX11_cock_49 : decode cX11_cock 49 = .ok (.iload_n 3, 1) := by decide +kernel
theorem dX11_cock_50 : decode cX11_cock 50 = .ok (.ireturn, 1) := by decide +kernel
theorem dX11_goHours_0 : decode cX11_goHours 0 = .ok (.aload_n 0, 1) := by decide +kernel
theorem dX11_goHours_1 : decode cX11_goHours 1 = .ok (.bipush 12, 2) := by decide +kernel
theorem dX11_goHours_3 : decode cX11_goHours 3 = .ok (.aload_n 0, 1) := by decide +kernel
theorem dX11_goHours_4 : decode cX11_goHours 4 = .ok (.bipush 12, 2) := by decide +kernel
theorem dX11_goHours_6 : decode cX11_goHours 6 = .ok (.iaload, 1) := by decide +kernel
theorem dX11_goHours_7 : decode cX11_goHours 7 = .ok (.iload_n 1, 1) := by decide +kernel
theorem dX11_goHours_8 : decode cX11_goHours 8 = .ok (.iadd, 1) := by decide +kernel
theorem dX11_goHours_9 : decode cX11_goHours 9 = .ok (.sipush 9999, 3) := by decide +kernel
theorem dX11_goHours_12 : decode cX11_goHours 12 = .ok (.if_icmp .le 9, 3) := by decide +kernel
theorem dX11_goHours_15 : decode cX11_goHours 15 = .ok (.sipush 9999, 3) := by decide +kernel
theorem dX11_goHours_18 : decode cX11_goHours 18 = .ok (.goto 9, 3) := by decide +kernel
theorem dX11_goHours_21 : decode cX11_goHours 21 = .ok (.aload_n 0, 1) := by decide +kernel
theorem dX11_goHours_22 : decode cX11_goHours 22 = .ok (.bipush 12, 2) := by decide +kernel
theorem dX11_goHours_24 : decode cX11_goHours 24 = .ok (.iaload, 1) := by decide +kernel
theorem dX11_goHours_25 : decode cX11_goHours 25 = .ok (.iload_n 1, 1) := by decide +kernel
theorem dX11_goHours_26 : decode cX11_goHours 26 = .ok (.iadd, 1) := by decide +kernel
theorem dX11_goHours_27 : decode cX11_goHours 27 = .ok (.iastore, 1) := by decide +kernel
theorem dX11_goHours_28 : decode cX11_goHours 28 = .ok (.return_, 1) := by decide +kernel
theorem dX11_hours_0 : decode cX11_hours 0 = .ok (.iload_n 1, 1) := by decide +kernel
theorem dX11_hours_1 : decode cX11_hours 1 = .ok (.i2l, 1) := by decide +kernel
theorem dX11_hours_2 : decode cX11_hours 2 = .ok (.lconst 1, 1) := by decide +kernel
theorem dX11_hours_3 : decode cX11_hours 3 = .ok (.ldc2_w 134, 3) := by decide +kernel
theorem dX11_hours_6 : decode cX11_hours 6 = .ok (.invokestatic 53, 3) := by decide +kernel
theorem dX11_hours_9 : decode cX11_hours 9 = .ok (.ifCond .ne 10, 3) := by decide +kernel
theorem dX11_hours_12 : decode cX11_hours 12 = .ok (.aload_n 0, 1) := by decide +kernel
theorem dX11_hours_13 : decode cX11_hours 13 = .ok (.bipush (-2), 2) := by decide +kernel
theorem dX11_hours_15 : decode cX11_hours 15 = .ok (.invokevirtual 67, 3) := by decide +kernel
theorem dX11_hours_18 : decode cX11_hours 18 = .ok (.ireturn, 1) := by decide +kernel
theorem dX11_hours_19 : decode cX11_hours 19 = .ok (.aload_n 0, 1) := by decide +kernel
theorem dX11_hours_20 : decode cX11_hours 20 = .ok (.invokevirtual 127, 3) := by decide +kernel
theorem dX11_hours_23 : decode cX11_hours 23 = .ok (.aload_n 0, 1) := by decide +kernel
theorem dX11_hours_24 : decode cX11_hours 24 = .ok (.getfield 7, 3) := by decide +kernel
theorem dX11_hours_27 : decode cX11_hours 27 = .ok (.iload_n 1, 1) := by decide +kernel
theorem dX11_hours_28 : decode cX11_hours 28 = .ok (.invokestatic 136, 3) := by decide +kernel
theorem dX11_hours_31 : decode cX11_hours 31 = .ok (.aload_n 0, 1) := by decide +kernel
theorem dX11_hours_32 : decode cX11_hours 32 = .ok (.getfield 7, 3) := by decide +kernel
theorem dX11_hours_35 : decode cX11_hours 35 = .ok (.bipush 12, 2) := by decide +kernel
theorem dX11_hours_37 : decode cX11_hours 37 = .ok (.iaload, 1) := by decide +kernel
theorem dX11_hours_38 : decode cX11_hours 38 = .ok (.ireturn, 1) := by decide +kernel
theorem dX11_undo_0 : decode cX11_undo 0 = .ok (.aload_n 0, 1) := by decide +kernel
theorem dX11_undo_1 : decode cX11_undo 1 = .ok (.getfield 7, 3) := by decide +kernel
theorem dX11_undo_4 : decode cX11_undo 4 = .ok (.iconst 4, 1) := by decide +kernel
theorem dX11_undo_5 : decode cX11_undo 5 = .ok (.iaload, 1) := by decide +kernel
theorem dX11_undo_6 : decode cX11_undo 6 = .ok (.ifCond .ne 8, 3) := by decide +kernel
theorem dX11_undo_9 : decode cX11_undo 9 = .ok (.aload_n 0, 1) := by decide +kernel
theorem dX11_undo_10 : decode cX11_undo 10 = .ok (.invokevirtual 124, 3) := by decide +kernel
theorem dX11_undo_13 : decode cX11_undo 13 = .ok (.ireturn, 1) := by decide +kernel
theorem dX11_undo_14 : decode cX11_undo 14 = .ok (.aload_n 0, 1) := by decide +kernel
theorem dX11_undo_15 : decode cX11_undo 15 = .ok (.getfield 7, 3) := by decide +kernel
theorem dX11_undo_18 : decode cX11_undo 18 = .ok (.iconst 4, 1) := by decide +kernel
theorem dX11_undo_19 : decode cX11_undo 19 = .ok (.dup2, 1) := by decide +kernel
theorem dX11_undo_20 : decode cX11_undo 20 = .ok (.iaload, 1) := by decide +kernel
theorem dX11_undo_21 : decode cX11_undo 21 = .ok (.iconst 1, 1) := by decide +kernel
theorem dX11_undo_22 : decode cX11_undo 22 = .ok (.isub, 1) := by decide +kernel
theorem dX11_undo_23 : decode cX11_undo 23 = .ok (.iastore, 1) := by decide +kernel
theorem dX11_undo_24 : decode cX11_undo 24 = .ok (.iconst 0, 1) := by decide +kernel
theorem dX11_undo_25 : decode cX11_undo 25 = .ok (.istore_n 1, 1) := by decide +kernel
theorem dX11_undo_26 : decode cX11_undo 26 = .ok (.iload_n 1, 1) := by decide +kernel
theorem dX11_undo_27 : decode cX11_undo 27 = .ok (.bipush 7, 2) := by decide +kernel
theorem dX11_undo_29 : decode cX11_undo 29 = .ok (.if_icmp .ge 37, 3) := by decide +kernel
theorem dX11_undo_32 : decode cX11_undo 32 = .ok (.aload_n 0, 1) := by decide +kernel
theorem dX11_undo_33 : decode cX11_undo 33 = .ok (.getfield 7, 3) := by decide +kernel
theorem dX11_undo_36 : decode cX11_undo 36 = .ok (.bipush 6, 2) := by decide +kernel
theorem dX11_undo_38 : decode cX11_undo 38 = .ok (.iload_n 1, 1) := by decide +kernel
theorem dX11_undo_39 : decode cX11_undo 39 = .ok (.iadd, 1) := by decide +kernel
theorem dX11_undo_40 : decode cX11_undo 40 = .ok (.aload_n 0, 1) := by decide +kernel
theorem dX11_undo_41 : decode cX11_undo 41 = .ok (.getfield 7, 3) := by decide +kernel
theorem dX11_undo_44 : decode cX11_undo 44 = .ok (.bipush 103, 2) := by decide +kernel
theorem dX11_undo_46 : decode cX11_undo 46 = .ok (.bipush 7, 2) := by decide +kernel
theorem dX11_undo_48 : decode cX11_undo 48 = .ok (.aload_n 0, 1) := by decide +kernel
theorem dX11_undo_49 : decode cX11_undo 49 = .ok (.getfield 7, 3) := by decide +kernel
theorem dX11_undo_52 : decode cX11_undo 52 = .ok (.iconst 4, 1) := by decide +kernel
theorem dX11_undo_53 : decode cX11_undo 53 = .ok (.iaload, 1) := by decide +kernel
theorem dX11_undo_54 : decode cX11_undo 54 = .ok (.imul, 1) := by decide +kernel
theorem dX11_undo_55 : decode cX11_undo 55 = .ok (.iadd, 1) := by decide +kernel
theorem dX11_undo_56 : decode cX11_undo 56 = .ok (.iload_n 1, 1) := by decide +kernel
theorem dX11_undo_57 : decode cX11_undo 57 = .ok (.iadd, 1) := by decide +kernel
theorem dX11_undo_58 : decode cX11_undo 58 = .ok (.iaload, 1) := by decide +kernel
theorem dX11_undo_59 : decode cX11_undo 59 = .ok (.iastore, 1) := by decide +kernel
theorem dX11_undo_60 : decode cX11_undo 60 = .ok (.iinc 1 1, 3) := by decide +kernel
theorem dX11_undo_63 : decode cX11_undo 63 = .ok (.goto (-37), 3) := by decide +kernel
theorem dX11_undo_66 : decode cX11_undo 66 = .ok (.aload_n 0, 1) := by decide +kernel
theorem dX11_undo_67 : decode cX11_undo 67 = .ok (.getfield 7, 3) := by decide +kernel
theorem dX11_undo_70 : decode cX11_undo 70 = .ok (.bipush 12, 2) := by decide +kernel
theorem dX11_undo_72 : decode cX11_undo 72 = .ok (.iaload, 1) := by decide +kernel
theorem dX11_undo_73 : decode cX11_undo 73 = .ok (.ireturn, 1) := by decide +kernel
theorem dX11_now_0 : decode cX11_now 0 = .ok (.iload_n 1, 1) := by decide +kernel
theorem dX11_now_1 : decode cX11_now 1 = .ok (.i2l, 1) := by decide +kernel
theorem dX11_now_2 : decode cX11_now 2 = .ok (.lconst 0, 1) := by decide +kernel
theorem dX11_now_3 : decode cX11_now 3 = .ok (.ldc2_w 139, 3) := by decide +kernel
theorem dX11_now_6 : decode cX11_now 6 = .ok (.invokestatic 53, 3) := by decide +kernel
theorem dX11_now_9 : decode cX11_now 9 = .ok (.ifCond .ne 10, 3) := by decide +kernel
theorem dX11_now_12 : decode cX11_now 12 = .ok (.aload_n 0, 1) := by decide +kernel
theorem dX11_now_13 : decode cX11_now 13 = .ok (.bipush (-10), 2) := by decide +kernel
theorem dX11_now_15 : decode cX11_now 15 = .ok (.invokevirtual 67, 3) := by decide +kernel
theorem dX11_now_18 : decode cX11_now 18 = .ok (.ireturn, 1) := by decide +kernel
theorem dX11_now_19 : decode cX11_now 19 = .ok (.iload_n 1, 1) := by decide +kernel
theorem dX11_now_20 : decode cX11_now 20 = .ok (.bipush 6, 2) := by decide +kernel
theorem dX11_now_22 : decode cX11_now 22 = .ok (.if_icmp .ne 27, 3) := by decide +kernel
theorem dX11_now_25 : decode cX11_now 25 = .ok (.aload_n 0, 1) := by decide +kernel
theorem dX11_now_26 : decode cX11_now 26 = .ok (.getfield 7, 3) := by decide +kernel
theorem dX11_now_29 : decode cX11_now 29 = .ok (.aload_n 0, 1) := by decide +kernel
theorem dX11_now_30 : decode cX11_now 30 = .ok (.getfield 7, 3) := by decide +kernel
theorem dX11_now_33 : decode cX11_now 33 = .ok (.bipush 8, 2) := by decide +kernel
theorem dX11_now_35 : decode cX11_now 35 = .ok (.iaload, 1) := by decide +kernel
theorem dX11_now_36 : decode cX11_now 36 = .ok (.aload_n 0, 1) := by decide +kernel
theorem dX11_now_37 : decode cX11_now 37 = .ok (.getfield 7, 3) := by decide +kernel
theorem dX11_now_40 : decode cX11_now 40 = .ok (.bipush 12, 2) := by decide +kernel
theorem dX11_now_42 : decode cX11_now 42 = .ok (.iaload, 1) := by decide +kernel
theorem dX11_now_43 : decode cX11_now 43 = .ok (.invokestatic 95, 3) := by decide +kernel
theorem dX11_now_46 : decode cX11_now 46 = .ok (.goto 12, 3) := by decide +kernel
theorem dX11_now_49 : decode cX11_now 49 = .ok (.aload_n 0, 1) := by decide +kernel
theorem dX11_now_50 : decode cX11_now 50 = .ok (.getfield 7, 3) := by decide +kernel
theorem dX11_now_53 : decode cX11_now 53 = .ok (.bipush 6, 2) := by decide +kernel
theorem dX11_now_55 : decode cX11_now 55 = .ok (.iload_n 1, 1) := by decide +kernel
theorem dX11_now_56 : decode cX11_now 56 = .ok (.iadd, 1) := by decide +kernel
theorem dX11_now_57 : decode cX11_now 57 = .ok (.iaload, 1) := by decide +kernel
theorem dX11_now_58 : decode cX11_now 58 = .ok (.ireturn, 1) := by decide +kernel
theorem dX11_of_0 : decode cX11_of 0 = .ok (.aload_n 0, 1) := by decide +kernel
theorem dX11_of_1 : decode cX11_of 1 = .ok (.iload_n 1, 1) := by decide +kernel
theorem dX11_of_2 : decode cX11_of 2 = .ok (.invokevirtual 118, 3) := by decide +kernel
theorem dX11_of_5 : decode cX11_of 5 = .ok (.ifCond .eq 15, 3) := by decide +kernel
theorem dX11_of_8 : decode cX11_of 8 = .ok (.iload_n 2, 1) := by decide +kernel
theorem dX11_of_9 : decode cX11_of 9 = .ok (.i2l, 1) := by decide +kernel
theorem dX11_of_10 : decode cX11_of 10 = .ok (.lconst 0, 1) := by decide +kernel
theorem dX11_of_11 : decode cX11_of 11 = .ok (.ldc2_w 141, 3) := by decide +kernel
theorem dX11_of_14 : decode cX11_of 14 = .ok (.invokestatic 53, 3) := by decide +kernel
theorem dX11_of_17 : decode cX11_of 17 = .ok (.ifCond .ne 10, 3) := by decide +kernel
theorem dX11_of_20 : decode cX11_of 20 = .ok (.aload_n 0, 1) := by decide +kernel
theorem dX11_of_21 : decode cX11_of 21 = .ok (.bipush (-2), 2) := by decide +kernel
theorem dX11_of_23 : decode cX11_of 23 = .ok (.invokevirtual 67, 3) := by decide +kernel
theorem dX11_of_26 : decode cX11_of 26 = .ok (.ireturn, 1) := by decide +kernel
theorem dX11_of_27 : decode cX11_of 27 = .ok (.iload_n 2, 1) := by decide +kernel
theorem dX11_of_28 : decode cX11_of 28 = .ok (.tableswitch 58 0 2 #[28, 38, 48], 28) := by decide +kernel
theorem dX11_of_56 : decode cX11_of 56 = .ok (.aload_n 0, 1) := by decide +kernel
theorem dX11_of_57 : decode cX11_of 57 = .ok (.getfield 7, 3) := by decide +kernel
theorem dX11_of_60 : decode cX11_of 60 = .ok (.bipush 19, 2) := by decide +kernel
theorem dX11_of_62 : decode cX11_of 62 = .ok (.iload_n 1, 1) := by decide +kernel
theorem dX11_of_63 : decode cX11_of 63 = .ok (.iadd, 1) := by decide +kernel
theorem dX11_of_64 : decode cX11_of 64 = .ok (.iaload, 1) := by decide +kernel
theorem dX11_of_65 : decode cX11_of 65 = .ok (.ireturn, 1) := by decide +kernel
theorem dX11_of_66 : decode cX11_of 66 = .ok (.aload_n 0, 1) := by decide +kernel
theorem dX11_of_67 : decode cX11_of 67 = .ok (.getfield 7, 3) := by decide +kernel
theorem dX11_of_70 : decode cX11_of 70 = .ok (.bipush 26, 2) := by decide +kernel
theorem dX11_of_72 : decode cX11_of 72 = .ok (.iload_n 1, 1) := by decide +kernel
theorem dX11_of_73 : decode cX11_of 73 = .ok (.iadd, 1) := by decide +kernel
theorem dX11_of_74 : decode cX11_of 74 = .ok (.iaload, 1) := by decide +kernel
theorem dX11_of_75 : decode cX11_of 75 = .ok (.ireturn, 1) := by decide +kernel
theorem dX11_of_76 : decode cX11_of 76 = .ok (.aload_n 0, 1) := by decide +kernel
theorem dX11_of_77 : decode cX11_of 77 = .ok (.getfield 7, 3) := by decide +kernel
theorem dX11_of_80 : decode cX11_of 80 = .ok (.bipush 33, 2) := by decide +kernel
theorem dX11_of_82 : decode cX11_of 82 = .ok (.iload_n 1, 1) := by decide +kernel
theorem dX11_of_83 : decode cX11_of 83 = .ok (.iadd, 1) := by decide +kernel
theorem dX11_of_84 : decode cX11_of 84 = .ok (.iaload, 1) := by decide +kernel
theorem dX11_of_85 : decode cX11_of 85 = .ok (.ireturn, 1) := by decide +kernel
theorem dX11_of_86 : decode cX11_of 86 = .ok (.aload_n 0, 1) := by decide +kernel
theorem dX11_of_87 : decode cX11_of 87 = .ok (.getfield 7, 3) := by decide +kernel
theorem dX11_of_90 : decode cX11_of 90 = .ok (.bipush 19, 2) := by decide +kernel
theorem dX11_of_92 : decode cX11_of 92 = .ok (.iload_n 1, 1) := by decide +kernel
theorem dX11_of_93 : decode cX11_of 93 = .ok (.iadd, 1) := by decide +kernel
theorem dX11_of_94 : decode cX11_of 94 = .ok (.iaload, 1) := by decide +kernel
theorem dX11_of_95 : decode cX11_of 95 = .ok (.aload_n 0, 1) := by decide +kernel
theorem dX11_of_96 : decode cX11_of 96 = .ok (.getfield 7, 3) := by decide +kernel
theorem dX11_of_99 : decode cX11_of 99 = .ok (.bipush 33, 2) := by decide +kernel
theorem dX11_of_101 : decode cX11_of 101 = .ok (.iload_n 1, 1) := by decide +kernel
theorem dX11_of_102 : decode cX11_of 102 = .ok (.iadd, 1) := by decide +kernel
theorem dX11_of_103 : decode cX11_of 103 = .ok (.iaload, 1) := by decide +kernel
theorem dX11_of_104 : decode cX11_of 104 = .ok (.aload_n 0, 1) := by decide +kernel
theorem dX11_of_105 : decode cX11_of 105 = .ok (.getfield 7, 3) := by decide +kernel
theorem dX11_of_108 : decode cX11_of 108 = .ok (.bipush 12, 2) := by decide +kernel
theorem dX11_of_110 : decode cX11_of 110 = .ok (.iaload, 1) := by decide +kernel
theorem dX11_of_111 : decode cX11_of 111 = .ok (.bipush 24, 2) := by decide +kernel
theorem dX11_of_113 : decode cX11_of 113 = .ok (.irem, 1) := by decide +kernel
theorem dX11_of_114 : decode cX11_of 114 = .ok (.invokestatic 91, 3) := by decide +kernel
theorem dX11_of_117 : decode cX11_of 117 = .ok (.ireturn, 1) := by decide +kernel
theorem dX11_reach_0 : decode cX11_reach 0 = .ok (.aload_n 0, 1) := by decide +kernel
theorem dX11_reach_1 : decode cX11_reach 1 = .ok (.iload_n 1, 1) := by decide +kernel
theorem dX11_reach_2 : decode cX11_reach 2 = .ok (.invokevirtual 118, 3) := by decide +kernel
theorem dX11_reach_5 : decode cX11_reach 5 = .ok (.ifCond .eq 15, 3) := by decide +kernel
theorem dX11_reach_8 : decode cX11_reach 8 = .ok (.iload_n 2, 1) := by decide +kernel
theorem dX11_reach_9 : decode cX11_reach 9 = .ok (.i2l, 1) := by decide +kernel
theorem dX11_reach_10 : decode cX11_reach 10 = .ok (.lconst 0, 1) := by decide +kernel
theorem dX11_reach_11 : decode cX11_reach 11 = .ok (.ldc2_w 143, 3) := by decide +kernel
theorem dX11_reach_14 : decode cX11_reach 14 = .ok (.invokestatic 53, 3) := by decide +kernel
theorem dX11_reach_17 : decode cX11_reach 17 = .ok (.ifCond .ne 10, 3) := by decide +kernel
theorem dX11_reach_20 : decode cX11_reach 20 = .ok (.aload_n 0, 1) := by decide +kernel
theorem dX11_reach_21 : decode cX11_reach 21 = .ok (.bipush (-2), 2) := by decide +kernel
theorem dX11_reach_23 : decode cX11_reach 23 = .ok (.invokevirtual 67, 3) := by decide +kernel
theorem dX11_reach_26 : decode cX11_reach 26 = .ok (.ireturn, 1) := by decide +kernel
theorem dX11_reach_27 : decode cX11_reach 27 = .ok (.aload_n 0, 1) := by decide +kernel
theorem dX11_reach_28 : decode cX11_reach 28 = .ok (.getfield 7, 3) := by decide +kernel
theorem dX11_reach_31 : decode cX11_reach 31 = .ok (.iload_n 1, 1) := by decide +kernel
theorem dX11_reach_32 : decode cX11_reach 32 = .ok (.aload_n 0, 1) := by decide +kernel
theorem dX11_reach_33 : decode cX11_reach 33 = .ok (.getfield 7, 3) := by decide +kernel
theorem dX11_reach_36 : decode cX11_reach 36 = .ok (.bipush 26, 2) := by decide +kernel
theorem dX11_reach_38 : decode cX11_reach 38 = .ok (.iload_n 1, 1) := by decide +kernel
theorem dX11_reach_39 : decode cX11_reach 39 = .ok (.iadd, 1) := by decide +kernel
theorem dX11_reach_40 : decode cX11_reach 40 = .ok (.iaload, 1) := by decide +kernel
theorem dX11_reach_41 : decode cX11_reach 41 = .ok (.aload_n 0, 1) := by decide +kernel
theorem dX11_reach_42 : decode cX11_reach 42 = .ok (.getfield 7, 3) := by decide +kernel
theorem dX11_reach_45 : decode cX11_reach 45 = .ok (.bipush 12, 2) := by decide +kernel
theorem dX11_reach_47 : decode cX11_reach 47 = .ok (.iaload, 1) := by decide +kernel
theorem dX11_reach_48 : decode cX11_reach 48 = .ok (.iload_n 2, 1) := by decide +kernel
theorem dX11_reach_49 : decode cX11_reach 49 = .ok (.iadd, 1) := by decide +kernel
theorem dX11_reach_50 : decode cX11_reach 50 = .ok (.aload_n 0, 1) := by decide +kernel
theorem dX11_reach_51 : decode cX11_reach 51 = .ok (.getfield 7, 3) := by decide +kernel
theorem dX11_reach_54 : decode cX11_reach 54 = .ok (.bipush 7, 2) := by decide +kernel
theorem dX11_reach_56 : decode cX11_reach 56 = .ok (.iaload, 1) := by decide +kernel
theorem dX11_reach_57 : decode cX11_reach 57 = .ok (.invokestatic 103, 3) := by decide +kernel
theorem dX11_reach_60 : decode cX11_reach 60 = .ok (.ireturn, 1) := by decide +kernel
theorem dX11_may_0 : decode cX11_may 0 = .ok (.iconst 0, 1) := by decide +kernel
theorem dX11_may_1 : decode cX11_may 1 = .ok (.istore_n 1, 1) := by decide +kernel
theorem dX11_may_2 : decode cX11_may 2 = .ok (.iconst 0, 1) := by decide +kernel
theorem dX11_may_3 : decode cX11_may 3 = .ok (.istore_n 2, 1) := by decide +kernel
theorem dX11_may_4 : decode cX11_may 4 = .ok (.iload_n 2, 1) := by decide +kernel
theorem dX11_may_5 : decode cX11_may 5 = .ok (.aload_n 0, 1) := by decide +kernel
theorem dX11_may_6 : decode cX11_may 6 = .ok (.invokevirtual 49, 3) := by decide +kernel
theorem dX11_may_9 : decode cX11_may 9 = .ok (.if_icmp .ge 55, 3) := by decide +kernel
theorem dX11_may_12 : decode cX11_may 12 = .ok (.iload_n 1, 1) := by decide +kernel
theorem dX11_may_13 : decode cX11_may 13 = .ok (.aload_n 0, 1) := by decide +kernel
theorem dX11_may_14 : decode cX11_may 14 = .ok (.getfield 7, 3) := by decide +kernel
theorem dX11_may_17 : decode cX11_may 17 = .ok (.iload_n 2, 1) := by decide +kernel
theorem dX11_may_18 : decode cX11_may 18 = .ok (.invokestatic 107, 3) := by decide +kernel
theorem dX11_may_21 : decode cX11_may 21 = .ok (.ifCond .eq 34, 3) := by decide +kernel
theorem dX11_may_24 : decode cX11_may 24 = .ok (.aload_n 0, 1) := by decide +kernel
theorem dX11_may_25 : decode cX11_may 25 = .ok (.getfield 7, 3) := by decide +kernel
theorem dX11_may_28 : decode cX11_may 28 = .ok (.iload_n 2, 1) := by decide +kernel
theorem dX11_may_29 : decode cX11_may 29 = .ok (.aload_n 0, 1) := by decide +kernel
theorem dX11_may_30 : decode cX11_may 30 = .ok (.getfield 7, 3) := by decide +kernel
theorem dX11_may_33 : decode cX11_may 33 = .ok (.bipush 8, 2) := by decide +kernel
theorem dX11_may_35 : decode cX11_may 35 = .ok (.iaload, 1) := by decide +kernel
theorem dX11_may_36 : decode cX11_may 36 = .ok (.aload_n 0, 1) := by decide +kernel
theorem dX11_may_37 : decode cX11_may 37 = .ok (.getfield 7, 3) := by decide +kernel
theorem dX11_may_40 : decode cX11_may 40 = .ok (.bipush 12, 2) := by decide +kernel
theorem dX11_may_42 : decode cX11_may 42 = .ok (.iaload, 1) := by decide +kernel
theorem dX11_may_43 : decode cX11_may 43 = .ok (.invokestatic 111, 3) := by decide +kernel
theorem dX11_may_46 : decode cX11_may 46 = .ok (.ifCond .eq 9, 3) := by decide +kernel
theorem dX11_may_49 : decode cX11_may 49 = .ok (.iconst 1, 1) := by decide +kernel
theorem dX11_may_50 : decode cX11_may 50 = .ok (.iload_n 2, 1) := by decide +kernel
theorem dX11_may_51 : decode cX11_may 51 = .ok (.ishl, 1) := by decide +kernel
theorem dX11_may_52 : decode cX11_may 52 = .ok (.goto 4, 3) := by decide +kernel
theorem dX11_may_55 : decode cX11_may 55 = .ok (.iconst 0, 1) := by decide +kernel
theorem dX11_may_56 : decode cX11_may 56 = .ok (.ior, 1) := by decide +kernel
theorem dX11_may_57 : decode cX11_may 57 = .ok (.istore_n 1, 1) := by decide +kernel
theorem dX11_may_58 : decode cX11_may 58 = .ok (.iinc 2 1, 3) := by decide +kernel
theorem dX11_may_61 : decode cX11_may 61 = .ok (.goto (-57), 3) := by decide +kernel
theorem dX11_may_64 : decode cX11_may 64 = .ok (.iload_n 1, 1) := by decide +kernel
theorem dX11_may_65 : decode cX11_may 65 = .ok (.ireturn, 1) := by decide +kernel
theorem dX11_spot_0 : decode cX11_spot 0 = .ok (.sipush 256, 3) := by decide +kernel
theorem dX11_spot_3 : decode cX11_spot 3 = .ok (.iload_n 0, 1) := by decide +kernel
theorem dX11_spot_4 : decode cX11_spot 4 = .ok (.imul, 1) := by decide +kernel
theorem dX11_spot_5 : decode cX11_spot 5 = .ok (.sipush 128, 3) := by decide +kernel
theorem dX11_spot_8 : decode cX11_spot 8 = .ok (.iload_n 1, 1) := by decide +kernel
theorem dX11_spot_9 : decode cX11_spot 9 = .ok (.imul, 1) := by decide +kernel
theorem dX11_spot_10 : decode cX11_spot 10 = .ok (.iadd, 1) := by decide +kernel
theorem dX11_spot_11 : decode cX11_spot 11 = .ok (.iload_n 2, 1) := by decide +kernel
theorem dX11_spot_12 : decode cX11_spot 12 = .ok (.iadd, 1) := by decide +kernel
theorem dX11_spot_13 : decode cX11_spot 13 = .ok (.ireturn, 1) := by decide +kernel
theorem dX11_laySoonest_0 : decode cX11_laySoonest 0 = .ok (.bipush 20, 2) := by decide +kernel
theorem dX11_laySoonest_2 : decode cX11_laySoonest 2 = .ok (.istore_n 2, 1) := by decide +kernel
theorem dX11_laySoonest_3 : decode cX11_laySoonest 3 = .ok (.iload_n 2, 1) := by decide +kernel
theorem dX11_laySoonest_4 : decode cX11_laySoonest 4 = .ok (.ifCond .lt 201, 3) := by decide +kernel
theorem dX11_laySoonest_7 : decode cX11_laySoonest 7 = .ok (.iconst 0, 1) := by decide +kernel
theorem dX11_laySoonest_8 : decode cX11_laySoonest 8 = .ok (.istore_n 3, 1) := by decide +kernel
theorem dX11_laySoonest_9 : decode cX11_laySoonest 9 = .ok (.iload_n 3, 1) := by decide +kernel
theorem dX11_laySoonest_10 : decode cX11_laySoonest 10 = .ok (.iconst 2, 1) := by decide +kernel
theorem dX11_laySoonest_11 : decode cX11_laySoonest 11 = .ok (.if_icmp .ge 188, 3) := by decide +kernel
theorem dX11_laySoonest_14 : decode cX11_laySoonest 14 = .ok (.iconst 0, 1) := by decide +kernel
theorem dX11_laySoonest_15 : decode cX11_laySoonest 15 = .ok (.istore 4, 2) := by decide +kernel
theorem dX11_laySoonest_17 : decode cX11_laySoonest 17 = .ok (.iload 4, 2) := by decide +kernel
theorem dX11_laySoonest_19 : decode cX11_laySoonest 19 = .ok (.iconst 1, 1) := by decide +kernel
theorem dX11_laySoonest_20 : decode cX11_laySoonest 20 = .ok (.aload_n 0, 1) := by decide +kernel
theorem dX11_laySoonest_21 : decode cX11_laySoonest 21 = .ok (.invokevirtual 49, 3) := by decide +kernel
theorem dX11_laySoonest_24 : decode cX11_laySoonest 24 = .ok (.ishl, 1) := by decide +kernel
theorem dX11_laySoonest_25 : decode cX11_laySoonest 25 = .ok (.if_icmp .ge 168, 3) := by decide +kernel
theorem dX11_laySoonest_28 : decode cX11_laySoonest 28 = .ok (.iload_n 1, 1) := by decide +kernel
theorem dX11_laySoonest_29 : decode cX11_laySoonest 29 = .ok (.iload 4, 2) := by decide +kernel
theorem dX11_laySoonest_31 : decode cX11_laySoonest 31 = .ok (.iconst (-1), 1) := by decide +kernel
theorem dX11_laySoonest_32 : decode cX11_laySoonest 32 = .ok (.ixor, 1) := by decide +kernel
theorem dX11_laySoonest_33 : decode cX11_laySoonest 33 = .ok (.iand, 1) := by decide +kernel
theorem dX11_laySoonest_34 : decode cX11_laySoonest 34 = .ok (.ifCond .ne 7, 3) := by decide +kernel
theorem dX11_laySoonest_37 : decode cX11_laySoonest 37 = .ok (.iload_n 2, 1) := by decide +kernel
theorem dX11_laySoonest_38 : decode cX11_laySoonest 38 = .ok (.goto 28, 3) := by decide +kernel
theorem dX11_laySoonest_41 : decode cX11_laySoonest 41 = .ok (.iload_n 2, 1) := by decide +kernel
theorem dX11_laySoonest_42 : decode cX11_laySoonest 42 = .ok (.bipush 20, 2) := by decide +kernel
theorem dX11_laySoonest_44 : decode cX11_laySoonest 44 = .ok (.if_icmp .ne 8, 3) := by decide +kernel
theorem dX11_laySoonest_47 : decode cX11_laySoonest 47 = .ok (.ldc 145, 2) := by decide +kernel
theorem dX11_laySoonest_49 : decode cX11_laySoonest 49 = .ok (.goto 17, 3) := by decide +kernel
theorem dX11_laySoonest_52 : decode cX11_laySoonest 52 = .ok (.aload_n 0, 1) := by decide +kernel
theorem dX11_laySoonest_53 : decode cX11_laySoonest 53 = .ok (.getfield 27, 3) := by decide +kernel
theorem dX11_laySoonest_56 : decode cX11_laySoonest 56 = .ok (.iload_n 2, 1) := by decide +kernel
theorem dX11_laySoonest_57 : decode cX11_laySoonest 57 = .ok (.iconst 1, 1) := by decide +kernel
theorem dX11_laySoonest_58 : decode cX11_laySoonest 58 = .ok (.iadd, 1) := by decide +kernel
theorem dX11_laySoonest_59 : decode cX11_laySoonest 59 = .ok (.iload_n 3, 1) := by decide +kernel
theorem dX11_laySoonest_60 : decode cX11_laySoonest 60 = .ok (.iload 4, 2) := by decide +kernel
theorem dX11_laySoonest_62 : decode cX11_laySoonest 62 = .ok (.invokestatic 146, 3) := by decide +kernel
theorem dX11_laySoonest_65 : decode cX11_laySoonest 65 = .ok (.iaload, 1) := by decide +kernel
theorem dX11_laySoonest_66 : decode cX11_laySoonest 66 = .ok (.istore 5, 2) := by decide +kernel
theorem dX11_laySoonest_68 : decode cX11_laySoonest 68 = .ok (.iconst 0, 1) := by decide +kernel
theorem dX11_laySoonest_69 : decode cX11_laySoonest 69 = .ok (.istore 6, 2) := by decide +kernel
theorem dX11_laySoonest_71 : decode cX11_laySoonest 71 = .ok (.iload 6, 2) := by decide +kernel
theorem dX11_laySoonest_73 : decode cX11_laySoonest 73 = .ok (.aload_n 0, 1) := by decide +kernel
theorem dX11_laySoonest_74 : decode cX11_laySoonest 74 = .ok (.invokevirtual 49, 3) := by decide +kernel
theorem dX11_laySoonest_77 : decode cX11_laySoonest 77 = .ok (.if_icmp .ge 96, 3) := by decide +kernel
theorem dX11_laySoonest_80 : decode cX11_laySoonest 80 = .ok (.iload 5, 2) := by decide +kernel
theorem dX11_laySoonest_82 : decode cX11_laySoonest 82 = .ok (.iload_n 2, 1) := by decide +kernel
theorem dX11_laySoonest_83 : decode cX11_laySoonest 83 = .ok (.if_icmp .le 90, 3) := by decide +kernel
theorem dX11_laySoonest_86 : decode cX11_laySoonest 86 = .ok (.iload_n 2, 1) := by decide +kernel
theorem dX11_laySoonest_87 : decode cX11_laySoonest 87 = .ok (.bipush 20, 2) := by decide +kernel
theorem dX11_laySoonest_89 : decode cX11_laySoonest 89 = .ok (.if_icmp .ge 84, 3) := by decide +kernel
theorem dX11_laySoonest_92 : decode cX11_laySoonest 92 = .ok (.aload_n 0, 1) := by decide +kernel
theorem dX11_laySoonest_93 : decode cX11_laySoonest 93 = .ok (.getfield 7, 3) := by decide +kernel
theorem dX11_laySoonest_96 : decode cX11_laySoonest 96 = .ok (.bipush 26, 2) := by decide +kernel
theorem dX11_laySoonest_98 : decode cX11_laySoonest 98 = .ok (.iload 6, 2) := by decide +kernel
theorem dX11_laySoonest_100 : decode cX11_laySoonest 100 = .ok (.iadd, 1) := by decide +kernel
theorem dX11_laySoonest_101 : decode cX11_laySoonest 101 = .ok (.iaload, 1) := by decide +kernel
theorem dX11_laySoonest_102 : decode cX11_laySoonest 102 = .ok (.iload_n 3, 1) := by decide +kernel
theorem dX11_laySoonest_103 : decode cX11_laySoonest 103 = .ok (.if_icmp .ne 64, 3) := by decide +kernel
theorem dX11_laySoonest_106 : decode cX11_laySoonest 106 = .ok (.aload_n 0, 1) := by decide +kernel
theorem dX11_laySoonest_107 : decode cX11_laySoonest 107 = .ok (.getfield 7, 3) := by decide +kernel
theorem dX11_laySoonest_110 : decode cX11_laySoonest 110 = .ok (.iload 6, 2) := by decide +kernel
theorem dX11_laySoonest_112 : decode cX11_laySoonest 112 = .ok (.iload_n 3, 1) := by decide +kernel
theorem dX11_laySoonest_113 : decode cX11_laySoonest 113 = .ok (.aload_n 0, 1) := by decide +kernel
theorem dX11_laySoonest_114 : decode cX11_laySoonest 114 = .ok (.getfield 7, 3) := by decide +kernel
theorem dX11_laySoonest_117 : decode cX11_laySoonest 117 = .ok (.bipush 12, 2) := by decide +kernel
theorem dX11_laySoonest_119 : decode cX11_laySoonest 119 = .ok (.iaload, 1) := by decide +kernel
theorem dX11_laySoonest_120 : decode cX11_laySoonest 120 = .ok (.iload_n 2, 1) := by decide +kernel
theorem dX11_laySoonest_121 : decode cX11_laySoonest 121 = .ok (.iadd, 1) := by decide +kernel
theorem dX11_laySoonest_122 : decode cX11_laySoonest 122 = .ok (.invokestatic 111, 3) := by decide +kernel
theorem dX11_laySoonest_125 : decode cX11_laySoonest 125 = .ok (.ifCond .eq 42, 3) := by decide +kernel
theorem dX11_laySoonest_128 : decode cX11_laySoonest 128 = .ok (.aload_n 0, 1) := by decide +kernel
theorem dX11_laySoonest_129 : decode cX11_laySoonest 129 = .ok (.getfield 27, 3) := by decide +kernel
theorem dX11_laySoonest_132 : decode cX11_laySoonest 132 = .ok (.iload_n 2, 1) := by decide +kernel
theorem dX11_laySoonest_133 : decode cX11_laySoonest 133 = .ok (.iconst 1, 1) := by decide +kernel
theorem dX11_laySoonest_134 : decode cX11_laySoonest 134 = .ok (.iadd, 1) := by decide +kernel
theorem dX11_laySoonest_135 : decode cX11_laySoonest 135 = .ok (.iconst 1, 1) := by decide +kernel
theorem dX11_laySoonest_136 : decode cX11_laySoonest 136 = .ok (.iload_n 3, 1) := by decide +kernel
theorem dX11_laySoonest_137 : decode cX11_laySoonest 137 = .ok (.isub, 1) := by decide +kernel
theorem dX11_laySoonest_138 : decode cX11_laySoonest 138 = .ok (.iload 4, 2) := by decide +kernel
theorem dX11_laySoonest_140 : decode cX11_laySoonest 140 = .ok (.iconst 1, 1) := by decide +kernel
theorem dX11_laySoonest_141 : decode cX11_laySoonest 141 = .ok (.iload 6, 2) := by decide +kernel
theorem dX11_laySoonest_143 : decode cX11_laySoonest 143 = .ok (.ishl, 1) := by decide +kernel
theorem dX11_laySoonest_144 : decode cX11_laySoonest 144 = .ok (.ior, 1) := by decide +kernel
theorem dX11_laySoonest_145 : decode cX11_laySoonest 145 = .ok (.invokestatic 146, 3) := by decide +kernel
theorem dX11_laySoonest_148 : decode cX11_laySoonest 148 = .ok (.iaload, 1) := by decide +kernel
theorem dX11_laySoonest_149 : decode cX11_laySoonest 149 = .ok (.istore 7, 2) := by decide +kernel
theorem dX11_laySoonest_151 : decode cX11_laySoonest 151 = .ok (.iload 7, 2) := by decide +kernel
theorem dX11_laySoonest_153 : decode cX11_laySoonest 153 = .ok (.iload 5, 2) := by decide +kernel
theorem dX11_laySoonest_155 : decode cX11_laySoonest 155 = .ok (.if_icmp .ge 8, 3) := by decide +kernel
theorem dX11_laySoonest_158 : decode cX11_laySoonest 158 = .ok (.iload 7, 2) := by decide +kernel
theorem dX11_laySoonest_160 : decode cX11_laySoonest 160 = .ok (.goto 5, 3) := by decide +kernel
theorem dX11_laySoonest_163 : decode cX11_laySoonest 163 = .ok (.iload 5, 2) := by decide +kernel
theorem dX11_laySoonest_165 : decode cX11_laySoonest 165 = .ok (.istore 5, 2) := by decide +kernel
theorem dX11_laySoonest_167 : decode cX11_laySoonest 167 = .ok (.iinc 6 1, 3) := by decide +kernel
theorem dX11_laySoonest_170 : decode cX11_laySoonest 170 = .ok (.goto (-99), 3) := by decide +kernel
theorem dX11_laySoonest_173 : decode cX11_laySoonest 173 = .ok (.aload_n 0, 1) := by decide +kernel
theorem dX11_laySoonest_174 : decode cX11_laySoonest 174 = .ok (.getfield 27, 3) := by decide +kernel
theorem dX11_laySoonest_177 : decode cX11_laySoonest 177 = .ok (.iload_n 2, 1) := by decide +kernel
theorem dX11_laySoonest_178 : decode cX11_laySoonest 178 = .ok (.iload_n 3, 1) := by decide +kernel
theorem dX11_laySoonest_179 : decode cX11_laySoonest 179 = .ok (.iload 4, 2) := by decide +kernel
theorem dX11_laySoonest_181 : decode cX11_laySoonest 181 = .ok (.invokestatic 146, 3) := by decide +kernel
theorem dX11_laySoonest_184 : decode cX11_laySoonest 184 = .ok (.iload 5, 2) := by decide +kernel
theorem dX11_laySoonest_186 : decode cX11_laySoonest 186 = .ok (.iastore, 1) := by decide +kernel
theorem dX11_laySoonest_187 : decode cX11_laySoonest 187 = .ok (.iinc 4 1, 3) := by decide +kernel
theorem dX11_laySoonest_190 : decode cX11_laySoonest 190 = .ok (.goto (-173), 3) := by decide +kernel
theorem dX11_laySoonest_193 : decode cX11_laySoonest 193 = .ok (.iinc 3 1, 3) := by decide +kernel
theorem dX11_laySoonest_196 : decode cX11_laySoonest 196 = .ok (.goto (-187), 3) := by decide +kernel
theorem dX11_laySoonest_199 : decode cX11_laySoonest 199 = .ok (.iinc 2 (-1), 3) := by decide +kernel
theorem dX11_laySoonest_202 : decode cX11_laySoonest 202 = .ok (.goto (-199), 3) := by decide +kernel
theorem dX11_laySoonest_205 : decode cX11_laySoonest 205 = .ok (.return_, 1) := by decide +kernel
theorem dX11_strikerIn_0 : decode cX11_strikerIn 0 = .ok (.aload_n 0, 1) := by decide +kernel
theorem dX11_strikerIn_1 : decode cX11_strikerIn 1 = .ok (.getfield 7, 3) := by decide +kernel
theorem dX11_strikerIn_4 : decode cX11_strikerIn 4 = .ok (.bipush 8, 2) := by decide +kernel
theorem dX11_strikerIn_6 : decode cX11_strikerIn 6 = .ok (.iaload, 1) := by decide +kernel
theorem dX11_strikerIn_7 : decode cX11_strikerIn 7 = .ok (.istore_n 3, 1) := by decide +kernel
theorem dX11_strikerIn_8 : decode cX11_strikerIn 8 = .ok (.iconst 0, 1) := by decide +kernel
theorem dX11_strikerIn_9 : decode cX11_strikerIn 9 = .ok (.istore 4, 2) := by decide +kernel
theorem dX11_strikerIn_11 : decode cX11_strikerIn 11 = .ok (.iconst (-1), 1) := by decide +kernel
theorem dX11_strikerIn_12 : decode cX11_strikerIn 12 = .ok (.istore 5, 2) := by decide +kernel
theorem dX11_strikerIn_14 : decode cX11_strikerIn 14 = .ok (.iconst 0, 1) := by decide +kernel
theorem dX11_strikerIn_15 : decode cX11_strikerIn 15 = .ok (.istore 6, 2) := by decide +kernel
theorem dX11_strikerIn_17 : decode cX11_strikerIn 17 = .ok (.iload 6, 2) := by decide +kernel
theorem dX11_strikerIn_19 : decode cX11_strikerIn 19 = .ok (.iload_n 1, 1) := by decide +kernel
theorem dX11_strikerIn_20 : decode cX11_strikerIn 20 = .ok (.if_icmp .gt 116, 3) := by decide +kernel
theorem dX11_strikerIn_23 : decode cX11_strikerIn 23 = .ok (.iconst (-1), 1) := by decide +kernel
theorem dX11_strikerIn_24 : decode cX11_strikerIn 24 = .ok (.istore 5, 2) := by decide +kernel
theorem dX11_strikerIn_26 : decode cX11_strikerIn 26 = .ok (.aload_n 0, 1) := by decide +kernel
theorem dX11_strikerIn_27 : decode cX11_strikerIn 27 = .ok (.getfield 27, 3) := by decide +kernel
theorem dX11_strikerIn_30 : decode cX11_strikerIn 30 = .ok (.iload 6, 2) := by decide +kernel
theorem dX11_strikerIn_32 : decode cX11_strikerIn 32 = .ok (.iconst 1, 1) := by decide +kernel
theorem dX11_strikerIn_33 : decode cX11_strikerIn 33 = .ok (.iadd, 1) := by decide +kernel
theorem dX11_strikerIn_34 : decode cX11_strikerIn 34 = .ok (.iload_n 3, 1) := by decide +kernel
theorem dX11_strikerIn_35 : decode cX11_strikerIn 35 = .ok (.iload 4, 2) := by decide +kernel
theorem dX11_strikerIn_37 : decode cX11_strikerIn 37 = .ok (.invokestatic 146, 3) := by decide +kernel
theorem dX11_strikerIn_40 : decode cX11_strikerIn 40 = .ok (.iaload, 1) := by decide +kernel
theorem dX11_strikerIn_41 : decode cX11_strikerIn 41 = .ok (.iload_n 2, 1) := by decide +kernel
theorem dX11_strikerIn_42 : decode cX11_strikerIn 42 = .ok (.if_icmp .le 88, 3) := by decide +kernel
theorem dX11_strikerIn_45 : decode cX11_strikerIn 45 = .ok (.iconst 0, 1) := by decide +kernel
theorem dX11_strikerIn_46 : decode cX11_strikerIn 46 = .ok (.istore 5, 2) := by decide +kernel
theorem dX11_strikerIn_48 : decode cX11_strikerIn 48 = .ok (.aload_n 0, 1) := by decide +kernel
theorem dX11_strikerIn_49 : decode cX11_strikerIn 49 = .ok (.getfield 7, 3) := by decide +kernel
theorem dX11_strikerIn_52 : decode cX11_strikerIn 52 = .ok (.bipush 26, 2) := by decide +kernel
theorem dX11_strikerIn_54 : decode cX11_strikerIn 54 = .ok (.iload 5, 2) := by decide +kernel
theorem dX11_strikerIn_56 : decode cX11_strikerIn 56 = .ok (.iadd, 1) := by decide +kernel
theorem dX11_strikerIn_57 : decode cX11_strikerIn 57 = .ok (.iaload, 1) := by decide +kernel
theorem dX11_strikerIn_58 : decode cX11_strikerIn 58 = .ok (.iload_n 3, 1) := by decide +kernel
theorem dX11_strikerIn_59 : decode cX11_strikerIn 59 = .ok (.if_icmp .ne 52, 3) := by decide +kernel
theorem dX11_strikerIn_62 : decode cX11_strikerIn 62 = .ok (.aload_n 0, 1) := by decide +kernel
theorem dX11_strikerIn_63 : decode cX11_strikerIn 63 = .ok (.getfield 7, 3) := by decide +kernel
theorem dX11_strikerIn_66 : decode cX11_strikerIn 66 = .ok (.iload 5, 2) := by decide +kernel
theorem dX11_strikerIn_68 : decode cX11_strikerIn 68 = .ok (.iload_n 3, 1) := by decide +kernel
theorem dX11_strikerIn_69 : decode cX11_strikerIn 69 = .ok (.aload_n 0, 1) := by decide +kernel
theorem dX11_strikerIn_70 : decode cX11_strikerIn 70 = .ok (.getfield 7, 3) := by decide +kernel
theorem dX11_strikerIn_73 : decode cX11_strikerIn 73 = .ok (.bipush 12, 2) := by decide +kernel
theorem dX11_strikerIn_75 : decode cX11_strikerIn 75 = .ok (.iaload, 1) := by decide +kernel
theorem dX11_strikerIn_76 : decode cX11_strikerIn 76 = .ok (.iload 6, 2) := by decide +kernel
theorem dX11_strikerIn_78 : decode cX11_strikerIn 78 = .ok (.iadd, 1) := by decide +kernel
theorem dX11_strikerIn_79 : decode cX11_strikerIn 79 = .ok (.invokestatic 111, 3) := by decide +kernel
theorem dX11_strikerIn_82 : decode cX11_strikerIn 82 = .ok (.ifCond .eq 29, 3) := by decide +kernel
theorem dX11_strikerIn_85 : decode cX11_strikerIn 85 = .ok (.aload_n 0, 1) := by decide +kernel
theorem dX11_strikerIn_86 : decode cX11_strikerIn 86 = .ok (.getfield 27, 3) := by decide +kernel
theorem dX11_strikerIn_89 : decode cX11_strikerIn 89 = .ok (.iload 6, 2) := by decide +kernel
theorem dX11_strikerIn_91 : decode cX11_strikerIn 91 = .ok (.iconst 1, 1) := by decide +kernel
theorem dX11_strikerIn_92 : decode cX11_strikerIn 92 = .ok (.iadd, 1) := by decide +kernel
theorem dX11_strikerIn_93 : decode cX11_strikerIn 93 = .ok (.iconst 1, 1) := by decide +kernel
theorem dX11_strikerIn_94 : decode cX11_strikerIn 94 = .ok (.iload_n 3, 1) := by decide +kernel
theorem dX11_strikerIn_95 : decode cX11_strikerIn 95 = .ok (.isub, 1) := by decide +kernel
theorem dX11_strikerIn_96 : decode cX11_strikerIn 96 = .ok (.iload 4, 2) := by decide +kernel
theorem dX11_strikerIn_98 : decode cX11_strikerIn 98 = .ok (.iconst 1, 1) := by decide +kernel
theorem dX11_strikerIn_99 : decode cX11_strikerIn 99 = .ok (.iload 5, 2) := by decide +kernel
theorem dX11_strikerIn_101 : decode cX11_strikerIn 101 = .ok (.ishl, 1) := by decide +kernel
theorem dX11_strikerIn_102 : decode cX11_strikerIn 102 = .ok (.ior, 1) := by decide +kernel
theorem dX11_strikerIn_103 : decode cX11_strikerIn 103 = .ok (.invokestatic 146, 3) := by decide +kernel
theorem dX11_strikerIn_106 : decode cX11_strikerIn 106 = .ok (.iaload, 1) := by decide +kernel
theorem dX11_strikerIn_107 : decode cX11_strikerIn 107 = .ok (.iload_n 2, 1) := by decide +kernel
theorem dX11_strikerIn_108 : decode cX11_strikerIn 108 = .ok (.if_icmp .le 9, 3) := by decide +kernel
theorem dX11_strikerIn_111 : decode cX11_strikerIn 111 = .ok (.iinc 5 1, 3) := by decide +kernel
theorem dX11_strikerIn_114 : decode cX11_strikerIn 114 = .ok (.goto (-66), 3) := by decide +kernel
theorem dX11_strikerIn_117 : decode cX11_strikerIn 117 = .ok (.iconst 1, 1) := by decide +kernel
theorem dX11_strikerIn_118 : decode cX11_strikerIn 118 = .ok (.iload_n 3, 1) := by decide +kernel
theorem dX11_strikerIn_119 : decode cX11_strikerIn 119 = .ok (.isub, 1) := by decide +kernel
theorem dX11_strikerIn_120 : decode cX11_strikerIn 120 = .ok (.istore_n 3, 1) := by decide +kernel
theorem dX11_strikerIn_121 : decode cX11_strikerIn 121 = .ok (.iload 4, 2) := by decide +kernel
theorem dX11_strikerIn_123 : decode cX11_strikerIn 123 = .ok (.iconst 1, 1) := by decide +kernel
theorem dX11_strikerIn_124 : decode cX11_strikerIn 124 = .ok (.iload 5, 2) := by decide +kernel
theorem dX11_strikerIn_126 : decode cX11_strikerIn 126 = .ok (.ishl, 1) := by decide +kernel
theorem dX11_strikerIn_127 : decode cX11_strikerIn 127 = .ok (.ior, 1) := by decide +kernel
theorem dX11_strikerIn_128 : decode cX11_strikerIn 128 = .ok (.istore 4, 2) := by decide +kernel
theorem dX11_strikerIn_130 : decode cX11_strikerIn 130 = .ok (.iinc 6 1, 3) := by decide +kernel
theorem dX11_strikerIn_133 : decode cX11_strikerIn 133 = .ok (.goto (-116), 3) := by decide +kernel
theorem dX11_strikerIn_136 : decode cX11_strikerIn 136 = .ok (.iload 5, 2) := by decide +kernel
theorem dX11_strikerIn_138 : decode cX11_strikerIn 138 = .ok (.ireturn, 1) := by decide +kernel
theorem dX11_rally_0 : decode cX11_rally 0 = .ok (.iload_n 1, 1) := by decide +kernel
theorem dX11_rally_1 : decode cX11_rally 1 = .ok (.i2l, 1) := by decide +kernel
theorem dX11_rally_2 : decode cX11_rally 2 = .ok (.lconst 0, 1) := by decide +kernel
theorem dX11_rally_3 : decode cX11_rally 3 = .ok (.iconst 1, 1) := by decide +kernel
theorem dX11_rally_4 : decode cX11_rally 4 = .ok (.aload_n 0, 1) := by decide +kernel
theorem dX11_rally_5 : decode cX11_rally 5 = .ok (.invokevirtual 49, 3) := by decide +kernel
theorem dX11_rally_8 : decode cX11_rally 8 = .ok (.ishl, 1) := by decide +kernel
theorem dX11_rally_9 : decode cX11_rally 9 = .ok (.iconst 1, 1) := by decide +kernel
theorem dX11_rally_10 : decode cX11_rally 10 = .ok (.isub, 1) := by decide +kernel
theorem dX11_rally_11 : decode cX11_rally 11 = .ok (.i2l, 1) := by decide +kernel
theorem dX11_rally_12 : decode cX11_rally 12 = .ok (.invokestatic 53, 3) := by decide +kernel
theorem dX11_rally_15 : decode cX11_rally 15 = .ok (.ifCond .eq 14, 3) := by decide +kernel
theorem dX11_rally_18 : decode cX11_rally 18 = .ok (.iload_n 2, 1) := by decide +kernel
theorem dX11_rally_19 : decode cX11_rally 19 = .ok (.bipush (-2), 2) := by decide +kernel
theorem dX11_rally_21 : decode cX11_rally 21 = .ok (.if_icmp .lt 8, 3) := by decide +kernel
theorem dX11_rally_24 : decode cX11_rally 24 = .ok (.iload_n 2, 1) := by decide +kernel
theorem dX11_rally_25 : decode cX11_rally 25 = .ok (.iconst (-1), 1) := by decide +kernel
theorem dX11_rally_26 : decode cX11_rally 26 = .ok (.if_icmp .ne 10, 3) := by decide +kernel
theorem dX11_rally_29 : decode cX11_rally 29 = .ok (.aload_n 0, 1) := by decide +kernel
theorem dX11_rally_30 : decode cX11_rally 30 = .ok (.bipush (-10), 2) := by decide +kernel
theorem dX11_rally_32 : decode cX11_rally 32 = .ok (.invokevirtual 67, 3) := by decide +kernel
theorem dX11_rally_35 : decode cX11_rally 35 = .ok (.ireturn, 1) := by decide +kernel
theorem dX11_rally_36 : decode cX11_rally 36 = .ok (.aload_n 0, 1) := by decide +kernel
theorem dX11_rally_37 : decode cX11_rally 37 = .ok (.iload_n 1, 1) := by decide +kernel
theorem dX11_rally_38 : decode cX11_rally 38 = .ok (.invokevirtual 149, 3) := by decide +kernel
theorem dX11_rally_41 : decode cX11_rally 41 = .ok (.aload_n 0, 1) := by decide +kernel
theorem dX11_rally_42 : decode cX11_rally 42 = .ok (.getfield 7, 3) := by decide +kernel
theorem dX11_rally_45 : decode cX11_rally 45 = .ok (.bipush 9, 2) := by decide +kernel
theorem dX11_rally_47 : decode cX11_rally 47 = .ok (.iaload, 1) := by decide +kernel
theorem dX11_rally_48 : decode cX11_rally 48 = .ok (.iconst 1, 1) := by decide +kernel
theorem dX11_rally_49 : decode cX11_rally 49 = .ok (.if_icmp .eq 7, 3) := by decide +kernel
theorem dX11_rally_52 : decode cX11_rally 52 = .ok (.iload_n 1, 1) := by decide +kernel
theorem dX11_rally_53 : decode cX11_rally 53 = .ok (.ifCond .ne 23, 3) := by decide +kernel
theorem dX11_rally_56 : decode cX11_rally 56 = .ok (.aload_n 0, 1) := by decide +kernel
theorem dX11_rally_57 : decode cX11_rally 57 = .ok (.getfield 27, 3) := by decide +kernel
theorem dX11_rally_60 : decode cX11_rally 60 = .ok (.iconst 0, 1) := by decide +kernel
theorem dX11_rally_61 : decode cX11_rally 61 = .ok (.aload_n 0, 1) := by decide +kernel
theorem dX11_rally_62 : decode cX11_rally 62 = .ok (.getfield 7, 3) := by decide +kernel
