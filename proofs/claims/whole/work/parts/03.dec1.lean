theorem dX0_rests_0 : decode cX0_rests 0 = .ok (.iload_n 0, 1) := by decide +kernel
theorem dX0_rests_1 : decode cX0_rests 1 = .ok (.iload_n 1, 1) := by decide +kernel
theorem dX0_rests_2 : decode cX0_rests 2 = .ok (.iload_n 2, 1) := by decide +kernel
theorem dX0_rests_3 : decode cX0_rests 3 = .ok (.iload_n 3, 1) := by decide +kernel
theorem dX0_rests_4 : decode cX0_rests 4 = .ok (.invokestatic 7, 3) := by decide +kernel
theorem dX0_rests_7 : decode cX0_rests 7 = .ok (.iconst 1, 1) := by decide +kernel
theorem dX0_rests_8 : decode cX0_rests 8 = .ok (.iload_n 0, 1) := by decide +kernel
theorem dX0_rests_9 : decode cX0_rests 9 = .ok (.isub, 1) := by decide +kernel
theorem dX0_rests_10 : decode cX0_rests 10 = .ok (.iload_n 1, 1) := by decide +kernel
theorem dX0_rests_11 : decode cX0_rests 11 = .ok (.iload_n 2, 1) := by decide +kernel
theorem dX0_rests_12 : decode cX0_rests 12 = .ok (.iload_n 3, 1) := by decide +kernel
theorem dX0_rests_13 : decode cX0_rests 13 = .ok (.invokestatic 7, 3) := by decide +kernel
theorem dX0_rests_16 : decode cX0_rests 16 = .ok (.if_icmp .lt 26, 3) := by decide +kernel
theorem dX0_rests_19 : decode cX0_rests 19 = .ok (.iload_n 1, 1) := by decide +kernel
theorem dX0_rests_20 : decode cX0_rests 20 = .ok (.iload_n 0, 1) := by decide +kernel
theorem dX0_rests_21 : decode cX0_rests 21 = .ok (.iload_n 3, 1) := by decide +kernel
theorem dX0_rests_22 : decode cX0_rests 22 = .ok (.iload_n 2, 1) := by decide +kernel
theorem dX0_rests_23 : decode cX0_rests 23 = .ok (.invokestatic 7, 3) := by decide +kernel
theorem dX0_rests_26 : decode cX0_rests 26 = .ok (.iconst 1, 1) := by decide +kernel
theorem dX0_rests_27 : decode cX0_rests 27 = .ok (.iload_n 1, 1) := by decide +kernel
theorem dX0_rests_28 : decode cX0_rests 28 = .ok (.isub, 1) := by decide +kernel
theorem dX0_rests_29 : decode cX0_rests 29 = .ok (.iload_n 0, 1) := by decide +kernel
theorem dX0_rests_30 : decode cX0_rests 30 = .ok (.iload_n 3, 1) := by decide +kernel
theorem dX0_rests_31 : decode cX0_rests 31 = .ok (.iload_n 2, 1) := by decide +kernel
theorem dX0_rests_32 : decode cX0_rests 32 = .ok (.invokestatic 7, 3) := by decide +kernel
theorem dX0_rests_35 : decode cX0_rests 35 = .ok (.if_icmp .lt 7, 3) := by decide +kernel
theorem dX0_rests_38 : decode cX0_rests 38 = .ok (.iconst 1, 1) := by decide +kernel
theorem dX0_rests_39 : decode cX0_rests 39 = .ok (.goto 4, 3) := by decide +kernel
theorem dX0_rests_42 : decode cX0_rests 42 = .ok (.iconst 0, 1) := by decide +kernel
theorem dX0_rests_43 : decode cX0_rests 43 = .ok (.ireturn, 1) := by decide +kernel
theorem dX0_gain_0 : decode cX0_gain 0 = .ok (.iload_n 0, 1) := by decide +kernel
theorem dX0_gain_1 : decode cX0_gain 1 = .ok (.iload_n 1, 1) := by decide +kernel
theorem dX0_gain_2 : decode cX0_gain 2 = .ok (.if_icmp .ne 7, 3) := by decide +kernel
theorem dX0_gain_5 : decode cX0_gain 5 = .ok (.iconst (-1), 1) := by decide +kernel
theorem dX0_gain_6 : decode cX0_gain 6 = .ok (.iload_n 0, 1) := by decide +kernel
theorem dX0_gain_7 : decode cX0_gain 7 = .ok (.isub, 1) := by decide +kernel
theorem dX0_gain_8 : decode cX0_gain 8 = .ok (.ireturn, 1) := by decide +kernel
theorem dX0_gain_9 : decode cX0_gain 9 = .ok (.iload_n 0, 1) := by decide +kernel
theorem dX0_gain_10 : decode cX0_gain 10 = .ok (.iconst 1, 1) := by decide +kernel
theorem dX0_gain_11 : decode cX0_gain 11 = .ok (.if_icmp .ne 16, 3) := by decide +kernel
theorem dX0_gain_14 : decode cX0_gain 14 = .ok (.iload_n 2, 1) := by decide +kernel
theorem dX0_gain_15 : decode cX0_gain 15 = .ok (.ifCond .eq 7, 3) := by decide +kernel
theorem dX0_gain_18 : decode cX0_gain 18 = .ok (.iconst 2, 1) := by decide +kernel
theorem dX0_gain_19 : decode cX0_gain 19 = .ok (.goto 5, 3) := by decide +kernel
theorem dX0_gain_22 : decode cX0_gain 22 = .ok (.bipush (-2), 2) := by decide +kernel
theorem dX0_gain_24 : decode cX0_gain 24 = .ok (.iconst 1, 1) := by decide +kernel
theorem dX0_gain_25 : decode cX0_gain 25 = .ok (.isub, 1) := by decide +kernel
theorem dX0_gain_26 : decode cX0_gain 26 = .ok (.ireturn, 1) := by decide +kernel
theorem dX0_gain_27 : decode cX0_gain 27 = .ok (.iload_n 3, 1) := by decide +kernel
theorem dX0_gain_28 : decode cX0_gain 28 = .ok (.ifCond .eq 7, 3) := by decide +kernel
theorem dX0_gain_31 : decode cX0_gain 31 = .ok (.iconst 3, 1) := by decide +kernel
theorem dX0_gain_32 : decode cX0_gain 32 = .ok (.goto 5, 3) := by decide +kernel
theorem dX0_gain_35 : decode cX0_gain 35 = .ok (.bipush (-2), 2) := by decide +kernel
theorem dX0_gain_37 : decode cX0_gain 37 = .ok (.ireturn, 1) := by decide +kernel
theorem dX1_init_0 : decode cX1_init 0 = .ok (.aload_n 0, 1) := by decide +kernel
theorem dX1_init_1 : decode cX1_init 1 = .ok (.invokespecial 3, 3) := by decide +kernel
theorem dX1_init_4 : decode cX1_init 4 = .ok (.aload_n 0, 1) := by decide +kernel
theorem dX1_init_5 : decode cX1_init 5 = .ok (.bipush 6, 2) := by decide +kernel
theorem dX1_init_7 : decode cX1_init 7 = .ok (.newarray .int, 2) := by decide +kernel
theorem dX1_init_9 : decode cX1_init 9 = .ok (.putfield 11, 3) := by decide +kernel
theorem dX1_init_12 : decode cX1_init 12 = .ok (.return_, 1) := by decide +kernel
theorem dX1_weights_0 : decode cX1_weights 0 = .ok (.iconst 0, 1) := by decide +kernel
theorem dX1_weights_1 : decode cX1_weights 1 = .ok (.istore_n 2, 1) := by decide +kernel
theorem dX1_weights_2 : decode cX1_weights 2 = .ok (.iconst 1, 1) := by decide +kernel
theorem dX1_weights_3 : decode cX1_weights 3 = .ok (.istore_n 3, 1) := by decide +kernel
theorem dX1_weights_4 : decode cX1_weights 4 = .ok (.iload_n 3, 1) := by decide +kernel
theorem dX1_weights_5 : decode cX1_weights 5 = .ok (.bipush 9, 2) := by decide +kernel
theorem dX1_weights_7 : decode cX1_weights 7 = .ok (.if_icmp .gt 23, 3) := by decide +kernel
theorem dX1_weights_10 : decode cX1_weights 10 = .ok (.aload_n 1, 1) := by decide +kernel
theorem dX1_weights_11 : decode cX1_weights 11 = .ok (.iload_n 3, 1) := by decide +kernel
theorem dX1_weights_12 : decode cX1_weights 12 = .ok (.invokestatic 19, 3) := by decide +kernel
theorem dX1_weights_15 : decode cX1_weights 15 = .ok (.ifCond .eq 9, 3) := by decide +kernel
theorem dX1_weights_18 : decode cX1_weights 18 = .ok (.iload_n 2, 1) := by decide +kernel
theorem dX1_weights_19 : decode cX1_weights 19 = .ok (.iconst 1, 1) := by decide +kernel
theorem dX1_weights_20 : decode cX1_weights 20 = .ok (.iload_n 3, 1) := by decide +kernel
theorem dX1_weights_21 : decode cX1_weights 21 = .ok (.ishl, 1) := by decide +kernel
theorem dX1_weights_22 : decode cX1_weights 22 = .ok (.ior, 1) := by decide +kernel
theorem dX1_weights_23 : decode cX1_weights 23 = .ok (.istore_n 2, 1) := by decide +kernel
theorem dX1_weights_24 : decode cX1_weights 24 = .ok (.iinc 3 1, 3) := by decide +kernel
theorem dX1_weights_27 : decode cX1_weights 27 = .ok (.goto (-23), 3) := by decide +kernel
theorem dX1_weights_30 : decode cX1_weights 30 = .ok (.iload_n 2, 1) := by decide +kernel
theorem dX1_weights_31 : decode cX1_weights 31 = .ok (.ireturn, 1) := by decide +kernel
theorem dX1_tellingHour_0 : decode cX1_tellingHour 0 = .ok (.iconst (-1), 1) := by decide +kernel
theorem dX1_tellingHour_1 : decode cX1_tellingHour 1 = .ok (.istore 4, 2) := by decide +kernel
theorem dX1_tellingHour_3 : decode cX1_tellingHour 3 = .ok (.iload_n 3, 1) := by decide +kernel
theorem dX1_tellingHour_4 : decode cX1_tellingHour 4 = .ok (.invokestatic 23, 3) := by decide +kernel
theorem dX1_tellingHour_7 : decode cX1_tellingHour 7 = .ok (.iconst 1, 1) := by decide +kernel
theorem dX1_tellingHour_8 : decode cX1_tellingHour 8 = .ok (.iadd, 1) := by decide +kernel
theorem dX1_tellingHour_9 : decode cX1_tellingHour 9 = .ok (.istore 5, 2) := by decide +kernel
theorem dX1_tellingHour_11 : decode cX1_tellingHour 11 = .ok (.iconst 0, 1) := by decide +kernel
theorem dX1_tellingHour_12 : decode cX1_tellingHour 12 = .ok (.istore 6, 2) := by decide +kernel
theorem dX1_tellingHour_14 : decode cX1_tellingHour 14 = .ok (.iload 6, 2) := by decide +kernel
theorem dX1_tellingHour_16 : decode cX1_tellingHour 16 = .ok (.bipush 24, 2) := by decide +kernel
theorem dX1_tellingHour_18 : decode cX1_tellingHour 18 = .ok (.if_icmp .ge 40, 3) := by decide +kernel
theorem dX1_tellingHour_21 : decode cX1_tellingHour 21 = .ok (.iload 5, 2) := by decide +kernel
theorem dX1_tellingHour_23 : decode cX1_tellingHour 23 = .ok (.iconst 1, 1) := by decide +kernel
theorem dX1_tellingHour_24 : decode cX1_tellingHour 24 = .ok (.if_icmp .le 34, 3) := by decide +kernel
theorem dX1_tellingHour_27 : decode cX1_tellingHour 27 = .ok (.aload_n 1, 1) := by decide +kernel
theorem dX1_tellingHour_28 : decode cX1_tellingHour 28 = .ok (.iload_n 2, 1) := by decide +kernel
theorem dX1_tellingHour_29 : decode cX1_tellingHour 29 = .ok (.iload 6, 2) := by decide +kernel
theorem dX1_tellingHour_31 : decode cX1_tellingHour 31 = .ok (.iload_n 3, 1) := by decide +kernel
theorem dX1_tellingHour_32 : decode cX1_tellingHour 32 = .ok (.invokestatic 29, 3) := by decide +kernel
theorem dX1_tellingHour_35 : decode cX1_tellingHour 35 = .ok (.istore 7, 2) := by decide +kernel
theorem dX1_tellingHour_37 : decode cX1_tellingHour 37 = .ok (.iload 7, 2) := by decide +kernel
theorem dX1_tellingHour_39 : decode cX1_tellingHour 39 = .ok (.iload 5, 2) := by decide +kernel
theorem dX1_tellingHour_41 : decode cX1_tellingHour 41 = .ok (.if_icmp .ge 11, 3) := by decide +kernel
theorem dX1_tellingHour_44 : decode cX1_tellingHour 44 = .ok (.iload 7, 2) := by decide +kernel
theorem dX1_tellingHour_46 : decode cX1_tellingHour 46 = .ok (.istore 5, 2) := by decide +kernel
theorem dX1_tellingHour_48 : decode cX1_tellingHour 48 = .ok (.iload 6, 2) := by decide +kernel
theorem dX1_tellingHour_50 : decode cX1_tellingHour 50 = .ok (.istore 4, 2) := by decide +kernel
theorem dX1_tellingHour_52 : decode cX1_tellingHour 52 = .ok (.iinc 6 1, 3) := by decide +kernel
theorem dX1_tellingHour_55 : decode cX1_tellingHour 55 = .ok (.goto (-41), 3) := by decide +kernel
theorem dX1_tellingHour_58 : decode cX1_tellingHour 58 = .ok (.iload 4, 2) := by decide +kernel
theorem dX1_tellingHour_60 : decode cX1_tellingHour 60 = .ok (.ireturn, 1) := by decide +kernel
theorem dX1_cockKinds_0 : decode cX1_cockKinds 0 = .ok (.iconst 0, 1) := by decide +kernel
theorem dX1_cockKinds_1 : decode cX1_cockKinds 1 = .ok (.istore_n 2, 1) := by decide +kernel
theorem dX1_cockKinds_2 : decode cX1_cockKinds 2 = .ok (.iconst 0, 1) := by decide +kernel
theorem dX1_cockKinds_3 : decode cX1_cockKinds 3 = .ok (.istore_n 3, 1) := by decide +kernel
theorem dX1_cockKinds_4 : decode cX1_cockKinds 4 = .ok (.iload_n 3, 1) := by decide +kernel
theorem dX1_cockKinds_5 : decode cX1_cockKinds 5 = .ok (.bipush 6, 2) := by decide +kernel
theorem dX1_cockKinds_7 : decode cX1_cockKinds 7 = .ok (.if_icmp .ge 26, 3) := by decide +kernel
theorem dX1_cockKinds_10 : decode cX1_cockKinds 10 = .ok (.aload_n 1, 1) := by decide +kernel
theorem dX1_cockKinds_11 : decode cX1_cockKinds 11 = .ok (.getfield 33, 3) := by decide +kernel
theorem dX1_cockKinds_14 : decode cX1_cockKinds 14 = .ok (.iload_n 3, 1) := by decide +kernel
theorem dX1_cockKinds_15 : decode cX1_cockKinds 15 = .ok (.invokestatic 37, 3) := by decide +kernel
theorem dX1_cockKinds_18 : decode cX1_cockKinds 18 = .ok (.ifCond .eq 9, 3) := by decide +kernel
theorem dX1_cockKinds_21 : decode cX1_cockKinds 21 = .ok (.iload_n 2, 1) := by decide +kernel
theorem dX1_cockKinds_22 : decode cX1_cockKinds 22 = .ok (.iconst 1, 1) := by decide +kernel
theorem dX1_cockKinds_23 : decode cX1_cockKinds 23 = .ok (.iload_n 3, 1) := by decide +kernel
theorem dX1_cockKinds_24 : decode cX1_cockKinds 24 = .ok (.ishl, 1) := by decide +kernel
theorem dX1_cockKinds_25 : decode cX1_cockKinds 25 = .ok (.ior, 1) := by decide +kernel
theorem dX1_cockKinds_26 : decode cX1_cockKinds 26 = .ok (.istore_n 2, 1) := by decide +kernel
theorem dX1_cockKinds_27 : decode cX1_cockKinds 27 = .ok (.iinc 3 1, 3) := by decide +kernel
theorem dX1_cockKinds_30 : decode cX1_cockKinds 30 = .ok (.goto (-26), 3) := by decide +kernel
theorem dX1_cockKinds_33 : decode cX1_cockKinds 33 = .ok (.iload_n 2, 1) := by decide +kernel
theorem dX1_cockKinds_34 : decode cX1_cockKinds 34 = .ok (.ireturn, 1) := by decide +kernel
theorem dX1_nextLook_0 : decode cX1_nextLook 0 = .ok (.aload_n 0, 1) := by decide +kernel
theorem dX1_nextLook_1 : decode cX1_nextLook 1 = .ok (.aload_n 1, 1) := by decide +kernel
theorem dX1_nextLook_2 : decode cX1_nextLook 2 = .ok (.invokevirtual 41, 3) := by decide +kernel
theorem dX1_nextLook_5 : decode cX1_nextLook 5 = .ok (.istore_n 2, 1) := by decide +kernel
theorem dX1_nextLook_6 : decode cX1_nextLook 6 = .ok (.aload_n 1, 1) := by decide +kernel
theorem dX1_nextLook_7 : decode cX1_nextLook 7 = .ok (.getfield 45, 3) := by decide +kernel
theorem dX1_nextLook_10 : decode cX1_nextLook 10 = .ok (.iconst 1, 1) := by decide +kernel
theorem dX1_nextLook_11 : decode cX1_nextLook 11 = .ok (.iaload, 1) := by decide +kernel
theorem dX1_nextLook_12 : decode cX1_nextLook 12 = .ok (.istore_n 3, 1) := by decide +kernel
theorem dX1_nextLook_13 : decode cX1_nextLook 13 = .ok (.iconst (-1), 1) := by decide +kernel
theorem dX1_nextLook_14 : decode cX1_nextLook 14 = .ok (.istore 4, 2) := by decide +kernel
theorem dX1_nextLook_16 : decode cX1_nextLook 16 = .ok (.iload_n 2, 1) := by decide +kernel
theorem dX1_nextLook_17 : decode cX1_nextLook 17 = .ok (.invokestatic 23, 3) := by decide +kernel
theorem dX1_nextLook_20 : decode cX1_nextLook 20 = .ok (.iconst 1, 1) := by decide +kernel
theorem dX1_nextLook_21 : decode cX1_nextLook 21 = .ok (.iadd, 1) := by decide +kernel
theorem dX1_nextLook_22 : decode cX1_nextLook 22 = .ok (.istore 5, 2) := by decide +kernel
theorem dX1_nextLook_24 : decode cX1_nextLook 24 = .ok (.iconst 0, 1) := by decide +kernel
theorem dX1_nextLook_25 : decode cX1_nextLook 25 = .ok (.istore 6, 2) := by decide +kernel
theorem dX1_nextLook_27 : decode cX1_nextLook 27 = .ok (.iload 6, 2) := by decide +kernel
theorem dX1_nextLook_29 : decode cX1_nextLook 29 = .ok (.bipush 30, 2) := by decide +kernel
theorem dX1_nextLook_31 : decode cX1_nextLook 31 = .ok (.if_icmp .gt 66, 3) := by decide +kernel
theorem dX1_nextLook_34 : decode cX1_nextLook 34 = .ok (.iload 5, 2) := by decide +kernel
theorem dX1_nextLook_36 : decode cX1_nextLook 36 = .ok (.iconst 1, 1) := by decide +kernel
theorem dX1_nextLook_37 : decode cX1_nextLook 37 = .ok (.if_icmp .le 60, 3) := by decide +kernel
theorem dX1_nextLook_40 : decode cX1_nextLook 40 = .ok (.bipush (-4), 2) := by decide +kernel
theorem dX1_nextLook_42 : decode cX1_nextLook 42 = .ok (.istore 7, 2) := by decide +kernel
theorem dX1_nextLook_44 : decode cX1_nextLook 44 = .ok (.iload 7, 2) := by decide +kernel
theorem dX1_nextLook_46 : decode cX1_nextLook 46 = .ok (.iconst 4, 1) := by decide +kernel
theorem dX1_nextLook_47 : decode cX1_nextLook 47 = .ok (.if_icmp .gt 44, 3) := by decide +kernel
theorem dX1_nextLook_50 : decode cX1_nextLook 50 = .ok (.aload_n 0, 1) := by decide +kernel
theorem dX1_nextLook_51 : decode cX1_nextLook 51 = .ok (.iload_n 2, 1) := by decide +kernel
theorem dX1_nextLook_52 : decode cX1_nextLook 52 = .ok (.iload_n 3, 1) := by decide +kernel
theorem dX1_nextLook_53 : decode cX1_nextLook 53 = .ok (.iload 6, 2) := by decide +kernel
theorem dX1_nextLook_55 : decode cX1_nextLook 55 = .ok (.iload 7, 2) := by decide +kernel
theorem dX1_nextLook_57 : decode cX1_nextLook 57 = .ok (.invokevirtual 48, 3) := by decide +kernel
theorem dX1_nextLook_60 : decode cX1_nextLook 60 = .ok (.istore 8, 2) := by decide +kernel
theorem dX1_nextLook_62 : decode cX1_nextLook 62 = .ok (.iload 8, 2) := by decide +kernel
theorem dX1_nextLook_64 : decode cX1_nextLook 64 = .ok (.iload 5, 2) := by decide +kernel
theorem dX1_nextLook_66 : decode cX1_nextLook 66 = .ok (.if_icmp .ge 19, 3) := by decide +kernel
theorem dX1_nextLook_69 : decode cX1_nextLook 69 = .ok (.iload 8, 2) := by decide +kernel
theorem dX1_nextLook_71 : decode cX1_nextLook 71 = .ok (.istore 5, 2) := by decide +kernel
theorem dX1_nextLook_73 : decode cX1_nextLook 73 = .ok (.bipush 10, 2) := by decide +kernel
theorem dX1_nextLook_75 : decode cX1_nextLook 75 = .ok (.iload 6, 2) := by decide +kernel
theorem dX1_nextLook_77 : decode cX1_nextLook 77 = .ok (.imul, 1) := by decide +kernel
theorem dX1_nextLook_78 : decode cX1_nextLook 78 = .ok (.iload 7, 2) := by decide +kernel
theorem dX1_nextLook_80 : decode cX1_nextLook 80 = .ok (.iadd, 1) := by decide +kernel
theorem dX1_nextLook_81 : decode cX1_nextLook 81 = .ok (.iconst 4, 1) := by decide +kernel
theorem dX1_nextLook_82 : decode cX1_nextLook 82 = .ok (.iadd, 1) := by decide +kernel
theorem dX1_nextLook_83 : decode cX1_nextLook 83 = .ok (.istore 4, 2) := by decide +kernel
theorem dX1_nextLook_85 : decode cX1_nextLook 85 = .ok (.iinc 7 1, 3) := by decide +kernel
theorem dX1_nextLook_88 : decode cX1_nextLook 88 = .ok (.goto (-44), 3) := by decide +kernel
theorem dX1_nextLook_91 : decode cX1_nextLook 91 = .ok (.iinc 6 1, 3) := by decide +kernel
theorem dX1_nextLook_94 : decode cX1_nextLook 94 = .ok (.goto (-67), 3) := by decide +kernel
theorem dX1_nextLook_97 : decode cX1_nextLook 97 = .ok (.iload 4, 2) := by decide +kernel
theorem dX1_nextLook_99 : decode cX1_nextLook 99 = .ok (.ireturn, 1) := by decide +kernel
theorem dX1_playerKinds_0 : decode cX1_playerKinds 0 = .ok (.iconst 0, 1) := by decide +kernel
theorem dX1_playerKinds_1 : decode cX1_playerKinds 1 = .ok (.istore_n 3, 1) := by decide +kernel
theorem dX1_playerKinds_2 : decode cX1_playerKinds 2 = .ok (.iconst 0, 1) := by decide +kernel
theorem dX1_playerKinds_3 : decode cX1_playerKinds 3 = .ok (.istore 4, 2) := by decide +kernel
theorem dX1_playerKinds_5 : decode cX1_playerKinds 5 = .ok (.iload 4, 2) := by decide +kernel
theorem dX1_playerKinds_7 : decode cX1_playerKinds 7 = .ok (.bipush 6, 2) := by decide +kernel
theorem dX1_playerKinds_9 : decode cX1_playerKinds 9 = .ok (.if_icmp .ge 29, 3) := by decide +kernel
theorem dX1_playerKinds_12 : decode cX1_playerKinds 12 = .ok (.aload_n 1, 1) := by decide +kernel
theorem dX1_playerKinds_13 : decode cX1_playerKinds 13 = .ok (.getfield 52, 3) := by decide +kernel
theorem dX1_playerKinds_16 : decode cX1_playerKinds 16 = .ok (.iload_n 2, 1) := by decide +kernel
theorem dX1_playerKinds_17 : decode cX1_playerKinds 17 = .ok (.iload 4, 2) := by decide +kernel
theorem dX1_playerKinds_19 : decode cX1_playerKinds 19 = .ok (.invokestatic 55, 3) := by decide +kernel
theorem dX1_playerKinds_22 : decode cX1_playerKinds 22 = .ok (.ifCond .eq 10, 3) := by decide +kernel
theorem dX1_playerKinds_25 : decode cX1_playerKinds 25 = .ok (.iload_n 3, 1) := by decide +kernel
theorem dX1_playerKinds_26 : decode cX1_playerKinds 26 = .ok (.iconst 1, 1) := by decide +kernel
theorem dX1_playerKinds_27 : decode cX1_playerKinds 27 = .ok (.iload 4, 2) := by decide +kernel
theorem dX1_playerKinds_29 : decode cX1_playerKinds 29 = .ok (.ishl, 1) := by decide +kernel
theorem dX1_playerKinds_30 : decode cX1_playerKinds 30 = .ok (.ior, 1) := by decide +kernel
theorem dX1_playerKinds_31 : decode cX1_playerKinds 31 = .ok (.istore_n 3, 1) := by decide +kernel
theorem dX1_playerKinds_32 : decode cX1_playerKinds 32 = .ok (.iinc 4 1, 3) := by decide +kernel
theorem dX1_playerKinds_35 : decode cX1_playerKinds 35 = .ok (.goto (-30), 3) := by decide +kernel
theorem dX1_playerKinds_38 : decode cX1_playerKinds 38 = .ok (.iload_n 3, 1) := by decide +kernel
theorem dX1_playerKinds_39 : decode cX1_playerKinds 39 = .ok (.ireturn, 1) := by decide +kernel
theorem dX1_askingHour_0 : decode cX1_askingHour 0 = .ok (.aload_n 0, 1) := by decide +kernel
theorem dX1_askingHour_1 : decode cX1_askingHour 1 = .ok (.aload_n 1, 1) := by decide +kernel
theorem dX1_askingHour_2 : decode cX1_askingHour 2 = .ok (.iload_n 2, 1) := by decide +kernel
theorem dX1_askingHour_3 : decode cX1_askingHour 3 = .ok (.invokevirtual 59, 3) := by decide +kernel
theorem dX1_askingHour_6 : decode cX1_askingHour 6 = .ok (.istore_n 3, 1) := by decide +kernel
theorem dX1_askingHour_7 : decode cX1_askingHour 7 = .ok (.aload_n 1, 1) := by decide +kernel
theorem dX1_askingHour_8 : decode cX1_askingHour 8 = .ok (.getfield 63, 3) := by decide +kernel
theorem dX1_askingHour_11 : decode cX1_askingHour 11 = .ok (.iload_n 2, 1) := by decide +kernel
theorem dX1_askingHour_12 : decode cX1_askingHour 12 = .ok (.iconst 2, 1) := by decide +kernel
theorem dX1_askingHour_13 : decode cX1_askingHour 13 = .ok (.invokevirtual 66, 3) := by decide +kernel
theorem dX1_askingHour_16 : decode cX1_askingHour 16 = .ok (.istore 4, 2) := by decide +kernel
theorem dX1_askingHour_18 : decode cX1_askingHour 18 = .ok (.iconst (-1), 1) := by decide +kernel
theorem dX1_askingHour_19 : decode cX1_askingHour 19 = .ok (.istore 5, 2) := by decide +kernel
theorem dX1_askingHour_21 : decode cX1_askingHour 21 = .ok (.iload_n 3, 1) := by decide +kernel
theorem dX1_askingHour_22 : decode cX1_askingHour 22 = .ok (.invokestatic 23, 3) := by decide +kernel
theorem dX1_askingHour_25 : decode cX1_askingHour 25 = .ok (.iconst 1, 1) := by decide +kernel
theorem dX1_askingHour_26 : decode cX1_askingHour 26 = .ok (.iadd, 1) := by decide +kernel
theorem dX1_askingHour_27 : decode cX1_askingHour 27 = .ok (.istore 6, 2) := by decide +kernel
theorem dX1_askingHour_29 : decode cX1_askingHour 29 = .ok (.iconst 0, 1) := by decide +kernel
theorem dX1_askingHour_30 : decode cX1_askingHour 30 = .ok (.istore 7, 2) := by decide +kernel
theorem dX1_askingHour_32 : decode cX1_askingHour 32 = .ok (.iload 7, 2) := by decide +kernel
theorem dX1_askingHour_34 : decode cX1_askingHour 34 = .ok (.bipush 24, 2) := by decide +kernel
theorem dX1_askingHour_36 : decode cX1_askingHour 36 = .ok (.if_icmp .ge 41, 3) := by decide +kernel
theorem dX1_askingHour_39 : decode cX1_askingHour 39 = .ok (.iload 6, 2) := by decide +kernel
theorem dX1_askingHour_41 : decode cX1_askingHour 41 = .ok (.iconst 1, 1) := by decide +kernel
theorem dX1_askingHour_42 : decode cX1_askingHour 42 = .ok (.if_icmp .le 35, 3) := by decide +kernel
theorem dX1_askingHour_45 : decode cX1_askingHour 45 = .ok (.aload_n 0, 1) := by decide +kernel
theorem dX1_askingHour_46 : decode cX1_askingHour 46 = .ok (.iload_n 3, 1) := by decide +kernel
theorem dX1_askingHour_47 : decode cX1_askingHour 47 = .ok (.iload 4, 2) := by decide +kernel
theorem dX1_askingHour_49 : decode cX1_askingHour 49 = .ok (.iload 7, 2) := by decide +kernel
theorem dX1_askingHour_51 : decode cX1_askingHour 51 = .ok (.invokevirtual 72, 3) := by decide +kernel
theorem dX1_askingHour_54 : decode cX1_askingHour 54 = .ok (.istore 8, 2) := by decide +kernel
theorem dX1_askingHour_56 : decode cX1_askingHour 56 = .ok (.iload 8, 2) := by decide +kernel
theorem dX1_askingHour_58 : decode cX1_askingHour 58 = .ok (.iload 6, 2) := by decide +kernel
theorem dX1_askingHour_60 : decode cX1_askingHour 60 = .ok (.if_icmp .ge 11, 3) := by decide +kernel
theorem dX1_askingHour_63 : decode cX1_askingHour 63 = .ok (.iload 8, 2) := by decide +kernel
theorem dX1_askingHour_65 : decode cX1_askingHour 65 = .ok (.istore 6, 2) := by decide +kernel
theorem dX1_askingHour_67 : decode cX1_askingHour 67 = .ok (.iload 7, 2) := by decide +kernel
theorem dX1_askingHour_69 : decode cX1_askingHour 69 = .ok (.istore 5, 2) := by decide +kernel
theorem dX1_askingHour_71 : decode cX1_askingHour 71 = .ok (.iinc 7 1, 3) := by decide +kernel
theorem dX1_askingHour_74 : decode cX1_askingHour 74 = .ok (.goto (-42), 3) := by decide +kernel
theorem dX1_askingHour_77 : decode cX1_askingHour 77 = .ok (.iload 5, 2) := by decide +kernel
theorem dX1_askingHour_79 : decode cX1_askingHour 79 = .ok (.ireturn, 1) := by decide +kernel
theorem dX1_fitsSeen_0 : decode cX1_fitsSeen 0 = .ok (.aload_n 0, 1) := by decide +kernel
theorem dX1_fitsSeen_1 : decode cX1_fitsSeen 1 = .ok (.getfield 76, 3) := by decide +kernel
theorem dX1_fitsSeen_4 : decode cX1_fitsSeen 4 = .ok (.astore_n 2, 1) := by decide +kernel
theorem dX1_fitsSeen_5 : decode cX1_fitsSeen 5 = .ok (.iconst 0, 1) := by decide +kernel
theorem dX1_fitsSeen_6 : decode cX1_fitsSeen 6 = .ok (.istore_n 3, 1) := by decide +kernel
theorem dX1_fitsSeen_7 : decode cX1_fitsSeen 7 = .ok (.iload_n 3, 1) := by decide +kernel
theorem dX1_fitsSeen_8 : decode cX1_fitsSeen 8 = .ok (.aload_n 2, 1) := by decide +kernel
theorem dX1_fitsSeen_9 : decode cX1_fitsSeen 9 = .ok (.invokevirtual 79, 3) := by decide +kernel
theorem dX1_fitsSeen_12 : decode cX1_fitsSeen 12 = .ok (.if_icmp .ge 50, 3) := by decide +kernel
theorem dX1_fitsSeen_15 : decode cX1_fitsSeen 15 = .ok (.aload_n 0, 1) := by decide +kernel
theorem dX1_fitsSeen_16 : decode cX1_fitsSeen 16 = .ok (.aload_n 2, 1) := by decide +kernel
theorem dX1_fitsSeen_17 : decode cX1_fitsSeen 17 = .ok (.iload_n 3, 1) := by decide +kernel
theorem dX1_fitsSeen_18 : decode cX1_fitsSeen 18 = .ok (.iconst 0, 1) := by decide +kernel
theorem dX1_fitsSeen_19 : decode cX1_fitsSeen 19 = .ok (.invokevirtual 66, 3) := by decide +kernel
theorem dX1_fitsSeen_22 : decode cX1_fitsSeen 22 = .ok (.aload_n 2, 1) := by decide +kernel
theorem dX1_fitsSeen_23 : decode cX1_fitsSeen 23 = .ok (.iload_n 3, 1) := by decide +kernel
theorem dX1_fitsSeen_24 : decode cX1_fitsSeen 24 = .ok (.iconst 1, 1) := by decide +kernel
theorem dX1_fitsSeen_25 : decode cX1_fitsSeen 25 = .ok (.invokevirtual 66, 3) := by decide +kernel
theorem dX1_fitsSeen_28 : decode cX1_fitsSeen 28 = .ok (.iload_n 1, 1) := by decide +kernel
theorem dX1_fitsSeen_29 : decode cX1_fitsSeen 29 = .ok (.invokevirtual 83, 3) := by decide +kernel
theorem dX1_fitsSeen_32 : decode cX1_fitsSeen 32 = .ok (.istore 4, 2) := by decide +kernel
theorem dX1_fitsSeen_34 : decode cX1_fitsSeen 34 = .ok (.iload 4, 2) := by decide +kernel
theorem dX1_fitsSeen_36 : decode cX1_fitsSeen 36 = .ok (.aload_n 2, 1) := by decide +kernel
theorem dX1_fitsSeen_37 : decode cX1_fitsSeen 37 = .ok (.iload_n 3, 1) := by decide +kernel
theorem dX1_fitsSeen_38 : decode cX1_fitsSeen 38 = .ok (.iconst 2, 1) := by decide +kernel
theorem dX1_fitsSeen_39 : decode cX1_fitsSeen 39 = .ok (.invokevirtual 66, 3) := by decide +kernel
theorem dX1_fitsSeen_42 : decode cX1_fitsSeen 42 = .ok (.iconst 1, 1) := by decide +kernel
theorem dX1_fitsSeen_43 : decode cX1_fitsSeen 43 = .ok (.if_icmp .ne 7, 3) := by decide +kernel
theorem dX1_fitsSeen_46 : decode cX1_fitsSeen 46 = .ok (.iconst 1, 1) := by decide +kernel
theorem dX1_fitsSeen_47 : decode cX1_fitsSeen 47 = .ok (.goto 4, 3) := by decide +kernel
theorem dX1_fitsSeen_50 : decode cX1_fitsSeen 50 = .ok (.iconst 0, 1) := by decide +kernel
theorem dX1_fitsSeen_51 : decode cX1_fitsSeen 51 = .ok (.if_icmp .eq 5, 3) := by decide +kernel
theorem dX1_fitsSeen_54 : decode cX1_fitsSeen 54 = .ok (.iconst 0, 1) := by decide +kernel
theorem dX1_fitsSeen_55 : decode cX1_fitsSeen 55 = .ok (.ireturn, 1) := by decide +kernel
theorem dX1_fitsSeen_56 : decode cX1_fitsSeen 56 = .ok (.iinc 3 1, 3) := by decide +kernel
theorem dX1_fitsSeen_59 : decode cX1_fitsSeen 59 = .ok (.goto (-52), 3) := by decide +kernel
theorem dX1_fitsSeen_62 : decode cX1_fitsSeen 62 = .ok (.iconst 1, 1) := by decide +kernel
theorem dX1_fitsSeen_63 : decode cX1_fitsSeen 63 = .ok (.ireturn, 1) := by decide +kernel
theorem dX1_greaterPart_0 : decode cX1_greaterPart 0 = .ok (.iconst 0, 1) := by decide +kernel
theorem dX1_greaterPart_1 : decode cX1_greaterPart 1 = .ok (.istore 4, 2) := by decide +kernel
theorem dX1_greaterPart_3 : decode cX1_greaterPart 3 = .ok (.iconst 0, 1) := by decide +kernel
theorem dX1_greaterPart_4 : decode cX1_greaterPart 4 = .ok (.istore 5, 2) := by decide +kernel
theorem dX1_greaterPart_6 : decode cX1_greaterPart 6 = .ok (.iconst 1, 1) := by decide +kernel
theorem dX1_greaterPart_7 : decode cX1_greaterPart 7 = .ok (.istore 6, 2) := by decide +kernel
theorem dX1_greaterPart_9 : decode cX1_greaterPart 9 = .ok (.iload 6, 2) := by decide +kernel
theorem dX1_greaterPart_11 : decode cX1_greaterPart 11 = .ok (.bipush 9, 2) := by decide +kernel
theorem dX1_greaterPart_13 : decode cX1_greaterPart 13 = .ok (.if_icmp .gt 38, 3) := by decide +kernel
theorem dX1_greaterPart_16 : decode cX1_greaterPart 16 = .ok (.iload_n 3, 1) := by decide +kernel
theorem dX1_greaterPart_17 : decode cX1_greaterPart 17 = .ok (.iload 6, 2) := by decide +kernel
theorem dX1_greaterPart_19 : decode cX1_greaterPart 19 = .ok (.ishr, 1) := by decide +kernel
theorem dX1_greaterPart_20 : decode cX1_greaterPart 20 = .ok (.iconst 1, 1) := by decide +kernel
theorem dX1_greaterPart_21 : decode cX1_greaterPart 21 = .ok (.iand, 1) := by decide +kernel
theorem dX1_greaterPart_22 : decode cX1_greaterPart 22 = .ok (.ifCond .eq 23, 3) := by decide +kernel
theorem dX1_greaterPart_25 : decode cX1_greaterPart 25 = .ok (.aload_n 0, 1) := by decide +kernel
theorem dX1_greaterPart_26 : decode cX1_greaterPart 26 = .ok (.iload_n 1, 1) := by decide +kernel
theorem dX1_greaterPart_27 : decode cX1_greaterPart 27 = .ok (.iload_n 2, 1) := by decide +kernel
theorem dX1_greaterPart_28 : decode cX1_greaterPart 28 = .ok (.iload 6, 2) := by decide +kernel
theorem dX1_greaterPart_30 : decode cX1_greaterPart 30 = .ok (.invokevirtual 83, 3) := by decide +kernel
theorem dX1_greaterPart_33 : decode cX1_greaterPart 33 = .ok (.ifCond .eq 9, 3) := by decide +kernel
theorem dX1_greaterPart_36 : decode cX1_greaterPart 36 = .ok (.iinc 4 1, 3) := by decide +kernel
theorem dX1_greaterPart_39 : decode cX1_greaterPart 39 = .ok (.goto 6, 3) := by decide +kernel
theorem dX1_greaterPart_42 : decode cX1_greaterPart 42 = .ok (.iinc 5 1, 3) := by decide +kernel
theorem dX1_greaterPart_45 : decode cX1_greaterPart 45 = .ok (.iinc 6 1, 3) := by decide +kernel
theorem dX1_greaterPart_48 : decode cX1_greaterPart 48 = .ok (.goto (-39), 3) := by decide +kernel
theorem dX1_greaterPart_51 : decode cX1_greaterPart 51 = .ok (.iload 4, 2) := by decide +kernel
theorem dX1_greaterPart_53 : decode cX1_greaterPart 53 = .ok (.iload 5, 2) := by decide +kernel
theorem dX1_greaterPart_55 : decode cX1_greaterPart 55 = .ok (.invokestatic 87, 3) := by decide +kernel
theorem dX1_greaterPart_58 : decode cX1_greaterPart 58 = .ok (.ireturn, 1) := by decide +kernel
theorem dX1_fitsNotes_0 : decode cX1_fitsNotes 0 = .ok (.iconst 0, 1) := by decide +kernel
theorem dX1_fitsNotes_1 : decode cX1_fitsNotes 1 = .ok (.istore_n 2, 1) := by decide +kernel
theorem dX1_fitsNotes_2 : decode cX1_fitsNotes 2 = .ok (.iload_n 2, 1) := by decide +kernel
theorem dX1_fitsNotes_3 : decode cX1_fitsNotes 3 = .ok (.aload_n 0, 1) := by decide +kernel
theorem dX1_fitsNotes_4 : decode cX1_fitsNotes 4 = .ok (.invokevirtual 79, 3) := by decide +kernel
theorem dX1_fitsNotes_7 : decode cX1_fitsNotes 7 = .ok (.if_icmp .ge 44, 3) := by decide +kernel
theorem dX1_fitsNotes_10 : decode cX1_fitsNotes 10 = .ok (.iload_n 1, 1) := by decide +kernel
theorem dX1_fitsNotes_11 : decode cX1_fitsNotes 11 = .ok (.aload_n 0, 1) := by decide +kernel
theorem dX1_fitsNotes_12 : decode cX1_fitsNotes 12 = .ok (.iload_n 2, 1) := by decide +kernel
theorem dX1_fitsNotes_13 : decode cX1_fitsNotes 13 = .ok (.iconst 0, 1) := by decide +kernel
theorem dX1_fitsNotes_14 : decode cX1_fitsNotes 14 = .ok (.invokevirtual 66, 3) := by decide +kernel
theorem dX1_fitsNotes_17 : decode cX1_fitsNotes 17 = .ok (.aload_n 0, 1) := by decide +kernel
theorem dX1_fitsNotes_18 : decode cX1_fitsNotes 18 = .ok (.iload_n 2, 1) := by decide +kernel
theorem dX1_fitsNotes_19 : decode cX1_fitsNotes 19 = .ok (.iconst 1, 1) := by decide +kernel
theorem dX1_fitsNotes_20 : decode cX1_fitsNotes 20 = .ok (.invokevirtual 66, 3) := by decide +kernel
theorem dX1_fitsNotes_23 : decode cX1_fitsNotes 23 = .ok (.aload_n 0, 1) := by decide +kernel
theorem dX1_fitsNotes_24 : decode cX1_fitsNotes 24 = .ok (.iload_n 2, 1) := by decide +kernel
theorem dX1_fitsNotes_25 : decode cX1_fitsNotes 25 = .ok (.iconst 2, 1) := by decide +kernel
theorem dX1_fitsNotes_26 : decode cX1_fitsNotes 26 = .ok (.invokevirtual 66, 3) := by decide +kernel
theorem dX1_fitsNotes_29 : decode cX1_fitsNotes 29 = .ok (.invokestatic 92, 3) := by decide +kernel
theorem dX1_fitsNotes_32 : decode cX1_fitsNotes 32 = .ok (.istore_n 3, 1) := by decide +kernel
theorem dX1_fitsNotes_33 : decode cX1_fitsNotes 33 = .ok (.iload_n 3, 1) := by decide +kernel
theorem dX1_fitsNotes_34 : decode cX1_fitsNotes 34 = .ok (.aload_n 0, 1) := by decide +kernel
theorem dX1_fitsNotes_35 : decode cX1_fitsNotes 35 = .ok (.iload_n 2, 1) := by decide +kernel
theorem dX1_fitsNotes_36 : decode cX1_fitsNotes 36 = .ok (.iconst 3, 1) := by decide +kernel
theorem dX1_fitsNotes_37 : decode cX1_fitsNotes 37 = .ok (.invokevirtual 66, 3) := by decide +kernel
theorem dX1_fitsNotes_40 : decode cX1_fitsNotes 40 = .ok (.if_icmp .eq 5, 3) := by decide +kernel
theorem dX1_fitsNotes_43 : decode cX1_fitsNotes 43 = .ok (.iconst 0, 1) := by decide +kernel
theorem dX1_fitsNotes_44 : decode cX1_fitsNotes 44 = .ok (.ireturn, 1) := by decide +kernel
theorem dX1_fitsNotes_45 : decode cX1_fitsNotes 45 = .ok (.iinc 2 1, 3) := by decide +kernel
theorem dX1_fitsNotes_48 : decode cX1_fitsNotes 48 = .ok (.goto (-46), 3) := by decide +kernel
theorem dX1_fitsNotes_51 : decode cX1_fitsNotes 51 = .ok (.iconst 1, 1) := by decide +kernel
theorem dX1_fitsNotes_52 : decode cX1_fitsNotes 52 = .ok (.ireturn, 1) := by decide +kernel
theorem dX1_fitsMarks_0 : decode cX1_fitsMarks 0 = .ok (.iconst 0, 1) := by decide +kernel
theorem dX1_fitsMarks_1 : decode cX1_fitsMarks 1 = .ok (.istore_n 3, 1) := by decide +kernel
theorem dX1_fitsMarks_2 : decode cX1_fitsMarks 2 = .ok (.iload_n 3, 1) := by decide +kernel
theorem dX1_fitsMarks_3 : decode cX1_fitsMarks 3 = .ok (.aload_n 0, 1) := by decide +kernel
theorem dX1_fitsMarks_4 : decode cX1_fitsMarks 4 = .ok (.invokevirtual 79, 3) := by decide +kernel
theorem dX1_fitsMarks_7 : decode cX1_fitsMarks 7 = .ok (.if_icmp .ge 50, 3) := by decide +kernel
theorem dX1_fitsMarks_10 : decode cX1_fitsMarks 10 = .ok (.iload_n 2, 1) := by decide +kernel
theorem dX1_fitsMarks_11 : decode cX1_fitsMarks 11 = .ok (.aload_n 0, 1) := by decide +kernel
theorem dX1_fitsMarks_12 : decode cX1_fitsMarks 12 = .ok (.iload_n 3, 1) := by decide +kernel
theorem dX1_fitsMarks_13 : decode cX1_fitsMarks 13 = .ok (.iconst 1, 1) := by decide +kernel
theorem dX1_fitsMarks_14 : decode cX1_fitsMarks 14 = .ok (.invokevirtual 66, 3) := by decide +kernel
theorem dX1_fitsMarks_17 : decode cX1_fitsMarks 17 = .ok (.aload_n 0, 1) := by decide +kernel
theorem dX1_fitsMarks_18 : decode cX1_fitsMarks 18 = .ok (.iload_n 3, 1) := by decide +kernel
theorem dX1_fitsMarks_19 : decode cX1_fitsMarks 19 = .ok (.iconst 2, 1) := by decide +kernel
theorem dX1_fitsMarks_20 : decode cX1_fitsMarks 20 = .ok (.invokevirtual 66, 3) := by decide +kernel
theorem dX1_fitsMarks_23 : decode cX1_fitsMarks 23 = .ok (.invokestatic 95, 3) := by decide +kernel
theorem dX1_fitsMarks_26 : decode cX1_fitsMarks 26 = .ok (.istore 4, 2) := by decide +kernel
theorem dX1_fitsMarks_28 : decode cX1_fitsMarks 28 = .ok (.aload_n 0, 1) := by decide +kernel
theorem dX1_fitsMarks_29 : decode cX1_fitsMarks 29 = .ok (.iload_n 3, 1) := by decide +kernel
theorem dX1_fitsMarks_30 : decode cX1_fitsMarks 30 = .ok (.iconst 0, 1) := by decide +kernel
theorem dX1_fitsMarks_31 : decode cX1_fitsMarks 31 = .ok (.invokevirtual 66, 3) := by decide +kernel
theorem dX1_fitsMarks_34 : decode cX1_fitsMarks 34 = .ok (.iload_n 1, 1) := by decide +kernel
theorem dX1_fitsMarks_35 : decode cX1_fitsMarks 35 = .ok (.if_icmp .ne 16, 3) := by decide +kernel
theorem dX1_fitsMarks_38 : decode cX1_fitsMarks 38 = .ok (.iload 4, 2) := by decide +kernel
theorem dX1_fitsMarks_40 : decode cX1_fitsMarks 40 = .ok (.aload_n 0, 1) := by decide +kernel
theorem dX1_fitsMarks_41 : decode cX1_fitsMarks 41 = .ok (.iload_n 3, 1) := by decide +kernel
theorem dX1_fitsMarks_42 : decode cX1_fitsMarks 42 = .ok (.iconst 3, 1) := by decide +kernel
theorem dX1_fitsMarks_43 : decode cX1_fitsMarks 43 = .ok (.invokevirtual 66, 3) := by decide +kernel
theorem dX1_fitsMarks_46 : decode cX1_fitsMarks 46 = .ok (.if_icmp .eq 5, 3) := by decide +kernel
theorem dX1_fitsMarks_49 : decode cX1_fitsMarks 49 = .ok (.iconst 0, 1) := by decide +kernel
theorem dX1_fitsMarks_50 : decode cX1_fitsMarks 50 = .ok (.ireturn, 1) := by decide +kernel
theorem dX1_fitsMarks_51 : decode cX1_fitsMarks 51 = .ok (.iinc 3 1, 3) := by decide +kernel
theorem dX1_fitsMarks_54 : decode cX1_fitsMarks 54 = .ok (.goto (-52), 3) := by decide +kernel
theorem dX1_fitsMarks_57 : decode cX1_fitsMarks 57 = .ok (.iconst 1, 1) := by decide +kernel
theorem dX1_fitsMarks_58 : decode cX1_fitsMarks 58 = .ok (.ireturn, 1) := by decide +kernel
theorem dX1_mostAsFar_0 : decode cX1_mostAsFar 0 = .ok (.iconst 0, 1) := by decide +kernel
theorem dX1_mostAsFar_1 : decode cX1_mostAsFar 1 = .ok (.istore 5, 2) := by decide +kernel
theorem dX1_mostAsFar_3 : decode cX1_mostAsFar 3 = .ok (.iload 5, 2) := by decide +kernel
theorem dX1_mostAsFar_5 : decode cX1_mostAsFar 5 = .ok (.bipush 6, 2) := by decide +kernel
theorem dX1_mostAsFar_7 : decode cX1_mostAsFar 7 = .ok (.if_icmp .ge 25, 3) := by decide +kernel
theorem dX1_mostAsFar_10 : decode cX1_mostAsFar 10 = .ok (.aload_n 0, 1) := by decide +kernel
theorem dX1_mostAsFar_11 : decode cX1_mostAsFar 11 = .ok (.getfield 11, 3) := by decide +kernel
theorem dX1_mostAsFar_14 : decode cX1_mostAsFar 14 = .ok (.iload 5, 2) := by decide +kernel
theorem dX1_mostAsFar_16 : decode cX1_mostAsFar 16 = .ok (.iload 5, 2) := by decide +kernel
theorem dX1_mostAsFar_18 : decode cX1_mostAsFar 18 = .ok (.iload_n 2, 1) := by decide +kernel
theorem dX1_mostAsFar_19 : decode cX1_mostAsFar 19 = .ok (.iload_n 3, 1) := by decide +kernel
theorem dX1_mostAsFar_20 : decode cX1_mostAsFar 20 = .ok (.iload 4, 2) := by decide +kernel
theorem dX1_mostAsFar_22 : decode cX1_mostAsFar 22 = .ok (.invokestatic 92, 3) := by decide +kernel
theorem dX1_mostAsFar_25 : decode cX1_mostAsFar 25 = .ok (.iastore, 1) := by decide +kernel
theorem dX1_mostAsFar_26 : decode cX1_mostAsFar 26 = .ok (.iinc 5 1, 3) := by decide +kernel
theorem dX1_mostAsFar_29 : decode cX1_mostAsFar 29 = .ok (.goto (-26), 3) := by decide +kernel
theorem dX1_mostAsFar_32 : decode cX1_mostAsFar 32 = .ok (.aload_n 0, 1) := by decide +kernel
theorem dX1_mostAsFar_33 : decode cX1_mostAsFar 33 = .ok (.iload_n 1, 1) := by decide +kernel
theorem dX1_mostAsFar_34 : decode cX1_mostAsFar 34 = .ok (.invokevirtual 98, 3) := by decide +kernel
theorem dX1_mostAsFar_37 : decode cX1_mostAsFar 37 = .ok (.ireturn, 1) := by decide +kernel
theorem dX1_mostAsHard_0 : decode cX1_mostAsHard 0 = .ok (.iconst 0, 1) := by decide +kernel
theorem dX1_mostAsHard_1 : decode cX1_mostAsHard 1 = .ok (.istore 4, 2) := by decide +kernel
theorem dX1_mostAsHard_3 : decode cX1_mostAsHard 3 = .ok (.iload 4, 2) := by decide +kernel
theorem dX1_mostAsHard_5 : decode cX1_mostAsHard 5 = .ok (.bipush 6, 2) := by decide +kernel
theorem dX1_mostAsHard_7 : decode cX1_mostAsHard 7 = .ok (.if_icmp .ge 23, 3) := by decide +kernel
theorem dX1_mostAsHard_10 : decode cX1_mostAsHard 10 = .ok (.aload_n 0, 1) := by decide +kernel
theorem dX1_mostAsHard_11 : decode cX1_mostAsHard 11 = .ok (.getfield 11, 3) := by decide +kernel
theorem dX1_mostAsHard_14 : decode cX1_mostAsHard 14 = .ok (.iload 4, 2) := by decide +kernel
theorem dX1_mostAsHard_16 : decode cX1_mostAsHard 16 = .ok (.iload 4, 2) := by decide +kernel
theorem dX1_mostAsHard_18 : decode cX1_mostAsHard 18 = .ok (.iload_n 2, 1) := by decide +kernel
theorem dX1_mostAsHard_19 : decode cX1_mostAsHard 19 = .ok (.iload_n 3, 1) := by decide +kernel
theorem dX1_mostAsHard_20 : decode cX1_mostAsHard 20 = .ok (.invokestatic 95, 3) := by decide +kernel
theorem dX1_mostAsHard_23 : decode cX1_mostAsHard 23 = .ok (.iastore, 1) := by decide +kernel
theorem dX1_mostAsHard_24 : decode cX1_mostAsHard 24 = .ok (.iinc 4 1, 3) := by decide +kernel
theorem dX1_mostAsHard_27 : decode cX1_mostAsHard 27 = .ok (.goto (-24), 3) := by decide +kernel
theorem dX1_mostAsHard_30 : decode cX1_mostAsHard 30 = .ok (.aload_n 0, 1) := by decide +kernel
theorem dX1_mostAsHard_31 : decode cX1_mostAsHard 31 = .ok (.iload_n 1, 1) := by decide +kernel
theorem dX1_mostAsHard_32 : decode cX1_mostAsHard 32 = .ok (.invokevirtual 98, 3) := by decide +kernel
theorem dX1_mostAsHard_35 : decode cX1_mostAsHard 35 = .ok (.ireturn, 1) := by decide +kernel
theorem dX1_mostAlike_0 : decode cX1_mostAlike 0 = .ok (.iconst 0, 1) := by decide +kernel
theorem dX1_mostAlike_1 : decode cX1_mostAlike 1 = .ok (.istore_n 2, 1) := by decide +kernel
theorem dX1_mostAlike_2 : decode cX1_mostAlike 2 = .ok (.iconst 0, 1) := by decide +kernel
theorem dX1_mostAlike_3 : decode cX1_mostAlike 3 = .ok (.istore_n 3, 1) := by decide +kernel
theorem dX1_mostAlike_4 : decode cX1_mostAlike 4 = .ok (.iload_n 3, 1) := by decide +kernel
theorem dX1_mostAlike_5 : decode cX1_mostAlike 5 = .ok (.bipush 6, 2) := by decide +kernel
theorem dX1_mostAlike_7 : decode cX1_mostAlike 7 = .ok (.if_icmp .ge 33, 3) := by decide +kernel
theorem dX1_mostAlike_10 : decode cX1_mostAlike 10 = .ok (.iload_n 1, 1) := by decide +kernel
theorem dX1_mostAlike_11 : decode cX1_mostAlike 11 = .ok (.iload_n 3, 1) := by decide +kernel
theorem dX1_mostAlike_12 : decode cX1_mostAlike 12 = .ok (.ishr, 1) := by decide +kernel
theorem dX1_mostAlike_13 : decode cX1_mostAlike 13 = .ok (.iconst 1, 1) := by decide +kernel
theorem dX1_mostAlike_14 : decode cX1_mostAlike 14 = .ok (.iand, 1) := by decide +kernel
theorem dX1_mostAlike_15 : decode cX1_mostAlike 15 = .ok (.ifCond .eq 19, 3) := by decide +kernel
theorem dX1_mostAlike_18 : decode cX1_mostAlike 18 = .ok (.iload_n 2, 1) := by decide +kernel
theorem dX1_mostAlike_19 : decode cX1_mostAlike 19 = .ok (.aload_n 0, 1) := by decide +kernel
theorem dX1_mostAlike_20 : decode cX1_mostAlike 20 = .ok (.iload_n 1, 1) := by decide +kernel
theorem dX1_mostAlike_21 : decode cX1_mostAlike 21 = .ok (.aload_n 0, 1) := by decide +kernel
theorem dX1_mostAlike_22 : decode cX1_mostAlike 22 = .ok (.getfield 11, 3) := by decide +kernel
theorem dX1_mostAlike_25 : decode cX1_mostAlike 25 = .ok (.iload_n 3, 1) := by decide +kernel
theorem dX1_mostAlike_26 : decode cX1_mostAlike 26 = .ok (.iaload, 1) := by decide +kernel
theorem dX1_mostAlike_27 : decode cX1_mostAlike 27 = .ok (.invokevirtual 101, 3) := by decide +kernel
theorem dX1_mostAlike_30 : decode cX1_mostAlike 30 = .ok (.invokestatic 87, 3) := by decide +kernel
theorem dX1_mostAlike_33 : decode cX1_mostAlike 33 = .ok (.istore_n 2, 1) := by decide +kernel
theorem dX1_mostAlike_34 : decode cX1_mostAlike 34 = .ok (.iinc 3 1, 3) := by decide +kernel
theorem dX1_mostAlike_37 : decode cX1_mostAlike 37 = .ok (.goto (-33), 3) := by decide +kernel
theorem dX1_mostAlike_40 : decode cX1_mostAlike 40 = .ok (.iload_n 2, 1) := by decide +kernel
theorem dX1_mostAlike_41 : decode cX1_mostAlike 41 = .ok (.ireturn, 1) := by decide +kernel
theorem dX1_asMany_0 : decode cX1_asMany 0 = .ok (.iconst 0, 1) := by decide +kernel
theorem dX1_asMany_1 : decode cX1_asMany 1 = .ok (.istore_n 3, 1) := by decide +kernel
theorem dX1_asMany_2 : decode cX1_asMany 2 = .ok (.iconst 0, 1) := by decide +kernel
theorem dX1_asMany_3 : decode cX1_asMany 3 = .ok (.istore 4, 2) := by decide +kernel
theorem dX1_asMany_5 : decode cX1_asMany 5 = .ok (.iload 4, 2) := by decide +kernel
theorem dX1_asMany_7 : decode cX1_asMany 7 = .ok (.bipush 6, 2) := by decide +kernel
theorem dX1_asMany_9 : decode cX1_asMany 9 = .ok (.if_icmp .ge 32, 3) := by decide +kernel
theorem dX1_asMany_12 : decode cX1_asMany 12 = .ok (.iload_n 1, 1) := by decide +kernel
theorem dX1_asMany_13 : decode cX1_asMany 13 = .ok (.iload 4, 2) := by decide +kernel
theorem dX1_asMany_15 : decode cX1_asMany 15 = .ok (.ishr, 1) := by decide +kernel
theorem dX1_asMany_16 : decode cX1_asMany 16 = .ok (.iconst 1, 1) := by decide +kernel
theorem dX1_asMany_17 : decode cX1_asMany 17 = .ok (.iand, 1) := by decide +kernel
theorem dX1_asMany_18 : decode cX1_asMany 18 = .ok (.ifCond .eq 17, 3) := by decide +kernel
theorem dX1_asMany_21 : decode cX1_asMany 21 = .ok (.aload_n 0, 1) := by decide +kernel
theorem dX1_asMany_22 : decode cX1_asMany 22 = .ok (.getfield 11, 3) := by decide +kernel
theorem dX1_asMany_25 : decode cX1_asMany 25 = .ok (.iload 4, 2) := by decide +kernel
theorem dX1_asMany_27 : decode cX1_asMany 27 = .ok (.iaload, 1) := by decide +kernel
theorem dX1_asMany_28 : decode cX1_asMany 28 = .ok (.iload_n 2, 1) := by decide +kernel
theorem dX1_asMany_29 : decode cX1_asMany 29 = .ok (.if_icmp .ne 6, 3) := by decide +kernel
theorem dX1_asMany_32 : decode cX1_asMany 32 = .ok (.iinc 3 1, 3) := by decide +kernel
theorem dX1_asMany_35 : decode cX1_asMany 35 = .ok (.iinc 4 1, 3) := by decide +kernel
theorem dX1_asMany_38 : decode cX1_asMany 38 = .ok (.goto (-33), 3) := by decide +kernel
theorem dX1_asMany_41 : decode cX1_asMany 41 = .ok (.iload_n 3, 1) := by decide +kernel
theorem dX1_asMany_42 : decode cX1_asMany 42 = .ok (.ireturn, 1) := by decide +kernel
theorem dX2_flight_0 : decode cX2_flight 0 = .ok (.iconst 0, 1) := by decide +kernel
theorem dX2_flight_1 : decode cX2_flight 1 = .ok (.iload_n 2, 1) := by decide +kernel
theorem dX2_flight_2 : decode cX2_flight 2 = .ok (.iload_n 3, 1) := by decide +kernel
theorem dX2_flight_3 : decode cX2_flight 3 = .ok (.iadd, 1) := by decide +kernel
theorem dX2_flight_4 : decode cX2_flight 4 = .ok (.iload_n 1, 1) := by decide +kernel
theorem dX2_flight_5 : decode cX2_flight 5 = .ok (.isub, 1) := by decide +kernel
theorem dX2_flight_6 : decode cX2_flight 6 = .ok (.invokestatic 7, 3) := by decide +kernel
theorem dX2_flight_9 : decode cX2_flight 9 = .ok (.istore 4, 2) := by decide +kernel
theorem dX2_flight_11 : decode cX2_flight 11 = .ok (.iload 4, 2) := by decide +kernel
theorem dX2_flight_13 : decode cX2_flight 13 = .ok (.iconst 2, 1) := by decide +kernel
theorem dX2_flight_14 : decode cX2_flight 14 = .ok (.iadd, 1) := by decide +kernel
theorem dX2_flight_15 : decode cX2_flight 15 = .ok (.istore 5, 2) := by decide +kernel
theorem dX2_flight_17 : decode cX2_flight 17 = .ok (.iload_n 0, 1) := by decide +kernel
theorem dX2_flight_18 : decode cX2_flight 18 = .ok (.tableswitch 79 1 5 #[34, 37, 44, 59, 68], 34) := by decide +kernel
theorem dX2_flight_52 : decode cX2_flight 52 = .ok (.iload 5, 2) := by decide +kernel
theorem dX2_flight_54 : decode cX2_flight 54 = .ok (.ireturn, 1) := by decide +kernel
theorem dX2_flight_55 : decode cX2_flight 55 = .ok (.iload 4, 2) := by decide +kernel
theorem dX2_flight_57 : decode cX2_flight 57 = .ok (.iconst 1, 1) := by decide +kernel
theorem dX2_flight_58 : decode cX2_flight 58 = .ok (.iadd, 1) := by decide +kernel
theorem dX2_flight_59 : decode cX2_flight 59 = .ok (.iconst 2, 1) := by decide +kernel
theorem dX2_flight_60 : decode cX2_flight 60 = .ok (.idiv, 1) := by decide +kernel
theorem dX2_flight_61 : decode cX2_flight 61 = .ok (.ireturn, 1) := by decide +kernel
theorem dX2_flight_62 : decode cX2_flight 62 = .ok (.iload_n 1, 1) := by decide +kernel
theorem dX2_flight_63 : decode cX2_flight 63 = .ok (.iconst 2, 1) := by decide +kernel
theorem dX2_flight_64 : decode cX2_flight 64 = .ok (.if_icmp .gt 10, 3) := by decide +kernel
theorem dX2_flight_67 : decode cX2_flight 67 = .ok (.iload 5, 2) := by decide +kernel
theorem dX2_flight_69 : decode cX2_flight 69 = .ok (.iconst 3, 1) := by decide +kernel
theorem dX2_flight_70 : decode cX2_flight 70 = .ok (.iadd, 1) := by decide +kernel
theorem dX2_flight_71 : decode cX2_flight 71 = .ok (.goto 5, 3) := by decide +kernel
theorem dX2_flight_74 : decode cX2_flight 74 = .ok (.iload 5, 2) := by decide +kernel
theorem dX2_flight_76 : decode cX2_flight 76 = .ok (.ireturn, 1) := by decide +kernel
theorem dX2_flight_77 : decode cX2_flight 77 = .ok (.iload 4, 2) := by decide +kernel
theorem dX2_flight_79 : decode cX2_flight 79 = .ok (.iload_n 2, 1) := by decide +kernel
theorem dX2_flight_80 : decode cX2_flight 80 = .ok (.iconst 2, 1) := by decide +kernel
theorem dX2_flight_81 : decode cX2_flight 81 = .ok (.idiv, 1) := by decide +kernel
theorem dX2_flight_82 : decode cX2_flight 82 = .ok (.invokestatic 7, 3) := by decide +kernel
theorem dX2_flight_85 : decode cX2_flight 85 = .ok (.ireturn, 1) := by decide +kernel
theorem dX2_flight_86 : decode cX2_flight 86 = .ok (.iconst 0, 1) := by decide +kernel
theorem dX2_flight_87 : decode cX2_flight 87 = .ok (.iconst 2, 1) := by decide +kernel
theorem dX2_flight_88 : decode cX2_flight 88 = .ok (.iload 5, 2) := by decide +kernel
theorem dX2_flight_90 : decode cX2_flight 90 = .ok (.imul, 1) := by decide +kernel
theorem dX2_flight_91 : decode cX2_flight 91 = .ok (.iload_n 1, 1) := by decide +kernel
theorem dX2_flight_92 : decode cX2_flight 92 = .ok (.isub, 1) := by decide +kernel
theorem dX2_flight_93 : decode cX2_flight 93 = .ok (.invokestatic 7, 3) := by decide +kernel
theorem dX2_flight_96 : decode cX2_flight 96 = .ok (.ireturn, 1) := by decide +kernel
theorem dX2_flight_97 : decode cX2_flight 97 = .ok (.iload 4, 2) := by decide +kernel
theorem dX2_flight_99 : decode cX2_flight 99 = .ok (.ireturn, 1) := by decide +kernel
theorem dX2_blow_0 : decode cX2_blow 0 = .ok (.iload_n 1, 1) := by decide +kernel
theorem dX2_blow_1 : decode cX2_blow 1 = .ok (.bipush 6, 2) := by decide +kernel
theorem dX2_blow_3 : decode cX2_blow 3 = .ok (.iadd, 1) := by decide +kernel
theorem dX2_blow_4 : decode cX2_blow 4 = .ok (.istore_n 3, 1) := by decide +kernel
theorem dX2_blow_5 : decode cX2_blow 5 = .ok (.iload_n 3, 1) := by decide +kernel
theorem dX2_blow_6 : decode cX2_blow 6 = .ok (.iconst 1, 1) := by decide +kernel
theorem dX2_blow_7 : decode cX2_blow 7 = .ok (.iadd, 1) := by decide +kernel
theorem dX2_blow_8 : decode cX2_blow 8 = .ok (.iconst 2, 1) := by decide +kernel
theorem dX2_blow_9 : decode cX2_blow 9 = .ok (.idiv, 1) := by decide +kernel
theorem dX2_blow_10 : decode cX2_blow 10 = .ok (.istore 4, 2) := by decide +kernel
theorem dX2_blow_12 : decode cX2_blow 12 = .ok (.iload_n 3, 1) := by decide +kernel
theorem dX2_blow_13 : decode cX2_blow 13 = .ok (.iconst 5, 1) := by decide +kernel
theorem dX2_blow_14 : decode cX2_blow 14 = .ok (.iadd, 1) := by decide +kernel
theorem dX2_blow_15 : decode cX2_blow 15 = .ok (.istore 5, 2) := by decide +kernel
theorem dX2_blow_17 : decode cX2_blow 17 = .ok (.iload_n 0, 1) := by decide +kernel
theorem dX2_blow_18 : decode cX2_blow 18 = .ok (.tableswitch 82 1 5 #[34, 37, 40, 53, 66], 34) := by decide +kernel
theorem dX2_blow_52 : decode cX2_blow 52 = .ok (.iload 4, 2) := by decide +kernel
theorem dX2_blow_54 : decode cX2_blow 54 = .ok (.ireturn, 1) := by decide +kernel
theorem dX2_blow_55 : decode cX2_blow 55 = .ok (.iload 5, 2) := by decide +kernel
theorem dX2_blow_57 : decode cX2_blow 57 = .ok (.ireturn, 1) := by decide +kernel
theorem dX2_blow_58 : decode cX2_blow 58 = .ok (.iload_n 2, 1) := by decide +kernel
theorem dX2_blow_59 : decode cX2_blow 59 = .ok (.bipush 6, 2) := by decide +kernel
theorem dX2_blow_61 : decode cX2_blow 61 = .ok (.if_icmp .ge 7, 3) := by decide +kernel
theorem dX2_blow_64 : decode cX2_blow 64 = .ok (.iconst 0, 1) := by decide +kernel
theorem dX2_blow_65 : decode cX2_blow 65 = .ok (.goto 5, 3) := by decide +kernel
theorem dX2_blow_68 : decode cX2_blow 68 = .ok (.iload 4, 2) := by decide +kernel
theorem dX2_blow_70 : decode cX2_blow 70 = .ok (.ireturn, 1) := by decide +kernel
theorem dX2_blow_71 : decode cX2_blow 71 = .ok (.iload_n 2, 1) := by decide +kernel
theorem dX2_blow_72 : decode cX2_blow 72 = .ok (.bipush 7, 2) := by decide +kernel
theorem dX2_blow_74 : decode cX2_blow 74 = .ok (.irem, 1) := by decide +kernel
theorem dX2_blow_75 : decode cX2_blow 75 = .ok (.ifCond .ne 7, 3) := by decide +kernel
theorem dX2_blow_78 : decode cX2_blow 78 = .ok (.iconst 1, 1) := by decide +kernel
theorem dX2_blow_79 : decode cX2_blow 79 = .ok (.goto 4, 3) := by decide +kernel
theorem dX2_blow_82 : decode cX2_blow 82 = .ok (.iload_n 3, 1) := by decide +kernel
theorem dX2_blow_83 : decode cX2_blow 83 = .ok (.ireturn, 1) := by decide +kernel
theorem dX2_blow_84 : decode cX2_blow 84 = .ok (.iload_n 2, 1) := by decide +kernel
theorem dX2_blow_85 : decode cX2_blow 85 = .ok (.bipush 18, 2) := by decide +kernel
theorem dX2_blow_87 : decode cX2_blow 87 = .ok (.if_icmp .lt 10, 3) := by decide +kernel
theorem dX2_blow_90 : decode cX2_blow 90 = .ok (.iload 5, 2) := by decide +kernel
theorem dX2_blow_92 : decode cX2_blow 92 = .ok (.iconst 4, 1) := by decide +kernel
theorem dX2_blow_93 : decode cX2_blow 93 = .ok (.iadd, 1) := by decide +kernel
theorem dX2_blow_94 : decode cX2_blow 94 = .ok (.goto 5, 3) := by decide +kernel
theorem dX2_blow_97 : decode cX2_blow 97 = .ok (.iload 5, 2) := by decide +kernel
theorem dX2_blow_99 : decode cX2_blow 99 = .ok (.ireturn, 1) := by decide +kernel
theorem dX2_blow_100 : decode cX2_blow 100 = .ok (.iload_n 3, 1) := by decide +kernel
theorem dX2_blow_101 : decode cX2_blow 101 = .ok (.ireturn, 1) := by decide +kernel
theorem dX3_init_0 : decode cX3_init 0 = .ok (.aload_n 0, 1) := by decide +kernel
theorem dX3_init_1 : decode cX3_init 1 = .ok (.invokespecial 3, 3) := by decide +kernel
theorem dX3_init_4 : decode cX3_init 4 = .ok (.aload_n 0, 1) := by decide +kernel
theorem dX3_init_5 : decode cX3_init 5 = .ok (.bipush 56, 2) := by decide +kernel
theorem dX3_init_7 : decode cX3_init 7 = .ok (.newarray .int, 2) := by decide +kernel
theorem dX3_init_9 : decode cX3_init 9 = .ok (.putfield 11, 3) := by decide +kernel
theorem dX3_init_12 : decode cX3_init 12 = .ok (.aload_n 0, 1) := by decide +kernel
theorem dX3_init_13 : decode cX3_init 13 = .ok (.iconst 0, 1) := by decide +kernel
theorem dX3_init_14 : decode cX3_init 14 = .ok (.putfield 15, 3) := by decide +kernel
theorem dX3_init_17 : decode cX3_init 17 = .ok (.return_, 1) := by decide +kernel
theorem dX3_size_0 : decode cX3_size 0 = .ok (.aload_n 0, 1) := by decide +kernel
theorem dX3_size_1 : decode cX3_size 1 = .ok (.getfield 15, 3) := by decide +kernel
theorem dX3_size_4 : decode cX3_size 4 = .ok (.ireturn, 1) := by decide +kernel
theorem dX3_forgetAll_0 : decode cX3_forgetAll 0 = .ok (.aload_n 0, 1) := by decide +kernel
theorem dX3_forgetAll_1 : decode cX3_forgetAll 1 = .ok (.iconst 0, 1) := by decide +kernel
theorem dX3_forgetAll_2 : decode cX3_forgetAll 2 = .ok (.putfield 15, 3) := by decide +kernel
theorem dX3_forgetAll_5 : decode cX3_forgetAll 5 = .ok (.return_, 1) := by decide +kernel
theorem dX3_push_0 : decode cX3_push 0 = .ok (.aload_n 0, 1) := by decide +kernel
theorem dX3_push_1 : decode cX3_push 1 = .ok (.getfield 15, 3) := by decide +kernel
theorem dX3_push_4 : decode cX3_push 4 = .ok (.bipush 8, 2) := by decide +kernel
theorem dX3_push_6 : decode cX3_push 6 = .ok (.if_icmp .lt 25, 3) := by decide +kernel
theorem dX3_push_9 : decode cX3_push 9 = .ok (.aload_n 0, 1) := by decide +kernel
theorem dX3_push_10 : decode cX3_push 10 = .ok (.getfield 11, 3) := by decide +kernel
theorem dX3_push_13 : decode cX3_push 13 = .ok (.bipush 7, 2) := by decide +kernel
theorem dX3_push_15 : decode cX3_push 15 = .ok (.aload_n 0, 1) := by decide +kernel
theorem dX3_push_16 : decode cX3_push 16 = .ok (.getfield 11, 3) := by decide +kernel
theorem dX3_push_19 : decode cX3_push 19 = .ok (.iconst 0, 1) := by decide +kernel
theorem dX3_push_20 : decode cX3_push 20 = .ok (.bipush 49, 2) := by decide +kernel
theorem dX3_push_22 : decode cX3_push 22 = .ok (.invokestatic 19, 3) := by decide +kernel
theorem dX3_push_25 : decode cX3_push 25 = .ok (.aload_n 0, 1) := by decide +kernel
theorem dX3_push_26 : decode cX3_push 26 = .ok (.bipush 7, 2) := by decide +kernel
theorem dX3_push_28 : decode cX3_push 28 = .ok (.putfield 15, 3) := by decide +kernel
theorem dX3_push_31 : decode cX3_push 31 = .ok (.aload_n 1, 1) := by decide +kernel
theorem dX3_push_32 : decode cX3_push 32 = .ok (.iconst 0, 1) := by decide +kernel
theorem dX3_push_33 : decode cX3_push 33 = .ok (.aload_n 0, 1) := by decide +kernel
theorem dX3_push_34 : decode cX3_push 34 = .ok (.getfield 11, 3) := by decide +kernel
theorem dX3_push_37 : decode cX3_push 37 = .ok (.aload_n 0, 1) := by decide +kernel
theorem dX3_push_38 : decode cX3_push 38 = .ok (.getfield 15, 3) := by decide +kernel
theorem dX3_push_41 : decode cX3_push 41 = .ok (.bipush 7, 2) := by decide +kernel
theorem dX3_push_43 : decode cX3_push 43 = .ok (.imul, 1) := by decide +kernel
theorem dX3_push_44 : decode cX3_push 44 = .ok (.bipush 7, 2) := by decide +kernel
theorem dX3_push_46 : decode cX3_push 46 = .ok (.invokestatic 19, 3) := by decide +kernel
theorem dX3_push_49 : decode cX3_push 49 = .ok (.aload_n 0, 1) := by decide +kernel
theorem dX3_push_50 : decode cX3_push 50 = .ok (.dup, 1) := by decide +kernel
theorem dX3_push_51 : decode cX3_push 51 = .ok (.getfield 15, 3) := by decide +kernel
theorem dX3_push_54 : decode cX3_push 54 = .ok (.iconst 1, 1) := by decide +kernel
theorem dX3_push_55 : decode cX3_push 55 = .ok (.iadd, 1) := by decide +kernel
theorem dX3_push_56 : decode cX3_push 56 = .ok (.putfield 15, 3) := by decide +kernel
theorem dX3_push_59 : decode cX3_push 59 = .ok (.return_, 1) := by decide +kernel
theorem dX3_pop_0 : decode cX3_pop 0 = .ok (.aload_n 0, 1) := by decide +kernel
theorem dX3_pop_1 : decode cX3_pop 1 = .ok (.getfield 15, 3) := by decide +kernel
theorem dX3_pop_4 : decode cX3_pop 4 = .ok (.ifCond .le 31, 3) := by decide +kernel
theorem dX3_pop_7 : decode cX3_pop 7 = .ok (.aload_n 0, 1) := by decide +kernel
theorem dX3_pop_8 : decode cX3_pop 8 = .ok (.dup, 1) := by decide +kernel
theorem dX3_pop_9 : decode cX3_pop 9 = .ok (.getfield 15, 3) := by decide +kernel
theorem dX3_pop_12 : decode cX3_pop 12 = .ok (.iconst 1, 1) := by decide +kernel
theorem dX3_pop_13 : decode cX3_pop 13 = .ok (.isub, 1) := by decide +kernel
theorem dX3_pop_14 : decode cX3_pop 14 = .ok (.putfield 15, 3) := by decide +kernel
theorem dX3_pop_17 : decode cX3_pop 17 = .ok (.aload_n 0, 1) := by decide +kernel
theorem dX3_pop_18 : decode cX3_pop 18 = .ok (.getfield 11, 3) := by decide +kernel
theorem dX3_pop_21 : decode cX3_pop 21 = .ok (.aload_n 0, 1) := by decide +kernel
theorem dX3_pop_22 : decode cX3_pop 22 = .ok (.getfield 15, 3) := by decide +kernel
theorem dX3_pop_25 : decode cX3_pop 25 = .ok (.bipush 7, 2) := by decide +kernel
theorem dX3_pop_27 : decode cX3_pop 27 = .ok (.imul, 1) := by decide +kernel
theorem dX3_pop_28 : decode cX3_pop 28 = .ok (.aload_n 1, 1) := by decide +kernel
theorem dX3_pop_29 : decode cX3_pop 29 = .ok (.iconst 0, 1) := by decide +kernel
theorem dX3_pop_30 : decode cX3_pop 30 = .ok (.bipush 7, 2) := by decide +kernel
theorem dX3_pop_32 : decode cX3_pop 32 = .ok (.invokestatic 19, 3) := by decide +kernel
theorem dX3_pop_35 : decode cX3_pop 35 = .ok (.return_, 1) := by decide +kernel
theorem dX3_copyFrom_0 : decode cX3_copyFrom 0 = .ok (.aload_n 0, 1) := by decide +kernel
theorem dX3_copyFrom_1 : decode cX3_copyFrom 1 = .ok (.aload_n 1, 1) := by decide +kernel
theorem dX3_copyFrom_2 : decode cX3_copyFrom 2 = .ok (.getfield 15, 3) := by decide +kernel
theorem dX3_copyFrom_5 : decode cX3_copyFrom 5 = .ok (.putfield 15, 3) := by decide +kernel
theorem dX3_copyFrom_8 : decode cX3_copyFrom 8 = .ok (.aload_n 1, 1) := by decide +kernel
theorem dX3_copyFrom_9 : decode cX3_copyFrom 9 = .ok (.getfield 11, 3) := by decide +kernel
theorem dX3_copyFrom_12 : decode cX3_copyFrom 12 = .ok (.iconst 0, 1) := by decide +kernel
theorem dX3_copyFrom_13 : decode cX3_copyFrom 13 = .ok (.aload_n 0, 1) := by decide +kernel
theorem dX3_copyFrom_14 : decode cX3_copyFrom 14 = .ok (.getfield 11, 3) := by decide +kernel
theorem dX3_copyFrom_17 : decode cX3_copyFrom 17 = .ok (.iconst 0, 1) := by decide +kernel
theorem dX3_copyFrom_18 : decode cX3_copyFrom 18 = .ok (.aload_n 0, 1) := by decide +kernel
theorem dX3_copyFrom_19 : decode cX3_copyFrom 19 = .ok (.getfield 15, 3) := by decide +kernel
theorem dX3_copyFrom_22 : decode cX3_copyFrom 22 = .ok (.bipush 7, 2) := by decide +kernel
theorem dX3_copyFrom_24 : decode cX3_copyFrom 24 = .ok (.imul, 1) := by decide +kernel
theorem dX3_copyFrom_25 : decode cX3_copyFrom 25 = .ok (.invokestatic 19, 3) := by decide +kernel
theorem dX3_copyFrom_28 : decode cX3_copyFrom 28 = .ok (.return_, 1) := by decide +kernel
theorem dX4_init_0 : decode cX4_init 0 = .ok (.aload_n 0, 1) := by decide +kernel
theorem dX4_init_1 : decode cX4_init 1 = .ok (.invokespecial 5, 3) := by decide +kernel
theorem dX4_init_4 : decode cX4_init 4 = .ok (.aload_n 0, 1) := by decide +kernel
theorem dX4_init_5 : decode cX4_init 5 = .ok (.bipush 40, 2) := by decide +kernel
theorem dX4_init_7 : decode cX4_init 7 = .ok (.newarray .int, 2) := by decide +kernel
theorem dX4_init_9 : decode cX4_init 9 = .ok (.putfield 11, 3) := by decide +kernel
theorem dX4_init_12 : decode cX4_init 12 = .ok (.aload_n 0, 1) := by decide +kernel
theorem dX4_init_13 : decode cX4_init 13 = .ok (.sipush 256, 3) := by decide +kernel
theorem dX4_init_16 : decode cX4_init 16 = .ok (.newarray .int, 2) := by decide +kernel
theorem dX4_init_18 : decode cX4_init 18 = .ok (.putfield 15, 3) := by decide +kernel
theorem dX4_init_21 : decode cX4_init 21 = .ok (.aload_n 0, 1) := by decide +kernel
theorem dX4_init_22 : decode cX4_init 22 = .ok (.sipush 256, 3) := by decide +kernel
theorem dX4_init_25 : decode cX4_init 25 = .ok (.newarray .int, 2) := by decide +kernel
theorem dX4_init_27 : decode cX4_init 27 = .ok (.putfield 18, 3) := by decide +kernel
theorem dX4_init_30 : decode cX4_init 30 = .ok (.aload_n 0, 1) := by decide +kernel
theorem dX4_init_31 : decode cX4_init 31 = .ok (.iconst 0, 1) := by decide +kernel
theorem dX4_init_32 : decode cX4_init 32 = .ok (.putfield 21, 3) := by decide +kernel
theorem dX4_init_35 : decode cX4_init 35 = .ok (.aload_n 0, 1) := by decide +kernel
theorem dX4_init_36 : decode cX4_init 36 = .ok (.iconst 0, 1) := by decide +kernel
theorem dX4_init_37 : decode cX4_init 37 = .ok (.putfield 25, 3) := by decide +kernel
theorem dX4_init_40 : decode cX4_init 40 = .ok (.return_, 1) := by decide +kernel
theorem dX4_fewestHours_0 : decode cX4_fewestHours 0 = .ok (.aload_n 0, 1) := by decide +kernel
theorem dX4_fewestHours_1 : decode cX4_fewestHours 1 = .ok (.iload_n 2, 1) := by decide +kernel
theorem dX4_fewestHours_2 : decode cX4_fewestHours 2 = .ok (.bipush 127, 2) := by decide +kernel
theorem dX4_fewestHours_4 : decode cX4_fewestHours 4 = .ok (.iand, 1) := by decide +kernel
theorem dX4_fewestHours_5 : decode cX4_fewestHours 5 = .ok (.putfield 21, 3) := by decide +kernel
theorem dX4_fewestHours_8 : decode cX4_fewestHours 8 = .ok (.aload_n 0, 1) := by decide +kernel
theorem dX4_fewestHours_9 : decode cX4_fewestHours 9 = .ok (.aload_n 1, 1) := by decide +kernel
theorem dX4_fewestHours_10 : decode cX4_fewestHours 10 = .ok (.invokevirtual 28, 3) := by decide +kernel
theorem dX4_fewestHours_13 : decode cX4_fewestHours 13 = .ok (.iconst 1, 1) := by decide +kernel
theorem dX4_fewestHours_14 : decode cX4_fewestHours 14 = .ok (.if_icmp .ne 9, 3) := by decide +kernel
theorem dX4_fewestHours_17 : decode cX4_fewestHours 17 = .ok (.sipush 128, 3) := by decide +kernel
theorem dX4_fewestHours_20 : decode cX4_fewestHours 20 = .ok (.goto 4, 3) := by decide +kernel
theorem dX4_fewestHours_23 : decode cX4_fewestHours 23 = .ok (.iconst 0, 1) := by decide +kernel
theorem dX4_fewestHours_24 : decode cX4_fewestHours 24 = .ok (.putfield 25, 3) := by decide +kernel
theorem dX4_fewestHours_27 : decode cX4_fewestHours 27 = .ok (.aload_n 0, 1) := by decide +kernel
theorem dX4_fewestHours_28 : decode cX4_fewestHours 28 = .ok (.getfield 21, 3) := by decide +kernel
theorem dX4_fewestHours_31 : decode cX4_fewestHours 31 = .ok (.ifCond .ne 5, 3) := by decide +kernel
theorem dX4_fewestHours_34 : decode cX4_fewestHours 34 = .ok (.iconst 0, 1) := by decide +kernel
theorem dX4_fewestHours_35 : decode cX4_fewestHours 35 = .ok (.ireturn, 1) := by decide +kernel
theorem dX4_fewestHours_36 : decode cX4_fewestHours 36 = .ok (.aload_n 1, 1) := by decide +kernel
theorem dX4_fewestHours_37 : decode cX4_fewestHours 37 = .ok (.invokevirtual 34, 3) := by decide +kernel
theorem dX4_fewestHours_40 : decode cX4_fewestHours 40 = .ok (.ifCond .ne 5, 3) := by decide +kernel
theorem dX4_fewestHours_43 : decode cX4_fewestHours 43 = .ok (.iconst (-1), 1) := by decide +kernel
theorem dX4_fewestHours_44 : decode cX4_fewestHours 44 = .ok (.ireturn, 1) := by decide +kernel
theorem dX4_fewestHours_45 : decode cX4_fewestHours 45 = .ok (.aload_n 0, 1) := by decide +kernel
theorem dX4_fewestHours_46 : decode cX4_fewestHours 46 = .ok (.getfield 15, 3) := by decide +kernel
theorem dX4_fewestHours_49 : decode cX4_fewestHours 49 = .ok (.iconst 0, 1) := by decide +kernel
theorem dX4_fewestHours_50 : decode cX4_fewestHours 50 = .ok (.invokestatic 38, 3) := by decide +kernel
theorem dX4_fewestHours_53 : decode cX4_fewestHours 53 = .ok (.aload_n 0, 1) := by decide +kernel
theorem dX4_fewestHours_54 : decode cX4_fewestHours 54 = .ok (.getfield 15, 3) := by decide +kernel
theorem dX4_fewestHours_57 : decode cX4_fewestHours 57 = .ok (.aload_n 0, 1) := by decide +kernel
theorem dX4_fewestHours_58 : decode cX4_fewestHours 58 = .ok (.getfield 25, 3) := by decide +kernel
theorem dX4_fewestHours_61 : decode cX4_fewestHours 61 = .ok (.iconst 1, 1) := by decide +kernel
theorem dX4_fewestHours_62 : decode cX4_fewestHours 62 = .ok (.iastore, 1) := by decide +kernel
theorem dX4_fewestHours_63 : decode cX4_fewestHours 63 = .ok (.iconst 0, 1) := by decide +kernel
theorem dX4_fewestHours_64 : decode cX4_fewestHours 64 = .ok (.istore_n 3, 1) := by decide +kernel
theorem dX4_fewestHours_65 : decode cX4_fewestHours 65 = .ok (.iload_n 3, 1) := by decide +kernel
theorem dX4_fewestHours_66 : decode cX4_fewestHours 66 = .ok (.bipush 20, 2) := by decide +kernel
theorem dX4_fewestHours_68 : decode cX4_fewestHours 68 = .ok (.if_icmp .ge 90, 3) := by decide +kernel
theorem dX4_fewestHours_71 : decode cX4_fewestHours 71 = .ok (.aload_n 0, 1) := by decide +kernel
theorem dX4_fewestHours_72 : decode cX4_fewestHours 72 = .ok (.getfield 11, 3) := by decide +kernel
theorem dX4_fewestHours_75 : decode cX4_fewestHours 75 = .ok (.iconst 2, 1) := by decide +kernel
theorem dX4_fewestHours_76 : decode cX4_fewestHours 76 = .ok (.iload_n 3, 1) := by decide +kernel
theorem dX4_fewestHours_77 : decode cX4_fewestHours 77 = .ok (.imul, 1) := by decide +kernel
theorem dX4_fewestHours_78 : decode cX4_fewestHours 78 = .ok (.aload_n 1, 1) := by decide +kernel
theorem dX4_fewestHours_79 : decode cX4_fewestHours 79 = .ok (.iconst 0, 1) := by decide +kernel
theorem dX4_fewestHours_80 : decode cX4_fewestHours 80 = .ok (.aload_n 1, 1) := by decide +kernel
theorem dX4_fewestHours_81 : decode cX4_fewestHours 81 = .ok (.invokevirtual 44, 3) := by decide +kernel
theorem dX4_fewestHours_84 : decode cX4_fewestHours 84 = .ok (.iload_n 3, 1) := by decide +kernel
theorem dX4_fewestHours_85 : decode cX4_fewestHours 85 = .ok (.iadd, 1) := by decide +kernel
theorem dX4_fewestHours_86 : decode cX4_fewestHours 86 = .ok (.invokevirtual 47, 3) := by decide +kernel
theorem dX4_fewestHours_89 : decode cX4_fewestHours 89 = .ok (.iastore, 1) := by decide +kernel
theorem dX4_fewestHours_90 : decode cX4_fewestHours 90 = .ok (.aload_n 0, 1) := by decide +kernel
theorem dX4_fewestHours_91 : decode cX4_fewestHours 91 = .ok (.getfield 11, 3) := by decide +kernel
theorem dX4_fewestHours_94 : decode cX4_fewestHours 94 = .ok (.iconst 2, 1) := by decide +kernel
theorem dX4_fewestHours_95 : decode cX4_fewestHours 95 = .ok (.iload_n 3, 1) := by decide +kernel
theorem dX4_fewestHours_96 : decode cX4_fewestHours 96 = .ok (.imul, 1) := by decide +kernel
theorem dX4_fewestHours_97 : decode cX4_fewestHours 97 = .ok (.iconst 1, 1) := by decide +kernel
theorem dX4_fewestHours_98 : decode cX4_fewestHours 98 = .ok (.iadd, 1) := by decide +kernel
theorem dX4_fewestHours_99 : decode cX4_fewestHours 99 = .ok (.aload_n 1, 1) := by decide +kernel
theorem dX4_fewestHours_100 : decode cX4_fewestHours 100 = .ok (.iconst 1, 1) := by decide +kernel
theorem dX4_fewestHours_101 : decode cX4_fewestHours 101 = .ok (.aload_n 1, 1) := by decide +kernel
theorem dX4_fewestHours_102 : decode cX4_fewestHours 102 = .ok (.invokevirtual 44, 3) := by decide +kernel
theorem dX4_fewestHours_105 : decode cX4_fewestHours 105 = .ok (.iload_n 3, 1) := by decide +kernel
theorem dX4_fewestHours_106 : decode cX4_fewestHours 106 = .ok (.iadd, 1) := by decide +kernel
theorem dX4_fewestHours_107 : decode cX4_fewestHours 107 = .ok (.invokevirtual 47, 3) := by decide +kernel
theorem dX4_fewestHours_110 : decode cX4_fewestHours 110 = .ok (.iastore, 1) := by decide +kernel
theorem dX4_fewestHours_111 : decode cX4_fewestHours 111 = .ok (.aload_n 0, 1) := by decide +kernel
theorem dX4_fewestHours_112 : decode cX4_fewestHours 112 = .ok (.iload_n 3, 1) := by decide +kernel
theorem dX4_fewestHours_113 : decode cX4_fewestHours 113 = .ok (.invokevirtual 51, 3) := by decide +kernel
theorem dX4_fewestHours_116 : decode cX4_fewestHours 116 = .ok (.aload_n 0, 1) := by decide +kernel
theorem dX4_fewestHours_117 : decode cX4_fewestHours 117 = .ok (.getfield 15, 3) := by decide +kernel
theorem dX4_fewestHours_120 : decode cX4_fewestHours 120 = .ok (.aload_n 0, 1) := by decide +kernel
theorem dX4_fewestHours_121 : decode cX4_fewestHours 121 = .ok (.getfield 21, 3) := by decide +kernel
theorem dX4_fewestHours_124 : decode cX4_fewestHours 124 = .ok (.iaload, 1) := by decide +kernel
theorem dX4_fewestHours_125 : decode cX4_fewestHours 125 = .ok (.aload_n 0, 1) := by decide +kernel
theorem dX4_fewestHours_126 : decode cX4_fewestHours 126 = .ok (.getfield 15, 3) := by decide +kernel
theorem dX4_fewestHours_129 : decode cX4_fewestHours 129 = .ok (.aload_n 0, 1) := by decide +kernel
theorem dX4_fewestHours_130 : decode cX4_fewestHours 130 = .ok (.getfield 21, 3) := by decide +kernel
theorem dX4_fewestHours_133 : decode cX4_fewestHours 133 = .ok (.sipush 128, 3) := by decide +kernel
theorem dX4_fewestHours_136 : decode cX4_fewestHours 136 = .ok (.ior, 1) := by decide +kernel
theorem dX4_fewestHours_137 : decode cX4_fewestHours 137 = .ok (.iaload, 1) := by decide +kernel
theorem dX4_fewestHours_138 : decode cX4_fewestHours 138 = .ok (.ior, 1) := by decide +kernel
theorem dX4_fewestHours_139 : decode cX4_fewestHours 139 = .ok (.iload_n 3, 1) := by decide +kernel
theorem dX4_fewestHours_140 : decode cX4_fewestHours 140 = .ok (.iconst 1, 1) := by decide +kernel
theorem dX4_fewestHours_141 : decode cX4_fewestHours 141 = .ok (.iadd, 1) := by decide +kernel
theorem dX4_fewestHours_142 : decode cX4_fewestHours 142 = .ok (.ishr, 1) := by decide +kernel
theorem dX4_fewestHours_143 : decode cX4_fewestHours 143 = .ok (.iconst 1, 1) := by decide +kernel
theorem dX4_fewestHours_144 : decode cX4_fewestHours 144 = .ok (.iand, 1) := by decide +kernel
theorem dX4_fewestHours_145 : decode cX4_fewestHours 145 = .ok (.ifCond .eq 7, 3) := by decide +kernel
theorem dX4_fewestHours_148 : decode cX4_fewestHours 148 = .ok (.iload_n 3, 1) := by decide +kernel
theorem dX4_fewestHours_149 : decode cX4_fewestHours 149 = .ok (.iconst 1, 1) := by decide +kernel
theorem dX4_fewestHours_150 : decode cX4_fewestHours 150 = .ok (.iadd, 1) := by decide +kernel
theorem dX4_fewestHours_151 : decode cX4_fewestHours 151 = .ok (.ireturn, 1) := by decide +kernel
theorem dX4_fewestHours_152 : decode cX4_fewestHours 152 = .ok (.iinc 3 1, 3) := by decide +kernel
theorem dX4_fewestHours_155 : decode cX4_fewestHours 155 = .ok (.goto (-90), 3) := by decide +kernel
theorem dX4_fewestHours_158 : decode cX4_fewestHours 158 = .ok (.iconst (-1), 1) := by decide +kernel
theorem dX4_fewestHours_159 : decode cX4_fewestHours 159 = .ok (.ireturn, 1) := by decide +kernel
theorem dX4_strikerIn_0 : decode cX4_strikerIn 0 = .ok (.aload_n 0, 1) := by decide +kernel
theorem dX4_strikerIn_1 : decode cX4_strikerIn 1 = .ok (.iload_n 2, 1) := by decide +kernel
theorem dX4_strikerIn_2 : decode cX4_strikerIn 2 = .ok (.bipush 20, 2) := by decide +kernel
theorem dX4_strikerIn_4 : decode cX4_strikerIn 4 = .ok (.invokestatic 55, 3) := by decide +kernel
theorem dX4_strikerIn_7 : decode cX4_strikerIn 7 = .ok (.invokevirtual 60, 3) := by decide +kernel
theorem dX4_strikerIn_10 : decode cX4_strikerIn 10 = .ok (.aload_n 0, 1) := by decide +kernel
theorem dX4_strikerIn_11 : decode cX4_strikerIn 11 = .ok (.getfield 25, 3) := by decide +kernel
theorem dX4_strikerIn_14 : decode cX4_strikerIn 14 = .ok (.istore_n 3, 1) := by decide +kernel
theorem dX4_strikerIn_15 : decode cX4_strikerIn 15 = .ok (.iconst (-1), 1) := by decide +kernel
theorem dX4_strikerIn_16 : decode cX4_strikerIn 16 = .ok (.istore 4, 2) := by decide +kernel
theorem dX4_strikerIn_18 : decode cX4_strikerIn 18 = .ok (.iconst 0, 1) := by decide +kernel
theorem dX4_strikerIn_19 : decode cX4_strikerIn 19 = .ok (.istore 5, 2) := by decide +kernel
theorem dX4_strikerIn_21 : decode cX4_strikerIn 21 = .ok (.iload 5, 2) := by decide +kernel
theorem dX4_strikerIn_23 : decode cX4_strikerIn 23 = .ok (.iload_n 1, 1) := by decide +kernel
theorem dX4_strikerIn_24 : decode cX4_strikerIn 24 = .ok (.if_icmp .gt 42, 3) := by decide +kernel
theorem dX4_strikerIn_27 : decode cX4_strikerIn 27 = .ok (.iload 5, 2) := by decide +kernel
theorem dX4_strikerIn_29 : decode cX4_strikerIn 29 = .ok (.bipush 20, 2) := by decide +kernel
theorem dX4_strikerIn_31 : decode cX4_strikerIn 31 = .ok (.if_icmp .ge 35, 3) := by decide +kernel
theorem dX4_strikerIn_34 : decode cX4_strikerIn 34 = .ok (.aload_n 0, 1) := by decide +kernel
theorem dX4_strikerIn_35 : decode cX4_strikerIn 35 = .ok (.iload_n 3, 1) := by decide +kernel
theorem dX4_strikerIn_36 : decode cX4_strikerIn 36 = .ok (.iload 5, 2) := by decide +kernel
theorem dX4_strikerIn_38 : decode cX4_strikerIn 38 = .ok (.invokevirtual 63, 3) := by decide +kernel
theorem dX4_strikerIn_41 : decode cX4_strikerIn 41 = .ok (.istore 4, 2) := by decide +kernel
theorem dX4_strikerIn_43 : decode cX4_strikerIn 43 = .ok (.iload 4, 2) := by decide +kernel
theorem dX4_strikerIn_45 : decode cX4_strikerIn 45 = .ok (.bipush (-9), 2) := by decide +kernel
theorem dX4_strikerIn_47 : decode cX4_strikerIn 47 = .ok (.if_icmp .ne 5, 3) := by decide +kernel
theorem dX4_strikerIn_50 : decode cX4_strikerIn 50 = .ok (.iconst (-1), 1) := by decide +kernel
theorem dX4_strikerIn_51 : decode cX4_strikerIn 51 = .ok (.ireturn, 1) := by decide +kernel
theorem dX4_strikerIn_52 : decode cX4_strikerIn 52 = .ok (.aload_n 0, 1) := by decide +kernel
theorem dX4_strikerIn_53 : decode cX4_strikerIn 53 = .ok (.iload_n 3, 1) := by decide +kernel
theorem dX4_strikerIn_54 : decode cX4_strikerIn 54 = .ok (.iload 4, 2) := by decide +kernel
theorem dX4_strikerIn_56 : decode cX4_strikerIn 56 = .ok (.invokevirtual 66, 3) := by decide +kernel
theorem dX4_strikerIn_59 : decode cX4_strikerIn 59 = .ok (.istore_n 3, 1) := by decide +kernel
theorem dX4_strikerIn_60 : decode cX4_strikerIn 60 = .ok (.iinc 5 1, 3) := by decide +kernel
theorem dX4_strikerIn_63 : decode cX4_strikerIn 63 = .ok (.goto (-42), 3) := by decide +kernel
theorem dX4_strikerIn_66 : decode cX4_strikerIn 66 = .ok (.iload 4, 2) := by decide +kernel
theorem dX4_strikerIn_68 : decode cX4_strikerIn 68 = .ok (.ireturn, 1) := by decide +kernel
theorem dX4_spread_0 : decode cX4_spread 0 = .ok (.iconst 0, 1) := by decide +kernel
theorem dX4_spread_1 : decode cX4_spread 1 = .ok (.istore_n 2, 1) := by decide +kernel
theorem dX4_spread_2 : decode cX4_spread 2 = .ok (.iload_n 2, 1) := by decide +kernel
theorem dX4_spread_3 : decode cX4_spread 3 = .ok (.sipush 256, 3) := by decide +kernel
theorem dX4_spread_6 : decode cX4_spread 6 = .ok (.if_icmp .ge 65, 3) := by decide +kernel
theorem dX4_spread_9 : decode cX4_spread 9 = .ok (.aload_n 0, 1) := by decide +kernel
theorem dX4_spread_10 : decode cX4_spread 10 = .ok (.getfield 15, 3) := by decide +kernel
theorem dX4_spread_13 : decode cX4_spread 13 = .ok (.iload_n 2, 1) := by decide +kernel
theorem dX4_spread_14 : decode cX4_spread 14 = .ok (.iaload, 1) := by decide +kernel
theorem dX4_spread_15 : decode cX4_spread 15 = .ok (.iload_n 1, 1) := by decide +kernel
theorem dX4_spread_16 : decode cX4_spread 16 = .ok (.ishr, 1) := by decide +kernel
theorem dX4_spread_17 : decode cX4_spread 17 = .ok (.iconst 1, 1) := by decide +kernel
theorem dX4_spread_18 : decode cX4_spread 18 = .ok (.iand, 1) := by decide +kernel
theorem dX4_spread_19 : decode cX4_spread 19 = .ok (.ifCond .eq 46, 3) := by decide +kernel
theorem dX4_spread_22 : decode cX4_spread 22 = .ok (.iconst (-1), 1) := by decide +kernel
theorem dX4_spread_23 : decode cX4_spread 23 = .ok (.istore_n 3, 1) := by decide +kernel
theorem dX4_spread_24 : decode cX4_spread 24 = .ok (.iload_n 3, 1) := by decide +kernel
theorem dX4_spread_25 : decode cX4_spread 25 = .ok (.bipush 7, 2) := by decide +kernel
theorem dX4_spread_27 : decode cX4_spread 27 = .ok (.if_icmp .ge 38, 3) := by decide +kernel
theorem dX4_spread_30 : decode cX4_spread 30 = .ok (.aload_n 0, 1) := by decide +kernel
theorem dX4_spread_31 : decode cX4_spread 31 = .ok (.iload_n 2, 1) := by decide +kernel
theorem dX4_spread_32 : decode cX4_spread 32 = .ok (.iload_n 1, 1) := by decide +kernel
theorem dX4_spread_33 : decode cX4_spread 33 = .ok (.iload_n 3, 1) := by decide +kernel
theorem dX4_spread_34 : decode cX4_spread 34 = .ok (.invokevirtual 69, 3) := by decide +kernel
theorem dX4_spread_37 : decode cX4_spread 37 = .ok (.ifCond .eq 22, 3) := by decide +kernel
theorem dX4_spread_40 : decode cX4_spread 40 = .ok (.aload_n 0, 1) := by decide +kernel
theorem dX4_spread_41 : decode cX4_spread 41 = .ok (.getfield 15, 3) := by decide +kernel
theorem dX4_spread_44 : decode cX4_spread 44 = .ok (.aload_n 0, 1) := by decide +kernel
theorem dX4_spread_45 : decode cX4_spread 45 = .ok (.iload_n 2, 1) := by decide +kernel
theorem dX4_spread_46 : decode cX4_spread 46 = .ok (.iload_n 3, 1) := by decide +kernel
theorem dX4_spread_47 : decode cX4_spread 47 = .ok (.invokevirtual 66, 3) := by decide +kernel
theorem dX4_spread_50 : decode cX4_spread 50 = .ok (.dup2, 1) := by decide +kernel
theorem dX4_spread_51 : decode cX4_spread 51 = .ok (.iaload, 1) := by decide +kernel
theorem dX4_spread_52 : decode cX4_spread 52 = .ok (.iconst 1, 1) := by decide +kernel
theorem dX4_spread_53 : decode cX4_spread 53 = .ok (.iload_n 1, 1) := by decide +kernel
theorem dX4_spread_54 : decode cX4_spread 54 = .ok (.iconst 1, 1) := by decide +kernel
theorem dX4_spread_55 : decode cX4_spread 55 = .ok (.iadd, 1) := by decide +kernel
theorem dX4_spread_56 : decode cX4_spread 56 = .ok (.ishl, 1) := by decide +kernel
theorem dX4_spread_57 : decode cX4_spread 57 = .ok (.ior, 1) := by decide +kernel
theorem dX4_spread_58 : decode cX4_spread 58 = .ok (.iastore, 1) := by decide +kernel
theorem dX4_spread_59 : decode cX4_spread 59 = .ok (.iinc 3 1, 3) := by decide +kernel
theorem dX4_spread_62 : decode cX4_spread 62 = .ok (.goto (-38), 3) := by decide +kernel
theorem dX4_spread_65 : decode cX4_spread 65 = .ok (.iinc 2 1, 3) := by decide +kernel
theorem dX4_spread_68 : decode cX4_spread 68 = .ok (.goto (-66), 3) := by decide +kernel
theorem dX4_spread_71 : decode cX4_spread 71 = .ok (.return_, 1) := by decide +kernel
theorem dX4_workBack_0 : decode cX4_workBack 0 = .ok (.aload_n 0, 1) := by decide +kernel
theorem dX4_workBack_1 : decode cX4_workBack 1 = .ok (.getfield 18, 3) := by decide +kernel
theorem dX4_workBack_4 : decode cX4_workBack 4 = .ok (.iconst 0, 1) := by decide +kernel
theorem dX4_workBack_5 : decode cX4_workBack 5 = .ok (.invokestatic 38, 3) := by decide +kernel
theorem dX4_workBack_8 : decode cX4_workBack 8 = .ok (.aload_n 0, 1) := by decide +kernel
theorem dX4_workBack_9 : decode cX4_workBack 9 = .ok (.getfield 18, 3) := by decide +kernel
theorem dX4_workBack_12 : decode cX4_workBack 12 = .ok (.aload_n 0, 1) := by decide +kernel
theorem dX4_workBack_13 : decode cX4_workBack 13 = .ok (.getfield 21, 3) := by decide +kernel
theorem dX4_workBack_16 : decode cX4_workBack 16 = .ok (.iconst 1, 1) := by decide +kernel
theorem dX4_workBack_17 : decode cX4_workBack 17 = .ok (.iload_n 1, 1) := by decide +kernel
theorem dX4_workBack_18 : decode cX4_workBack 18 = .ok (.ishl, 1) := by decide +kernel
theorem dX4_workBack_19 : decode cX4_workBack 19 = .ok (.iastore, 1) := by decide +kernel
theorem dX4_workBack_20 : decode cX4_workBack 20 = .ok (.aload_n 0, 1) := by decide +kernel
theorem dX4_workBack_21 : decode cX4_workBack 21 = .ok (.getfield 18, 3) := by decide +kernel
theorem dX4_workBack_24 : decode cX4_workBack 24 = .ok (.aload_n 0, 1) := by decide +kernel
theorem dX4_workBack_25 : decode cX4_workBack 25 = .ok (.getfield 21, 3) := by decide +kernel
theorem dX4_workBack_28 : decode cX4_workBack 28 = .ok (.sipush 128, 3) := by decide +kernel
theorem dX4_workBack_31 : decode cX4_workBack 31 = .ok (.ior, 1) := by decide +kernel
theorem dX4_workBack_32 : decode cX4_workBack 32 = .ok (.iconst 1, 1) := by decide +kernel
theorem dX4_workBack_33 : decode cX4_workBack 33 = .ok (.iload_n 1, 1) := by decide +kernel
theorem dX4_workBack_34 : decode cX4_workBack 34 = .ok (.ishl, 1) := by decide +kernel
theorem dX4_workBack_35 : decode cX4_workBack 35 = .ok (.iastore, 1) := by decide +kernel
theorem dX4_workBack_36 : decode cX4_workBack 36 = .ok (.iload_n 1, 1) := by decide +kernel
theorem dX4_workBack_37 : decode cX4_workBack 37 = .ok (.iconst 1, 1) := by decide +kernel
theorem dX4_workBack_38 : decode cX4_workBack 38 = .ok (.isub, 1) := by decide +kernel
theorem dX4_workBack_39 : decode cX4_workBack 39 = .ok (.istore_n 2, 1) := by decide +kernel
theorem dX4_workBack_40 : decode cX4_workBack 40 = .ok (.iload_n 2, 1) := by decide +kernel
theorem dX4_workBack_41 : decode cX4_workBack 41 = .ok (.ifCond .lt 60, 3) := by decide +kernel
theorem dX4_workBack_44 : decode cX4_workBack 44 = .ok (.iconst 0, 1) := by decide +kernel
theorem dX4_workBack_45 : decode cX4_workBack 45 = .ok (.istore_n 3, 1) := by decide +kernel
theorem dX4_workBack_46 : decode cX4_workBack 46 = .ok (.iload_n 3, 1) := by decide +kernel
theorem dX4_workBack_47 : decode cX4_workBack 47 = .ok (.sipush 256, 3) := by decide +kernel
theorem dX4_workBack_50 : decode cX4_workBack 50 = .ok (.if_icmp .ge 45, 3) := by decide +kernel
theorem dX4_workBack_53 : decode cX4_workBack 53 = .ok (.aload_n 0, 1) := by decide +kernel
theorem dX4_workBack_54 : decode cX4_workBack 54 = .ok (.getfield 15, 3) := by decide +kernel
theorem dX4_workBack_57 : decode cX4_workBack 57 = .ok (.iload_n 3, 1) := by decide +kernel
theorem dX4_workBack_58 : decode cX4_workBack 58 = .ok (.iaload, 1) := by decide +kernel
theorem dX4_workBack_59 : decode cX4_workBack 59 = .ok (.iload_n 2, 1) := by decide +kernel
theorem dX4_workBack_60 : decode cX4_workBack 60 = .ok (.ishr, 1) := by decide +kernel
theorem dX4_workBack_61 : decode cX4_workBack 61 = .ok (.iconst 1, 1) := by decide +kernel
theorem dX4_workBack_62 : decode cX4_workBack 62 = .ok (.iand, 1) := by decide +kernel
theorem dX4_workBack_63 : decode cX4_workBack 63 = .ok (.ifCond .eq 26, 3) := by decide +kernel
theorem dX4_workBack_66 : decode cX4_workBack 66 = .ok (.aload_n 0, 1) := by decide +kernel
theorem dX4_workBack_67 : decode cX4_workBack 67 = .ok (.iload_n 3, 1) := by decide +kernel
theorem dX4_workBack_68 : decode cX4_workBack 68 = .ok (.iload_n 2, 1) := by decide +kernel
theorem dX4_workBack_69 : decode cX4_workBack 69 = .ok (.invokevirtual 63, 3) := by decide +kernel
theorem dX4_workBack_72 : decode cX4_workBack 72 = .ok (.bipush (-9), 2) := by decide +kernel
theorem dX4_workBack_74 : decode cX4_workBack 74 = .ok (.if_icmp .eq 15, 3) := by decide +kernel
theorem dX4_workBack_77 : decode cX4_workBack 77 = .ok (.aload_n 0, 1) := by decide +kernel
theorem dX4_workBack_78 : decode cX4_workBack 78 = .ok (.getfield 18, 3) := by decide +kernel
theorem dX4_workBack_81 : decode cX4_workBack 81 = .ok (.iload_n 3, 1) := by decide +kernel
theorem dX4_workBack_82 : decode cX4_workBack 82 = .ok (.dup2, 1) := by decide +kernel
theorem dX4_workBack_83 : decode cX4_workBack 83 = .ok (.iaload, 1) := by decide +kernel
theorem dX4_workBack_84 : decode cX4_workBack 84 = .ok (.iconst 1, 1) := by decide +kernel
theorem dX4_workBack_85 : decode cX4_workBack 85 = .ok (.iload_n 2, 1) := by decide +kernel
theorem dX4_workBack_86 : decode cX4_workBack 86 = .ok (.ishl, 1) := by decide +kernel
theorem dX4_workBack_87 : decode cX4_workBack 87 = .ok (.ior, 1) := by decide +kernel
theorem dX4_workBack_88 : decode cX4_workBack 88 = .ok (.iastore, 1) := by decide +kernel
theorem dX4_workBack_89 : decode cX4_workBack 89 = .ok (.iinc 3 1, 3) := by decide +kernel
theorem dX4_workBack_92 : decode cX4_workBack 92 = .ok (.goto (-46), 3) := by decide +kernel
theorem dX4_workBack_95 : decode cX4_workBack 95 = .ok (.iinc 2 (-1), 3) := by decide +kernel
theorem dX4_workBack_98 : decode cX4_workBack 98 = .ok (.goto (-58), 3) := by decide +kernel
theorem dX4_workBack_101 : decode cX4_workBack 101 = .ok (.return_, 1) := by decide +kernel
theorem dX4_firstStep_0 : decode cX4_firstStep 0 = .ok (.iconst (-1), 1) := by decide +kernel
theorem dX4_firstStep_1 : decode cX4_firstStep 1 = .ok (.istore_n 3, 1) := by decide +kernel
theorem dX4_firstStep_2 : decode cX4_firstStep 2 = .ok (.iload_n 3, 1) := by decide +kernel
theorem dX4_firstStep_3 : decode cX4_firstStep 3 = .ok (.bipush 7, 2) := by decide +kernel
theorem dX4_firstStep_5 : decode cX4_firstStep 5 = .ok (.if_icmp .ge 41, 3) := by decide +kernel
theorem dX4_firstStep_8 : decode cX4_firstStep 8 = .ok (.aload_n 0, 1) := by decide +kernel
theorem dX4_firstStep_9 : decode cX4_firstStep 9 = .ok (.iload_n 1, 1) := by decide +kernel
theorem dX4_firstStep_10 : decode cX4_firstStep 10 = .ok (.iload_n 2, 1) := by decide +kernel
theorem dX4_firstStep_11 : decode cX4_firstStep 11 = .ok (.iload_n 3, 1) := by decide +kernel
theorem dX4_firstStep_12 : decode cX4_firstStep 12 = .ok (.invokevirtual 69, 3) := by decide +kernel
theorem dX4_firstStep_15 : decode cX4_firstStep 15 = .ok (.ifCond .eq 25, 3) := by decide +kernel
theorem dX4_firstStep_18 : decode cX4_firstStep 18 = .ok (.aload_n 0, 1) := by decide +kernel
theorem dX4_firstStep_19 : decode cX4_firstStep 19 = .ok (.getfield 18, 3) := by decide +kernel
theorem dX4_firstStep_22 : decode cX4_firstStep 22 = .ok (.aload_n 0, 1) := by decide +kernel
theorem dX4_firstStep_23 : decode cX4_firstStep 23 = .ok (.iload_n 1, 1) := by decide +kernel
theorem dX4_firstStep_24 : decode cX4_firstStep 24 = .ok (.iload_n 3, 1) := by decide +kernel
theorem dX4_firstStep_25 : decode cX4_firstStep 25 = .ok (.invokevirtual 66, 3) := by decide +kernel
theorem dX4_firstStep_28 : decode cX4_firstStep 28 = .ok (.iaload, 1) := by decide +kernel
theorem dX4_firstStep_29 : decode cX4_firstStep 29 = .ok (.iload_n 2, 1) := by decide +kernel
theorem dX4_firstStep_30 : decode cX4_firstStep 30 = .ok (.iconst 1, 1) := by decide +kernel
theorem dX4_firstStep_31 : decode cX4_firstStep 31 = .ok (.iadd, 1) := by decide +kernel
theorem dX4_firstStep_32 : decode cX4_firstStep 32 = .ok (.ishr, 1) := by decide +kernel
theorem dX4_firstStep_33 : decode cX4_firstStep 33 = .ok (.iconst 1, 1) := by decide +kernel
theorem dX4_firstStep_34 : decode cX4_firstStep 34 = .ok (.iand, 1) := by decide +kernel
theorem dX4_firstStep_35 : decode cX4_firstStep 35 = .ok (.ifCond .eq 5, 3) := by decide +kernel
theorem dX4_firstStep_38 : decode cX4_firstStep 38 = .ok (.iload_n 3, 1) := by decide +kernel
theorem dX4_firstStep_39 : decode cX4_firstStep 39 = .ok (.ireturn, 1) := by decide +kernel
theorem dX4_firstStep_40 : decode cX4_firstStep 40 = .ok (.iinc 3 1, 3) := by decide +kernel
theorem dX4_firstStep_43 : decode cX4_firstStep 43 = .ok (.goto (-41), 3) := by decide +kernel
theorem dX4_firstStep_46 : decode cX4_firstStep 46 = .ok (.bipush (-9), 2) := by decide +kernel
theorem dX4_firstStep_48 : decode cX4_firstStep 48 = .ok (.ireturn, 1) := by decide +kernel
theorem dX4_mayStep_0 : decode cX4_mayStep 0 = .ok (.iload_n 3, 1) := by decide +kernel
theorem dX4_mayStep_1 : decode cX4_mayStep 1 = .ok (.iconst (-1), 1) := by decide +kernel
theorem dX4_mayStep_2 : decode cX4_mayStep 2 = .ok (.if_icmp .ne 5, 3) := by decide +kernel
theorem dX4_mayStep_5 : decode cX4_mayStep 5 = .ok (.iconst 1, 1) := by decide +kernel
theorem dX4_mayStep_6 : decode cX4_mayStep 6 = .ok (.ireturn, 1) := by decide +kernel
theorem dX4_mayStep_7 : decode cX4_mayStep 7 = .ok (.iload_n 1, 1) := by decide +kernel
theorem dX4_mayStep_8 : decode cX4_mayStep 8 = .ok (.bipush 7, 2) := by decide +kernel
theorem dX4_mayStep_10 : decode cX4_mayStep 10 = .ok (.ishr, 1) := by decide +kernel
theorem dX4_mayStep_11 : decode cX4_mayStep 11 = .ok (.iconst 1, 1) := by decide +kernel
theorem dX4_mayStep_12 : decode cX4_mayStep 12 = .ok (.iand, 1) := by decide +kernel
theorem dX4_mayStep_13 : decode cX4_mayStep 13 = .ok (.istore 4, 2) := by decide +kernel
theorem dX4_mayStep_15 : decode cX4_mayStep 15 = .ok (.iconst 2, 1) := by decide +kernel
theorem dX4_mayStep_16 : decode cX4_mayStep 16 = .ok (.iload_n 2, 1) := by decide +kernel
theorem dX4_mayStep_17 : decode cX4_mayStep 17 = .ok (.imul, 1) := by decide +kernel
theorem dX4_mayStep_18 : decode cX4_mayStep 18 = .ok (.iload 4, 2) := by decide +kernel
theorem dX4_mayStep_20 : decode cX4_mayStep 20 = .ok (.iadd, 1) := by decide +kernel
theorem dX4_mayStep_21 : decode cX4_mayStep 21 = .ok (.istore 5, 2) := by decide +kernel
theorem dX4_mayStep_23 : decode cX4_mayStep 23 = .ok (.iload 5, 2) := by decide +kernel
theorem dX4_mayStep_25 : decode cX4_mayStep 25 = .ok (.ifCond .lt 28, 3) := by decide +kernel
theorem dX4_mayStep_28 : decode cX4_mayStep 28 = .ok (.iload 5, 2) := by decide +kernel
theorem dX4_mayStep_30 : decode cX4_mayStep 30 = .ok (.bipush 40, 2) := by decide +kernel
theorem dX4_mayStep_32 : decode cX4_mayStep 32 = .ok (.if_icmp .ge 21, 3) := by decide +kernel
theorem dX4_mayStep_35 : decode cX4_mayStep 35 = .ok (.aload_n 0, 1) := by decide +kernel
theorem dX4_mayStep_36 : decode cX4_mayStep 36 = .ok (.getfield 11, 3) := by decide +kernel
theorem dX4_mayStep_39 : decode cX4_mayStep 39 = .ok (.iload 5, 2) := by decide +kernel
theorem dX4_mayStep_41 : decode cX4_mayStep 41 = .ok (.iaload, 1) := by decide +kernel
theorem dX4_mayStep_42 : decode cX4_mayStep 42 = .ok (.iload_n 3, 1) := by decide +kernel
theorem dX4_mayStep_43 : decode cX4_mayStep 43 = .ok (.ishr, 1) := by decide +kernel
theorem dX4_mayStep_44 : decode cX4_mayStep 44 = .ok (.iconst 1, 1) := by decide +kernel
theorem dX4_mayStep_45 : decode cX4_mayStep 45 = .ok (.iand, 1) := by decide +kernel
theorem dX4_mayStep_46 : decode cX4_mayStep 46 = .ok (.ifCond .eq 7, 3) := by decide +kernel
theorem dX4_mayStep_49 : decode cX4_mayStep 49 = .ok (.iconst 1, 1) := by decide +kernel
theorem dX4_mayStep_50 : decode cX4_mayStep 50 = .ok (.goto 4, 3) := by decide +kernel
theorem dX4_mayStep_53 : decode cX4_mayStep 53 = .ok (.iconst 0, 1) := by decide +kernel
theorem dX4_mayStep_54 : decode cX4_mayStep 54 = .ok (.ireturn, 1) := by decide +kernel
theorem dX4_after_0 : decode cX4_after 0 = .ok (.iload_n 2, 1) := by decide +kernel
theorem dX4_after_1 : decode cX4_after 1 = .ok (.iconst (-1), 1) := by decide +kernel
theorem dX4_after_2 : decode cX4_after 2 = .ok (.if_icmp .ne 7, 3) := by decide +kernel
theorem dX4_after_5 : decode cX4_after 5 = .ok (.iload_n 1, 1) := by decide +kernel
theorem dX4_after_6 : decode cX4_after 6 = .ok (.goto 21, 3) := by decide +kernel
theorem dX4_after_9 : decode cX4_after 9 = .ok (.iload_n 1, 1) := by decide +kernel
theorem dX4_after_10 : decode cX4_after 10 = .ok (.sipush 128, 3) := by decide +kernel
theorem dX4_after_13 : decode cX4_after 13 = .ok (.ixor, 1) := by decide +kernel
theorem dX4_after_14 : decode cX4_after 14 = .ok (.aload_n 0, 1) := by decide +kernel
theorem dX4_after_15 : decode cX4_after 15 = .ok (.getfield 21, 3) := by decide +kernel
theorem dX4_after_18 : decode cX4_after 18 = .ok (.iconst 1, 1) := by decide +kernel
theorem dX4_after_19 : decode cX4_after 19 = .ok (.iload_n 2, 1) := by decide +kernel
theorem dX4_after_20 : decode cX4_after 20 = .ok (.ishl, 1) := by decide +kernel
theorem dX4_after_21 : decode cX4_after 21 = .ok (.iand, 1) := by decide +kernel
theorem dX4_after_22 : decode cX4_after 22 = .ok (.ior, 1) := by decide +kernel
theorem dX4_after_23 : decode cX4_after 23 = .ok (.sipush 255, 3) := by decide +kernel
theorem dX4_after_26 : decode cX4_after 26 = .ok (.iand, 1) := by decide +kernel
theorem dX4_after_27 : decode cX4_after 27 = .ok (.ireturn, 1) := by decide +kernel
theorem dX5_init_0 : decode cX5_init 0 = .ok (.aload_n 0, 1) := by decide +kernel
theorem dX5_init_1 : decode cX5_init 1 = .ok (.invokespecial 1, 3) := by decide +kernel
theorem dX5_init_4 : decode cX5_init 4 = .ok (.aload_n 0, 1) := by decide +kernel
theorem dX5_init_5 : decode cX5_init 5 = .ok (.new 7, 3) := by decide +kernel
theorem dX5_init_8 : decode cX5_init 8 = .ok (.dup, 1) := by decide +kernel
theorem dX5_init_9 : decode cX5_init 9 = .ok (.invokespecial 9, 3) := by decide +kernel
theorem dX5_init_12 : decode cX5_init 12 = .ok (.putfield 10, 3) := by decide +kernel
theorem dX5_init_15 : decode cX5_init 15 = .ok (.aload_n 0, 1) := by decide +kernel
theorem dX5_init_16 : decode cX5_init 16 = .ok (.new 16, 3) := by decide +kernel
theorem dX5_init_19 : decode cX5_init 19 = .ok (.dup, 1) := by decide +kernel
theorem dX5_init_20 : decode cX5_init 20 = .ok (.invokespecial 18, 3) := by decide +kernel
theorem dX5_init_23 : decode cX5_init 23 = .ok (.putfield 19, 3) := by decide +kernel
theorem dX5_init_26 : decode cX5_init 26 = .ok (.aload_n 0, 1) := by decide +kernel
theorem dX5_init_27 : decode cX5_init 27 = .ok (.iconst 0, 1) := by decide +kernel
theorem dX5_init_28 : decode cX5_init 28 = .ok (.putfield 23, 3) := by decide +kernel
theorem dX5_init_31 : decode cX5_init 31 = .ok (.return_, 1) := by decide +kernel
theorem dX5_readValley_0 : decode cX5_readValley 0 = .ok (.aload_n 0, 1) := by decide +kernel
theorem dX5_readValley_1 : decode cX5_readValley 1 = .ok (.getfield 10, 3) := by decide +kernel
theorem dX5_readValley_4 : decode cX5_readValley 4 = .ok (.ldc 27, 2) := by decide +kernel
theorem dX5_readValley_6 : decode cX5_readValley 6 = .ok (.invokevirtual 29, 3) := by decide +kernel
theorem dX5_readValley_9 : decode cX5_readValley 9 = .ok (.ifCond .ne 5, 3) := by decide +kernel
theorem dX5_readValley_12 : decode cX5_readValley 12 = .ok (.iconst 0, 1) := by decide +kernel
theorem dX5_readValley_13 : decode cX5_readValley 13 = .ok (.ireturn, 1) := by decide +kernel
theorem dX5_readValley_14 : decode cX5_readValley 14 = .ok (.aload_n 0, 1) := by decide +kernel
theorem dX5_readValley_15 : decode cX5_readValley 15 = .ok (.getfield 10, 3) := by decide +kernel
theorem dX5_readValley_18 : decode cX5_readValley 18 = .ok (.invokevirtual 33, 3) := by decide +kernel
theorem dX5_readValley_21 : decode cX5_readValley 21 = .ok (.aload_n 0, 1) := by decide +kernel
theorem dX5_readValley_22 : decode cX5_readValley 22 = .ok (.iconst 1, 1) := by decide +kernel
theorem dX5_readValley_23 : decode cX5_readValley 23 = .ok (.bipush 40, 2) := by decide +kernel
theorem dX5_readValley_25 : decode cX5_readValley 25 = .ok (.invokevirtual 36, 3) := by decide +kernel
theorem dX5_readValley_28 : decode cX5_readValley 28 = .ok (.ifCond .ne 5, 3) := by decide +kernel
theorem dX5_readValley_31 : decode cX5_readValley 31 = .ok (.iconst 0, 1) := by decide +kernel
theorem dX5_readValley_32 : decode cX5_readValley 32 = .ok (.ireturn, 1) := by decide +kernel
theorem dX5_readValley_33 : decode cX5_readValley 33 = .ok (.aload_n 0, 1) := by decide +kernel
theorem dX5_readValley_34 : decode cX5_readValley 34 = .ok (.getfield 19, 3) := by decide +kernel
theorem dX5_readValley_37 : decode cX5_readValley 37 = .ok (.aload_n 0, 1) := by decide +kernel
theorem dX5_readValley_38 : decode cX5_readValley 38 = .ok (.getfield 23, 3) := by decide +kernel
theorem dX5_readValley_41 : decode cX5_readValley 41 = .ok (.invokevirtual 40, 3) := by decide +kernel
theorem dX5_readValley_44 : decode cX5_readValley 44 = .ok (.aload_n 0, 1) := by decide +kernel
theorem dX5_readValley_45 : decode cX5_readValley 45 = .ok (.invokevirtual 44, 3) := by decide +kernel
theorem dX5_readValley_48 : decode cX5_readValley 48 = .ok (.ireturn, 1) := by decide +kernel
theorem dX5_readItem_0 : decode cX5_readItem 0 = .ok (.aload_n 0, 1) := by decide +kernel
theorem dX5_readItem_1 : decode cX5_readItem 1 = .ok (.getfield 10, 3) := by decide +kernel
theorem dX5_readItem_4 : decode cX5_readItem 4 = .ok (.ldc 48, 2) := by decide +kernel
theorem dX5_readItem_6 : decode cX5_readItem 6 = .ok (.invokevirtual 29, 3) := by decide +kernel
theorem dX5_readItem_9 : decode cX5_readItem 9 = .ok (.ifCond .eq 8, 3) := by decide +kernel
theorem dX5_readItem_12 : decode cX5_readItem 12 = .ok (.aload_n 0, 1) := by decide +kernel
theorem dX5_readItem_13 : decode cX5_readItem 13 = .ok (.invokevirtual 50, 3) := by decide +kernel
theorem dX5_readItem_16 : decode cX5_readItem 16 = .ok (.ireturn, 1) := by decide +kernel
theorem dX5_readItem_17 : decode cX5_readItem 17 = .ok (.aload_n 0, 1) := by decide +kernel
theorem dX5_readItem_18 : decode cX5_readItem 18 = .ok (.getfield 10, 3) := by decide +kernel
theorem dX5_readItem_21 : decode cX5_readItem 21 = .ok (.ldc 53, 2) := by decide +kernel
theorem dX5_readItem_23 : decode cX5_readItem 23 = .ok (.invokevirtual 29, 3) := by decide +kernel
theorem dX5_readItem_26 : decode cX5_readItem 26 = .ok (.ifCond .eq 8, 3) := by decide +kernel
theorem dX5_readItem_29 : decode cX5_readItem 29 = .ok (.aload_n 0, 1) := by decide +kernel
theorem dX5_readItem_30 : decode cX5_readItem 30 = .ok (.invokevirtual 55, 3) := by decide +kernel
theorem dX5_readItem_33 : decode cX5_readItem 33 = .ok (.ireturn, 1) := by decide +kernel
theorem dX5_readItem_34 : decode cX5_readItem 34 = .ok (.aload_n 0, 1) := by decide +kernel
theorem dX5_readItem_35 : decode cX5_readItem 35 = .ok (.getfield 10, 3) := by decide +kernel
theorem dX5_readItem_38 : decode cX5_readItem 38 = .ok (.ldc 58, 2) := by decide +kernel
theorem dX5_readItem_40 : decode cX5_readItem 40 = .ok (.invokevirtual 29, 3) := by decide +kernel
theorem dX5_readItem_43 : decode cX5_readItem 43 = .ok (.ifCond .eq 8, 3) := by decide +kernel
theorem dX5_readItem_46 : decode cX5_readItem 46 = .ok (.aload_n 0, 1) := by decide +kernel
theorem dX5_readItem_47 : decode cX5_readItem 47 = .ok (.invokevirtual 60, 3) := by decide +kernel
theorem dX5_readItem_50 : decode cX5_readItem 50 = .ok (.ireturn, 1) := by decide +kernel
theorem dX5_readItem_51 : decode cX5_readItem 51 = .ok (.aload_n 0, 1) := by decide +kernel
theorem dX5_readItem_52 : decode cX5_readItem 52 = .ok (.getfield 10, 3) := by decide +kernel
theorem dX5_readItem_55 : decode cX5_readItem 55 = .ok (.ldc 63, 2) := by decide +kernel
theorem dX5_readItem_57 : decode cX5_readItem 57 = .ok (.invokevirtual 29, 3) := by decide +kernel
theorem dX5_readItem_60 : decode cX5_readItem 60 = .ok (.ifCond .eq 8, 3) := by decide +kernel
theorem dX5_readItem_63 : decode cX5_readItem 63 = .ok (.aload_n 0, 1) := by decide +kernel
theorem dX5_readItem_64 : decode cX5_readItem 64 = .ok (.invokevirtual 65, 3) := by decide +kernel
theorem dX5_readItem_67 : decode cX5_readItem 67 = .ok (.ireturn, 1) := by decide +kernel
theorem dX5_readItem_68 : decode cX5_readItem 68 = .ok (.aload_n 0, 1) := by decide +kernel
theorem dX5_readItem_69 : decode cX5_readItem 69 = .ok (.getfield 10, 3) := by decide +kernel
theorem dX5_readItem_72 : decode cX5_readItem 72 = .ok (.ldc 68, 2) := by decide +kernel
theorem dX5_readItem_74 : decode cX5_readItem 74 = .ok (.invokevirtual 29, 3) := by decide +kernel
theorem dX5_readItem_77 : decode cX5_readItem 77 = .ok (.ifCond .eq 8, 3) := by decide +kernel
theorem dX5_readItem_80 : decode cX5_readItem 80 = .ok (.aload_n 0, 1) := by decide +kernel
theorem dX5_readItem_81 : decode cX5_readItem 81 = .ok (.invokevirtual 70, 3) := by decide +kernel
theorem dX5_readItem_84 : decode cX5_readItem 84 = .ok (.ireturn, 1) := by decide +kernel
theorem dX5_readItem_85 : decode cX5_readItem 85 = .ok (.aload_n 0, 1) := by decide +kernel
theorem dX5_readItem_86 : decode cX5_readItem 86 = .ok (.getfield 10, 3) := by decide +kernel
theorem dX5_readItem_89 : decode cX5_readItem 89 = .ok (.ldc 73, 2) := by decide +kernel
theorem dX5_readItem_91 : decode cX5_readItem 91 = .ok (.invokevirtual 29, 3) := by decide +kernel
theorem dX5_readItem_94 : decode cX5_readItem 94 = .ok (.ifCond .eq 14, 3) := by decide +kernel
theorem dX5_readItem_97 : decode cX5_readItem 97 = .ok (.aload_n 0, 1) := by decide +kernel
theorem dX5_readItem_98 : decode cX5_readItem 98 = .ok (.invokevirtual 75, 3) := by decide +kernel
theorem dX5_readItem_101 : decode cX5_readItem 101 = .ok (.ifCond .eq 7, 3) := by decide +kernel
theorem dX5_readItem_104 : decode cX5_readItem 104 = .ok (.iconst 1, 1) := by decide +kernel
theorem dX5_readItem_105 : decode cX5_readItem 105 = .ok (.goto 4, 3) := by decide +kernel
theorem dX5_readItem_108 : decode cX5_readItem 108 = .ok (.iconst 0, 1) := by decide +kernel
theorem dX5_readItem_109 : decode cX5_readItem 109 = .ok (.ireturn, 1) := by decide +kernel
theorem dX5_readWind_0 : decode cX5_readWind 0 = .ok (.aload_n 0, 1) := by decide +kernel
theorem dX5_readWind_1 : decode cX5_readWind 1 = .ok (.getfield 10, 3) := by decide +kernel
theorem dX5_readWind_4 : decode cX5_readWind 4 = .ok (.invokevirtual 33, 3) := by decide +kernel
theorem dX5_readWind_7 : decode cX5_readWind 7 = .ok (.iconst 0, 1) := by decide +kernel
theorem dX5_readWind_8 : decode cX5_readWind 8 = .ok (.istore_n 1, 1) := by decide +kernel
theorem dX5_readWind_9 : decode cX5_readWind 9 = .ok (.iload_n 1, 1) := by decide +kernel
theorem dX5_readWind_10 : decode cX5_readWind 10 = .ok (.bipush 6, 2) := by decide +kernel
theorem dX5_readWind_12 : decode cX5_readWind 12 = .ok (.if_icmp .ge 34, 3) := by decide +kernel
theorem dX5_readWind_15 : decode cX5_readWind 15 = .ok (.aload_n 0, 1) := by decide +kernel
theorem dX5_readWind_16 : decode cX5_readWind 16 = .ok (.iconst 0, 1) := by decide +kernel
theorem dX5_readWind_17 : decode cX5_readWind 17 = .ok (.bipush 8, 2) := by decide +kernel
theorem dX5_readWind_19 : decode cX5_readWind 19 = .ok (.invokevirtual 36, 3) := by decide +kernel
theorem dX5_readWind_22 : decode cX5_readWind 22 = .ok (.ifCond .eq 24, 3) := by decide +kernel
theorem dX5_readWind_25 : decode cX5_readWind 25 = .ok (.aload_n 0, 1) := by decide +kernel
theorem dX5_readWind_26 : decode cX5_readWind 26 = .ok (.getfield 19, 3) := by decide +kernel
theorem dX5_readWind_29 : decode cX5_readWind 29 = .ok (.getfield 78, 3) := by decide +kernel
theorem dX5_readWind_32 : decode cX5_readWind 32 = .ok (.iload_n 1, 1) := by decide +kernel
theorem dX5_readWind_33 : decode cX5_readWind 33 = .ok (.aload_n 0, 1) := by decide +kernel
theorem dX5_readWind_34 : decode cX5_readWind 34 = .ok (.getfield 23, 3) := by decide +kernel
theorem dX5_readWind_37 : decode cX5_readWind 37 = .ok (.iconst 4, 1) := by decide +kernel
theorem dX5_readWind_38 : decode cX5_readWind 38 = .ok (.isub, 1) := by decide +kernel
theorem dX5_readWind_39 : decode cX5_readWind 39 = .ok (.iastore, 1) := by decide +kernel
theorem dX5_readWind_40 : decode cX5_readWind 40 = .ok (.iinc 1 1, 3) := by decide +kernel
theorem dX5_readWind_43 : decode cX5_readWind 43 = .ok (.goto (-34), 3) := by decide +kernel
theorem dX5_readWind_46 : decode cX5_readWind 46 = .ok (.iload_n 1, 1) := by decide +kernel
theorem dX5_readWind_47 : decode cX5_readWind 47 = .ok (.ifCond .le 14, 3) := by decide +kernel
theorem dX5_readWind_50 : decode cX5_readWind 50 = .ok (.aload_n 0, 1) := by decide +kernel
theorem dX5_readWind_51 : decode cX5_readWind 51 = .ok (.invokevirtual 44, 3) := by decide +kernel
theorem dX5_readWind_54 : decode cX5_readWind 54 = .ok (.ifCond .eq 7, 3) := by decide +kernel
theorem dX5_readWind_57 : decode cX5_readWind 57 = .ok (.iconst 1, 1) := by decide +kernel
theorem dX5_readWind_58 : decode cX5_readWind 58 = .ok (.goto 4, 3) := by decide +kernel
theorem dX5_readWind_61 : decode cX5_readWind 61 = .ok (.iconst 0, 1) := by decide +kernel
theorem dX5_readWind_62 : decode cX5_readWind 62 = .ok (.ireturn, 1) := by decide +kernel
theorem dX5_readCock_0 : decode cX5_readCock 0 = .ok (.aload_n 0, 1) := by decide +kernel
theorem dX5_readCock_1 : decode cX5_readCock 1 = .ok (.getfield 10, 3) := by decide +kernel
theorem dX5_readCock_4 : decode cX5_readCock 4 = .ok (.invokevirtual 33, 3) := by decide +kernel
theorem dX5_readCock_7 : decode cX5_readCock 7 = .ok (.aload_n 0, 1) := by decide +kernel
theorem dX5_readCock_8 : decode cX5_readCock 8 = .ok (.iconst 0, 1) := by decide +kernel
theorem dX5_readCock_9 : decode cX5_readCock 9 = .ok (.iconst 5, 1) := by decide +kernel
theorem dX5_readCock_10 : decode cX5_readCock 10 = .ok (.invokevirtual 36, 3) := by decide +kernel
theorem dX5_readCock_13 : decode cX5_readCock 13 = .ok (.ifCond .ne 5, 3) := by decide +kernel
theorem dX5_readCock_16 : decode cX5_readCock 16 = .ok (.iconst 0, 1) := by decide +kernel
theorem dX5_readCock_17 : decode cX5_readCock 17 = .ok (.ireturn, 1) := by decide +kernel
theorem dX5_readCock_18 : decode cX5_readCock 18 = .ok (.aload_n 0, 1) := by decide +kernel
theorem dX5_readCock_19 : decode cX5_readCock 19 = .ok (.getfield 23, 3) := by decide +kernel
theorem dX5_readCock_22 : decode cX5_readCock 22 = .ok (.istore_n 1, 1) := by decide +kernel
theorem dX5_readCock_23 : decode cX5_readCock 23 = .ok (.aload_n 0, 1) := by decide +kernel
theorem dX5_readCock_24 : decode cX5_readCock 24 = .ok (.iconst 1, 1) := by decide +kernel
theorem dX5_readCock_25 : decode cX5_readCock 25 = .ok (.bipush 9, 2) := by decide +kernel
theorem dX5_readCock_27 : decode cX5_readCock 27 = .ok (.invokevirtual 36, 3) := by decide +kernel
theorem dX5_readCock_30 : decode cX5_readCock 30 = .ok (.ifCond .ne 5, 3) := by decide +kernel
theorem dX5_readCock_33 : decode cX5_readCock 33 = .ok (.iconst 0, 1) := by decide +kernel
theorem dX5_readCock_34 : decode cX5_readCock 34 = .ok (.ireturn, 1) := by decide +kernel
theorem dX5_readCock_35 : decode cX5_readCock 35 = .ok (.aload_n 0, 1) := by decide +kernel
theorem dX5_readCock_36 : decode cX5_readCock 36 = .ok (.getfield 19, 3) := by decide +kernel
theorem dX5_readCock_39 : decode cX5_readCock 39 = .ok (.iload_n 1, 1) := by decide +kernel
theorem dX5_readCock_40 : decode cX5_readCock 40 = .ok (.aload_n 0, 1) := by decide +kernel
theorem dX5_readCock_41 : decode cX5_readCock 41 = .ok (.getfield 23, 3) := by decide +kernel
theorem dX5_readCock_44 : decode cX5_readCock 44 = .ok (.invokevirtual 84, 3) := by decide +kernel
theorem dX5_readCock_47 : decode cX5_readCock 47 = .ok (.aload_n 0, 1) := by decide +kernel
theorem dX5_readCock_48 : decode cX5_readCock 48 = .ok (.invokevirtual 44, 3) := by decide +kernel
theorem dX5_readCock_51 : decode cX5_readCock 51 = .ok (.ireturn, 1) := by decide +kernel
theorem dX5_readPlayer_0 : decode cX5_readPlayer 0 = .ok (.aload_n 0, 1) := by decide +kernel
theorem dX5_readPlayer_1 : decode cX5_readPlayer 1 = .ok (.getfield 19, 3) := by decide +kernel
theorem dX5_readPlayer_4 : decode cX5_readPlayer 4 = .ok (.getfield 88, 3) := by decide +kernel
theorem dX5_readPlayer_7 : decode cX5_readPlayer 7 = .ok (.invokevirtual 92, 3) := by decide +kernel
theorem dX5_readPlayer_10 : decode cX5_readPlayer 10 = .ok (.ifCond .eq 5, 3) := by decide +kernel
theorem dX5_readPlayer_13 : decode cX5_readPlayer 13 = .ok (.iconst 0, 1) := by decide +kernel
theorem dX5_readPlayer_14 : decode cX5_readPlayer 14 = .ok (.ireturn, 1) := by decide +kernel
theorem dX5_readPlayer_15 : decode cX5_readPlayer 15 = .ok (.aload_n 0, 1) := by decide +kernel
theorem dX5_readPlayer_16 : decode cX5_readPlayer 16 = .ok (.getfield 10, 3) := by decide +kernel
theorem dX5_readPlayer_19 : decode cX5_readPlayer 19 = .ok (.invokevirtual 33, 3) := by decide +kernel
theorem dX5_readPlayer_22 : decode cX5_readPlayer 22 = .ok (.aload_n 0, 1) := by decide +kernel
theorem dX5_readPlayer_23 : decode cX5_readPlayer 23 = .ok (.iconst 0, 1) := by decide +kernel
theorem dX5_readPlayer_24 : decode cX5_readPlayer 24 = .ok (.iconst 5, 1) := by decide +kernel
theorem dX5_readPlayer_25 : decode cX5_readPlayer 25 = .ok (.invokevirtual 36, 3) := by decide +kernel
theorem dX5_readPlayer_28 : decode cX5_readPlayer 28 = .ok (.ifCond .ne 5, 3) := by decide +kernel
theorem dX5_readPlayer_31 : decode cX5_readPlayer 31 = .ok (.iconst 0, 1) := by decide +kernel
theorem dX5_readPlayer_32 : decode cX5_readPlayer 32 = .ok (.ireturn, 1) := by decide +kernel
theorem dX5_readPlayer_33 : decode cX5_readPlayer 33 = .ok (.aload_n 0, 1) := by decide +kernel
theorem dX5_readPlayer_34 : decode cX5_readPlayer 34 = .ok (.getfield 23, 3) := by decide +kernel
theorem dX5_readPlayer_37 : decode cX5_readPlayer 37 = .ok (.istore_n 1, 1) := by decide +kernel
theorem dX5_readPlayer_38 : decode cX5_readPlayer 38 = .ok (.aload_n 0, 1) := by decide +kernel
theorem dX5_readPlayer_39 : decode cX5_readPlayer 39 = .ok (.iconst 0, 1) := by decide +kernel
theorem dX5_readPlayer_40 : decode cX5_readPlayer 40 = .ok (.iconst 1, 1) := by decide +kernel
theorem dX5_readPlayer_41 : decode cX5_readPlayer 41 = .ok (.invokevirtual 36, 3) := by decide +kernel
theorem dX5_readPlayer_44 : decode cX5_readPlayer 44 = .ok (.ifCond .ne 5, 3) := by decide +kernel
theorem dX5_readPlayer_47 : decode cX5_readPlayer 47 = .ok (.iconst 0, 1) := by decide +kernel
theorem dX5_readPlayer_48 : decode cX5_readPlayer 48 = .ok (.ireturn, 1) := by decide +kernel
theorem dX5_readPlayer_49 : decode cX5_readPlayer 49 = .ok (.aload_n 0, 1) := by decide +kernel
theorem dX5_readPlayer_50 : decode cX5_readPlayer 50 = .ok (.getfield 23, 3) := by decide +kernel
theorem dX5_readPlayer_53 : decode cX5_readPlayer 53 = .ok (.istore_n 2, 1) := by decide +kernel
theorem dX5_readPlayer_54 : decode cX5_readPlayer 54 = .ok (.aload_n 0, 1) := by decide +kernel
theorem dX5_readPlayer_55 : decode cX5_readPlayer 55 = .ok (.iconst 1, 1) := by decide +kernel
theorem dX5_readPlayer_56 : decode cX5_readPlayer 56 = .ok (.bipush 9, 2) := by decide +kernel
theorem dX5_readPlayer_58 : decode cX5_readPlayer 58 = .ok (.invokevirtual 36, 3) := by decide +kernel
theorem dX5_readPlayer_61 : decode cX5_readPlayer 61 = .ok (.ifCond .ne 5, 3) := by decide +kernel
theorem dX5_readPlayer_64 : decode cX5_readPlayer 64 = .ok (.iconst 0, 1) := by decide +kernel
theorem dX5_readPlayer_65 : decode cX5_readPlayer 65 = .ok (.ireturn, 1) := by decide +kernel
theorem dX5_readPlayer_66 : decode cX5_readPlayer 66 = .ok (.aload_n 0, 1) := by decide +kernel
theorem dX5_readPlayer_67 : decode cX5_readPlayer 67 = .ok (.getfield 19, 3) := by decide +kernel
theorem dX5_readPlayer_70 : decode cX5_readPlayer 70 = .ok (.getfield 88, 3) := by decide +kernel
theorem dX5_readPlayer_73 : decode cX5_readPlayer 73 = .ok (.iload_n 1, 1) := by decide +kernel
theorem dX5_readPlayer_74 : decode cX5_readPlayer 74 = .ok (.iload_n 2, 1) := by decide +kernel
theorem dX5_readPlayer_75 : decode cX5_readPlayer 75 = .ok (.aload_n 0, 1) := by decide +kernel
theorem dX5_readPlayer_76 : decode cX5_readPlayer 76 = .ok (.getfield 23, 3) := by decide +kernel
theorem dX5_readPlayer_79 : decode cX5_readPlayer 79 = .ok (.iconst 0, 1) := by decide +kernel
theorem dX5_readPlayer_80 : decode cX5_readPlayer 80 = .ok (.invokevirtual 97, 3) := by decide +kernel
theorem dX5_readPlayer_83 : decode cX5_readPlayer 83 = .ok (.pop, 1) := by decide +kernel
theorem dX5_readPlayer_84 : decode cX5_readPlayer 84 = .ok (.aload_n 0, 1) := by decide +kernel
theorem dX5_readPlayer_85 : decode cX5_readPlayer 85 = .ok (.invokevirtual 44, 3) := by decide +kernel
theorem dX5_readPlayer_88 : decode cX5_readPlayer 88 = .ok (.ireturn, 1) := by decide +kernel
theorem dX5_readHit_0 : decode cX5_readHit 0 = .ok (.aload_n 0, 1) := by decide +kernel
theorem dX5_readHit_1 : decode cX5_readHit 1 = .ok (.getfield 10, 3) := by decide +kernel
theorem dX5_readHit_4 : decode cX5_readHit 4 = .ok (.invokevirtual 33, 3) := by decide +kernel
theorem dX5_readHit_7 : decode cX5_readHit 7 = .ok (.aload_n 0, 1) := by decide +kernel
theorem dX5_readHit_8 : decode cX5_readHit 8 = .ok (.getfield 10, 3) := by decide +kernel
theorem dX5_readHit_11 : decode cX5_readHit 11 = .ok (.invokevirtual 101, 3) := by decide +kernel
theorem dX5_readHit_14 : decode cX5_readHit 14 = .ok (.istore_n 1, 1) := by decide +kernel
theorem dX5_readHit_15 : decode cX5_readHit 15 = .ok (.aload_n 0, 1) := by decide +kernel
theorem dX5_readHit_16 : decode cX5_readHit 16 = .ok (.getfield 19, 3) := by decide +kernel
theorem dX5_readHit_19 : decode cX5_readHit 19 = .ok (.iload_n 1, 1) := by decide +kernel
theorem dX5_readHit_20 : decode cX5_readHit 20 = .ok (.invokevirtual 105, 3) := by decide +kernel
theorem dX5_readHit_23 : decode cX5_readHit 23 = .ok (.ifCond .ne 5, 3) := by decide +kernel
theorem dX5_readHit_26 : decode cX5_readHit 26 = .ok (.iconst 0, 1) := by decide +kernel
theorem dX5_readHit_27 : decode cX5_readHit 27 = .ok (.ireturn, 1) := by decide +kernel
theorem dX5_readHit_28 : decode cX5_readHit 28 = .ok (.aload_n 0, 1) := by decide +kernel
theorem dX5_readHit_29 : decode cX5_readHit 29 = .ok (.getfield 19, 3) := by decide +kernel
theorem dX5_readHit_32 : decode cX5_readHit 32 = .ok (.iload_n 1, 1) := by decide +kernel
theorem dX5_readHit_33 : decode cX5_readHit 33 = .ok (.invokevirtual 109, 3) := by decide +kernel
theorem dX5_readHit_36 : decode cX5_readHit 36 = .ok (.pop, 1) := by decide +kernel
theorem dX5_readHit_37 : decode cX5_readHit 37 = .ok (.aload_n 0, 1) := by decide +kernel
theorem dX5_readHit_38 : decode cX5_readHit 38 = .ok (.getfield 10, 3) := by decide +kernel
theorem dX5_readHit_41 : decode cX5_readHit 41 = .ok (.invokevirtual 33, 3) := by decide +kernel
theorem dX5_readHit_44 : decode cX5_readHit 44 = .ok (.aload_n 0, 1) := by decide +kernel
theorem dX5_readHit_45 : decode cX5_readHit 45 = .ok (.invokevirtual 44, 3) := by decide +kernel
theorem dX5_readHit_48 : decode cX5_readHit 48 = .ok (.ireturn, 1) := by decide +kernel
theorem dX5_readPick_0 : decode cX5_readPick 0 = .ok (.aload_n 0, 1) := by decide +kernel
theorem dX5_readPick_1 : decode cX5_readPick 1 = .ok (.getfield 19, 3) := by decide +kernel
theorem dX5_readPick_4 : decode cX5_readPick 4 = .ok (.invokevirtual 113, 3) := by decide +kernel
theorem dX5_readPick_7 : decode cX5_readPick 7 = .ok (.ifCond .eq 5, 3) := by decide +kernel
theorem dX5_readPick_10 : decode cX5_readPick 10 = .ok (.iconst 0, 1) := by decide +kernel
theorem dX5_readPick_11 : decode cX5_readPick 11 = .ok (.ireturn, 1) := by decide +kernel
theorem dX5_readPick_12 : decode cX5_readPick 12 = .ok (.aload_n 0, 1) := by decide +kernel
theorem dX5_readPick_13 : decode cX5_readPick 13 = .ok (.getfield 10, 3) := by decide +kernel
theorem dX5_readPick_16 : decode cX5_readPick 16 = .ok (.invokevirtual 33, 3) := by decide +kernel
theorem dX5_readPick_19 : decode cX5_readPick 19 = .ok (.aload_n 0, 1) := by decide +kernel
theorem dX5_readPick_20 : decode cX5_readPick 20 = .ok (.iconst 0, 1) := by decide +kernel
theorem dX5_readPick_21 : decode cX5_readPick 21 = .ok (.iconst 1, 1) := by decide +kernel
theorem dX5_readPick_22 : decode cX5_readPick 22 = .ok (.invokevirtual 36, 3) := by decide +kernel
theorem dX5_readPick_25 : decode cX5_readPick 25 = .ok (.ifCond .ne 5, 3) := by decide +kernel
theorem dX5_readPick_28 : decode cX5_readPick 28 = .ok (.iconst 0, 1) := by decide +kernel
theorem dX5_readPick_29 : decode cX5_readPick 29 = .ok (.ireturn, 1) := by decide +kernel
theorem dX5_readPick_30 : decode cX5_readPick 30 = .ok (.aload_n 0, 1) := by decide +kernel
theorem dX5_readPick_31 : decode cX5_readPick 31 = .ok (.getfield 19, 3) := by decide +kernel
theorem dX5_readPick_34 : decode cX5_readPick 34 = .ok (.aload_n 0, 1) := by decide +kernel
theorem dX5_readPick_35 : decode cX5_readPick 35 = .ok (.getfield 23, 3) := by decide +kernel
theorem dX5_readPick_38 : decode cX5_readPick 38 = .ok (.invokevirtual 116, 3) := by decide +kernel
theorem dX5_readPick_41 : decode cX5_readPick 41 = .ok (.aload_n 0, 1) := by decide +kernel
theorem dX5_readPick_42 : decode cX5_readPick 42 = .ok (.invokevirtual 44, 3) := by decide +kernel
theorem dX5_readPick_45 : decode cX5_readPick 45 = .ok (.ireturn, 1) := by decide +kernel
theorem dX5_readHours_0 : decode cX5_readHours 0 = .ok (.aload_n 0, 1) := by decide +kernel
theorem dX5_readHours_1 : decode cX5_readHours 1 = .ok (.getfield 10, 3) := by decide +kernel
theorem dX5_readHours_4 : decode cX5_readHours 4 = .ok (.invokevirtual 33, 3) := by decide +kernel
theorem dX5_readHours_7 : decode cX5_readHours 7 = .ok (.aload_n 0, 1) := by decide +kernel
theorem dX5_readHours_8 : decode cX5_readHours 8 = .ok (.iconst 1, 1) := by decide +kernel
theorem dX5_readHours_9 : decode cX5_readHours 9 = .ok (.bipush 99, 2) := by decide +kernel
theorem dX5_readHours_11 : decode cX5_readHours 11 = .ok (.invokevirtual 36, 3) := by decide +kernel
theorem dX5_readHours_14 : decode cX5_readHours 14 = .ok (.ifCond .ne 5, 3) := by decide +kernel
theorem dX5_readHours_17 : decode cX5_readHours 17 = .ok (.iconst 0, 1) := by decide +kernel
theorem dX5_readHours_18 : decode cX5_readHours 18 = .ok (.ireturn, 1) := by decide +kernel
theorem dX5_readHours_19 : decode cX5_readHours 19 = .ok (.aload_n 0, 1) := by decide +kernel
theorem dX5_readHours_20 : decode cX5_readHours 20 = .ok (.getfield 19, 3) := by decide +kernel
theorem dX5_readHours_23 : decode cX5_readHours 23 = .ok (.aload_n 0, 1) := by decide +kernel
theorem dX5_readHours_24 : decode cX5_readHours 24 = .ok (.getfield 23, 3) := by decide +kernel
theorem dX5_readHours_27 : decode cX5_readHours 27 = .ok (.invokevirtual 119, 3) := by decide +kernel
theorem dX5_readHours_30 : decode cX5_readHours 30 = .ok (.aload_n 0, 1) := by decide +kernel
theorem dX5_readHours_31 : decode cX5_readHours 31 = .ok (.invokevirtual 44, 3) := by decide +kernel
theorem dX5_readHours_34 : decode cX5_readHours 34 = .ok (.ireturn, 1) := by decide +kernel
theorem dX5_takeNumber_0 : decode cX5_takeNumber 0 = .ok (.aload_n 0, 1) := by decide +kernel
theorem dX5_takeNumber_1 : decode cX5_takeNumber 1 = .ok (.getfield 10, 3) := by decide +kernel
theorem dX5_takeNumber_4 : decode cX5_takeNumber 4 = .ok (.invokevirtual 101, 3) := by decide +kernel
theorem dX5_takeNumber_7 : decode cX5_takeNumber 7 = .ok (.istore_n 3, 1) := by decide +kernel
theorem dX5_takeNumber_8 : decode cX5_takeNumber 8 = .ok (.iload_n 3, 1) := by decide +kernel
theorem dX5_takeNumber_9 : decode cX5_takeNumber 9 = .ok (.iload_n 1, 1) := by decide +kernel
theorem dX5_takeNumber_10 : decode cX5_takeNumber 10 = .ok (.iload_n 2, 1) := by decide +kernel
theorem dX5_takeNumber_11 : decode cX5_takeNumber 11 = .ok (.invokestatic 122, 3) := by decide +kernel
theorem dX5_takeNumber_14 : decode cX5_takeNumber 14 = .ok (.ifCond .ne 5, 3) := by decide +kernel
theorem dX5_takeNumber_17 : decode cX5_takeNumber 17 = .ok (.iconst 0, 1) := by decide +kernel
theorem dX5_takeNumber_18 : decode cX5_takeNumber 18 = .ok (.ireturn, 1) := by decide +kernel
theorem dX5_takeNumber_19 : decode cX5_takeNumber 19 = .ok (.aload_n 0, 1) := by decide +kernel
theorem dX5_takeNumber_20 : decode cX5_takeNumber 20 = .ok (.iload_n 3, 1) := by decide +kernel
theorem dX5_takeNumber_21 : decode cX5_takeNumber 21 = .ok (.putfield 23, 3) := by decide +kernel
theorem dX5_takeNumber_24 : decode cX5_takeNumber 24 = .ok (.aload_n 0, 1) := by decide +kernel
theorem dX5_takeNumber_25 : decode cX5_takeNumber 25 = .ok (.getfield 10, 3) := by decide +kernel
theorem dX5_takeNumber_28 : decode cX5_takeNumber 28 = .ok (.invokevirtual 33, 3) := by decide +kernel
theorem dX5_takeNumber_31 : decode cX5_takeNumber 31 = .ok (.iconst 1, 1) := by decide +kernel
theorem dX5_takeNumber_32 : decode cX5_takeNumber 32 = .ok (.ireturn, 1) := by decide +kernel
theorem dX5_takeStop_0 : decode cX5_takeStop 0 = .ok (.aload_n 0, 1) := by decide +kernel
theorem dX5_takeStop_1 : decode cX5_takeStop 1 = .ok (.getfield 10, 3) := by decide +kernel
theorem dX5_takeStop_4 : decode cX5_takeStop 4 = .ok (.invokevirtual 128, 3) := by decide +kernel
theorem dX5_takeStop_7 : decode cX5_takeStop 7 = .ok (.iconst 3, 1) := by decide +kernel
theorem dX5_takeStop_8 : decode cX5_takeStop 8 = .ok (.if_icmp .eq 5, 3) := by decide +kernel
theorem dX5_takeStop_11 : decode cX5_takeStop 11 = .ok (.iconst 0, 1) := by decide +kernel
theorem dX5_takeStop_12 : decode cX5_takeStop 12 = .ok (.ireturn, 1) := by decide +kernel
theorem dX5_takeStop_13 : decode cX5_takeStop 13 = .ok (.aload_n 0, 1) := by decide +kernel
theorem dX5_takeStop_14 : decode cX5_takeStop 14 = .ok (.getfield 10, 3) := by decide +kernel
theorem dX5_takeStop_17 : decode cX5_takeStop 17 = .ok (.invokevirtual 33, 3) := by decide +kernel
theorem dX5_takeStop_20 : decode cX5_takeStop 20 = .ok (.iconst 1, 1) := by decide +kernel
theorem dX5_takeStop_21 : decode cX5_takeStop 21 = .ok (.ireturn, 1) := by decide +kernel
theorem dX6_init_0 : decode cX6_init 0 = .ok (.aload_n 0, 1) := by decide +kernel
theorem dX6_init_1 : decode cX6_init 1 = .ok (.invokespecial 1, 3) := by decide +kernel
theorem dX6_init_4 : decode cX6_init 4 = .ok (.aload_n 0, 1) := by decide +kernel
theorem dX6_init_5 : decode cX6_init 5 = .ok (.iconst 0, 1) := by decide +kernel
theorem dX6_init_6 : decode cX6_init 6 = .ok (.putfield 7, 3) := by decide +kernel
theorem dX6_init_9 : decode cX6_init 9 = .ok (.aload_n 0, 1) := by decide +kernel
theorem dX6_init_10 : decode cX6_init 10 = .ok (.iconst 0, 1) := by decide +kernel
theorem dX6_init_11 : decode cX6_init 11 = .ok (.iload_n 1, 1) := by decide +kernel
theorem dX6_init_12 : decode cX6_init 12 = .ok (.invokestatic 13, 3) := by decide +kernel
theorem dX6_init_15 : decode cX6_init 15 = .ok (.putfield 19, 3) := by decide +kernel
theorem dX6_init_18 : decode cX6_init 18 = .ok (.aload_n 0, 1) := by decide +kernel
theorem dX6_init_19 : decode cX6_init 19 = .ok (.iconst 0, 1) := by decide +kernel
theorem dX6_init_20 : decode cX6_init 20 = .ok (.iload_n 2, 1) := by decide +kernel
theorem dX6_init_21 : decode cX6_init 21 = .ok (.invokestatic 13, 3) := by decide +kernel
theorem dX6_init_24 : decode cX6_init 24 = .ok (.putfield 22, 3) := by decide +kernel
theorem dX6_init_27 : decode cX6_init 27 = .ok (.aload_n 0, 1) := by decide +kernel
theorem dX6_init_28 : decode cX6_init 28 = .ok (.aload_n 0, 1) := by decide +kernel
theorem dX6_init_29 : decode cX6_init 29 = .ok (.getfield 19, 3) := by decide +kernel
theorem dX6_init_32 : decode cX6_init 32 = .ok (.aload_n 0, 1) := by decide +kernel
theorem dX6_init_33 : decode cX6_init 33 = .ok (.getfield 22, 3) := by decide +kernel
theorem dX6_init_36 : decode cX6_init 36 = .ok (.imul, 1) := by decide +kernel
theorem dX6_init_37 : decode cX6_init 37 = .ok (.newarray .int, 2) := by decide +kernel
theorem dX6_init_39 : decode cX6_init 39 = .ok (.putfield 25, 3) := by decide +kernel
theorem dX6_init_42 : decode cX6_init 42 = .ok (.return_, 1) := by decide +kernel
theorem dX6_size_0 : decode cX6_size 0 = .ok (.aload_n 0, 1) := by decide +kernel
theorem dX6_size_1 : decode cX6_size 1 = .ok (.getfield 7, 3) := by decide +kernel
theorem dX6_size_4 : decode cX6_size 4 = .ok (.ireturn, 1) := by decide +kernel
theorem dX6_isFull_0 : decode cX6_isFull 0 = .ok (.aload_n 0, 1) := by decide +kernel
theorem dX6_isFull_1 : decode cX6_isFull 1 = .ok (.getfield 7, 3) := by decide +kernel
theorem dX6_isFull_4 : decode cX6_isFull 4 = .ok (.aload_n 0, 1) := by decide +kernel
theorem dX6_isFull_5 : decode cX6_isFull 5 = .ok (.getfield 19, 3) := by decide +kernel
theorem dX6_isFull_8 : decode cX6_isFull 8 = .ok (.if_icmp .lt 7, 3) := by decide +kernel
theorem dX6_isFull_11 : decode cX6_isFull 11 = .ok (.iconst 1, 1) := by decide +kernel
theorem dX6_isFull_12 : decode cX6_isFull 12 = .ok (.goto 4, 3) := by decide +kernel
theorem dX6_isFull_15 : decode cX6_isFull 15 = .ok (.iconst 0, 1) := by decide +kernel
theorem dX6_isFull_16 : decode cX6_isFull 16 = .ok (.ireturn, 1) := by decide +kernel
theorem dX6_has_0 : decode cX6_has 0 = .ok (.iload_n 1, 1) := by decide +kernel
theorem dX6_has_1 : decode cX6_has 1 = .ok (.ifCond .lt 15, 3) := by decide +kernel
theorem dX6_has_4 : decode cX6_has 4 = .ok (.iload_n 1, 1) := by decide +kernel
theorem dX6_has_5 : decode cX6_has 5 = .ok (.aload_n 0, 1) := by decide +kernel
theorem dX6_has_6 : decode cX6_has 6 = .ok (.getfield 7, 3) := by decide +kernel
theorem dX6_has_9 : decode cX6_has 9 = .ok (.if_icmp .ge 7, 3) := by decide +kernel
theorem dX6_has_12 : decode cX6_has 12 = .ok (.iconst 1, 1) := by decide +kernel
theorem dX6_has_13 : decode cX6_has 13 = .ok (.goto 4, 3) := by decide +kernel
theorem dX6_has_16 : decode cX6_has 16 = .ok (.iconst 0, 1) := by decide +kernel
theorem dX6_has_17 : decode cX6_has 17 = .ok (.ireturn, 1) := by decide +kernel
theorem dX6_cell_0 : decode cX6_cell 0 = .ok (.iload_n 1, 1) := by decide +kernel
theorem dX6_cell_1 : decode cX6_cell 1 = .ok (.ifCond .lt 23, 3) := by decide +kernel
theorem dX6_cell_4 : decode cX6_cell 4 = .ok (.iload_n 1, 1) := by decide +kernel
theorem dX6_cell_5 : decode cX6_cell 5 = .ok (.aload_n 0, 1) := by decide +kernel
theorem dX6_cell_6 : decode cX6_cell 6 = .ok (.getfield 7, 3) := by decide +kernel
theorem dX6_cell_9 : decode cX6_cell 9 = .ok (.if_icmp .ge 15, 3) := by decide +kernel
theorem dX6_cell_12 : decode cX6_cell 12 = .ok (.iload_n 2, 1) := by decide +kernel
theorem dX6_cell_13 : decode cX6_cell 13 = .ok (.ifCond .lt 11, 3) := by decide +kernel
theorem dX6_cell_16 : decode cX6_cell 16 = .ok (.iload_n 2, 1) := by decide +kernel
theorem dX6_cell_17 : decode cX6_cell 17 = .ok (.aload_n 0, 1) := by decide +kernel
theorem dX6_cell_18 : decode cX6_cell 18 = .ok (.getfield 22, 3) := by decide +kernel
theorem dX6_cell_21 : decode cX6_cell 21 = .ok (.if_icmp .lt 5, 3) := by decide +kernel
theorem dX6_cell_24 : decode cX6_cell 24 = .ok (.iconst 0, 1) := by decide +kernel
theorem dX6_cell_25 : decode cX6_cell 25 = .ok (.ireturn, 1) := by decide +kernel
theorem dX6_cell_26 : decode cX6_cell 26 = .ok (.aload_n 0, 1) := by decide +kernel
theorem dX6_cell_27 : decode cX6_cell 27 = .ok (.getfield 25, 3) := by decide +kernel
theorem dX6_cell_30 : decode cX6_cell 30 = .ok (.iload_n 1, 1) := by decide +kernel
theorem dX6_cell_31 : decode cX6_cell 31 = .ok (.aload_n 0, 1) := by decide +kernel
theorem dX6_cell_32 : decode cX6_cell 32 = .ok (.getfield 22, 3) := by decide +kernel
theorem dX6_cell_35 : decode cX6_cell 35 = .ok (.imul, 1) := by decide +kernel
theorem dX6_cell_36 : decode cX6_cell 36 = .ok (.iload_n 2, 1) := by decide +kernel
theorem dX6_cell_37 : decode cX6_cell 37 = .ok (.iadd, 1) := by decide +kernel
theorem dX6_cell_38 : decode cX6_cell 38 = .ok (.iaload, 1) := by decide +kernel
theorem dX6_cell_39 : decode cX6_cell 39 = .ok (.ireturn, 1) := by decide +kernel
theorem dX6_add_0 : decode cX6_add 0 = .ok (.aload_n 0, 1) := by decide +kernel
theorem dX6_add_1 : decode cX6_add 1 = .ok (.invokevirtual 29, 3) := by decide +kernel
theorem dX6_add_4 : decode cX6_add 4 = .ok (.ifCond .ne 38, 3) := by decide +kernel
theorem dX6_add_7 : decode cX6_add 7 = .ok (.aload_n 0, 1) := by decide +kernel
theorem dX6_add_8 : decode cX6_add 8 = .ok (.dup, 1) := by decide +kernel
theorem dX6_add_9 : decode cX6_add 9 = .ok (.getfield 7, 3) := by decide +kernel
theorem dX6_add_12 : decode cX6_add 12 = .ok (.iconst 1, 1) := by decide +kernel
theorem dX6_add_13 : decode cX6_add 13 = .ok (.iadd, 1) := by decide +kernel
theorem dX6_add_14 : decode cX6_add 14 = .ok (.putfield 7, 3) := by decide +kernel
theorem dX6_add_17 : decode cX6_add 17 = .ok (.aload_n 0, 1) := by decide +kernel
theorem dX6_add_18 : decode cX6_add 18 = .ok (.iconst 0, 1) := by decide +kernel
theorem dX6_add_19 : decode cX6_add 19 = .ok (.iload_n 1, 1) := by decide +kernel
theorem dX6_add_20 : decode cX6_add 20 = .ok (.invokevirtual 33, 3) := by decide +kernel
theorem dX6_add_23 : decode cX6_add 23 = .ok (.aload_n 0, 1) := by decide +kernel
theorem dX6_add_24 : decode cX6_add 24 = .ok (.iconst 1, 1) := by decide +kernel
theorem dX6_add_25 : decode cX6_add 25 = .ok (.iload_n 2, 1) := by decide +kernel
theorem dX6_add_26 : decode cX6_add 26 = .ok (.invokevirtual 33, 3) := by decide +kernel
theorem dX6_add_29 : decode cX6_add 29 = .ok (.aload_n 0, 1) := by decide +kernel
theorem dX6_add_30 : decode cX6_add 30 = .ok (.iconst 2, 1) := by decide +kernel
theorem dX6_add_31 : decode cX6_add 31 = .ok (.iload_n 3, 1) := by decide +kernel
theorem dX6_add_32 : decode cX6_add 32 = .ok (.invokevirtual 33, 3) := by decide +kernel
theorem dX6_add_35 : decode cX6_add 35 = .ok (.aload_n 0, 1) := by decide +kernel
theorem dX6_add_36 : decode cX6_add 36 = .ok (.iconst 3, 1) := by decide +kernel
theorem dX6_add_37 : decode cX6_add 37 = .ok (.iload 4, 2) := by decide +kernel
theorem dX6_add_39 : decode cX6_add 39 = .ok (.invokevirtual 33, 3) := by decide +kernel
theorem dX6_add_42 : decode cX6_add 42 = .ok (.aload_n 0, 1) := by decide +kernel
theorem dX6_add_43 : decode cX6_add 43 = .ok (.getfield 7, 3) := by decide +kernel
theorem dX6_add_46 : decode cX6_add 46 = .ok (.ireturn, 1) := by decide +kernel
theorem dX6_empty_0 : decode cX6_empty 0 = .ok (.aload_n 0, 1) := by decide +kernel
theorem dX6_empty_1 : decode cX6_empty 1 = .ok (.getfield 7, 3) := by decide +kernel
theorem dX6_empty_4 : decode cX6_empty 4 = .ok (.istore_n 1, 1) := by decide +kernel
theorem dX6_empty_5 : decode cX6_empty 5 = .ok (.aload_n 0, 1) := by decide +kernel
theorem dX6_empty_6 : decode cX6_empty 6 = .ok (.iconst 0, 1) := by decide +kernel
theorem dX6_empty_7 : decode cX6_empty 7 = .ok (.putfield 7, 3) := by decide +kernel
theorem dX6_empty_10 : decode cX6_empty 10 = .ok (.iload_n 1, 1) := by decide +kernel
theorem dX6_empty_11 : decode cX6_empty 11 = .ok (.ireturn, 1) := by decide +kernel
theorem dX6_copyFrom_0 : decode cX6_copyFrom 0 = .ok (.aload_n 0, 1) := by decide +kernel
theorem dX6_copyFrom_1 : decode cX6_copyFrom 1 = .ok (.aload_n 1, 1) := by decide +kernel
theorem dX6_copyFrom_2 : decode cX6_copyFrom 2 = .ok (.getfield 7, 3) := by decide +kernel
theorem dX6_copyFrom_5 : decode cX6_copyFrom 5 = .ok (.aload_n 0, 1) := by decide +kernel
theorem dX6_copyFrom_6 : decode cX6_copyFrom 6 = .ok (.getfield 19, 3) := by decide +kernel
theorem dX6_copyFrom_9 : decode cX6_copyFrom 9 = .ok (.invokestatic 37, 3) := by decide +kernel
theorem dX6_copyFrom_12 : decode cX6_copyFrom 12 = .ok (.putfield 7, 3) := by decide +kernel
theorem dX6_copyFrom_15 : decode cX6_copyFrom 15 = .ok (.aload_n 0, 1) := by decide +kernel
theorem dX6_copyFrom_16 : decode cX6_copyFrom 16 = .ok (.getfield 7, 3) := by decide +kernel
theorem dX6_copyFrom_19 : decode cX6_copyFrom 19 = .ok (.aload_n 0, 1) := by decide +kernel
theorem dX6_copyFrom_20 : decode cX6_copyFrom 20 = .ok (.getfield 22, 3) := by decide +kernel
theorem dX6_copyFrom_23 : decode cX6_copyFrom 23 = .ok (.imul, 1) := by decide +kernel
theorem dX6_copyFrom_24 : decode cX6_copyFrom 24 = .ok (.aload_n 1, 1) := by decide +kernel
theorem dX6_copyFrom_25 : decode cX6_copyFrom 25 = .ok (.getfield 25, 3) := by decide +kernel
theorem dX6_copyFrom_28 : decode cX6_copyFrom 28 = .ok (.arraylength, 1) := by decide +kernel
theorem dX6_copyFrom_29 : decode cX6_copyFrom 29 = .ok (.invokestatic 37, 3) := by decide +kernel
theorem dX6_copyFrom_32 : decode cX6_copyFrom 32 = .ok (.istore_n 2, 1) := by decide +kernel
theorem dX6_copyFrom_33 : decode cX6_copyFrom 33 = .ok (.aload_n 1, 1) := by decide +kernel
theorem dX6_copyFrom_34 : decode cX6_copyFrom 34 = .ok (.getfield 25, 3) := by decide +kernel
theorem dX6_copyFrom_37 : decode cX6_copyFrom 37 = .ok (.iconst 0, 1) := by decide +kernel
theorem dX6_copyFrom_38 : decode cX6_copyFrom 38 = .ok (.aload_n 0, 1) := by decide +kernel
theorem dX6_copyFrom_39 : decode cX6_copyFrom 39 = .ok (.getfield 25, 3) := by decide +kernel
theorem dX6_copyFrom_42 : decode cX6_copyFrom 42 = .ok (.iconst 0, 1) := by decide +kernel
theorem dX6_copyFrom_43 : decode cX6_copyFrom 43 = .ok (.iload_n 2, 1) := by decide +kernel
theorem dX6_copyFrom_44 : decode cX6_copyFrom 44 = .ok (.invokestatic 40, 3) := by decide +kernel
theorem dX6_copyFrom_47 : decode cX6_copyFrom 47 = .ok (.return_, 1) := by decide +kernel
theorem dX6_foldInto_0 : decode cX6_foldInto 0 = .ok (.lload_n 1, 1) := by decide +kernel
theorem dX6_foldInto_1 : decode cX6_foldInto 1 = .ok (.lstore_n 3, 1) := by decide +kernel
theorem dX6_foldInto_2 : decode cX6_foldInto 2 = .ok (.iconst 0, 1) := by decide +kernel
theorem dX6_foldInto_3 : decode cX6_foldInto 3 = .ok (.istore 5, 2) := by decide +kernel
theorem dX6_foldInto_5 : decode cX6_foldInto 5 = .ok (.iload 5, 2) := by decide +kernel
theorem dX6_foldInto_7 : decode cX6_foldInto 7 = .ok (.aload_n 0, 1) := by decide +kernel
theorem dX6_foldInto_8 : decode cX6_foldInto 8 = .ok (.getfield 7, 3) := by decide +kernel
theorem dX6_foldInto_11 : decode cX6_foldInto 11 = .ok (.aload_n 0, 1) := by decide +kernel
theorem dX6_foldInto_12 : decode cX6_foldInto 12 = .ok (.getfield 22, 3) := by decide +kernel
theorem dX6_foldInto_15 : decode cX6_foldInto 15 = .ok (.imul, 1) := by decide +kernel
theorem dX6_foldInto_16 : decode cX6_foldInto 16 = .ok (.if_icmp .ge 24, 3) := by decide +kernel
theorem dX6_foldInto_19 : decode cX6_foldInto 19 = .ok (.ldc2_w 46, 3) := by decide +kernel
theorem dX6_foldInto_22 : decode cX6_foldInto 22 = .ok (.lload_n 3, 1) := by decide +kernel
theorem dX6_foldInto_23 : decode cX6_foldInto 23 = .ok (.lmul, 1) := by decide +kernel
theorem dX6_foldInto_24 : decode cX6_foldInto 24 = .ok (.aload_n 0, 1) := by decide +kernel
theorem dX6_foldInto_25 : decode cX6_foldInto 25 = .ok (.getfield 25, 3) := by decide +kernel
theorem dX6_foldInto_28 : decode cX6_foldInto 28 = .ok (.iload 5, 2) := by decide +kernel
theorem dX6_foldInto_30 : decode cX6_foldInto 30 = .ok (.iaload, 1) := by decide +kernel
theorem dX6_foldInto_31 : decode cX6_foldInto 31 = .ok (.i2l, 1) := by decide +kernel
theorem dX6_foldInto_32 : decode cX6_foldInto 32 = .ok (.ladd, 1) := by decide +kernel
theorem dX6_foldInto_33 : decode cX6_foldInto 33 = .ok (.lstore_n 3, 1) := by decide +kernel
theorem dX6_foldInto_34 : decode cX6_foldInto 34 = .ok (.iinc 5 1, 3) := by decide +kernel
theorem dX6_foldInto_37 : decode cX6_foldInto 37 = .ok (.goto (-32), 3) := by decide +kernel
theorem dX6_foldInto_40 : decode cX6_foldInto 40 = .ok (.lload_n 3, 1) := by decide +kernel
theorem dX6_foldInto_41 : decode cX6_foldInto 41 = .ok (.lreturn, 1) := by decide +kernel
theorem dX6_put_0 : decode cX6_put 0 = .ok (.aload_n 0, 1) := by decide +kernel
theorem dX6_put_1 : decode cX6_put 1 = .ok (.getfield 7, 3) := by decide +kernel
theorem dX6_put_4 : decode cX6_put 4 = .ok (.ifCond .le 30, 3) := by decide +kernel
theorem dX6_put_7 : decode cX6_put 7 = .ok (.iload_n 1, 1) := by decide +kernel
theorem dX6_put_8 : decode cX6_put 8 = .ok (.aload_n 0, 1) := by decide +kernel
theorem dX6_put_9 : decode cX6_put 9 = .ok (.getfield 22, 3) := by decide +kernel
theorem dX6_put_12 : decode cX6_put 12 = .ok (.if_icmp .ge 22, 3) := by decide +kernel
theorem dX6_put_15 : decode cX6_put 15 = .ok (.aload_n 0, 1) := by decide +kernel
theorem dX6_put_16 : decode cX6_put 16 = .ok (.getfield 25, 3) := by decide +kernel
theorem dX6_put_19 : decode cX6_put 19 = .ok (.aload_n 0, 1) := by decide +kernel
theorem dX6_put_20 : decode cX6_put 20 = .ok (.getfield 7, 3) := by decide +kernel
theorem dX6_put_23 : decode cX6_put 23 = .ok (.iconst 1, 1) := by decide +kernel
theorem dX6_put_24 : decode cX6_put 24 = .ok (.isub, 1) := by decide +kernel
theorem dX6_put_25 : decode cX6_put 25 = .ok (.aload_n 0, 1) := by decide +kernel
theorem dX6_put_26 : decode cX6_put 26 = .ok (.getfield 22, 3) := by decide +kernel
theorem dX6_put_29 : decode cX6_put 29 = .ok (.imul, 1) := by decide +kernel
theorem dX6_put_30 : decode cX6_put 30 = .ok (.iload_n 1, 1) := by decide +kernel
theorem dX6_put_31 : decode cX6_put 31 = .ok (.iadd, 1) := by decide +kernel
theorem dX6_put_32 : decode cX6_put 32 = .ok (.iload_n 2, 1) := by decide +kernel
theorem dX6_put_33 : decode cX6_put 33 = .ok (.iastore, 1) := by decide +kernel
theorem dX6_put_34 : decode cX6_put 34 = .ok (.return_, 1) := by decide +kernel
theorem dX7_init_0 : decode cX7_init 0 = .ok (.aload_n 0, 1) := by decide +kernel
theorem dX7_init_1 : decode cX7_init 1 = .ok (.invokespecial 1, 3) := by decide +kernel
theorem dX7_init_4 : decode cX7_init 4 = .ok (.aload_n 0, 1) := by decide +kernel
theorem dX7_init_5 : decode cX7_init 5 = .ok (.bipush 60, 2) := by decide +kernel
theorem dX7_init_7 : decode cX7_init 7 = .ok (.newarray .int, 2) := by decide +kernel
theorem dX7_init_9 : decode cX7_init 9 = .ok (.putfield 9, 3) := by decide +kernel
theorem dX7_init_12 : decode cX7_init 12 = .ok (.aload_n 0, 1) := by decide +kernel
theorem dX7_init_13 : decode cX7_init 13 = .ok (.iconst 0, 1) := by decide +kernel
theorem dX7_init_14 : decode cX7_init 14 = .ok (.putfield 13, 3) := by decide +kernel
theorem dX7_init_17 : decode cX7_init 17 = .ok (.return_, 1) := by decide +kernel
theorem dX7_watch_0 : decode cX7_watch 0 = .ok (.aload_n 0, 1) := by decide +kernel
theorem dX7_watch_1 : decode cX7_watch 1 = .ok (.aload_n 1, 1) := by decide +kernel
theorem dX7_watch_2 : decode cX7_watch 2 = .ok (.invokevirtual 17, 3) := by decide +kernel
theorem dX7_watch_5 : decode cX7_watch 5 = .ok (.putfield 13, 3) := by decide +kernel
theorem dX7_watch_8 : decode cX7_watch 8 = .ok (.iconst 0, 1) := by decide +kernel
theorem dX7_watch_9 : decode cX7_watch 9 = .ok (.istore_n 2, 1) := by decide +kernel
theorem dX7_watch_10 : decode cX7_watch 10 = .ok (.iload_n 2, 1) := by decide +kernel
theorem dX7_watch_11 : decode cX7_watch 11 = .ok (.bipush 60, 2) := by decide +kernel
theorem dX7_watch_13 : decode cX7_watch 13 = .ok (.if_icmp .ge 42, 3) := by decide +kernel
theorem dX7_watch_16 : decode cX7_watch 16 = .ok (.aload_n 0, 1) := by decide +kernel
theorem dX7_watch_17 : decode cX7_watch 17 = .ok (.getfield 9, 3) := by decide +kernel
theorem dX7_watch_20 : decode cX7_watch 20 = .ok (.iload_n 2, 1) := by decide +kernel
theorem dX7_watch_21 : decode cX7_watch 21 = .ok (.aload_n 1, 1) := by decide +kernel
theorem dX7_watch_22 : decode cX7_watch 22 = .ok (.aload_n 0, 1) := by decide +kernel
theorem dX7_watch_23 : decode cX7_watch 23 = .ok (.iload_n 2, 1) := by decide +kernel
theorem dX7_watch_24 : decode cX7_watch 24 = .ok (.invokevirtual 23, 3) := by decide +kernel
theorem dX7_watch_27 : decode cX7_watch 27 = .ok (.aload_n 1, 1) := by decide +kernel
theorem dX7_watch_28 : decode cX7_watch 28 = .ok (.invokevirtual 27, 3) := by decide +kernel
theorem dX7_watch_31 : decode cX7_watch 31 = .ok (.iload_n 2, 1) := by decide +kernel
theorem dX7_watch_32 : decode cX7_watch 32 = .ok (.iadd, 1) := by decide +kernel
theorem dX7_watch_33 : decode cX7_watch 33 = .ok (.invokevirtual 30, 3) := by decide +kernel
theorem dX7_watch_36 : decode cX7_watch 36 = .ok (.iastore, 1) := by decide +kernel
theorem dX7_watch_37 : decode cX7_watch 37 = .ok (.aload_n 0, 1) := by decide +kernel
theorem dX7_watch_38 : decode cX7_watch 38 = .ok (.getfield 9, 3) := by decide +kernel
theorem dX7_watch_41 : decode cX7_watch 41 = .ok (.iload_n 2, 1) := by decide +kernel
theorem dX7_watch_42 : decode cX7_watch 42 = .ok (.iaload, 1) := by decide +kernel
theorem dX7_watch_43 : decode cX7_watch 43 = .ok (.ifCond .ne 6, 3) := by decide +kernel
theorem dX7_watch_46 : decode cX7_watch 46 = .ok (.goto 9, 3) := by decide +kernel
theorem dX7_watch_49 : decode cX7_watch 49 = .ok (.iinc 2 1, 3) := by decide +kernel
theorem dX7_watch_52 : decode cX7_watch 52 = .ok (.goto (-42), 3) := by decide +kernel
theorem dX7_watch_55 : decode cX7_watch 55 = .ok (.return_, 1) := by decide +kernel
theorem dX7_strokes_0 : decode cX7_strokes 0 = .ok (.iconst 0, 1) := by decide +kernel
theorem dX7_strokes_1 : decode cX7_strokes 1 = .ok (.istore_n 2, 1) := by decide +kernel
theorem dX7_strokes_2 : decode cX7_strokes 2 = .ok (.iload_n 2, 1) := by decide +kernel
theorem dX7_strokes_3 : decode cX7_strokes 3 = .ok (.bipush 60, 2) := by decide +kernel
theorem dX7_strokes_5 : decode cX7_strokes 5 = .ok (.if_icmp .ge 39, 3) := by decide +kernel
theorem dX7_strokes_8 : decode cX7_strokes 8 = .ok (.aload_n 0, 1) := by decide +kernel
theorem dX7_strokes_9 : decode cX7_strokes 9 = .ok (.iload_n 2, 1) := by decide +kernel
theorem dX7_strokes_10 : decode cX7_strokes 10 = .ok (.invokevirtual 23, 3) := by decide +kernel
theorem dX7_strokes_13 : decode cX7_strokes 13 = .ok (.iconst 1, 1) := by decide +kernel
theorem dX7_strokes_14 : decode cX7_strokes 14 = .ok (.if_icmp .ne 7, 3) := by decide +kernel
theorem dX7_strokes_17 : decode cX7_strokes 17 = .ok (.iload_n 1, 1) := by decide +kernel
theorem dX7_strokes_18 : decode cX7_strokes 18 = .ok (.goto 6, 3) := by decide +kernel
theorem dX7_strokes_21 : decode cX7_strokes 21 = .ok (.iload_n 1, 1) := by decide +kernel
theorem dX7_strokes_22 : decode cX7_strokes 22 = .ok (.iconst (-1), 1) := by decide +kernel
theorem dX7_strokes_23 : decode cX7_strokes 23 = .ok (.ixor, 1) := by decide +kernel
theorem dX7_strokes_24 : decode cX7_strokes 24 = .ok (.istore_n 3, 1) := by decide +kernel
theorem dX7_strokes_25 : decode cX7_strokes 25 = .ok (.aload_n 0, 1) := by decide +kernel
theorem dX7_strokes_26 : decode cX7_strokes 26 = .ok (.getfield 9, 3) := by decide +kernel
theorem dX7_strokes_29 : decode cX7_strokes 29 = .ok (.iload_n 2, 1) := by decide +kernel
theorem dX7_strokes_30 : decode cX7_strokes 30 = .ok (.iaload, 1) := by decide +kernel
theorem dX7_strokes_31 : decode cX7_strokes 31 = .ok (.iload_n 3, 1) := by decide +kernel
theorem dX7_strokes_32 : decode cX7_strokes 32 = .ok (.iand, 1) := by decide +kernel
theorem dX7_strokes_33 : decode cX7_strokes 33 = .ok (.ifCond .ne 5, 3) := by decide +kernel
theorem dX7_strokes_36 : decode cX7_strokes 36 = .ok (.iload_n 2, 1) := by decide +kernel
theorem dX7_strokes_37 : decode cX7_strokes 37 = .ok (.ireturn, 1) := by decide +kernel
theorem dX7_strokes_38 : decode cX7_strokes 38 = .ok (.iinc 2 1, 3) := by decide +kernel
theorem dX7_strokes_41 : decode cX7_strokes 41 = .ok (.goto (-39), 3) := by decide +kernel
theorem dX7_strokes_44 : decode cX7_strokes 44 = .ok (.bipush 60, 2) := by decide +kernel
theorem dX7_strokes_46 : decode cX7_strokes 46 = .ok (.ireturn, 1) := by decide +kernel
theorem dX7_firstBestWay_0 : decode cX7_firstBestWay 0 = .ok (.iconst 0, 1) := by decide +kernel
theorem dX7_firstBestWay_1 : decode cX7_firstBestWay 1 = .ok (.istore_n 2, 1) := by decide +kernel
theorem dX7_firstBestWay_2 : decode cX7_firstBestWay 2 = .ok (.iconst (-1), 1) := by decide +kernel
theorem dX7_firstBestWay_3 : decode cX7_firstBestWay 3 = .ok (.istore_n 3, 1) := by decide +kernel
theorem dX7_firstBestWay_4 : decode cX7_firstBestWay 4 = .ok (.iconst 0, 1) := by decide +kernel
theorem dX7_firstBestWay_5 : decode cX7_firstBestWay 5 = .ok (.istore 4, 2) := by decide +kernel
theorem dX7_firstBestWay_7 : decode cX7_firstBestWay 7 = .ok (.iload 4, 2) := by decide +kernel
theorem dX7_firstBestWay_9 : decode cX7_firstBestWay 9 = .ok (.iconst 1, 1) := by decide +kernel
theorem dX7_firstBestWay_10 : decode cX7_firstBestWay 10 = .ok (.iload_n 1, 1) := by decide +kernel
theorem dX7_firstBestWay_11 : decode cX7_firstBestWay 11 = .ok (.ishl, 1) := by decide +kernel
theorem dX7_firstBestWay_12 : decode cX7_firstBestWay 12 = .ok (.if_icmp .ge 43, 3) := by decide +kernel
theorem dX7_firstBestWay_15 : decode cX7_firstBestWay 15 = .ok (.iload_n 3, 1) := by decide +kernel
theorem dX7_firstBestWay_16 : decode cX7_firstBestWay 16 = .ok (.bipush 60, 2) := by decide +kernel
theorem dX7_firstBestWay_18 : decode cX7_firstBestWay 18 = .ok (.if_icmp .ge 37, 3) := by decide +kernel
theorem dX7_firstBestWay_21 : decode cX7_firstBestWay 21 = .ok (.iload 4, 2) := by decide +kernel
theorem dX7_firstBestWay_23 : decode cX7_firstBestWay 23 = .ok (.iload_n 1, 1) := by decide +kernel
theorem dX7_firstBestWay_24 : decode cX7_firstBestWay 24 = .ok (.invokestatic 34, 3) := by decide +kernel
theorem dX7_firstBestWay_27 : decode cX7_firstBestWay 27 = .ok (.istore 5, 2) := by decide +kernel
theorem dX7_firstBestWay_29 : decode cX7_firstBestWay 29 = .ok (.aload_n 0, 1) := by decide +kernel
theorem dX7_firstBestWay_30 : decode cX7_firstBestWay 30 = .ok (.iload 5, 2) := by decide +kernel
theorem dX7_firstBestWay_32 : decode cX7_firstBestWay 32 = .ok (.invokevirtual 37, 3) := by decide +kernel
theorem dX7_firstBestWay_35 : decode cX7_firstBestWay 35 = .ok (.istore 6, 2) := by decide +kernel
theorem dX7_firstBestWay_37 : decode cX7_firstBestWay 37 = .ok (.iload 6, 2) := by decide +kernel
theorem dX7_firstBestWay_39 : decode cX7_firstBestWay 39 = .ok (.iload_n 3, 1) := by decide +kernel
theorem dX7_firstBestWay_40 : decode cX7_firstBestWay 40 = .ok (.if_icmp .le 9, 3) := by decide +kernel
theorem dX7_firstBestWay_43 : decode cX7_firstBestWay 43 = .ok (.iload 6, 2) := by decide +kernel
theorem dX7_firstBestWay_45 : decode cX7_firstBestWay 45 = .ok (.istore_n 3, 1) := by decide +kernel
theorem dX7_firstBestWay_46 : decode cX7_firstBestWay 46 = .ok (.iload 5, 2) := by decide +kernel
theorem dX7_firstBestWay_48 : decode cX7_firstBestWay 48 = .ok (.istore_n 2, 1) := by decide +kernel
theorem dX7_firstBestWay_49 : decode cX7_firstBestWay 49 = .ok (.iinc 4 1, 3) := by decide +kernel
theorem dX7_firstBestWay_52 : decode cX7_firstBestWay 52 = .ok (.goto (-45), 3) := by decide +kernel
theorem dX7_firstBestWay_55 : decode cX7_firstBestWay 55 = .ok (.iload_n 2, 1) := by decide +kernel
theorem dX7_firstBestWay_56 : decode cX7_firstBestWay 56 = .ok (.ireturn, 1) := by decide +kernel
theorem dX7_hillIn_0 : decode cX7_hillIn 0 = .ok (.aload_n 0, 1) := by decide +kernel
theorem dX7_hillIn_1 : decode cX7_hillIn 1 = .ok (.getfield 13, 3) := by decide +kernel
theorem dX7_hillIn_4 : decode cX7_hillIn 4 = .ok (.iload_n 1, 1) := by decide +kernel
theorem dX7_hillIn_5 : decode cX7_hillIn 5 = .ok (.iadd, 1) := by decide +kernel
theorem dX7_hillIn_6 : decode cX7_hillIn 6 = .ok (.iconst 2, 1) := by decide +kernel
theorem dX7_hillIn_7 : decode cX7_hillIn 7 = .ok (.irem, 1) := by decide +kernel
theorem dX7_hillIn_8 : decode cX7_hillIn 8 = .ok (.ireturn, 1) := by decide +kernel
theorem dX7_mirrored_0 : decode cX7_mirrored 0 = .ok (.iconst 0, 1) := by decide +kernel
theorem dX7_mirrored_1 : decode cX7_mirrored 1 = .ok (.istore_n 2, 1) := by decide +kernel
theorem dX7_mirrored_2 : decode cX7_mirrored 2 = .ok (.iconst 0, 1) := by decide +kernel
theorem dX7_mirrored_3 : decode cX7_mirrored 3 = .ok (.istore_n 3, 1) := by decide +kernel
theorem dX7_mirrored_4 : decode cX7_mirrored 4 = .ok (.iload_n 3, 1) := by decide +kernel
theorem dX7_mirrored_5 : decode cX7_mirrored 5 = .ok (.iload_n 1, 1) := by decide +kernel
theorem dX7_mirrored_6 : decode cX7_mirrored 6 = .ok (.if_icmp .ge 23, 3) := by decide +kernel
theorem dX7_mirrored_9 : decode cX7_mirrored 9 = .ok (.iload_n 2, 1) := by decide +kernel
theorem dX7_mirrored_10 : decode cX7_mirrored 10 = .ok (.iload_n 0, 1) := by decide +kernel
theorem dX7_mirrored_11 : decode cX7_mirrored 11 = .ok (.iload_n 1, 1) := by decide +kernel
theorem dX7_mirrored_12 : decode cX7_mirrored 12 = .ok (.iconst 1, 1) := by decide +kernel
theorem dX7_mirrored_13 : decode cX7_mirrored 13 = .ok (.isub, 1) := by decide +kernel
theorem dX7_mirrored_14 : decode cX7_mirrored 14 = .ok (.iload_n 3, 1) := by decide +kernel
theorem dX7_mirrored_15 : decode cX7_mirrored 15 = .ok (.isub, 1) := by decide +kernel
theorem dX7_mirrored_16 : decode cX7_mirrored 16 = .ok (.ishr, 1) := by decide +kernel
theorem dX7_mirrored_17 : decode cX7_mirrored 17 = .ok (.iconst 1, 1) := by decide +kernel
theorem dX7_mirrored_18 : decode cX7_mirrored 18 = .ok (.iand, 1) := by decide +kernel
theorem dX7_mirrored_19 : decode cX7_mirrored 19 = .ok (.iload_n 3, 1) := by decide +kernel
theorem dX7_mirrored_20 : decode cX7_mirrored 20 = .ok (.ishl, 1) := by decide +kernel
theorem dX7_mirrored_21 : decode cX7_mirrored 21 = .ok (.ior, 1) := by decide +kernel
theorem dX7_mirrored_22 : decode cX7_mirrored 22 = .ok (.istore_n 2, 1) := by decide +kernel
theorem dX7_mirrored_23 : decode cX7_mirrored 23 = .ok (.iinc 3 1, 3) := by decide +kernel
theorem dX7_mirrored_26 : decode cX7_mirrored 26 = .ok (.goto (-22), 3) := by decide +kernel
theorem dX7_mirrored_29 : decode cX7_mirrored 29 = .ok (.iload_n 2, 1) := by decide +kernel
theorem dX7_mirrored_30 : decode cX7_mirrored 30 = .ok (.ireturn, 1) := by decide +kernel
theorem dX8_init_0 : decode cX8_init 0 = .ok (.aload_n 0, 1) := by decide +kernel
theorem dX8_init_1 : decode cX8_init 1 = .ok (.invokespecial 3, 3) := by decide +kernel
theorem dX8_init_4 : decode cX8_init 4 = .ok (.aload_n 0, 1) := by decide +kernel
theorem dX8_init_5 : decode cX8_init 5 = .ok (.sipush 150, 3) := by decide +kernel
theorem dX8_init_8 : decode cX8_init 8 = .ok (.newarray .int, 2) := by decide +kernel
theorem dX8_init_10 : decode cX8_init 10 = .ok (.putfield 11, 3) := by decide +kernel
theorem dX8_init_13 : decode cX8_init 13 = .ok (.aload_n 0, 1) := by decide +kernel
theorem dX8_init_14 : decode cX8_init 14 = .ok (.iconst 0, 1) := by decide +kernel
theorem dX8_init_15 : decode cX8_init 15 = .ok (.putfield 15, 3) := by decide +kernel
theorem dX8_init_18 : decode cX8_init 18 = .ok (.aload_n 0, 1) := by decide +kernel
theorem dX8_init_19 : decode cX8_init 19 = .ok (.iconst 0, 1) := by decide +kernel
theorem dX8_init_20 : decode cX8_init 20 = .ok (.putfield 19, 3) := by decide +kernel
theorem dX8_init_23 : decode cX8_init 23 = .ok (.aload_n 0, 1) := by decide +kernel
theorem dX8_init_24 : decode cX8_init 24 = .ok (.iconst 0, 1) := by decide +kernel
theorem dX8_init_25 : decode cX8_init 25 = .ok (.putfield 22, 3) := by decide +kernel
theorem dX8_init_28 : decode cX8_init 28 = .ok (.aload_n 0, 1) := by decide +kernel
theorem dX8_init_29 : decode cX8_init 29 = .ok (.iconst 0, 1) := by decide +kernel
theorem dX8_init_30 : decode cX8_init 30 = .ok (.putfield 25, 3) := by decide +kernel
theorem dX8_init_33 : decode cX8_init 33 = .ok (.return_, 1) := by decide +kernel
theorem dX8_size_0 : decode cX8_size 0 = .ok (.aload_n 0, 1) := by decide +kernel
theorem dX8_size_1 : decode cX8_size 1 = .ok (.getfield 15, 3) := by decide +kernel
theorem dX8_size_4 : decode cX8_size 4 = .ok (.ireturn, 1) := by decide +kernel
theorem dX8_isFull_0 : decode cX8_isFull 0 = .ok (.aload_n 0, 1) := by decide +kernel
theorem dX8_isFull_1 : decode cX8_isFull 1 = .ok (.getfield 15, 3) := by decide +kernel
theorem dX8_isFull_4 : decode cX8_isFull 4 = .ok (.sipush 150, 3) := by decide +kernel
theorem dX8_isFull_7 : decode cX8_isFull 7 = .ok (.if_icmp .lt 7, 3) := by decide +kernel
theorem dX8_isFull_10 : decode cX8_isFull 10 = .ok (.iconst 1, 1) := by decide +kernel
theorem dX8_isFull_11 : decode cX8_isFull 11 = .ok (.goto 4, 3) := by decide +kernel
theorem dX8_isFull_14 : decode cX8_isFull 14 = .ok (.iconst 0, 1) := by decide +kernel
theorem dX8_isFull_15 : decode cX8_isFull 15 = .ok (.ireturn, 1) := by decide +kernel
theorem dX8_append_0 : decode cX8_append 0 = .ok (.aload_n 0, 1) := by decide +kernel
theorem dX8_append_1 : decode cX8_append 1 = .ok (.invokevirtual 28, 3) := by decide +kernel
theorem dX8_append_4 : decode cX8_append 4 = .ok (.ifCond .ne 23, 3) := by decide +kernel
theorem dX8_append_7 : decode cX8_append 7 = .ok (.aload_n 0, 1) := by decide +kernel
theorem dX8_append_8 : decode cX8_append 8 = .ok (.getfield 11, 3) := by decide +kernel
theorem dX8_append_11 : decode cX8_append 11 = .ok (.aload_n 0, 1) := by decide +kernel
theorem dX8_append_12 : decode cX8_append 12 = .ok (.getfield 15, 3) := by decide +kernel
theorem dX8_append_15 : decode cX8_append 15 = .ok (.iload_n 1, 1) := by decide +kernel
theorem dX8_append_16 : decode cX8_append 16 = .ok (.iastore, 1) := by decide +kernel
theorem dX8_append_17 : decode cX8_append 17 = .ok (.aload_n 0, 1) := by decide +kernel
theorem dX8_append_18 : decode cX8_append 18 = .ok (.dup, 1) := by decide +kernel
theorem dX8_append_19 : decode cX8_append 19 = .ok (.getfield 15, 3) := by decide +kernel
theorem dX8_append_22 : decode cX8_append 22 = .ok (.iconst 1, 1) := by decide +kernel
theorem dX8_append_23 : decode cX8_append 23 = .ok (.iadd, 1) := by decide +kernel
theorem dX8_append_24 : decode cX8_append 24 = .ok (.putfield 15, 3) := by decide +kernel
theorem dX8_append_27 : decode cX8_append 27 = .ok (.aload_n 0, 1) := by decide +kernel
theorem dX8_append_28 : decode cX8_append 28 = .ok (.getfield 15, 3) := by decide +kernel
theorem dX8_append_31 : decode cX8_append 31 = .ok (.ireturn, 1) := by decide +kernel
theorem dX8_empty_0 : decode cX8_empty 0 = .ok (.aload_n 0, 1) := by decide +kernel
theorem dX8_empty_1 : decode cX8_empty 1 = .ok (.getfield 15, 3) := by decide +kernel
theorem dX8_empty_4 : decode cX8_empty 4 = .ok (.istore_n 1, 1) := by decide +kernel
theorem dX8_empty_5 : decode cX8_empty 5 = .ok (.aload_n 0, 1) := by decide +kernel
theorem dX8_empty_6 : decode cX8_empty 6 = .ok (.iconst 0, 1) := by decide +kernel
theorem dX8_empty_7 : decode cX8_empty 7 = .ok (.putfield 15, 3) := by decide +kernel
theorem dX8_empty_10 : decode cX8_empty 10 = .ok (.iload_n 1, 1) := by decide +kernel
theorem dX8_empty_11 : decode cX8_empty 11 = .ok (.ireturn, 1) := by decide +kernel
theorem dX8_token_0 : decode cX8_token 0 = .ok (.aload_n 0, 1) := by decide +kernel
theorem dX8_token_1 : decode cX8_token 1 = .ok (.getfield 19, 3) := by decide +kernel
theorem dX8_token_4 : decode cX8_token 4 = .ok (.ireturn, 1) := by decide +kernel
theorem dX8_tokenStart_0 : decode cX8_tokenStart 0 = .ok (.aload_n 0, 1) := by decide +kernel
theorem dX8_tokenStart_1 : decode cX8_tokenStart 1 = .ok (.getfield 22, 3) := by decide +kernel
theorem dX8_tokenStart_4 : decode cX8_tokenStart 4 = .ok (.ireturn, 1) := by decide +kernel
theorem dX8_rewind_0 : decode cX8_rewind 0 = .ok (.aload_n 0, 1) := by decide +kernel
theorem dX8_rewind_1 : decode cX8_rewind 1 = .ok (.iconst 0, 1) := by decide +kernel
theorem dX8_rewind_2 : decode cX8_rewind 2 = .ok (.putfield 25, 3) := by decide +kernel
theorem dX8_rewind_5 : decode cX8_rewind 5 = .ok (.aload_n 0, 1) := by decide +kernel
theorem dX8_rewind_6 : decode cX8_rewind 6 = .ok (.invokevirtual 32, 3) := by decide +kernel
theorem dX8_rewind_9 : decode cX8_rewind 9 = .ok (.return_, 1) := by decide +kernel
theorem dX8_advance_0 : decode cX8_advance 0 = .ok (.aload_n 0, 1) := by decide +kernel
theorem dX8_advance_1 : decode cX8_advance 1 = .ok (.aload_n 0, 1) := by decide +kernel
theorem dX8_advance_2 : decode cX8_advance 2 = .ok (.getfield 25, 3) := by decide +kernel
theorem dX8_advance_5 : decode cX8_advance 5 = .ok (.putfield 22, 3) := by decide +kernel
theorem dX8_advance_8 : decode cX8_advance 8 = .ok (.aload_n 0, 1) := by decide +kernel
theorem dX8_advance_9 : decode cX8_advance 9 = .ok (.getfield 22, 3) := by decide +kernel
theorem dX8_advance_12 : decode cX8_advance 12 = .ok (.aload_n 0, 1) := by decide +kernel
theorem dX8_advance_13 : decode cX8_advance 13 = .ok (.getfield 15, 3) := by decide +kernel
theorem dX8_advance_16 : decode cX8_advance 16 = .ok (.if_icmp .ge 30, 3) := by decide +kernel
theorem dX8_advance_19 : decode cX8_advance 19 = .ok (.aload_n 0, 1) := by decide +kernel
theorem dX8_advance_20 : decode cX8_advance 20 = .ok (.getfield 11, 3) := by decide +kernel
theorem dX8_advance_23 : decode cX8_advance 23 = .ok (.aload_n 0, 1) := by decide +kernel
theorem dX8_advance_24 : decode cX8_advance 24 = .ok (.getfield 22, 3) := by decide +kernel
theorem dX8_advance_27 : decode cX8_advance 27 = .ok (.iaload, 1) := by decide +kernel
theorem dX8_advance_28 : decode cX8_advance 28 = .ok (.bipush 32, 2) := by decide +kernel
theorem dX8_advance_30 : decode cX8_advance 30 = .ok (.if_icmp .ne 16, 3) := by decide +kernel
theorem dX8_advance_33 : decode cX8_advance 33 = .ok (.aload_n 0, 1) := by decide +kernel
theorem dX8_advance_34 : decode cX8_advance 34 = .ok (.dup, 1) := by decide +kernel
theorem dX8_advance_35 : decode cX8_advance 35 = .ok (.getfield 22, 3) := by decide +kernel
theorem dX8_advance_38 : decode cX8_advance 38 = .ok (.iconst 1, 1) := by decide +kernel
theorem dX8_advance_39 : decode cX8_advance 39 = .ok (.iadd, 1) := by decide +kernel
theorem dX8_advance_40 : decode cX8_advance 40 = .ok (.putfield 22, 3) := by decide +kernel
theorem dX8_advance_43 : decode cX8_advance 43 = .ok (.goto (-35), 3) := by decide +kernel
theorem dX8_advance_46 : decode cX8_advance 46 = .ok (.aload_n 0, 1) := by decide +kernel
theorem dX8_advance_47 : decode cX8_advance 47 = .ok (.aload_n 0, 1) := by decide +kernel
theorem dX8_advance_48 : decode cX8_advance 48 = .ok (.getfield 22, 3) := by decide +kernel
theorem dX8_advance_51 : decode cX8_advance 51 = .ok (.putfield 25, 3) := by decide +kernel
theorem dX8_advance_54 : decode cX8_advance 54 = .ok (.aload_n 0, 1) := by decide +kernel
theorem dX8_advance_55 : decode cX8_advance 55 = .ok (.getfield 22, 3) := by decide +kernel
theorem dX8_advance_58 : decode cX8_advance 58 = .ok (.aload_n 0, 1) := by decide +kernel
theorem dX8_advance_59 : decode cX8_advance 59 = .ok (.getfield 15, 3) := by decide +kernel
theorem dX8_advance_62 : decode cX8_advance 62 = .ok (.if_icmp .lt 11, 3) := by decide +kernel
theorem dX8_advance_65 : decode cX8_advance 65 = .ok (.aload_n 0, 1) := by decide +kernel
theorem dX8_advance_66 : decode cX8_advance 66 = .ok (.iconst 0, 1) := by decide +kernel
theorem dX8_advance_67 : decode cX8_advance 67 = .ok (.putfield 19, 3) := by decide +kernel
theorem dX8_advance_70 : decode cX8_advance 70 = .ok (.goto 174, 3) := by decide +kernel
theorem dX8_advance_73 : decode cX8_advance 73 = .ok (.aload_n 0, 1) := by decide +kernel
theorem dX8_advance_74 : decode cX8_advance 74 = .ok (.getfield 11, 3) := by decide +kernel
theorem dX8_advance_77 : decode cX8_advance 77 = .ok (.aload_n 0, 1) := by decide +kernel
theorem dX8_advance_78 : decode cX8_advance 78 = .ok (.getfield 22, 3) := by decide +kernel
theorem dX8_advance_81 : decode cX8_advance 81 = .ok (.iaload, 1) := by decide +kernel
theorem dX8_advance_82 : decode cX8_advance 82 = .ok (.invokestatic 35, 3) := by decide +kernel
theorem dX8_advance_85 : decode cX8_advance 85 = .ok (.ifCond .eq 47, 3) := by decide +kernel
theorem dX8_advance_88 : decode cX8_advance 88 = .ok (.aload_n 0, 1) := by decide +kernel
theorem dX8_advance_89 : decode cX8_advance 89 = .ok (.iconst 1, 1) := by decide +kernel
theorem dX8_advance_90 : decode cX8_advance 90 = .ok (.putfield 19, 3) := by decide +kernel
theorem dX8_advance_93 : decode cX8_advance 93 = .ok (.aload_n 0, 1) := by decide +kernel
theorem dX8_advance_94 : decode cX8_advance 94 = .ok (.getfield 25, 3) := by decide +kernel
theorem dX8_advance_97 : decode cX8_advance 97 = .ok (.aload_n 0, 1) := by decide +kernel
theorem dX8_advance_98 : decode cX8_advance 98 = .ok (.getfield 15, 3) := by decide +kernel
theorem dX8_advance_101 : decode cX8_advance 101 = .ok (.if_icmp .ge 143, 3) := by decide +kernel
theorem dX8_advance_104 : decode cX8_advance 104 = .ok (.aload_n 0, 1) := by decide +kernel
theorem dX8_advance_105 : decode cX8_advance 105 = .ok (.getfield 11, 3) := by decide +kernel
theorem dX8_advance_108 : decode cX8_advance 108 = .ok (.aload_n 0, 1) := by decide +kernel
theorem dX8_advance_109 : decode cX8_advance 109 = .ok (.getfield 25, 3) := by decide +kernel
theorem dX8_advance_112 : decode cX8_advance 112 = .ok (.iaload, 1) := by decide +kernel
theorem dX8_advance_113 : decode cX8_advance 113 = .ok (.invokestatic 35, 3) := by decide +kernel
theorem dX8_advance_116 : decode cX8_advance 116 = .ok (.ifCond .eq 128, 3) := by decide +kernel
theorem dX8_advance_119 : decode cX8_advance 119 = .ok (.aload_n 0, 1) := by decide +kernel
theorem dX8_advance_120 : decode cX8_advance 120 = .ok (.dup, 1) := by decide +kernel
theorem dX8_advance_121 : decode cX8_advance 121 = .ok (.getfield 25, 3) := by decide +kernel
theorem dX8_advance_124 : decode cX8_advance 124 = .ok (.iconst 1, 1) := by decide +kernel
theorem dX8_advance_125 : decode cX8_advance 125 = .ok (.iadd, 1) := by decide +kernel
theorem dX8_advance_126 : decode cX8_advance 126 = .ok (.putfield 25, 3) := by decide +kernel
theorem dX8_advance_129 : decode cX8_advance 129 = .ok (.goto (-36), 3) := by decide +kernel
theorem dX8_advance_132 : decode cX8_advance 132 = .ok (.aload_n 0, 1) := by decide +kernel
theorem dX8_advance_133 : decode cX8_advance 133 = .ok (.getfield 11, 3) := by decide +kernel
theorem dX8_advance_136 : decode cX8_advance 136 = .ok (.aload_n 0, 1) := by decide +kernel
theorem dX8_advance_137 : decode cX8_advance 137 = .ok (.getfield 22, 3) := by decide +kernel
theorem dX8_advance_140 : decode cX8_advance 140 = .ok (.iaload, 1) := by decide +kernel
theorem dX8_advance_141 : decode cX8_advance 141 = .ok (.invokestatic 39, 3) := by decide +kernel
theorem dX8_advance_144 : decode cX8_advance 144 = .ok (.ifCond .eq 67, 3) := by decide +kernel
theorem dX8_advance_147 : decode cX8_advance 147 = .ok (.aload_n 0, 1) := by decide +kernel
theorem dX8_advance_148 : decode cX8_advance 148 = .ok (.getfield 25, 3) := by decide +kernel
theorem dX8_advance_151 : decode cX8_advance 151 = .ok (.aload_n 0, 1) := by decide +kernel
theorem dX8_advance_152 : decode cX8_advance 152 = .ok (.getfield 15, 3) := by decide +kernel
theorem dX8_advance_155 : decode cX8_advance 155 = .ok (.if_icmp .ge 31, 3) := by decide +kernel
theorem dX8_advance_158 : decode cX8_advance 158 = .ok (.aload_n 0, 1) := by decide +kernel
theorem dX8_advance_159 : decode cX8_advance 159 = .ok (.getfield 11, 3) := by decide +kernel
theorem dX8_advance_162 : decode cX8_advance 162 = .ok (.aload_n 0, 1) := by decide +kernel
theorem dX8_advance_163 : decode cX8_advance 163 = .ok (.getfield 25, 3) := by decide +kernel
theorem dX8_advance_166 : decode cX8_advance 166 = .ok (.iaload, 1) := by decide +kernel
theorem dX8_advance_167 : decode cX8_advance 167 = .ok (.invokestatic 39, 3) := by decide +kernel
theorem dX8_advance_170 : decode cX8_advance 170 = .ok (.ifCond .eq 16, 3) := by decide +kernel
theorem dX8_advance_173 : decode cX8_advance 173 = .ok (.aload_n 0, 1) := by decide +kernel
theorem dX8_advance_174 : decode cX8_advance 174 = .ok (.dup, 1) := by decide +kernel
theorem dX8_advance_175 : decode cX8_advance 175 = .ok (.getfield 25, 3) := by decide +kernel
theorem dX8_advance_178 : decode cX8_advance 178 = .ok (.iconst 1, 1) := by decide +kernel
theorem dX8_advance_179 : decode cX8_advance 179 = .ok (.iadd, 1) := by decide +kernel
theorem dX8_advance_180 : decode cX8_advance 180 = .ok (.putfield 25, 3) := by decide +kernel
theorem dX8_advance_183 : decode cX8_advance 183 = .ok (.goto (-36), 3) := by decide +kernel
theorem dX8_advance_186 : decode cX8_advance 186 = .ok (.aload_n 0, 1) := by decide +kernel
theorem dX8_advance_187 : decode cX8_advance 187 = .ok (.aload_n 0, 1) := by decide +kernel
theorem dX8_advance_188 : decode cX8_advance 188 = .ok (.getfield 25, 3) := by decide +kernel
theorem dX8_advance_191 : decode cX8_advance 191 = .ok (.aload_n 0, 1) := by decide +kernel
theorem dX8_advance_192 : decode cX8_advance 192 = .ok (.getfield 22, 3) := by decide +kernel
theorem dX8_advance_195 : decode cX8_advance 195 = .ok (.isub, 1) := by decide +kernel
theorem dX8_advance_196 : decode cX8_advance 196 = .ok (.iconst 2, 1) := by decide +kernel
theorem dX8_advance_197 : decode cX8_advance 197 = .ok (.if_icmp .gt 7, 3) := by decide +kernel
theorem dX8_advance_200 : decode cX8_advance 200 = .ok (.iconst 2, 1) := by decide +kernel
theorem dX8_advance_201 : decode cX8_advance 201 = .ok (.goto 4, 3) := by decide +kernel
theorem dX8_advance_204 : decode cX8_advance 204 = .ok (.iconst 4, 1) := by decide +kernel
theorem dX8_advance_205 : decode cX8_advance 205 = .ok (.putfield 19, 3) := by decide +kernel
theorem dX8_advance_208 : decode cX8_advance 208 = .ok (.goto 36, 3) := by decide +kernel
theorem dX8_advance_211 : decode cX8_advance 211 = .ok (.aload_n 0, 1) := by decide +kernel
theorem dX8_advance_212 : decode cX8_advance 212 = .ok (.aload_n 0, 1) := by decide +kernel
theorem dX8_advance_213 : decode cX8_advance 213 = .ok (.getfield 11, 3) := by decide +kernel
theorem dX8_advance_216 : decode cX8_advance 216 = .ok (.aload_n 0, 1) := by decide +kernel
theorem dX8_advance_217 : decode cX8_advance 217 = .ok (.getfield 22, 3) := by decide +kernel
theorem dX8_advance_220 : decode cX8_advance 220 = .ok (.iaload, 1) := by decide +kernel
theorem dX8_advance_221 : decode cX8_advance 221 = .ok (.bipush 59, 2) := by decide +kernel
theorem dX8_advance_223 : decode cX8_advance 223 = .ok (.if_icmp .ne 7, 3) := by decide +kernel
theorem dX8_advance_226 : decode cX8_advance 226 = .ok (.iconst 3, 1) := by decide +kernel
theorem dX8_advance_227 : decode cX8_advance 227 = .ok (.goto 4, 3) := by decide +kernel
theorem dX8_advance_230 : decode cX8_advance 230 = .ok (.iconst 4, 1) := by decide +kernel
theorem dX8_advance_231 : decode cX8_advance 231 = .ok (.putfield 19, 3) := by decide +kernel
theorem dX8_advance_234 : decode cX8_advance 234 = .ok (.aload_n 0, 1) := by decide +kernel
theorem dX8_advance_235 : decode cX8_advance 235 = .ok (.dup, 1) := by decide +kernel
theorem dX8_advance_236 : decode cX8_advance 236 = .ok (.getfield 25, 3) := by decide +kernel
theorem dX8_advance_239 : decode cX8_advance 239 = .ok (.iconst 1, 1) := by decide +kernel
theorem dX8_advance_240 : decode cX8_advance 240 = .ok (.iadd, 1) := by decide +kernel
theorem dX8_advance_241 : decode cX8_advance 241 = .ok (.putfield 25, 3) := by decide +kernel
theorem dX8_advance_244 : decode cX8_advance 244 = .ok (.return_, 1) := by decide +kernel
theorem dX8_isWord_0 : decode cX8_isWord 0 = .ok (.aload_n 0, 1) := by decide +kernel
theorem dX8_isWord_1 : decode cX8_isWord 1 = .ok (.getfield 19, 3) := by decide +kernel
theorem dX8_isWord_4 : decode cX8_isWord 4 = .ok (.iconst 1, 1) := by decide +kernel
theorem dX8_isWord_5 : decode cX8_isWord 5 = .ok (.if_icmp .ne 19, 3) := by decide +kernel
theorem dX8_isWord_8 : decode cX8_isWord 8 = .ok (.aload_n 0, 1) := by decide +kernel
theorem dX8_isWord_9 : decode cX8_isWord 9 = .ok (.getfield 25, 3) := by decide +kernel
theorem dX8_isWord_12 : decode cX8_isWord 12 = .ok (.aload_n 0, 1) := by decide +kernel
theorem dX8_isWord_13 : decode cX8_isWord 13 = .ok (.getfield 22, 3) := by decide +kernel
theorem dX8_isWord_16 : decode cX8_isWord 16 = .ok (.isub, 1) := by decide +kernel
theorem dX8_isWord_17 : decode cX8_isWord 17 = .ok (.aload_n 1, 1) := by decide +kernel
theorem dX8_isWord_18 : decode cX8_isWord 18 = .ok (.invokevirtual 42, 3) := by decide +kernel
theorem dX8_isWord_21 : decode cX8_isWord 21 = .ok (.if_icmp .eq 5, 3) := by decide +kernel
theorem dX8_isWord_24 : decode cX8_isWord 24 = .ok (.iconst 0, 1) := by decide +kernel
theorem dX8_isWord_25 : decode cX8_isWord 25 = .ok (.ireturn, 1) := by decide +kernel
theorem dX8_isWord_26 : decode cX8_isWord 26 = .ok (.iconst 0, 1) := by decide +kernel
theorem dX8_isWord_27 : decode cX8_isWord 27 = .ok (.istore_n 2, 1) := by decide +kernel
theorem dX8_isWord_28 : decode cX8_isWord 28 = .ok (.iload_n 2, 1) := by decide +kernel
theorem dX8_isWord_29 : decode cX8_isWord 29 = .ok (.aload_n 1, 1) := by decide +kernel
theorem dX8_isWord_30 : decode cX8_isWord 30 = .ok (.invokevirtual 42, 3) := by decide +kernel
theorem dX8_isWord_33 : decode cX8_isWord 33 = .ok (.if_icmp .ge 42, 3) := by decide +kernel
theorem dX8_isWord_36 : decode cX8_isWord 36 = .ok (.aload_n 0, 1) := by decide +kernel
theorem dX8_isWord_37 : decode cX8_isWord 37 = .ok (.getfield 22, 3) := by decide +kernel
theorem dX8_isWord_40 : decode cX8_isWord 40 = .ok (.iload_n 2, 1) := by decide +kernel
theorem dX8_isWord_41 : decode cX8_isWord 41 = .ok (.iadd, 1) := by decide +kernel
theorem dX8_isWord_42 : decode cX8_isWord 42 = .ok (.sipush 150, 3) := by decide +kernel
theorem dX8_isWord_45 : decode cX8_isWord 45 = .ok (.if_icmp .ge 30, 3) := by decide +kernel
theorem dX8_isWord_48 : decode cX8_isWord 48 = .ok (.aload_n 0, 1) := by decide +kernel
theorem dX8_isWord_49 : decode cX8_isWord 49 = .ok (.getfield 11, 3) := by decide +kernel
theorem dX8_isWord_52 : decode cX8_isWord 52 = .ok (.aload_n 0, 1) := by decide +kernel
theorem dX8_isWord_53 : decode cX8_isWord 53 = .ok (.getfield 22, 3) := by decide +kernel
theorem dX8_isWord_56 : decode cX8_isWord 56 = .ok (.iload_n 2, 1) := by decide +kernel
theorem dX8_isWord_57 : decode cX8_isWord 57 = .ok (.iadd, 1) := by decide +kernel
theorem dX8_isWord_58 : decode cX8_isWord 58 = .ok (.iaload, 1) := by decide +kernel
theorem dX8_isWord_59 : decode cX8_isWord 59 = .ok (.aload_n 1, 1) := by decide +kernel
theorem dX8_isWord_60 : decode cX8_isWord 60 = .ok (.iload_n 2, 1) := by decide +kernel
theorem dX8_isWord_61 : decode cX8_isWord 61 = .ok (.invokevirtual 48, 3) := by decide +kernel
theorem dX8_isWord_64 : decode cX8_isWord 64 = .ok (.if_icmp .eq 5, 3) := by decide +kernel
theorem dX8_isWord_67 : decode cX8_isWord 67 = .ok (.iconst 0, 1) := by decide +kernel
theorem dX8_isWord_68 : decode cX8_isWord 68 = .ok (.ireturn, 1) := by decide +kernel
theorem dX8_isWord_69 : decode cX8_isWord 69 = .ok (.iinc 2 1, 3) := by decide +kernel
theorem dX8_isWord_72 : decode cX8_isWord 72 = .ok (.goto (-44), 3) := by decide +kernel
theorem dX8_isWord_75 : decode cX8_isWord 75 = .ok (.iconst 1, 1) := by decide +kernel
theorem dX8_isWord_76 : decode cX8_isWord 76 = .ok (.ireturn, 1) := by decide +kernel
theorem dX8_number_0 : decode cX8_number 0 = .ok (.aload_n 0, 1) := by decide +kernel
theorem dX8_number_1 : decode cX8_number 1 = .ok (.getfield 19, 3) := by decide +kernel
theorem dX8_number_4 : decode cX8_number 4 = .ok (.iconst 2, 1) := by decide +kernel
theorem dX8_number_5 : decode cX8_number 5 = .ok (.if_icmp .eq 5, 3) := by decide +kernel
theorem dX8_number_8 : decode cX8_number 8 = .ok (.iconst (-1), 1) := by decide +kernel
theorem dX8_number_9 : decode cX8_number 9 = .ok (.ireturn, 1) := by decide +kernel
theorem dX8_number_10 : decode cX8_number 10 = .ok (.iconst 0, 1) := by decide +kernel
theorem dX8_number_11 : decode cX8_number 11 = .ok (.istore_n 1, 1) := by decide +kernel
theorem dX8_number_12 : decode cX8_number 12 = .ok (.aload_n 0, 1) := by decide +kernel
theorem dX8_number_13 : decode cX8_number 13 = .ok (.getfield 22, 3) := by decide +kernel
theorem dX8_number_16 : decode cX8_number 16 = .ok (.istore_n 2, 1) := by decide +kernel
theorem dX8_number_17 : decode cX8_number 17 = .ok (.iload_n 2, 1) := by decide +kernel
theorem dX8_number_18 : decode cX8_number 18 = .ok (.aload_n 0, 1) := by decide +kernel
theorem dX8_number_19 : decode cX8_number 19 = .ok (.getfield 25, 3) := by decide +kernel
theorem dX8_number_22 : decode cX8_number 22 = .ok (.if_icmp .ge 31, 3) := by decide +kernel
theorem dX8_number_25 : decode cX8_number 25 = .ok (.iload_n 2, 1) := by decide +kernel
theorem dX8_number_26 : decode cX8_number 26 = .ok (.sipush 150, 3) := by decide +kernel
theorem dX8_number_29 : decode cX8_number 29 = .ok (.if_icmp .ge 24, 3) := by decide +kernel
theorem dX8_number_32 : decode cX8_number 32 = .ok (.bipush 10, 2) := by decide +kernel
theorem dX8_number_34 : decode cX8_number 34 = .ok (.iload_n 1, 1) := by decide +kernel
theorem dX8_number_35 : decode cX8_number 35 = .ok (.imul, 1) := by decide +kernel
theorem dX8_number_36 : decode cX8_number 36 = .ok (.aload_n 0, 1) := by decide +kernel
theorem dX8_number_37 : decode cX8_number 37 = .ok (.getfield 11, 3) := by decide +kernel
theorem dX8_number_40 : decode cX8_number 40 = .ok (.iload_n 2, 1) := by decide +kernel
theorem dX8_number_41 : decode cX8_number 41 = .ok (.iaload, 1) := by decide +kernel
theorem dX8_number_42 : decode cX8_number 42 = .ok (.iadd, 1) := by decide +kernel
theorem dX8_number_43 : decode cX8_number 43 = .ok (.bipush 48, 2) := by decide +kernel
theorem dX8_number_45 : decode cX8_number 45 = .ok (.isub, 1) := by decide +kernel
theorem dX8_number_46 : decode cX8_number 46 = .ok (.istore_n 1, 1) := by decide +kernel
theorem dX8_number_47 : decode cX8_number 47 = .ok (.iinc 2 1, 3) := by decide +kernel
theorem dX8_number_50 : decode cX8_number 50 = .ok (.goto (-33), 3) := by decide +kernel
theorem dX8_number_53 : decode cX8_number 53 = .ok (.iload_n 1, 1) := by decide +kernel
theorem dX8_number_54 : decode cX8_number 54 = .ok (.ireturn, 1) := by decide +kernel
theorem dX8_isLetter_0 : decode cX8_isLetter 0 = .ok (.iload_n 0, 1) := by decide +kernel
theorem dX8_isLetter_1 : decode cX8_isLetter 1 = .ok (.bipush 97, 2) := by decide +kernel
theorem dX8_isLetter_3 : decode cX8_isLetter 3 = .ok (.if_icmp .lt 13, 3) := by decide +kernel
theorem dX8_isLetter_6 : decode cX8_isLetter 6 = .ok (.iload_n 0, 1) := by decide +kernel
theorem dX8_isLetter_7 : decode cX8_isLetter 7 = .ok (.bipush 122, 2) := by decide +kernel
theorem dX8_isLetter_9 : decode cX8_isLetter 9 = .ok (.if_icmp .gt 7, 3) := by decide +kernel
theorem dX8_isLetter_12 : decode cX8_isLetter 12 = .ok (.iconst 1, 1) := by decide +kernel
theorem dX8_isLetter_13 : decode cX8_isLetter 13 = .ok (.goto 4, 3) := by decide +kernel
theorem dX8_isLetter_16 : decode cX8_isLetter 16 = .ok (.iconst 0, 1) := by decide +kernel
theorem dX8_isLetter_17 : decode cX8_isLetter 17 = .ok (.ireturn, 1) := by decide +kernel
theorem dX8_isFigure_0 : decode cX8_isFigure 0 = .ok (.iload_n 0, 1) := by decide +kernel
theorem dX8_isFigure_1 : decode cX8_isFigure 1 = .ok (.bipush 48, 2) := by decide +kernel
theorem dX8_isFigure_3 : decode cX8_isFigure 3 = .ok (.if_icmp .lt 13, 3) := by decide +kernel
theorem dX8_isFigure_6 : decode cX8_isFigure 6 = .ok (.iload_n 0, 1) := by decide +kernel
theorem dX8_isFigure_7 : decode cX8_isFigure 7 = .ok (.bipush 57, 2) := by decide +kernel
theorem dX8_isFigure_9 : decode cX8_isFigure 9 = .ok (.if_icmp .gt 7, 3) := by decide +kernel
theorem dX8_isFigure_12 : decode cX8_isFigure 12 = .ok (.iconst 1, 1) := by decide +kernel
theorem dX8_isFigure_13 : decode cX8_isFigure 13 = .ok (.goto 4, 3) := by decide +kernel
theorem dX8_isFigure_16 : decode cX8_isFigure 16 = .ok (.iconst 0, 1) := by decide +kernel
theorem dX8_isFigure_17 : decode cX8_isFigure 17 = .ok (.ireturn, 1) := by decide +kernel
theorem dX9_init_0 : decode cX9_init 0 = .ok (.aload_n 0, 1) := by decide +kernel
theorem dX9_init_1 : decode cX9_init 1 = .ok (.invokespecial 3, 3) := by decide +kernel
theorem dX9_init_4 : decode cX9_init 4 = .ok (.aload_n 0, 1) := by decide +kernel
theorem dX9_init_5 : decode cX9_init 5 = .ok (.bipush 10, 2) := by decide +kernel
theorem dX9_init_7 : decode cX9_init 7 = .ok (.putfield 9, 3) := by decide +kernel
theorem dX9_init_10 : decode cX9_init 10 = .ok (.aload_n 0, 1) := by decide +kernel
theorem dX9_init_11 : decode cX9_init 11 = .ok (.bipush 6, 2) := by decide +kernel
theorem dX9_init_13 : decode cX9_init 13 = .ok (.newarray .int, 2) := by decide +kernel
theorem dX9_init_15 : decode cX9_init 15 = .ok (.putfield 15, 3) := by decide +kernel
theorem dX9_init_18 : decode cX9_init 18 = .ok (.aload_n 0, 1) := by decide +kernel
theorem dX9_init_19 : decode cX9_init 19 = .ok (.bipush 7, 2) := by decide +kernel
theorem dX9_init_21 : decode cX9_init 21 = .ok (.newarray .int, 2) := by decide +kernel
theorem dX9_init_23 : decode cX9_init 23 = .ok (.putfield 19, 3) := by decide +kernel
theorem dX9_init_26 : decode cX9_init 26 = .ok (.aload_n 0, 1) := by decide +kernel
theorem dX9_init_27 : decode cX9_init 27 = .ok (.new 22, 3) := by decide +kernel
theorem dX9_init_30 : decode cX9_init 30 = .ok (.dup, 1) := by decide +kernel
theorem dX9_init_31 : decode cX9_init 31 = .ok (.bipush 7, 2) := by decide +kernel
theorem dX9_init_33 : decode cX9_init 33 = .ok (.iconst 3, 1) := by decide +kernel
theorem dX9_init_34 : decode cX9_init 34 = .ok (.invokespecial 24, 3) := by decide +kernel
theorem dX9_init_37 : decode cX9_init 37 = .ok (.putfield 27, 3) := by decide +kernel
theorem dX9_init_40 : decode cX9_init 40 = .ok (.aload_n 0, 1) := by decide +kernel
theorem dX9_init_41 : decode cX9_init 41 = .ok (.new 22, 3) := by decide +kernel
theorem dX9_init_44 : decode cX9_init 44 = .ok (.dup, 1) := by decide +kernel
theorem dX9_init_45 : decode cX9_init 45 = .ok (.iconst 5, 1) := by decide +kernel
theorem dX9_init_46 : decode cX9_init 46 = .ok (.iconst 3, 1) := by decide +kernel
theorem dX9_init_47 : decode cX9_init 47 = .ok (.invokespecial 24, 3) := by decide +kernel
theorem dX9_init_50 : decode cX9_init 50 = .ok (.putfield 31, 3) := by decide +kernel
theorem dX9_init_53 : decode cX9_init 53 = .ok (.aload_n 0, 1) := by decide +kernel
theorem dX9_init_54 : decode cX9_init 54 = .ok (.new 22, 3) := by decide +kernel
theorem dX9_init_57 : decode cX9_init 57 = .ok (.dup, 1) := by decide +kernel
theorem dX9_init_58 : decode cX9_init 58 = .ok (.bipush 6, 2) := by decide +kernel
theorem dX9_init_60 : decode cX9_init 60 = .ok (.iconst 4, 1) := by decide +kernel
theorem dX9_init_61 : decode cX9_init 61 = .ok (.invokespecial 24, 3) := by decide +kernel
theorem dX9_init_64 : decode cX9_init 64 = .ok (.putfield 34, 3) := by decide +kernel
theorem dX9_init_67 : decode cX9_init 67 = .ok (.aload_n 0, 1) := by decide +kernel
theorem dX9_init_68 : decode cX9_init 68 = .ok (.new 22, 3) := by decide +kernel
theorem dX9_init_71 : decode cX9_init 71 = .ok (.dup, 1) := by decide +kernel
theorem dX9_init_72 : decode cX9_init 72 = .ok (.bipush 6, 2) := by decide +kernel
theorem dX9_init_74 : decode cX9_init 74 = .ok (.iconst 4, 1) := by decide +kernel
theorem dX9_init_75 : decode cX9_init 75 = .ok (.invokespecial 24, 3) := by decide +kernel
theorem dX9_init_78 : decode cX9_init 78 = .ok (.putfield 37, 3) := by decide +kernel
theorem dX9_init_81 : decode cX9_init 81 = .ok (.aload_n 0, 1) := by decide +kernel
theorem dX9_init_82 : decode cX9_init 82 = .ok (.new 40, 3) := by decide +kernel
theorem dX9_init_85 : decode cX9_init 85 = .ok (.dup, 1) := by decide +kernel
theorem dX9_init_86 : decode cX9_init 86 = .ok (.invokespecial 42, 3) := by decide +kernel
theorem dX9_init_89 : decode cX9_init 89 = .ok (.putfield 43, 3) := by decide +kernel
theorem dX9_init_92 : decode cX9_init 92 = .ok (.aload_n 0, 1) := by decide +kernel
theorem dX9_init_93 : decode cX9_init 93 = .ok (.getfield 19, 3) := by decide +kernel
theorem dX9_init_96 : decode cX9_init 96 = .ok (.iconst 1, 1) := by decide +kernel
theorem dX9_init_97 : decode cX9_init 97 = .ok (.iconst 1, 1) := by decide +kernel
theorem dX9_init_98 : decode cX9_init 98 = .ok (.iastore, 1) := by decide +kernel
theorem dX9_init_99 : decode cX9_init 99 = .ok (.aload_n 0, 1) := by decide +kernel
theorem dX9_init_100 : decode cX9_init 100 = .ok (.getfield 19, 3) := by decide +kernel
theorem dX9_init_103 : decode cX9_init 103 = .ok (.iconst 3, 1) := by decide +kernel
theorem dX9_init_104 : decode cX9_init 104 = .ok (.iconst 1, 1) := by decide +kernel
theorem dX9_init_105 : decode cX9_init 105 = .ok (.iastore, 1) := by decide +kernel
theorem dX9_init_106 : decode cX9_init 106 = .ok (.return_, 1) := by decide +kernel
theorem dX9_start_0 : decode cX9_start 0 = .ok (.aload_n 0, 1) := by decide +kernel
theorem dX9_start_1 : decode cX9_start 1 = .ok (.iload_n 1, 1) := by decide +kernel
theorem dX9_start_2 : decode cX9_start 2 = .ok (.putfield 9, 3) := by decide +kernel
theorem dX9_start_5 : decode cX9_start 5 = .ok (.aload_n 0, 1) := by decide +kernel
theorem dX9_start_6 : decode cX9_start 6 = .ok (.getfield 15, 3) := by decide +kernel
theorem dX9_start_9 : decode cX9_start 9 = .ok (.iconst 0, 1) := by decide +kernel
theorem dX9_start_10 : decode cX9_start 10 = .ok (.invokestatic 47, 3) := by decide +kernel
theorem dX9_start_13 : decode cX9_start 13 = .ok (.aload_n 0, 1) := by decide +kernel
theorem dX9_start_14 : decode cX9_start 14 = .ok (.getfield 19, 3) := by decide +kernel
theorem dX9_start_17 : decode cX9_start 17 = .ok (.iconst 0, 1) := by decide +kernel
theorem dX9_start_18 : decode cX9_start 18 = .ok (.invokestatic 47, 3) := by decide +kernel
theorem dX9_start_21 : decode cX9_start 21 = .ok (.aload_n 0, 1) := by decide +kernel
theorem dX9_start_22 : decode cX9_start 22 = .ok (.getfield 19, 3) := by decide +kernel
theorem dX9_start_25 : decode cX9_start 25 = .ok (.iconst 1, 1) := by decide +kernel
theorem dX9_start_26 : decode cX9_start 26 = .ok (.iconst 1, 1) := by decide +kernel
theorem dX9_start_27 : decode cX9_start 27 = .ok (.iastore, 1) := by decide +kernel
theorem dX9_start_28 : decode cX9_start 28 = .ok (.aload_n 0, 1) := by decide +kernel
theorem dX9_start_29 : decode cX9_start 29 = .ok (.getfield 19, 3) := by decide +kernel
theorem dX9_start_32 : decode cX9_start 32 = .ok (.iconst 3, 1) := by decide +kernel
theorem dX9_start_33 : decode cX9_start 33 = .ok (.iconst 1, 1) := by decide +kernel
theorem dX9_start_34 : decode cX9_start 34 = .ok (.iastore, 1) := by decide +kernel
theorem dX9_start_35 : decode cX9_start 35 = .ok (.aload_n 0, 1) := by decide +kernel
theorem dX9_start_36 : decode cX9_start 36 = .ok (.getfield 27, 3) := by decide +kernel
theorem dX9_start_39 : decode cX9_start 39 = .ok (.invokevirtual 53, 3) := by decide +kernel
theorem dX9_start_42 : decode cX9_start 42 = .ok (.pop, 1) := by decide +kernel
theorem dX9_start_43 : decode cX9_start 43 = .ok (.aload_n 0, 1) := by decide +kernel
theorem dX9_start_44 : decode cX9_start 44 = .ok (.getfield 31, 3) := by decide +kernel
theorem dX9_start_47 : decode cX9_start 47 = .ok (.invokevirtual 53, 3) := by decide +kernel
theorem dX9_start_50 : decode cX9_start 50 = .ok (.pop, 1) := by decide +kernel
theorem dX9_start_51 : decode cX9_start 51 = .ok (.aload_n 0, 1) := by decide +kernel
theorem dX9_start_52 : decode cX9_start 52 = .ok (.getfield 34, 3) := by decide +kernel
theorem dX9_start_55 : decode cX9_start 55 = .ok (.invokevirtual 53, 3) := by decide +kernel
theorem dX9_start_58 : decode cX9_start 58 = .ok (.pop, 1) := by decide +kernel
theorem dX9_start_59 : decode cX9_start 59 = .ok (.aload_n 0, 1) := by decide +kernel
theorem dX9_start_60 : decode cX9_start 60 = .ok (.getfield 37, 3) := by decide +kernel
theorem dX9_start_63 : decode cX9_start 63 = .ok (.invokevirtual 53, 3) := by decide +kernel
theorem dX9_start_66 : decode cX9_start 66 = .ok (.pop, 1) := by decide +kernel
theorem dX9_start_67 : decode cX9_start 67 = .ok (.aload_n 0, 1) := by decide +kernel
theorem dX9_start_68 : decode cX9_start 68 = .ok (.getfield 43, 3) := by decide +kernel
theorem dX9_start_71 : decode cX9_start 71 = .ok (.invokevirtual 57, 3) := by decide +kernel
theorem dX9_start_74 : decode cX9_start 74 = .ok (.return_, 1) := by decide +kernel
theorem dX9_copyFrom_0 : decode cX9_copyFrom 0 = .ok (.aload_n 0, 1) := by decide +kernel
theorem dX9_copyFrom_1 : decode cX9_copyFrom 1 = .ok (.aload_n 1, 1) := by decide +kernel
theorem dX9_copyFrom_2 : decode cX9_copyFrom 2 = .ok (.getfield 9, 3) := by decide +kernel
theorem dX9_copyFrom_5 : decode cX9_copyFrom 5 = .ok (.putfield 9, 3) := by decide +kernel
theorem dX9_copyFrom_8 : decode cX9_copyFrom 8 = .ok (.aload_n 1, 1) := by decide +kernel
theorem dX9_copyFrom_9 : decode cX9_copyFrom 9 = .ok (.getfield 15, 3) := by decide +kernel
theorem dX9_copyFrom_12 : decode cX9_copyFrom 12 = .ok (.iconst 0, 1) := by decide +kernel
theorem dX9_copyFrom_13 : decode cX9_copyFrom 13 = .ok (.aload_n 0, 1) := by decide +kernel
theorem dX9_copyFrom_14 : decode cX9_copyFrom 14 = .ok (.getfield 15, 3) := by decide +kernel
theorem dX9_copyFrom_17 : decode cX9_copyFrom 17 = .ok (.iconst 0, 1) := by decide +kernel
theorem dX9_copyFrom_18 : decode cX9_copyFrom 18 = .ok (.bipush 6, 2) := by decide +kernel
theorem dX9_copyFrom_20 : decode cX9_copyFrom 20 = .ok (.invokestatic 60, 3) := by decide +kernel
theorem dX9_copyFrom_23 : decode cX9_copyFrom 23 = .ok (.aload_n 1, 1) := by decide +kernel
theorem dX9_copyFrom_24 : decode cX9_copyFrom 24 = .ok (.getfield 19, 3) := by decide +kernel
theorem dX9_copyFrom_27 : decode cX9_copyFrom 27 = .ok (.iconst 0, 1) := by decide +kernel
theorem dX9_copyFrom_28 : decode cX9_copyFrom 28 = .ok (.aload_n 0, 1) := by decide +kernel
theorem dX9_copyFrom_29 : decode cX9_copyFrom 29 = .ok (.getfield 19, 3) := by decide +kernel
theorem dX9_copyFrom_32 : decode cX9_copyFrom 32 = .ok (.iconst 0, 1) := by decide +kernel
theorem dX9_copyFrom_33 : decode cX9_copyFrom 33 = .ok (.bipush 7, 2) := by decide +kernel
theorem dX9_copyFrom_35 : decode cX9_copyFrom 35 = .ok (.invokestatic 60, 3) := by decide +kernel
theorem dX9_copyFrom_38 : decode cX9_copyFrom 38 = .ok (.aload_n 0, 1) := by decide +kernel
theorem dX9_copyFrom_39 : decode cX9_copyFrom 39 = .ok (.getfield 27, 3) := by decide +kernel
theorem dX9_copyFrom_42 : decode cX9_copyFrom 42 = .ok (.aload_n 1, 1) := by decide +kernel
theorem dX9_copyFrom_43 : decode cX9_copyFrom 43 = .ok (.getfield 27, 3) := by decide +kernel
theorem dX9_copyFrom_46 : decode cX9_copyFrom 46 = .ok (.invokevirtual 66, 3) := by decide +kernel
theorem dX9_copyFrom_49 : decode cX9_copyFrom 49 = .ok (.aload_n 0, 1) := by decide +kernel
theorem dX9_copyFrom_50 : decode cX9_copyFrom 50 = .ok (.getfield 31, 3) := by decide +kernel
theorem dX9_copyFrom_53 : decode cX9_copyFrom 53 = .ok (.aload_n 1, 1) := by decide +kernel
theorem dX9_copyFrom_54 : decode cX9_copyFrom 54 = .ok (.getfield 31, 3) := by decide +kernel
theorem dX9_copyFrom_57 : decode cX9_copyFrom 57 = .ok (.invokevirtual 66, 3) := by decide +kernel
theorem dX9_copyFrom_60 : decode cX9_copyFrom 60 = .ok (.aload_n 0, 1) := by decide +kernel
theorem dX9_copyFrom_61 : decode cX9_copyFrom 61 = .ok (.getfield 34, 3) := by decide +kernel
theorem dX9_copyFrom_64 : decode cX9_copyFrom 64 = .ok (.aload_n 1, 1) := by decide +kernel
theorem dX9_copyFrom_65 : decode cX9_copyFrom 65 = .ok (.getfield 34, 3) := by decide +kernel
theorem dX9_copyFrom_68 : decode cX9_copyFrom 68 = .ok (.invokevirtual 66, 3) := by decide +kernel
theorem dX9_copyFrom_71 : decode cX9_copyFrom 71 = .ok (.aload_n 0, 1) := by decide +kernel
theorem dX9_copyFrom_72 : decode cX9_copyFrom 72 = .ok (.getfield 37, 3) := by decide +kernel
theorem dX9_copyFrom_75 : decode cX9_copyFrom 75 = .ok (.aload_n 1, 1) := by decide +kernel
theorem dX9_copyFrom_76 : decode cX9_copyFrom 76 = .ok (.getfield 37, 3) := by decide +kernel
theorem dX9_copyFrom_79 : decode cX9_copyFrom 79 = .ok (.invokevirtual 66, 3) := by decide +kernel
theorem dX9_copyFrom_82 : decode cX9_copyFrom 82 = .ok (.aload_n 0, 1) := by decide +kernel
theorem dX9_copyFrom_83 : decode cX9_copyFrom 83 = .ok (.getfield 43, 3) := by decide +kernel
theorem dX9_copyFrom_86 : decode cX9_copyFrom 86 = .ok (.aload_n 1, 1) := by decide +kernel
theorem dX9_copyFrom_87 : decode cX9_copyFrom 87 = .ok (.getfield 43, 3) := by decide +kernel
theorem dX9_copyFrom_90 : decode cX9_copyFrom 90 = .ok (.invokevirtual 70, 3) := by decide +kernel
theorem dX9_copyFrom_93 : decode cX9_copyFrom 93 = .ok (.return_, 1) := by decide +kernel
theorem dX9_hour_0 : decode cX9_hour 0 = .ok (.aload_n 0, 1) := by decide +kernel
theorem dX9_hour_1 : decode cX9_hour 1 = .ok (.getfield 19, 3) := by decide +kernel
theorem dX9_hour_4 : decode cX9_hour 4 = .ok (.bipush 6, 2) := by decide +kernel
theorem dX9_hour_6 : decode cX9_hour 6 = .ok (.iaload, 1) := by decide +kernel
theorem dX9_hour_7 : decode cX9_hour 7 = .ok (.ireturn, 1) := by decide +kernel
theorem dX9_hill_0 : decode cX9_hill 0 = .ok (.aload_n 0, 1) := by decide +kernel
theorem dX9_hill_1 : decode cX9_hill 1 = .ok (.getfield 19, 3) := by decide +kernel
theorem dX9_hill_4 : decode cX9_hill 4 = .ok (.iconst 2, 1) := by decide +kernel
theorem dX9_hill_5 : decode cX9_hill 5 = .ok (.iaload, 1) := by decide +kernel
theorem dX9_hill_6 : decode cX9_hill 6 = .ok (.ireturn, 1) := by decide +kernel
theorem dX9_isUp_0 : decode cX9_isUp 0 = .ok (.aload_n 0, 1) := by decide +kernel
theorem dX9_isUp_1 : decode cX9_isUp 1 = .ok (.getfield 19, 3) := by decide +kernel
theorem dX9_isUp_4 : decode cX9_isUp 4 = .ok (.iconst 3, 1) := by decide +kernel
theorem dX9_isUp_5 : decode cX9_isUp 5 = .ok (.iaload, 1) := by decide +kernel
theorem dX9_isUp_6 : decode cX9_isUp 6 = .ok (.iconst 1, 1) := by decide +kernel
theorem dX9_isUp_7 : decode cX9_isUp 7 = .ok (.if_icmp .ne 7, 3) := by decide +kernel
theorem dX9_isUp_10 : decode cX9_isUp 10 = .ok (.iconst 1, 1) := by decide +kernel
theorem dX9_isUp_11 : decode cX9_isUp 11 = .ok (.goto 4, 3) := by decide +kernel
theorem dX9_isUp_14 : decode cX9_isUp 14 = .ok (.iconst 0, 1) := by decide +kernel
theorem dX9_isUp_15 : decode cX9_isUp 15 = .ok (.ireturn, 1) := by decide +kernel
theorem dX9_windIn_0 : decode cX9_windIn 0 = .ok (.aload_n 0, 1) := by decide +kernel
theorem dX9_windIn_1 : decode cX9_windIn 1 = .ok (.getfield 15, 3) := by decide +kernel
theorem dX9_windIn_4 : decode cX9_windIn 4 = .ok (.iload_n 1, 1) := by decide +kernel
theorem dX9_windIn_5 : decode cX9_windIn 5 = .ok (.bipush 6, 2) := by decide +kernel
theorem dX9_windIn_7 : decode cX9_windIn 7 = .ok (.invokestatic 73, 3) := by decide +kernel
theorem dX9_windIn_10 : decode cX9_windIn 10 = .ok (.iaload, 1) := by decide +kernel
theorem dX9_windIn_11 : decode cX9_windIn 11 = .ok (.ireturn, 1) := by decide +kernel
theorem dX9_helpFrom_0 : decode cX9_helpFrom 0 = .ok (.iload_n 1, 1) := by decide +kernel
theorem dX9_helpFrom_1 : decode cX9_helpFrom 1 = .ok (.aload_n 0, 1) := by decide +kernel
theorem dX9_helpFrom_2 : decode cX9_helpFrom 2 = .ok (.getfield 15, 3) := by decide +kernel
theorem dX9_helpFrom_5 : decode cX9_helpFrom 5 = .ok (.iload_n 2, 1) := by decide +kernel
theorem dX9_helpFrom_6 : decode cX9_helpFrom 6 = .ok (.bipush 6, 2) := by decide +kernel
theorem dX9_helpFrom_8 : decode cX9_helpFrom 8 = .ok (.invokestatic 73, 3) := by decide +kernel
theorem dX9_helpFrom_11 : decode cX9_helpFrom 11 = .ok (.iaload, 1) := by decide +kernel
theorem dX9_helpFrom_12 : decode cX9_helpFrom 12 = .ok (.invokestatic 79, 3) := by decide +kernel
theorem dX9_helpFrom_15 : decode cX9_helpFrom 15 = .ok (.ireturn, 1) := by decide +kernel
theorem dX9_force_0 : decode cX9_force 0 = .ok (.aload_n 0, 1) := by decide +kernel
theorem dX9_force_1 : decode cX9_force 1 = .ok (.getfield 27, 3) := by decide +kernel
theorem dX9_force_4 : decode cX9_force 4 = .ok (.iload_n 1, 1) := by decide +kernel
theorem dX9_force_5 : decode cX9_force 5 = .ok (.iconst 0, 1) := by decide +kernel
theorem dX9_force_6 : decode cX9_force 6 = .ok (.invokevirtual 82, 3) := by decide +kernel
theorem dX9_force_9 : decode cX9_force 9 = .ok (.aload_n 0, 1) := by decide +kernel
theorem dX9_force_10 : decode cX9_force 10 = .ok (.getfield 27, 3) := by decide +kernel
theorem dX9_force_13 : decode cX9_force 13 = .ok (.iload_n 1, 1) := by decide +kernel
theorem dX9_force_14 : decode cX9_force 14 = .ok (.iconst 2, 1) := by decide +kernel
theorem dX9_force_15 : decode cX9_force 15 = .ok (.invokevirtual 82, 3) := by decide +kernel
theorem dX9_force_18 : decode cX9_force 18 = .ok (.iload_n 2, 1) := by decide +kernel
theorem dX9_force_19 : decode cX9_force 19 = .ok (.bipush 24, 2) := by decide +kernel
theorem dX9_force_21 : decode cX9_force 21 = .ok (.invokestatic 73, 3) := by decide +kernel
theorem dX9_force_24 : decode cX9_force 24 = .ok (.invokestatic 85, 3) := by decide +kernel
theorem dX9_force_27 : decode cX9_force 27 = .ok (.ireturn, 1) := by decide +kernel
theorem dX9_flightFrom_0 : decode cX9_flightFrom 0 = .ok (.aload_n 0, 1) := by decide +kernel
theorem dX9_flightFrom_1 : decode cX9_flightFrom 1 = .ok (.getfield 19, 3) := by decide +kernel
theorem dX9_flightFrom_4 : decode cX9_flightFrom 4 = .ok (.iconst 0, 1) := by decide +kernel
theorem dX9_flightFrom_5 : decode cX9_flightFrom 5 = .ok (.iaload, 1) := by decide +kernel
theorem dX9_flightFrom_6 : decode cX9_flightFrom 6 = .ok (.iload 4, 2) := by decide +kernel
theorem dX9_flightFrom_8 : decode cX9_flightFrom 8 = .ok (.aload_n 0, 1) := by decide +kernel
theorem dX9_flightFrom_9 : decode cX9_flightFrom 9 = .ok (.iload_n 1, 1) := by decide +kernel
theorem dX9_flightFrom_10 : decode cX9_flightFrom 10 = .ok (.iload_n 3, 1) := by decide +kernel
theorem dX9_flightFrom_11 : decode cX9_flightFrom 11 = .ok (.invokevirtual 91, 3) := by decide +kernel
theorem dX9_flightFrom_14 : decode cX9_flightFrom 14 = .ok (.aload_n 0, 1) := by decide +kernel
theorem dX9_flightFrom_15 : decode cX9_flightFrom 15 = .ok (.iload_n 2, 1) := by decide +kernel
theorem dX9_flightFrom_16 : decode cX9_flightFrom 16 = .ok (.iload_n 3, 1) := by decide +kernel
theorem dX9_flightFrom_17 : decode cX9_flightFrom 17 = .ok (.invokevirtual 94, 3) := by decide +kernel
theorem dX9_flightFrom_20 : decode cX9_flightFrom 20 = .ok (.invokestatic 97, 3) := by decide +kernel
theorem dX9_flightFrom_23 : decode cX9_flightFrom 23 = .ok (.ireturn, 1) := by decide +kernel
theorem dX9_reachOf_0 : decode cX9_reachOf 0 = .ok (.aload_n 0, 1) := by decide +kernel
theorem dX9_reachOf_1 : decode cX9_reachOf 1 = .ok (.iload_n 1, 1) := by decide +kernel
theorem dX9_reachOf_2 : decode cX9_reachOf 2 = .ok (.aload_n 0, 1) := by decide +kernel
theorem dX9_reachOf_3 : decode cX9_reachOf 3 = .ok (.getfield 27, 3) := by decide +kernel
theorem dX9_reachOf_6 : decode cX9_reachOf 6 = .ok (.iload_n 1, 1) := by decide +kernel
theorem dX9_reachOf_7 : decode cX9_reachOf 7 = .ok (.iconst 1, 1) := by decide +kernel
theorem dX9_reachOf_8 : decode cX9_reachOf 8 = .ok (.invokevirtual 82, 3) := by decide +kernel
theorem dX9_reachOf_11 : decode cX9_reachOf 11 = .ok (.iload_n 2, 1) := by decide +kernel
theorem dX9_reachOf_12 : decode cX9_reachOf 12 = .ok (.aload_n 0, 1) := by decide +kernel
theorem dX9_reachOf_13 : decode cX9_reachOf 13 = .ok (.getfield 19, 3) := by decide +kernel
theorem dX9_reachOf_16 : decode cX9_reachOf 16 = .ok (.iconst 1, 1) := by decide +kernel
theorem dX9_reachOf_17 : decode cX9_reachOf 17 = .ok (.iaload, 1) := by decide +kernel
theorem dX9_reachOf_18 : decode cX9_reachOf 18 = .ok (.invokevirtual 101, 3) := by decide +kernel
theorem dX9_reachOf_21 : decode cX9_reachOf 21 = .ok (.ireturn, 1) := by decide +kernel
theorem dX9_carriesWeight_0 : decode cX9_carriesWeight 0 = .ok (.aload_n 0, 1) := by decide +kernel
theorem dX9_carriesWeight_1 : decode cX9_carriesWeight 1 = .ok (.iload_n 1, 1) := by decide +kernel
theorem dX9_carriesWeight_2 : decode cX9_carriesWeight 2 = .ok (.aload_n 0, 1) := by decide +kernel
theorem dX9_carriesWeight_3 : decode cX9_carriesWeight 3 = .ok (.getfield 27, 3) := by decide +kernel
theorem dX9_carriesWeight_6 : decode cX9_carriesWeight 6 = .ok (.iload_n 1, 1) := by decide +kernel
theorem dX9_carriesWeight_7 : decode cX9_carriesWeight 7 = .ok (.iconst 1, 1) := by decide +kernel
theorem dX9_carriesWeight_8 : decode cX9_carriesWeight 8 = .ok (.invokevirtual 82, 3) := by decide +kernel
theorem dX9_carriesWeight_11 : decode cX9_carriesWeight 11 = .ok (.iload_n 2, 1) := by decide +kernel
theorem dX9_carriesWeight_12 : decode cX9_carriesWeight 12 = .ok (.iload_n 3, 1) := by decide +kernel
theorem dX9_carriesWeight_13 : decode cX9_carriesWeight 13 = .ok (.invokevirtual 101, 3) := by decide +kernel
theorem dX9_carriesWeight_16 : decode cX9_carriesWeight 16 = .ok (.aload_n 0, 1) := by decide +kernel
theorem dX9_carriesWeight_17 : decode cX9_carriesWeight 17 = .ok (.getfield 9, 3) := by decide +kernel
theorem dX9_carriesWeight_20 : decode cX9_carriesWeight 20 = .ok (.if_icmp .lt 7, 3) := by decide +kernel
theorem dX9_carriesWeight_23 : decode cX9_carriesWeight 23 = .ok (.iconst 1, 1) := by decide +kernel
theorem dX9_carriesWeight_24 : decode cX9_carriesWeight 24 = .ok (.goto 4, 3) := by decide +kernel
theorem dX9_carriesWeight_27 : decode cX9_carriesWeight 27 = .ok (.iconst 0, 1) := by decide +kernel
theorem dX9_carriesWeight_28 : decode cX9_carriesWeight 28 = .ok (.ireturn, 1) := by decide +kernel
theorem dX9_carries_0 : decode cX9_carries 0 = .ok (.aload_n 0, 1) := by decide +kernel
theorem dX9_carries_1 : decode cX9_carries 1 = .ok (.iload_n 1, 1) := by decide +kernel
theorem dX9_carries_2 : decode cX9_carries 2 = .ok (.aload_n 0, 1) := by decide +kernel
theorem dX9_carries_3 : decode cX9_carries 3 = .ok (.getfield 27, 3) := by decide +kernel
theorem dX9_carries_6 : decode cX9_carries 6 = .ok (.iload_n 1, 1) := by decide +kernel
theorem dX9_carries_7 : decode cX9_carries 7 = .ok (.iconst 1, 1) := by decide +kernel
theorem dX9_carries_8 : decode cX9_carries 8 = .ok (.invokevirtual 82, 3) := by decide +kernel
theorem dX9_carries_11 : decode cX9_carries 11 = .ok (.iload_n 2, 1) := by decide +kernel
theorem dX9_carries_12 : decode cX9_carries 12 = .ok (.aload_n 0, 1) := by decide +kernel
theorem dX9_carries_13 : decode cX9_carries 13 = .ok (.getfield 19, 3) := by decide +kernel
theorem dX9_carries_16 : decode cX9_carries 16 = .ok (.iconst 1, 1) := by decide +kernel
theorem dX9_carries_17 : decode cX9_carries 17 = .ok (.iaload, 1) := by decide +kernel
theorem dX9_carries_18 : decode cX9_carries 18 = .ok (.invokevirtual 101, 3) := by decide +kernel
theorem dX9_carries_21 : decode cX9_carries 21 = .ok (.aload_n 0, 1) := by decide +kernel
theorem dX9_carries_22 : decode cX9_carries 22 = .ok (.getfield 9, 3) := by decide +kernel
theorem dX9_carries_25 : decode cX9_carries 25 = .ok (.if_icmp .lt 7, 3) := by decide +kernel
theorem dX9_carries_28 : decode cX9_carries 28 = .ok (.iconst 1, 1) := by decide +kernel
theorem dX9_carries_29 : decode cX9_carries 29 = .ok (.goto 4, 3) := by decide +kernel
theorem dX9_carries_32 : decode cX9_carries 32 = .ok (.iconst 0, 1) := by decide +kernel
theorem dX9_carries_33 : decode cX9_carries 33 = .ok (.ireturn, 1) := by decide +kernel
theorem dX9_carriesInWind_0 : decode cX9_carriesInWind 0 = .ok (.aload_n 0, 1) := by decide +kernel
theorem dX9_carriesInWind_1 : decode cX9_carriesInWind 1 = .ok (.getfield 27, 3) := by decide +kernel
theorem dX9_carriesInWind_4 : decode cX9_carriesInWind 4 = .ok (.iload_n 1, 1) := by decide +kernel
theorem dX9_carriesInWind_5 : decode cX9_carriesInWind 5 = .ok (.iconst 1, 1) := by decide +kernel
theorem dX9_carriesInWind_6 : decode cX9_carriesInWind 6 = .ok (.invokevirtual 82, 3) := by decide +kernel
theorem dX9_carriesInWind_9 : decode cX9_carriesInWind 9 = .ok (.iload_n 2, 1) := by decide +kernel
theorem dX9_carriesInWind_10 : decode cX9_carriesInWind 10 = .ok (.invokestatic 79, 3) := by decide +kernel
theorem dX9_carriesInWind_13 : decode cX9_carriesInWind 13 = .ok (.istore_n 3, 1) := by decide +kernel
theorem dX9_carriesInWind_14 : decode cX9_carriesInWind 14 = .ok (.aload_n 0, 1) := by decide +kernel
theorem dX9_carriesInWind_15 : decode cX9_carriesInWind 15 = .ok (.getfield 19, 3) := by decide +kernel
theorem dX9_carriesInWind_18 : decode cX9_carriesInWind 18 = .ok (.iconst 0, 1) := by decide +kernel
theorem dX9_carriesInWind_19 : decode cX9_carriesInWind 19 = .ok (.iaload, 1) := by decide +kernel
theorem dX9_carriesInWind_20 : decode cX9_carriesInWind 20 = .ok (.aload_n 0, 1) := by decide +kernel
theorem dX9_carriesInWind_21 : decode cX9_carriesInWind 21 = .ok (.getfield 19, 3) := by decide +kernel
theorem dX9_carriesInWind_24 : decode cX9_carriesInWind 24 = .ok (.iconst 1, 1) := by decide +kernel
theorem dX9_carriesInWind_25 : decode cX9_carriesInWind 25 = .ok (.iaload, 1) := by decide +kernel
theorem dX9_carriesInWind_26 : decode cX9_carriesInWind 26 = .ok (.aload_n 0, 1) := by decide +kernel
theorem dX9_carriesInWind_27 : decode cX9_carriesInWind 27 = .ok (.iload_n 1, 1) := by decide +kernel
theorem dX9_carriesInWind_28 : decode cX9_carriesInWind 28 = .ok (.aload_n 0, 1) := by decide +kernel
theorem dX9_carriesInWind_29 : decode cX9_carriesInWind 29 = .ok (.invokevirtual 104, 3) := by decide +kernel
theorem dX9_carriesInWind_32 : decode cX9_carriesInWind 32 = .ok (.invokevirtual 91, 3) := by decide +kernel
theorem dX9_carriesInWind_35 : decode cX9_carriesInWind 35 = .ok (.iload_n 3, 1) := by decide +kernel
theorem dX9_carriesInWind_36 : decode cX9_carriesInWind 36 = .ok (.invokestatic 97, 3) := by decide +kernel
theorem dX9_carriesInWind_39 : decode cX9_carriesInWind 39 = .ok (.aload_n 0, 1) := by decide +kernel
theorem dX9_carriesInWind_40 : decode cX9_carriesInWind 40 = .ok (.getfield 9, 3) := by decide +kernel
theorem dX9_carriesInWind_43 : decode cX9_carriesInWind 43 = .ok (.if_icmp .lt 7, 3) := by decide +kernel
theorem dX9_carriesInWind_46 : decode cX9_carriesInWind 46 = .ok (.iconst 1, 1) := by decide +kernel
theorem dX9_carriesInWind_47 : decode cX9_carriesInWind 47 = .ok (.goto 4, 3) := by decide +kernel
theorem dX9_carriesInWind_50 : decode cX9_carriesInWind 50 = .ok (.iconst 0, 1) := by decide +kernel
theorem dX9_carriesInWind_51 : decode cX9_carriesInWind 51 = .ok (.ireturn, 1) := by decide +kernel
theorem dX9_isOn_0 : decode cX9_isOn 0 = .ok (.aload_n 0, 1) := by decide +kernel
theorem dX9_isOn_1 : decode cX9_isOn 1 = .ok (.getfield 27, 3) := by decide +kernel
theorem dX9_isOn_4 : decode cX9_isOn 4 = .ok (.iload_n 1, 1) := by decide +kernel
theorem dX9_isOn_5 : decode cX9_isOn 5 = .ok (.invokevirtual 107, 3) := by decide +kernel
theorem dX9_isOn_8 : decode cX9_isOn 8 = .ok (.ifCond .eq 20, 3) := by decide +kernel
theorem dX9_isOn_11 : decode cX9_isOn 11 = .ok (.aload_n 0, 1) := by decide +kernel
theorem dX9_isOn_12 : decode cX9_isOn 12 = .ok (.getfield 27, 3) := by decide +kernel
theorem dX9_isOn_15 : decode cX9_isOn 15 = .ok (.iload_n 1, 1) := by decide +kernel
theorem dX9_isOn_16 : decode cX9_isOn 16 = .ok (.iconst 1, 1) := by decide +kernel
theorem dX9_isOn_17 : decode cX9_isOn 17 = .ok (.invokevirtual 82, 3) := by decide +kernel
theorem dX9_isOn_20 : decode cX9_isOn 20 = .ok (.iload_n 2, 1) := by decide +kernel
theorem dX9_isOn_21 : decode cX9_isOn 21 = .ok (.if_icmp .ne 7, 3) := by decide +kernel
theorem dX9_isOn_24 : decode cX9_isOn 24 = .ok (.iconst 1, 1) := by decide +kernel
theorem dX9_isOn_25 : decode cX9_isOn 25 = .ok (.goto 4, 3) := by decide +kernel
theorem dX9_isOn_28 : decode cX9_isOn 28 = .ok (.iconst 0, 1) := by decide +kernel
theorem dX9_isOn_29 : decode cX9_isOn 29 = .ok (.ireturn, 1) := by decide +kernel
theorem dX9_canStrike_0 : decode cX9_canStrike 0 = .ok (.aload_n 0, 1) := by decide +kernel
theorem dX9_canStrike_1 : decode cX9_canStrike 1 = .ok (.invokevirtual 111, 3) := by decide +kernel
theorem dX9_canStrike_4 : decode cX9_canStrike 4 = .ok (.ifCond .eq 29, 3) := by decide +kernel
theorem dX9_canStrike_7 : decode cX9_canStrike 7 = .ok (.aload_n 0, 1) := by decide +kernel
theorem dX9_canStrike_8 : decode cX9_canStrike 8 = .ok (.iload_n 1, 1) := by decide +kernel
theorem dX9_canStrike_9 : decode cX9_canStrike 9 = .ok (.aload_n 0, 1) := by decide +kernel
theorem dX9_canStrike_10 : decode cX9_canStrike 10 = .ok (.invokevirtual 115, 3) := by decide +kernel
theorem dX9_canStrike_13 : decode cX9_canStrike 13 = .ok (.invokevirtual 118, 3) := by decide +kernel
theorem dX9_canStrike_16 : decode cX9_canStrike 16 = .ok (.ifCond .eq 17, 3) := by decide +kernel
theorem dX9_canStrike_19 : decode cX9_canStrike 19 = .ok (.aload_n 0, 1) := by decide +kernel
theorem dX9_canStrike_20 : decode cX9_canStrike 20 = .ok (.invokevirtual 104, 3) := by decide +kernel
theorem dX9_canStrike_23 : decode cX9_canStrike 23 = .ok (.sipush 9999, 3) := by decide +kernel
theorem dX9_canStrike_26 : decode cX9_canStrike 26 = .ok (.if_icmp .ge 7, 3) := by decide +kernel
theorem dX9_canStrike_29 : decode cX9_canStrike 29 = .ok (.iconst 1, 1) := by decide +kernel
theorem dX9_canStrike_30 : decode cX9_canStrike 30 = .ok (.goto 4, 3) := by decide +kernel
theorem dX9_canStrike_33 : decode cX9_canStrike 33 = .ok (.iconst 0, 1) := by decide +kernel
theorem dX9_canStrike_34 : decode cX9_canStrike 34 = .ok (.ireturn, 1) := by decide +kernel
theorem dX9_everybody_0 : decode cX9_everybody 0 = .ok (.iconst 1, 1) := by decide +kernel
theorem dX9_everybody_1 : decode cX9_everybody 1 = .ok (.aload_n 0, 1) := by decide +kernel
theorem dX9_everybody_2 : decode cX9_everybody 2 = .ok (.getfield 27, 3) := by decide +kernel
theorem dX9_everybody_5 : decode cX9_everybody 5 = .ok (.invokevirtual 122, 3) := by decide +kernel
theorem dX9_everybody_8 : decode cX9_everybody 8 = .ok (.ishl, 1) := by decide +kernel
theorem dX9_everybody_9 : decode cX9_everybody 9 = .ok (.iconst 1, 1) := by decide +kernel
theorem dX9_everybody_10 : decode cX9_everybody 10 = .ok (.isub, 1) := by decide +kernel
theorem dX9_everybody_11 : decode cX9_everybody 11 = .ok (.ireturn, 1) := by decide +kernel
theorem dX9_playersOn_0 : decode cX9_playersOn 0 = .ok (.iconst 0, 1) := by decide +kernel
theorem dX9_playersOn_1 : decode cX9_playersOn 1 = .ok (.istore_n 2, 1) := by decide +kernel
theorem dX9_playersOn_2 : decode cX9_playersOn 2 = .ok (.iconst 0, 1) := by decide +kernel
theorem dX9_playersOn_3 : decode cX9_playersOn 3 = .ok (.istore_n 3, 1) := by decide +kernel
theorem dX9_playersOn_4 : decode cX9_playersOn 4 = .ok (.iload_n 3, 1) := by decide +kernel
theorem dX9_playersOn_5 : decode cX9_playersOn 5 = .ok (.aload_n 0, 1) := by decide +kernel
theorem dX9_playersOn_6 : decode cX9_playersOn 6 = .ok (.getfield 27, 3) := by decide +kernel
theorem dX9_playersOn_9 : decode cX9_playersOn 9 = .ok (.invokevirtual 122, 3) := by decide +kernel
theorem dX9_playersOn_12 : decode cX9_playersOn 12 = .ok (.if_icmp .ge 24, 3) := by decide +kernel
theorem dX9_playersOn_15 : decode cX9_playersOn 15 = .ok (.aload_n 0, 1) := by decide +kernel
theorem dX9_playersOn_16 : decode cX9_playersOn 16 = .ok (.iload_n 3, 1) := by decide +kernel
theorem dX9_playersOn_17 : decode cX9_playersOn 17 = .ok (.iload_n 1, 1) := by decide +kernel
theorem dX9_playersOn_18 : decode cX9_playersOn 18 = .ok (.invokevirtual 118, 3) := by decide +kernel
theorem dX9_playersOn_21 : decode cX9_playersOn 21 = .ok (.ifCond .eq 9, 3) := by decide +kernel
theorem dX9_playersOn_24 : decode cX9_playersOn 24 = .ok (.iload_n 2, 1) := by decide +kernel
theorem dX9_playersOn_25 : decode cX9_playersOn 25 = .ok (.iconst 1, 1) := by decide +kernel
theorem dX9_playersOn_26 : decode cX9_playersOn 26 = .ok (.iload_n 3, 1) := by decide +kernel
theorem dX9_playersOn_27 : decode cX9_playersOn 27 = .ok (.ishl, 1) := by decide +kernel
theorem dX9_playersOn_28 : decode cX9_playersOn 28 = .ok (.ior, 1) := by decide +kernel
theorem dX9_playersOn_29 : decode cX9_playersOn 29 = .ok (.istore_n 2, 1) := by decide +kernel
theorem dX9_playersOn_30 : decode cX9_playersOn 30 = .ok (.iinc 3 1, 3) := by decide +kernel
theorem dX9_playersOn_33 : decode cX9_playersOn 33 = .ok (.goto (-29), 3) := by decide +kernel
theorem dX9_playersOn_36 : decode cX9_playersOn 36 = .ok (.iload_n 2, 1) := by decide +kernel
theorem dX9_playersOn_37 : decode cX9_playersOn 37 = .ok (.ireturn, 1) := by decide +kernel
theorem dX9_carriersFrom_0 : decode cX9_carriersFrom 0 = .ok (.iconst 0, 1) := by decide +kernel
theorem dX9_carriersFrom_1 : decode cX9_carriersFrom 1 = .ok (.istore_n 3, 1) := by decide +kernel
theorem dX9_carriersFrom_2 : decode cX9_carriersFrom 2 = .ok (.iconst 0, 1) := by decide +kernel
theorem dX9_carriersFrom_3 : decode cX9_carriersFrom 3 = .ok (.istore 4, 2) := by decide +kernel
theorem dX9_carriersFrom_5 : decode cX9_carriersFrom 5 = .ok (.iload 4, 2) := by decide +kernel
theorem dX9_carriersFrom_7 : decode cX9_carriersFrom 7 = .ok (.aload_n 0, 1) := by decide +kernel
theorem dX9_carriersFrom_8 : decode cX9_carriersFrom 8 = .ok (.getfield 27, 3) := by decide +kernel
theorem dX9_carriersFrom_11 : decode cX9_carriersFrom 11 = .ok (.invokevirtual 122, 3) := by decide +kernel
theorem dX9_carriersFrom_14 : decode cX9_carriersFrom 14 = .ok (.if_icmp .ge 37, 3) := by decide +kernel
theorem dX9_carriersFrom_17 : decode cX9_carriersFrom 17 = .ok (.aload_n 0, 1) := by decide +kernel
theorem dX9_carriersFrom_18 : decode cX9_carriersFrom 18 = .ok (.iload 4, 2) := by decide +kernel
theorem dX9_carriersFrom_20 : decode cX9_carriersFrom 20 = .ok (.iload_n 1, 1) := by decide +kernel
theorem dX9_carriersFrom_21 : decode cX9_carriersFrom 21 = .ok (.iload_n 2, 1) := by decide +kernel
theorem dX9_carriersFrom_22 : decode cX9_carriersFrom 22 = .ok (.aload_n 0, 1) := by decide +kernel
theorem dX9_carriersFrom_23 : decode cX9_carriersFrom 23 = .ok (.getfield 19, 3) := by decide +kernel
theorem dX9_carriersFrom_26 : decode cX9_carriersFrom 26 = .ok (.iconst 1, 1) := by decide +kernel
theorem dX9_carriersFrom_27 : decode cX9_carriersFrom 27 = .ok (.iaload, 1) := by decide +kernel
theorem dX9_carriersFrom_28 : decode cX9_carriersFrom 28 = .ok (.invokevirtual 101, 3) := by decide +kernel
theorem dX9_carriersFrom_31 : decode cX9_carriersFrom 31 = .ok (.aload_n 0, 1) := by decide +kernel
theorem dX9_carriersFrom_32 : decode cX9_carriersFrom 32 = .ok (.getfield 9, 3) := by decide +kernel
theorem dX9_carriersFrom_35 : decode cX9_carriersFrom 35 = .ok (.if_icmp .lt 10, 3) := by decide +kernel
theorem dX9_carriersFrom_38 : decode cX9_carriersFrom 38 = .ok (.iload_n 3, 1) := by decide +kernel
theorem dX9_carriersFrom_39 : decode cX9_carriersFrom 39 = .ok (.iconst 1, 1) := by decide +kernel
theorem dX9_carriersFrom_40 : decode cX9_carriersFrom 40 = .ok (.iload 4, 2) := by decide +kernel
theorem dX9_carriersFrom_42 : decode cX9_carriersFrom 42 = .ok (.ishl, 1) := by decide +kernel
theorem dX9_carriersFrom_43 : decode cX9_carriersFrom 43 = .ok (.ior, 1) := by decide +kernel
theorem dX9_carriersFrom_44 : decode cX9_carriersFrom 44 = .ok (.istore_n 3, 1) := by decide +kernel
theorem dX9_carriersFrom_45 : decode cX9_carriersFrom 45 = .ok (.iinc 4 1, 3) := by decide +kernel
theorem dX9_carriersFrom_48 : decode cX9_carriersFrom 48 = .ok (.goto (-43), 3) := by decide +kernel
theorem dX9_carriersFrom_51 : decode cX9_carriersFrom 51 = .ok (.iload_n 3, 1) := by decide +kernel
theorem dX9_carriersFrom_52 : decode cX9_carriersFrom 52 = .ok (.ireturn, 1) := by decide +kernel
theorem dX9_carriersOn_0 : decode cX9_carriersOn 0 = .ok (.iconst 0, 1) := by decide +kernel
theorem dX9_carriersOn_1 : decode cX9_carriersOn 1 = .ok (.istore_n 3, 1) := by decide +kernel
theorem dX9_carriersOn_2 : decode cX9_carriersOn 2 = .ok (.iconst 0, 1) := by decide +kernel
theorem dX9_carriersOn_3 : decode cX9_carriersOn 3 = .ok (.istore 4, 2) := by decide +kernel
theorem dX9_carriersOn_5 : decode cX9_carriersOn 5 = .ok (.iload 4, 2) := by decide +kernel
theorem dX9_carriersOn_7 : decode cX9_carriersOn 7 = .ok (.aload_n 0, 1) := by decide +kernel
theorem dX9_carriersOn_8 : decode cX9_carriersOn 8 = .ok (.getfield 27, 3) := by decide +kernel
theorem dX9_carriersOn_11 : decode cX9_carriersOn 11 = .ok (.invokevirtual 122, 3) := by decide +kernel
theorem dX9_carriersOn_14 : decode cX9_carriersOn 14 = .ok (.if_icmp .ge 36, 3) := by decide +kernel
theorem dX9_carriersOn_17 : decode cX9_carriersOn 17 = .ok (.aload_n 0, 1) := by decide +kernel
theorem dX9_carriersOn_18 : decode cX9_carriersOn 18 = .ok (.iload 4, 2) := by decide +kernel
theorem dX9_carriersOn_20 : decode cX9_carriersOn 20 = .ok (.iload_n 1, 1) := by decide +kernel
theorem dX9_carriersOn_21 : decode cX9_carriersOn 21 = .ok (.invokevirtual 118, 3) := by decide +kernel
theorem dX9_carriersOn_24 : decode cX9_carriersOn 24 = .ok (.ifCond .eq 20, 3) := by decide +kernel
theorem dX9_carriersOn_27 : decode cX9_carriersOn 27 = .ok (.aload_n 0, 1) := by decide +kernel
theorem dX9_carriersOn_28 : decode cX9_carriersOn 28 = .ok (.iload 4, 2) := by decide +kernel
theorem dX9_carriersOn_30 : decode cX9_carriersOn 30 = .ok (.iload_n 2, 1) := by decide +kernel
theorem dX9_carriersOn_31 : decode cX9_carriersOn 31 = .ok (.invokevirtual 125, 3) := by decide +kernel
theorem dX9_carriersOn_34 : decode cX9_carriersOn 34 = .ok (.ifCond .eq 10, 3) := by decide +kernel
theorem dX9_carriersOn_37 : decode cX9_carriersOn 37 = .ok (.iload_n 3, 1) := by decide +kernel
theorem dX9_carriersOn_38 : decode cX9_carriersOn 38 = .ok (.iconst 1, 1) := by decide +kernel
theorem dX9_carriersOn_39 : decode cX9_carriersOn 39 = .ok (.iload 4, 2) := by decide +kernel
theorem dX9_carriersOn_41 : decode cX9_carriersOn 41 = .ok (.ishl, 1) := by decide +kernel
theorem dX9_carriersOn_42 : decode cX9_carriersOn 42 = .ok (.ior, 1) := by decide +kernel
theorem dX9_carriersOn_43 : decode cX9_carriersOn 43 = .ok (.istore_n 3, 1) := by decide +kernel
theorem dX9_carriersOn_44 : decode cX9_carriersOn 44 = .ok (.iinc 4 1, 3) := by decide +kernel
theorem dX9_carriersOn_47 : decode cX9_carriersOn 47 = .ok (.goto (-42), 3) := by decide +kernel
theorem dX9_carriersOn_50 : decode cX9_carriersOn 50 = .ok (.iload_n 3, 1) := by decide +kernel
theorem dX9_carriersOn_51 : decode cX9_carriersOn 51 = .ok (.ireturn, 1) := by decide +kernel
theorem dX9_remember_0 : decode cX9_remember 0 = .ok (.aload_n 0, 1) := by decide +kernel
theorem dX9_remember_1 : decode cX9_remember 1 = .ok (.getfield 43, 3) := by decide +kernel
theorem dX9_remember_4 : decode cX9_remember 4 = .ok (.aload_n 0, 1) := by decide +kernel
theorem dX9_remember_5 : decode cX9_remember 5 = .ok (.getfield 19, 3) := by decide +kernel
theorem dX9_remember_8 : decode cX9_remember 8 = .ok (.invokevirtual 128, 3) := by decide +kernel
theorem dX9_remember_11 : decode cX9_remember 11 = .ok (.return_, 1) := by decide +kernel
theorem dX9_strike_0 : decode cX9_strike 0 = .ok (.aload_n 0, 1) := by decide +kernel
theorem dX9_strike_1 : decode cX9_strike 1 = .ok (.iload_n 1, 1) := by decide +kernel
theorem dX9_strike_2 : decode cX9_strike 2 = .ok (.aload_n 0, 1) := by decide +kernel
theorem dX9_strike_3 : decode cX9_strike 3 = .ok (.invokevirtual 104, 3) := by decide +kernel
theorem dX9_strike_6 : decode cX9_strike 6 = .ok (.invokevirtual 125, 3) := by decide +kernel
theorem dX9_strike_9 : decode cX9_strike 9 = .ok (.istore_n 2, 1) := by decide +kernel
theorem dX9_strike_10 : decode cX9_strike 10 = .ok (.iload_n 2, 1) := by decide +kernel
theorem dX9_strike_11 : decode cX9_strike 11 = .ok (.ifCond .eq 30, 3) := by decide +kernel
theorem dX9_strike_14 : decode cX9_strike 14 = .ok (.aload_n 0, 1) := by decide +kernel
theorem dX9_strike_15 : decode cX9_strike 15 = .ok (.getfield 19, 3) := by decide +kernel
theorem dX9_strike_18 : decode cX9_strike 18 = .ok (.iconst 2, 1) := by decide +kernel
theorem dX9_strike_19 : decode cX9_strike 19 = .ok (.iconst 1, 1) := by decide +kernel
theorem dX9_strike_20 : decode cX9_strike 20 = .ok (.aload_n 0, 1) := by decide +kernel
theorem dX9_strike_21 : decode cX9_strike 21 = .ok (.getfield 19, 3) := by decide +kernel
theorem dX9_strike_24 : decode cX9_strike 24 = .ok (.iconst 2, 1) := by decide +kernel
theorem dX9_strike_25 : decode cX9_strike 25 = .ok (.iaload, 1) := by decide +kernel
theorem dX9_strike_26 : decode cX9_strike 26 = .ok (.isub, 1) := by decide +kernel
theorem dX9_strike_27 : decode cX9_strike 27 = .ok (.iastore, 1) := by decide +kernel
theorem dX9_strike_28 : decode cX9_strike 28 = .ok (.aload_n 0, 1) := by decide +kernel
theorem dX9_strike_29 : decode cX9_strike 29 = .ok (.getfield 19, 3) := by decide +kernel
theorem dX9_strike_32 : decode cX9_strike 32 = .ok (.iconst 4, 1) := by decide +kernel
theorem dX9_strike_33 : decode cX9_strike 33 = .ok (.dup2, 1) := by decide +kernel
theorem dX9_strike_34 : decode cX9_strike 34 = .ok (.iaload, 1) := by decide +kernel
theorem dX9_strike_35 : decode cX9_strike 35 = .ok (.iconst 1, 1) := by decide +kernel
theorem dX9_strike_36 : decode cX9_strike 36 = .ok (.iadd, 1) := by decide +kernel
theorem dX9_strike_37 : decode cX9_strike 37 = .ok (.iastore, 1) := by decide +kernel
theorem dX9_strike_38 : decode cX9_strike 38 = .ok (.goto 27, 3) := by decide +kernel
theorem dX9_strike_41 : decode cX9_strike 41 = .ok (.aload_n 0, 1) := by decide +kernel
theorem dX9_strike_42 : decode cX9_strike 42 = .ok (.getfield 19, 3) := by decide +kernel
theorem dX9_strike_45 : decode cX9_strike 45 = .ok (.iconst 3, 1) := by decide +kernel
theorem dX9_strike_46 : decode cX9_strike 46 = .ok (.iconst 0, 1) := by decide +kernel
theorem dX9_strike_47 : decode cX9_strike 47 = .ok (.iastore, 1) := by decide +kernel
theorem dX9_strike_48 : decode cX9_strike 48 = .ok (.aload_n 0, 1) := by decide +kernel
theorem dX9_strike_49 : decode cX9_strike 49 = .ok (.getfield 19, 3) := by decide +kernel
theorem dX9_strike_52 : decode cX9_strike 52 = .ok (.iconst 5, 1) := by decide +kernel
theorem dX9_strike_53 : decode cX9_strike 53 = .ok (.dup2, 1) := by decide +kernel
theorem dX9_strike_54 : decode cX9_strike 54 = .ok (.iaload, 1) := by decide +kernel
theorem dX9_strike_55 : decode cX9_strike 55 = .ok (.iconst 1, 1) := by decide +kernel
theorem dX9_strike_56 : decode cX9_strike 56 = .ok (.iadd, 1) := by decide +kernel
theorem dX9_strike_57 : decode cX9_strike 57 = .ok (.iastore, 1) := by decide +kernel
theorem dX9_strike_58 : decode cX9_strike 58 = .ok (.aload_n 0, 1) := by decide +kernel
theorem dX9_strike_59 : decode cX9_strike 59 = .ok (.getfield 19, 3) := by decide +kernel
theorem dX9_strike_62 : decode cX9_strike 62 = .ok (.iconst 4, 1) := by decide +kernel
theorem dX9_strike_63 : decode cX9_strike 63 = .ok (.iconst 0, 1) := by decide +kernel
theorem dX9_strike_64 : decode cX9_strike 64 = .ok (.iastore, 1) := by decide +kernel
theorem dX9_strike_65 : decode cX9_strike 65 = .ok (.aload_n 0, 1) := by decide +kernel
theorem dX9_strike_66 : decode cX9_strike 66 = .ok (.iconst 1, 1) := by decide +kernel
theorem dX9_strike_67 : decode cX9_strike 67 = .ok (.invokevirtual 132, 3) := by decide +kernel
theorem dX9_strike_70 : decode cX9_strike 70 = .ok (.iload_n 2, 1) := by decide +kernel
theorem dX9_strike_71 : decode cX9_strike 71 = .ok (.ifCond .eq 7, 3) := by decide +kernel
theorem dX9_strike_74 : decode cX9_strike 74 = .ok (.iconst 1, 1) := by decide +kernel
theorem dX9_strike_75 : decode cX9_strike 75 = .ok (.goto 4, 3) := by decide +kernel
theorem dX9_strike_78 : decode cX9_strike 78 = .ok (.iconst 0, 1) := by decide +kernel
theorem dX9_strike_79 : decode cX9_strike 79 = .ok (.ireturn, 1) := by decide +kernel
theorem dX9_pickUp_0 : decode cX9_pickUp 0 = .ok (.aload_n 0, 1) := by decide +kernel
theorem dX9_pickUp_1 : decode cX9_pickUp 1 = .ok (.getfield 19, 3) := by decide +kernel
theorem dX9_pickUp_4 : decode cX9_pickUp 4 = .ok (.iconst 2, 1) := by decide +kernel
theorem dX9_pickUp_5 : decode cX9_pickUp 5 = .ok (.iload_n 1, 1) := by decide +kernel
theorem dX9_pickUp_6 : decode cX9_pickUp 6 = .ok (.iastore, 1) := by decide +kernel
theorem dX9_pickUp_7 : decode cX9_pickUp 7 = .ok (.aload_n 0, 1) := by decide +kernel
theorem dX9_pickUp_8 : decode cX9_pickUp 8 = .ok (.getfield 19, 3) := by decide +kernel
theorem dX9_pickUp_11 : decode cX9_pickUp 11 = .ok (.iconst 3, 1) := by decide +kernel
theorem dX9_pickUp_12 : decode cX9_pickUp 12 = .ok (.iconst 1, 1) := by decide +kernel
theorem dX9_pickUp_13 : decode cX9_pickUp 13 = .ok (.iastore, 1) := by decide +kernel
theorem dX9_pickUp_14 : decode cX9_pickUp 14 = .ok (.return_, 1) := by decide +kernel
theorem dX9_feather_0 : decode cX9_feather 0 = .ok (.aload_n 0, 1) := by decide +kernel
theorem dX9_feather_1 : decode cX9_feather 1 = .ok (.getfield 19, 3) := by decide +kernel
theorem dX9_feather_4 : decode cX9_feather 4 = .ok (.iconst 0, 1) := by decide +kernel
theorem dX9_feather_5 : decode cX9_feather 5 = .ok (.iload_n 1, 1) := by decide +kernel
theorem dX9_feather_6 : decode cX9_feather 6 = .ok (.iastore, 1) := by decide +kernel
theorem dX9_feather_7 : decode cX9_feather 7 = .ok (.aload_n 0, 1) := by decide +kernel
theorem dX9_feather_8 : decode cX9_feather 8 = .ok (.getfield 19, 3) := by decide +kernel
theorem dX9_feather_11 : decode cX9_feather 11 = .ok (.iconst 1, 1) := by decide +kernel
theorem dX9_feather_12 : decode cX9_feather 12 = .ok (.iload_n 2, 1) := by decide +kernel
theorem dX9_feather_13 : decode cX9_feather 13 = .ok (.iastore, 1) := by decide +kernel
theorem dX9_feather_14 : decode cX9_feather 14 = .ok (.return_, 1) := by decide +kernel
theorem dX9_letPass_0 : decode cX9_letPass 0 = .ok (.aload_n 0, 1) := by decide +kernel
theorem dX9_letPass_1 : decode cX9_letPass 1 = .ok (.getfield 19, 3) := by decide +kernel
theorem dX9_letPass_4 : decode cX9_letPass 4 = .ok (.bipush 6, 2) := by decide +kernel
theorem dX9_letPass_6 : decode cX9_letPass 6 = .ok (.sipush 9999, 3) := by decide +kernel
theorem dX9_letPass_9 : decode cX9_letPass 9 = .ok (.aload_n 0, 1) := by decide +kernel
theorem dX9_letPass_10 : decode cX9_letPass 10 = .ok (.getfield 19, 3) := by decide +kernel
theorem dX9_letPass_13 : decode cX9_letPass 13 = .ok (.bipush 6, 2) := by decide +kernel
theorem dX9_letPass_15 : decode cX9_letPass 15 = .ok (.iaload, 1) := by decide +kernel
theorem dX9_letPass_16 : decode cX9_letPass 16 = .ok (.iload_n 1, 1) := by decide +kernel
theorem dX9_letPass_17 : decode cX9_letPass 17 = .ok (.iadd, 1) := by decide +kernel
theorem dX9_letPass_18 : decode cX9_letPass 18 = .ok (.invokestatic 136, 3) := by decide +kernel
theorem dX9_letPass_21 : decode cX9_letPass 21 = .ok (.iastore, 1) := by decide +kernel
theorem dX9_letPass_22 : decode cX9_letPass 22 = .ok (.return_, 1) := by decide +kernel
theorem dX9_foldInto_0 : decode cX9_foldInto 0 = .ok (.lload_n 1, 1) := by decide +kernel
theorem dX9_foldInto_1 : decode cX9_foldInto 1 = .ok (.lstore_n 3, 1) := by decide +kernel
theorem dX9_foldInto_2 : decode cX9_foldInto 2 = .ok (.iconst 0, 1) := by decide +kernel
theorem dX9_foldInto_3 : decode cX9_foldInto 3 = .ok (.istore 5, 2) := by decide +kernel
theorem dX9_foldInto_5 : decode cX9_foldInto 5 = .ok (.iload 5, 2) := by decide +kernel
theorem dX9_foldInto_7 : decode cX9_foldInto 7 = .ok (.iconst 5, 1) := by decide +kernel
theorem dX9_foldInto_8 : decode cX9_foldInto 8 = .ok (.if_icmp .gt 24, 3) := by decide +kernel
theorem dX9_foldInto_11 : decode cX9_foldInto 11 = .ok (.ldc2_w 139, 3) := by decide +kernel
theorem dX9_foldInto_14 : decode cX9_foldInto 14 = .ok (.lload_n 3, 1) := by decide +kernel
theorem dX9_foldInto_15 : decode cX9_foldInto 15 = .ok (.lmul, 1) := by decide +kernel
theorem dX9_foldInto_16 : decode cX9_foldInto 16 = .ok (.aload_n 0, 1) := by decide +kernel
theorem dX9_foldInto_17 : decode cX9_foldInto 17 = .ok (.getfield 19, 3) := by decide +kernel
theorem dX9_foldInto_20 : decode cX9_foldInto 20 = .ok (.iload 5, 2) := by decide +kernel
theorem dX9_foldInto_22 : decode cX9_foldInto 22 = .ok (.iaload, 1) := by decide +kernel
theorem dX9_foldInto_23 : decode cX9_foldInto 23 = .ok (.i2l, 1) := by decide +kernel
theorem dX9_foldInto_24 : decode cX9_foldInto 24 = .ok (.ladd, 1) := by decide +kernel
theorem dX9_foldInto_25 : decode cX9_foldInto 25 = .ok (.lstore_n 3, 1) := by decide +kernel
theorem dX9_foldInto_26 : decode cX9_foldInto 26 = .ok (.iinc 5 1, 3) := by decide +kernel
theorem dX9_foldInto_29 : decode cX9_foldInto 29 = .ok (.goto (-24), 3) := by decide +kernel
theorem dX9_foldInto_32 : decode cX9_foldInto 32 = .ok (.iconst 0, 1) := by decide +kernel
theorem dX9_foldInto_33 : decode cX9_foldInto 33 = .ok (.istore 5, 2) := by decide +kernel
theorem dX9_foldInto_35 : decode cX9_foldInto 35 = .ok (.iload 5, 2) := by decide +kernel
theorem dX9_foldInto_37 : decode cX9_foldInto 37 = .ok (.bipush 6, 2) := by decide +kernel
theorem dX9_foldInto_39 : decode cX9_foldInto 39 = .ok (.if_icmp .ge 24, 3) := by decide +kernel
theorem dX9_foldInto_42 : decode cX9_foldInto 42 = .ok (.ldc2_w 139, 3) := by decide +kernel
theorem dX9_foldInto_45 : decode cX9_foldInto 45 = .ok (.lload_n 3, 1) := by decide +kernel
theorem dX9_foldInto_46 : decode cX9_foldInto 46 = .ok (.lmul, 1) := by decide +kernel
theorem dX9_foldInto_47 : decode cX9_foldInto 47 = .ok (.aload_n 0, 1) := by decide +kernel
theorem dX9_foldInto_48 : decode cX9_foldInto 48 = .ok (.getfield 15, 3) := by decide +kernel
theorem dX9_foldInto_51 : decode cX9_foldInto 51 = .ok (.iload 5, 2) := by decide +kernel
theorem dX9_foldInto_53 : decode cX9_foldInto 53 = .ok (.iaload, 1) := by decide +kernel
theorem dX9_foldInto_54 : decode cX9_foldInto 54 = .ok (.i2l, 1) := by decide +kernel
theorem dX9_foldInto_55 : decode cX9_foldInto 55 = .ok (.ladd, 1) := by decide +kernel
theorem dX9_foldInto_56 : decode cX9_foldInto 56 = .ok (.lstore_n 3, 1) := by decide +kernel
theorem dX9_foldInto_57 : decode cX9_foldInto 57 = .ok (.iinc 5 1, 3) := by decide +kernel
theorem dX9_foldInto_60 : decode cX9_foldInto 60 = .ok (.goto (-25), 3) := by decide +kernel
theorem dX9_foldInto_63 : decode cX9_foldInto 63 = .ok (.aload_n 0, 1) := by decide +kernel
theorem dX9_foldInto_64 : decode cX9_foldInto 64 = .ok (.getfield 27, 3) := by decide +kernel
theorem dX9_foldInto_67 : decode cX9_foldInto 67 = .ok (.lload_n 3, 1) := by decide +kernel
theorem dX9_foldInto_68 : decode cX9_foldInto 68 = .ok (.invokevirtual 141, 3) := by decide +kernel
theorem dX9_foldInto_71 : decode cX9_foldInto 71 = .ok (.lstore_n 3, 1) := by decide +kernel
theorem dX9_foldInto_72 : decode cX9_foldInto 72 = .ok (.aload_n 0, 1) := by decide +kernel
theorem dX9_foldInto_73 : decode cX9_foldInto 73 = .ok (.getfield 31, 3) := by decide +kernel
theorem dX9_foldInto_76 : decode cX9_foldInto 76 = .ok (.lload_n 3, 1) := by decide +kernel
theorem dX9_foldInto_77 : decode cX9_foldInto 77 = .ok (.invokevirtual 141, 3) := by decide +kernel
theorem dX9_foldInto_80 : decode cX9_foldInto 80 = .ok (.lstore_n 3, 1) := by decide +kernel
theorem dX9_foldInto_81 : decode cX9_foldInto 81 = .ok (.aload_n 0, 1) := by decide +kernel
theorem dX9_foldInto_82 : decode cX9_foldInto 82 = .ok (.getfield 34, 3) := by decide +kernel
theorem dX9_foldInto_85 : decode cX9_foldInto 85 = .ok (.lload_n 3, 1) := by decide +kernel
theorem dX9_foldInto_86 : decode cX9_foldInto 86 = .ok (.invokevirtual 141, 3) := by decide +kernel
theorem dX9_foldInto_89 : decode cX9_foldInto 89 = .ok (.lstore_n 3, 1) := by decide +kernel
theorem dX9_foldInto_90 : decode cX9_foldInto 90 = .ok (.aload_n 0, 1) := by decide +kernel
theorem dX9_foldInto_91 : decode cX9_foldInto 91 = .ok (.getfield 37, 3) := by decide +kernel
theorem dX9_foldInto_94 : decode cX9_foldInto 94 = .ok (.lload_n 3, 1) := by decide +kernel
theorem dX9_foldInto_95 : decode cX9_foldInto 95 = .ok (.invokevirtual 141, 3) := by decide +kernel
theorem dX9_foldInto_98 : decode cX9_foldInto 98 = .ok (.lreturn, 1) := by decide +kernel
theorem dX9_help_0 : decode cX9_help 0 = .ok (.iload_n 0, 1) := by decide +kernel
theorem dX9_help_1 : decode cX9_help 1 = .ok (.ifCond .ne 7, 3) := by decide +kernel
theorem dX9_help_4 : decode cX9_help 4 = .ok (.iload_n 1, 1) := by decide +kernel
theorem dX9_help_5 : decode cX9_help 5 = .ok (.goto 5, 3) := by decide +kernel
theorem dX9_help_8 : decode cX9_help 8 = .ok (.iload_n 1, 1) := by decide +kernel
theorem dX9_help_9 : decode cX9_help 9 = .ok (.ineg, 1) := by decide +kernel
theorem dX9_help_10 : decode cX9_help 10 = .ok (.ireturn, 1) := by decide +kernel
theorem dX10_init_0 : decode cX10_init 0 = .ok (.aload_n 0, 1) := by decide +kernel
theorem dX10_init_1 : decode cX10_init 1 = .ok (.invokespecial 1, 3) := by decide +kernel
theorem dX10_init_4 : decode cX10_init 4 = .ok (.aload_n 0, 1) := by decide +kernel
theorem dX10_init_5 : decode cX10_init 5 = .ok (.new 7, 3) := by decide +kernel
theorem dX10_init_8 : decode cX10_init 8 = .ok (.dup, 1) := by decide +kernel
theorem dX10_init_9 : decode cX10_init 9 = .ok (.invokespecial 9, 3) := by decide +kernel
theorem dX10_init_12 : decode cX10_init 12 = .ok (.putfield 10, 3) := by decide +kernel
theorem dX10_init_15 : decode cX10_init 15 = .ok (.aload_n 0, 1) := by decide +kernel
theorem dX10_init_16 : decode cX10_init 16 = .ok (.new 7, 3) := by decide +kernel
theorem dX10_init_19 : decode cX10_init 19 = .ok (.dup, 1) := by decide +kernel
theorem dX10_init_20 : decode cX10_init 20 = .ok (.invokespecial 9, 3) := by decide +kernel
theorem dX10_init_23 : decode cX10_init 23 = .ok (.putfield 16, 3) := by decide +kernel
theorem dX10_init_26 : decode cX10_init 26 = .ok (.aload_n 0, 1) := by decide +kernel
theorem dX10_init_27 : decode cX10_init 27 = .ok (.new 7, 3) := by decide +kernel
