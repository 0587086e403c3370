theorem dX11_rally_65 : decode cX11_rally 65 = .ok (.bipush 8, 2) := by decide +kernel
theorem dX11_rally_67 : decode cX11_rally 67 = .ok (.iaload, 1) := by decide +kernel
theorem dX11_rally_68 : decode cX11_rally 68 = .ok (.iconst 0, 1) := by decide +kernel
theorem dX11_rally_69 : decode cX11_rally 69 = .ok (.invokestatic 146, 3) := by decide +kernel
theorem dX11_rally_72 : decode cX11_rally 72 = .ok (.iaload, 1) := by decide +kernel
theorem dX11_rally_73 : decode cX11_rally 73 = .ok (.goto 5, 3) := by decide +kernel
theorem dX11_rally_76 : decode cX11_rally 76 = .ok (.ldc 145, 2) := by decide +kernel
theorem dX11_rally_78 : decode cX11_rally 78 = .ok (.istore_n 3, 1) := by decide +kernel
theorem dX11_rally_79 : decode cX11_rally 79 = .ok (.iload_n 3, 1) := by decide +kernel
theorem dX11_rally_80 : decode cX11_rally 80 = .ok (.bipush 20, 2) := by decide +kernel
theorem dX11_rally_82 : decode cX11_rally 82 = .ok (.if_icmp .le 6, 3) := by decide +kernel
theorem dX11_rally_85 : decode cX11_rally 85 = .ok (.bipush (-6), 2) := by decide +kernel
theorem dX11_rally_87 : decode cX11_rally 87 = .ok (.ireturn, 1) := by decide +kernel
theorem dX11_rally_88 : decode cX11_rally 88 = .ok (.iload_n 2, 1) := by decide +kernel
theorem dX11_rally_89 : decode cX11_rally 89 = .ok (.bipush (-2), 2) := by decide +kernel
theorem dX11_rally_91 : decode cX11_rally 91 = .ok (.if_icmp .ne 7, 3) := by decide +kernel
theorem dX11_rally_94 : decode cX11_rally 94 = .ok (.iload_n 3, 1) := by decide +kernel
theorem dX11_rally_95 : decode cX11_rally 95 = .ok (.goto 19, 3) := by decide +kernel
theorem dX11_rally_98 : decode cX11_rally 98 = .ok (.iload_n 2, 1) := by decide +kernel
theorem dX11_rally_99 : decode cX11_rally 99 = .ok (.iload_n 3, 1) := by decide +kernel
theorem dX11_rally_100 : decode cX11_rally 100 = .ok (.if_icmp .lt 8, 3) := by decide +kernel
theorem dX11_rally_103 : decode cX11_rally 103 = .ok (.bipush (-5), 2) := by decide +kernel
theorem dX11_rally_105 : decode cX11_rally 105 = .ok (.goto 9, 3) := by decide +kernel
theorem dX11_rally_108 : decode cX11_rally 108 = .ok (.aload_n 0, 1) := by decide +kernel
theorem dX11_rally_109 : decode cX11_rally 109 = .ok (.iload_n 2, 1) := by decide +kernel
theorem dX11_rally_110 : decode cX11_rally 110 = .ok (.iload_n 3, 1) := by decide +kernel
theorem dX11_rally_111 : decode cX11_rally 111 = .ok (.invokevirtual 153, 3) := by decide +kernel
theorem dX11_rally_114 : decode cX11_rally 114 = .ok (.ireturn, 1) := by decide +kernel
theorem dX11_layHand_0 : decode cX11_layHand 0 = .ok (.iconst 0, 1) := by decide +kernel
theorem dX11_layHand_1 : decode cX11_layHand 1 = .ok (.istore_n 1, 1) := by decide +kernel
theorem dX11_layHand_2 : decode cX11_layHand 2 = .ok (.iload_n 1, 1) := by decide +kernel
theorem dX11_layHand_3 : decode cX11_layHand 3 = .ok (.bipush 40, 2) := by decide +kernel
theorem dX11_layHand_5 : decode cX11_layHand 5 = .ok (.if_icmp .ge 21, 3) := by decide +kernel
theorem dX11_layHand_8 : decode cX11_layHand 8 = .ok (.aload_n 0, 1) := by decide +kernel
theorem dX11_layHand_9 : decode cX11_layHand 9 = .ok (.getfield 30, 3) := by decide +kernel
theorem dX11_layHand_12 : decode cX11_layHand 12 = .ok (.iload_n 1, 1) := by decide +kernel
theorem dX11_layHand_13 : decode cX11_layHand 13 = .ok (.aload_n 0, 1) := by decide +kernel
theorem dX11_layHand_14 : decode cX11_layHand 14 = .ok (.getfield 7, 3) := by decide +kernel
theorem dX11_layHand_17 : decode cX11_layHand 17 = .ok (.iload_n 1, 1) := by decide +kernel
theorem dX11_layHand_18 : decode cX11_layHand 18 = .ok (.iaload, 1) := by decide +kernel
theorem dX11_layHand_19 : decode cX11_layHand 19 = .ok (.iastore, 1) := by decide +kernel
theorem dX11_layHand_20 : decode cX11_layHand 20 = .ok (.iinc 1 1, 3) := by decide +kernel
theorem dX11_layHand_23 : decode cX11_layHand 23 = .ok (.goto (-21), 3) := by decide +kernel
theorem dX11_layHand_26 : decode cX11_layHand 26 = .ok (.return_, 1) := by decide +kernel
theorem dX11_lastsBy_0 : decode cX11_lastsBy 0 = .ok (.aload_n 0, 1) := by decide +kernel
theorem dX11_lastsBy_1 : decode cX11_lastsBy 1 = .ok (.getfield 30, 3) := by decide +kernel
theorem dX11_lastsBy_4 : decode cX11_lastsBy 4 = .ok (.bipush 8, 2) := by decide +kernel
theorem dX11_lastsBy_6 : decode cX11_lastsBy 6 = .ok (.iaload, 1) := by decide +kernel
theorem dX11_lastsBy_7 : decode cX11_lastsBy 7 = .ok (.istore_n 1, 1) := by decide +kernel
theorem dX11_lastsBy_8 : decode cX11_lastsBy 8 = .ok (.iconst 0, 1) := by decide +kernel
theorem dX11_lastsBy_9 : decode cX11_lastsBy 9 = .ok (.istore_n 2, 1) := by decide +kernel
theorem dX11_lastsBy_10 : decode cX11_lastsBy 10 = .ok (.aload_n 0, 1) := by decide +kernel
theorem dX11_lastsBy_11 : decode cX11_lastsBy 11 = .ok (.getfield 30, 3) := by decide +kernel
theorem dX11_lastsBy_14 : decode cX11_lastsBy 14 = .ok (.bipush 9, 2) := by decide +kernel
theorem dX11_lastsBy_16 : decode cX11_lastsBy 16 = .ok (.iaload, 1) := by decide +kernel
theorem dX11_lastsBy_17 : decode cX11_lastsBy 17 = .ok (.iconst 1, 1) := by decide +kernel
theorem dX11_lastsBy_18 : decode cX11_lastsBy 18 = .ok (.if_icmp .ne 7, 3) := by decide +kernel
theorem dX11_lastsBy_21 : decode cX11_lastsBy 21 = .ok (.iconst 1, 1) := by decide +kernel
theorem dX11_lastsBy_22 : decode cX11_lastsBy 22 = .ok (.goto 4, 3) := by decide +kernel
theorem dX11_lastsBy_25 : decode cX11_lastsBy 25 = .ok (.iconst 0, 1) := by decide +kernel
theorem dX11_lastsBy_26 : decode cX11_lastsBy 26 = .ok (.istore_n 3, 1) := by decide +kernel
theorem dX11_lastsBy_27 : decode cX11_lastsBy 27 = .ok (.iload_n 3, 1) := by decide +kernel
theorem dX11_lastsBy_28 : decode cX11_lastsBy 28 = .ok (.ifCond .eq 101, 3) := by decide +kernel
theorem dX11_lastsBy_31 : decode cX11_lastsBy 31 = .ok (.iload_n 2, 1) := by decide +kernel
theorem dX11_lastsBy_32 : decode cX11_lastsBy 32 = .ok (.bipush 60, 2) := by decide +kernel
theorem dX11_lastsBy_34 : decode cX11_lastsBy 34 = .ok (.if_icmp .ge 95, 3) := by decide +kernel
theorem dX11_lastsBy_37 : decode cX11_lastsBy 37 = .ok (.iconst 0, 1) := by decide +kernel
theorem dX11_lastsBy_38 : decode cX11_lastsBy 38 = .ok (.istore 4, 2) := by decide +kernel
theorem dX11_lastsBy_40 : decode cX11_lastsBy 40 = .ok (.iconst 0, 1) := by decide +kernel
theorem dX11_lastsBy_41 : decode cX11_lastsBy 41 = .ok (.istore 5, 2) := by decide +kernel
theorem dX11_lastsBy_43 : decode cX11_lastsBy 43 = .ok (.iload 5, 2) := by decide +kernel
theorem dX11_lastsBy_45 : decode cX11_lastsBy 45 = .ok (.aload_n 0, 1) := by decide +kernel
theorem dX11_lastsBy_46 : decode cX11_lastsBy 46 = .ok (.invokevirtual 49, 3) := by decide +kernel
theorem dX11_lastsBy_49 : decode cX11_lastsBy 49 = .ok (.if_icmp .ge 57, 3) := by decide +kernel
theorem dX11_lastsBy_52 : decode cX11_lastsBy 52 = .ok (.iload 4, 2) := by decide +kernel
theorem dX11_lastsBy_54 : decode cX11_lastsBy 54 = .ok (.ifCond .ne 39, 3) := by decide +kernel
theorem dX11_lastsBy_57 : decode cX11_lastsBy 57 = .ok (.aload_n 0, 1) := by decide +kernel
theorem dX11_lastsBy_58 : decode cX11_lastsBy 58 = .ok (.getfield 30, 3) := by decide +kernel
theorem dX11_lastsBy_61 : decode cX11_lastsBy 61 = .ok (.bipush 26, 2) := by decide +kernel
theorem dX11_lastsBy_63 : decode cX11_lastsBy 63 = .ok (.iload 5, 2) := by decide +kernel
theorem dX11_lastsBy_65 : decode cX11_lastsBy 65 = .ok (.iadd, 1) := by decide +kernel
theorem dX11_lastsBy_66 : decode cX11_lastsBy 66 = .ok (.iaload, 1) := by decide +kernel
theorem dX11_lastsBy_67 : decode cX11_lastsBy 67 = .ok (.iload_n 1, 1) := by decide +kernel
theorem dX11_lastsBy_68 : decode cX11_lastsBy 68 = .ok (.if_icmp .ne 29, 3) := by decide +kernel
theorem dX11_lastsBy_71 : decode cX11_lastsBy 71 = .ok (.aload_n 0, 1) := by decide +kernel
theorem dX11_lastsBy_72 : decode cX11_lastsBy 72 = .ok (.getfield 30, 3) := by decide +kernel
theorem dX11_lastsBy_75 : decode cX11_lastsBy 75 = .ok (.iload 5, 2) := by decide +kernel
theorem dX11_lastsBy_77 : decode cX11_lastsBy 77 = .ok (.iload_n 1, 1) := by decide +kernel
theorem dX11_lastsBy_78 : decode cX11_lastsBy 78 = .ok (.aload_n 0, 1) := by decide +kernel
theorem dX11_lastsBy_79 : decode cX11_lastsBy 79 = .ok (.getfield 30, 3) := by decide +kernel
theorem dX11_lastsBy_82 : decode cX11_lastsBy 82 = .ok (.bipush 12, 2) := by decide +kernel
theorem dX11_lastsBy_84 : decode cX11_lastsBy 84 = .ok (.iaload, 1) := by decide +kernel
theorem dX11_lastsBy_85 : decode cX11_lastsBy 85 = .ok (.iload_n 2, 1) := by decide +kernel
theorem dX11_lastsBy_86 : decode cX11_lastsBy 86 = .ok (.iadd, 1) := by decide +kernel
theorem dX11_lastsBy_87 : decode cX11_lastsBy 87 = .ok (.invokestatic 111, 3) := by decide +kernel
theorem dX11_lastsBy_90 : decode cX11_lastsBy 90 = .ok (.ifCond .eq 7, 3) := by decide +kernel
theorem dX11_lastsBy_93 : decode cX11_lastsBy 93 = .ok (.iconst 1, 1) := by decide +kernel
theorem dX11_lastsBy_94 : decode cX11_lastsBy 94 = .ok (.goto 4, 3) := by decide +kernel
theorem dX11_lastsBy_97 : decode cX11_lastsBy 97 = .ok (.iconst 0, 1) := by decide +kernel
theorem dX11_lastsBy_98 : decode cX11_lastsBy 98 = .ok (.istore 4, 2) := by decide +kernel
theorem dX11_lastsBy_100 : decode cX11_lastsBy 100 = .ok (.iinc 5 1, 3) := by decide +kernel
theorem dX11_lastsBy_103 : decode cX11_lastsBy 103 = .ok (.goto (-60), 3) := by decide +kernel
theorem dX11_lastsBy_106 : decode cX11_lastsBy 106 = .ok (.iload 4, 2) := by decide +kernel
theorem dX11_lastsBy_108 : decode cX11_lastsBy 108 = .ok (.istore_n 3, 1) := by decide +kernel
theorem dX11_lastsBy_109 : decode cX11_lastsBy 109 = .ok (.iload_n 2, 1) := by decide +kernel
theorem dX11_lastsBy_110 : decode cX11_lastsBy 110 = .ok (.iload 4, 2) := by decide +kernel
theorem dX11_lastsBy_112 : decode cX11_lastsBy 112 = .ok (.ifCond .eq 7, 3) := by decide +kernel
theorem dX11_lastsBy_115 : decode cX11_lastsBy 115 = .ok (.iconst 1, 1) := by decide +kernel
theorem dX11_lastsBy_116 : decode cX11_lastsBy 116 = .ok (.goto 4, 3) := by decide +kernel
theorem dX11_lastsBy_119 : decode cX11_lastsBy 119 = .ok (.iconst 0, 1) := by decide +kernel
theorem dX11_lastsBy_120 : decode cX11_lastsBy 120 = .ok (.iadd, 1) := by decide +kernel
theorem dX11_lastsBy_121 : decode cX11_lastsBy 121 = .ok (.istore_n 2, 1) := by decide +kernel
theorem dX11_lastsBy_122 : decode cX11_lastsBy 122 = .ok (.iconst 1, 1) := by decide +kernel
theorem dX11_lastsBy_123 : decode cX11_lastsBy 123 = .ok (.iload_n 1, 1) := by decide +kernel
theorem dX11_lastsBy_124 : decode cX11_lastsBy 124 = .ok (.isub, 1) := by decide +kernel
theorem dX11_lastsBy_125 : decode cX11_lastsBy 125 = .ok (.istore_n 1, 1) := by decide +kernel
theorem dX11_lastsBy_126 : decode cX11_lastsBy 126 = .ok (.goto (-99), 3) := by decide +kernel
theorem dX11_lastsBy_129 : decode cX11_lastsBy 129 = .ok (.iload_n 2, 1) := by decide +kernel
theorem dX11_lastsBy_130 : decode cX11_lastsBy 130 = .ok (.ireturn, 1) := by decide +kernel
theorem dX11_lasts_0 : decode cX11_lasts 0 = .ok (.aload_n 0, 1) := by decide +kernel
theorem dX11_lasts_1 : decode cX11_lasts 1 = .ok (.invokevirtual 157, 3) := by decide +kernel
theorem dX11_lasts_4 : decode cX11_lasts 4 = .ok (.aload_n 0, 1) := by decide +kernel
theorem dX11_lasts_5 : decode cX11_lasts 5 = .ok (.invokevirtual 160, 3) := by decide +kernel
theorem dX11_lasts_8 : decode cX11_lasts 8 = .ok (.ireturn, 1) := by decide +kernel
theorem dX11_place_0 : decode cX11_place 0 = .ok (.iload_n 1, 1) := by decide +kernel
theorem dX11_place_1 : decode cX11_place 1 = .ok (.iconst (-1), 1) := by decide +kernel
theorem dX11_place_2 : decode cX11_place 2 = .ok (.if_icmp .eq 18, 3) := by decide +kernel
theorem dX11_place_5 : decode cX11_place 5 = .ok (.aload_n 0, 1) := by decide +kernel
theorem dX11_place_6 : decode cX11_place 6 = .ok (.iload_n 1, 1) := by decide +kernel
theorem dX11_place_7 : decode cX11_place 7 = .ok (.invokevirtual 118, 3) := by decide +kernel
theorem dX11_place_10 : decode cX11_place 10 = .ok (.ifCond .ne 10, 3) := by decide +kernel
theorem dX11_place_13 : decode cX11_place 13 = .ok (.aload_n 0, 1) := by decide +kernel
theorem dX11_place_14 : decode cX11_place 14 = .ok (.bipush (-10), 2) := by decide +kernel
theorem dX11_place_16 : decode cX11_place 16 = .ok (.invokevirtual 67, 3) := by decide +kernel
theorem dX11_place_19 : decode cX11_place 19 = .ok (.ireturn, 1) := by decide +kernel
theorem dX11_place_20 : decode cX11_place 20 = .ok (.iconst (-1), 1) := by decide +kernel
theorem dX11_place_21 : decode cX11_place 21 = .ok (.istore_n 2, 1) := by decide +kernel
theorem dX11_place_22 : decode cX11_place 22 = .ok (.iconst 0, 1) := by decide +kernel
theorem dX11_place_23 : decode cX11_place 23 = .ok (.istore_n 3, 1) := by decide +kernel
theorem dX11_place_24 : decode cX11_place 24 = .ok (.iconst 0, 1) := by decide +kernel
theorem dX11_place_25 : decode cX11_place 25 = .ok (.istore 4, 2) := by decide +kernel
theorem dX11_place_27 : decode cX11_place 27 = .ok (.iload 4, 2) := by decide +kernel
theorem dX11_place_29 : decode cX11_place 29 = .ok (.iconst 1, 1) := by decide +kernel
theorem dX11_place_30 : decode cX11_place 30 = .ok (.aload_n 0, 1) := by decide +kernel
theorem dX11_place_31 : decode cX11_place 31 = .ok (.invokevirtual 49, 3) := by decide +kernel
theorem dX11_place_34 : decode cX11_place 34 = .ok (.ishl, 1) := by decide +kernel
theorem dX11_place_35 : decode cX11_place 35 = .ok (.if_icmp .ge 87, 3) := by decide +kernel
theorem dX11_place_38 : decode cX11_place 38 = .ok (.aload_n 0, 1) := by decide +kernel
theorem dX11_place_39 : decode cX11_place 39 = .ok (.invokevirtual 157, 3) := by decide +kernel
theorem dX11_place_42 : decode cX11_place 42 = .ok (.iconst 0, 1) := by decide +kernel
theorem dX11_place_43 : decode cX11_place 43 = .ok (.istore 5, 2) := by decide +kernel
theorem dX11_place_45 : decode cX11_place 45 = .ok (.iload 5, 2) := by decide +kernel
theorem dX11_place_47 : decode cX11_place 47 = .ok (.aload_n 0, 1) := by decide +kernel
theorem dX11_place_48 : decode cX11_place 48 = .ok (.invokevirtual 49, 3) := by decide +kernel
theorem dX11_place_51 : decode cX11_place 51 = .ok (.if_icmp .ge 33, 3) := by decide +kernel
theorem dX11_place_54 : decode cX11_place 54 = .ok (.aload_n 0, 1) := by decide +kernel
theorem dX11_place_55 : decode cX11_place 55 = .ok (.getfield 30, 3) := by decide +kernel
theorem dX11_place_58 : decode cX11_place 58 = .ok (.bipush 26, 2) := by decide +kernel
theorem dX11_place_60 : decode cX11_place 60 = .ok (.iload 5, 2) := by decide +kernel
theorem dX11_place_62 : decode cX11_place 62 = .ok (.iadd, 1) := by decide +kernel
theorem dX11_place_63 : decode cX11_place 63 = .ok (.iload 4, 2) := by decide +kernel
theorem dX11_place_65 : decode cX11_place 65 = .ok (.aload_n 0, 1) := by decide +kernel
theorem dX11_place_66 : decode cX11_place 66 = .ok (.invokevirtual 49, 3) := by decide +kernel
theorem dX11_place_69 : decode cX11_place 69 = .ok (.iconst 1, 1) := by decide +kernel
theorem dX11_place_70 : decode cX11_place 70 = .ok (.isub, 1) := by decide +kernel
theorem dX11_place_71 : decode cX11_place 71 = .ok (.iload 5, 2) := by decide +kernel
theorem dX11_place_73 : decode cX11_place 73 = .ok (.isub, 1) := by decide +kernel
theorem dX11_place_74 : decode cX11_place 74 = .ok (.ishr, 1) := by decide +kernel
theorem dX11_place_75 : decode cX11_place 75 = .ok (.iconst 1, 1) := by decide +kernel
theorem dX11_place_76 : decode cX11_place 76 = .ok (.iand, 1) := by decide +kernel
theorem dX11_place_77 : decode cX11_place 77 = .ok (.iastore, 1) := by decide +kernel
theorem dX11_place_78 : decode cX11_place 78 = .ok (.iinc 5 1, 3) := by decide +kernel
theorem dX11_place_81 : decode cX11_place 81 = .ok (.goto (-36), 3) := by decide +kernel
theorem dX11_place_84 : decode cX11_place 84 = .ok (.aload_n 0, 1) := by decide +kernel
theorem dX11_place_85 : decode cX11_place 85 = .ok (.invokevirtual 160, 3) := by decide +kernel
theorem dX11_place_88 : decode cX11_place 88 = .ok (.istore 5, 2) := by decide +kernel
theorem dX11_place_90 : decode cX11_place 90 = .ok (.iload 5, 2) := by decide +kernel
theorem dX11_place_92 : decode cX11_place 92 = .ok (.iload_n 2, 1) := by decide +kernel
theorem dX11_place_93 : decode cX11_place 93 = .ok (.if_icmp .le 8, 3) := by decide +kernel
theorem dX11_place_96 : decode cX11_place 96 = .ok (.iload 4, 2) := by decide +kernel
theorem dX11_place_98 : decode cX11_place 98 = .ok (.goto 4, 3) := by decide +kernel
theorem dX11_place_101 : decode cX11_place 101 = .ok (.iload_n 3, 1) := by decide +kernel
theorem dX11_place_102 : decode cX11_place 102 = .ok (.istore_n 3, 1) := by decide +kernel
theorem dX11_place_103 : decode cX11_place 103 = .ok (.iload 5, 2) := by decide +kernel
theorem dX11_place_105 : decode cX11_place 105 = .ok (.iload_n 2, 1) := by decide +kernel
theorem dX11_place_106 : decode cX11_place 106 = .ok (.if_icmp .le 8, 3) := by decide +kernel
theorem dX11_place_109 : decode cX11_place 109 = .ok (.iload 5, 2) := by decide +kernel
theorem dX11_place_111 : decode cX11_place 111 = .ok (.goto 4, 3) := by decide +kernel
theorem dX11_place_114 : decode cX11_place 114 = .ok (.iload_n 2, 1) := by decide +kernel
theorem dX11_place_115 : decode cX11_place 115 = .ok (.istore_n 2, 1) := by decide +kernel
theorem dX11_place_116 : decode cX11_place 116 = .ok (.iinc 4 1, 3) := by decide +kernel
theorem dX11_place_119 : decode cX11_place 119 = .ok (.goto (-92), 3) := by decide +kernel
theorem dX11_place_122 : decode cX11_place 122 = .ok (.iload_n 1, 1) := by decide +kernel
theorem dX11_place_123 : decode cX11_place 123 = .ok (.iconst (-1), 1) := by decide +kernel
theorem dX11_place_124 : decode cX11_place 124 = .ok (.if_icmp .ne 7, 3) := by decide +kernel
theorem dX11_place_127 : decode cX11_place 127 = .ok (.iload_n 2, 1) := by decide +kernel
theorem dX11_place_128 : decode cX11_place 128 = .ok (.goto 15, 3) := by decide +kernel
theorem dX11_place_131 : decode cX11_place 131 = .ok (.iload_n 3, 1) := by decide +kernel
theorem dX11_place_132 : decode cX11_place 132 = .ok (.aload_n 0, 1) := by decide +kernel
theorem dX11_place_133 : decode cX11_place 133 = .ok (.invokevirtual 49, 3) := by decide +kernel
theorem dX11_place_136 : decode cX11_place 136 = .ok (.iconst 1, 1) := by decide +kernel
theorem dX11_place_137 : decode cX11_place 137 = .ok (.isub, 1) := by decide +kernel
theorem dX11_place_138 : decode cX11_place 138 = .ok (.iload_n 1, 1) := by decide +kernel
theorem dX11_place_139 : decode cX11_place 139 = .ok (.isub, 1) := by decide +kernel
theorem dX11_place_140 : decode cX11_place 140 = .ok (.ishr, 1) := by decide +kernel
theorem dX11_place_141 : decode cX11_place 141 = .ok (.iconst 1, 1) := by decide +kernel
theorem dX11_place_142 : decode cX11_place 142 = .ok (.iand, 1) := by decide +kernel
theorem dX11_place_143 : decode cX11_place 143 = .ok (.ireturn, 1) := by decide +kernel
theorem dX11_seen_0 : decode cX11_seen 0 = .ok (.aload_n 0, 1) := by decide +kernel
theorem dX11_seen_1 : decode cX11_seen 1 = .ok (.iload_n 1, 1) := by decide +kernel
theorem dX11_seen_2 : decode cX11_seen 2 = .ok (.invokevirtual 118, 3) := by decide +kernel
theorem dX11_seen_5 : decode cX11_seen 5 = .ok (.ifCond .eq 25, 3) := by decide +kernel
theorem dX11_seen_8 : decode cX11_seen 8 = .ok (.iload_n 2, 1) := by decide +kernel
theorem dX11_seen_9 : decode cX11_seen 9 = .ok (.i2l, 1) := by decide +kernel
theorem dX11_seen_10 : decode cX11_seen 10 = .ok (.lconst 0, 1) := by decide +kernel
theorem dX11_seen_11 : decode cX11_seen 11 = .ok (.ldc2_w 134, 3) := by decide +kernel
theorem dX11_seen_14 : decode cX11_seen 14 = .ok (.invokestatic 53, 3) := by decide +kernel
theorem dX11_seen_17 : decode cX11_seen 17 = .ok (.ifCond .eq 13, 3) := by decide +kernel
theorem dX11_seen_20 : decode cX11_seen 20 = .ok (.iload_n 3, 1) := by decide +kernel
theorem dX11_seen_21 : decode cX11_seen 21 = .ok (.i2l, 1) := by decide +kernel
theorem dX11_seen_22 : decode cX11_seen 22 = .ok (.lconst 0, 1) := by decide +kernel
theorem dX11_seen_23 : decode cX11_seen 23 = .ok (.lconst 1, 1) := by decide +kernel
theorem dX11_seen_24 : decode cX11_seen 24 = .ok (.invokestatic 53, 3) := by decide +kernel
theorem dX11_seen_27 : decode cX11_seen 27 = .ok (.ifCond .ne 10, 3) := by decide +kernel
theorem dX11_seen_30 : decode cX11_seen 30 = .ok (.aload_n 0, 1) := by decide +kernel
theorem dX11_seen_31 : decode cX11_seen 31 = .ok (.bipush (-2), 2) := by decide +kernel
theorem dX11_seen_33 : decode cX11_seen 33 = .ok (.invokevirtual 67, 3) := by decide +kernel
theorem dX11_seen_36 : decode cX11_seen 36 = .ok (.ireturn, 1) := by decide +kernel
theorem dX11_seen_37 : decode cX11_seen 37 = .ok (.aload_n 0, 1) := by decide +kernel
theorem dX11_seen_38 : decode cX11_seen 38 = .ok (.getfield 7, 3) := by decide +kernel
theorem dX11_seen_41 : decode cX11_seen 41 = .ok (.iconst 1, 1) := by decide +kernel
theorem dX11_seen_42 : decode cX11_seen 42 = .ok (.iaload, 1) := by decide +kernel
theorem dX11_seen_43 : decode cX11_seen 43 = .ok (.iconst 5, 1) := by decide +kernel
theorem dX11_seen_44 : decode cX11_seen 44 = .ok (.if_icmp .ne 8, 3) := by decide +kernel
theorem dX11_seen_47 : decode cX11_seen 47 = .ok (.aload_n 0, 1) := by decide +kernel
theorem dX11_seen_48 : decode cX11_seen 48 = .ok (.invokevirtual 84, 3) := by decide +kernel
theorem dX11_seen_51 : decode cX11_seen 51 = .ok (.ireturn, 1) := by decide +kernel
theorem dX11_seen_52 : decode cX11_seen 52 = .ok (.bipush 40, 2) := by decide +kernel
theorem dX11_seen_54 : decode cX11_seen 54 = .ok (.iconst 3, 1) := by decide +kernel
theorem dX11_seen_55 : decode cX11_seen 55 = .ok (.aload_n 0, 1) := by decide +kernel
theorem dX11_seen_56 : decode cX11_seen 56 = .ok (.getfield 7, 3) := by decide +kernel
theorem dX11_seen_59 : decode cX11_seen 59 = .ok (.iconst 1, 1) := by decide +kernel
theorem dX11_seen_60 : decode cX11_seen 60 = .ok (.iaload, 1) := by decide +kernel
theorem dX11_seen_61 : decode cX11_seen 61 = .ok (.imul, 1) := by decide +kernel
theorem dX11_seen_62 : decode cX11_seen 62 = .ok (.iadd, 1) := by decide +kernel
theorem dX11_seen_63 : decode cX11_seen 63 = .ok (.istore 4, 2) := by decide +kernel
theorem dX11_seen_65 : decode cX11_seen 65 = .ok (.aload_n 0, 1) := by decide +kernel
theorem dX11_seen_66 : decode cX11_seen 66 = .ok (.getfield 7, 3) := by decide +kernel
theorem dX11_seen_69 : decode cX11_seen 69 = .ok (.iload 4, 2) := by decide +kernel
theorem dX11_seen_71 : decode cX11_seen 71 = .ok (.iload_n 1, 1) := by decide +kernel
theorem dX11_seen_72 : decode cX11_seen 72 = .ok (.iastore, 1) := by decide +kernel
theorem dX11_seen_73 : decode cX11_seen 73 = .ok (.aload_n 0, 1) := by decide +kernel
theorem dX11_seen_74 : decode cX11_seen 74 = .ok (.getfield 7, 3) := by decide +kernel
theorem dX11_seen_77 : decode cX11_seen 77 = .ok (.iload 4, 2) := by decide +kernel
theorem dX11_seen_79 : decode cX11_seen 79 = .ok (.iconst 1, 1) := by decide +kernel
theorem dX11_seen_80 : decode cX11_seen 80 = .ok (.iadd, 1) := by decide +kernel
theorem dX11_seen_81 : decode cX11_seen 81 = .ok (.iload_n 2, 1) := by decide +kernel
theorem dX11_seen_82 : decode cX11_seen 82 = .ok (.iastore, 1) := by decide +kernel
theorem dX11_seen_83 : decode cX11_seen 83 = .ok (.aload_n 0, 1) := by decide +kernel
theorem dX11_seen_84 : decode cX11_seen 84 = .ok (.getfield 7, 3) := by decide +kernel
theorem dX11_seen_87 : decode cX11_seen 87 = .ok (.iload 4, 2) := by decide +kernel
theorem dX11_seen_89 : decode cX11_seen 89 = .ok (.iconst 2, 1) := by decide +kernel
theorem dX11_seen_90 : decode cX11_seen 90 = .ok (.iadd, 1) := by decide +kernel
theorem dX11_seen_91 : decode cX11_seen 91 = .ok (.iload_n 3, 1) := by decide +kernel
theorem dX11_seen_92 : decode cX11_seen 92 = .ok (.iastore, 1) := by decide +kernel
theorem dX11_seen_93 : decode cX11_seen 93 = .ok (.aload_n 0, 1) := by decide +kernel
theorem dX11_seen_94 : decode cX11_seen 94 = .ok (.getfield 7, 3) := by decide +kernel
theorem dX11_seen_97 : decode cX11_seen 97 = .ok (.iconst 1, 1) := by decide +kernel
theorem dX11_seen_98 : decode cX11_seen 98 = .ok (.dup2, 1) := by decide +kernel
theorem dX11_seen_99 : decode cX11_seen 99 = .ok (.iaload, 1) := by decide +kernel
theorem dX11_seen_100 : decode cX11_seen 100 = .ok (.iconst 1, 1) := by decide +kernel
theorem dX11_seen_101 : decode cX11_seen 101 = .ok (.iadd, 1) := by decide +kernel
theorem dX11_seen_102 : decode cX11_seen 102 = .ok (.iastore, 1) := by decide +kernel
theorem dX11_seen_103 : decode cX11_seen 103 = .ok (.aload_n 0, 1) := by decide +kernel
theorem dX11_seen_104 : decode cX11_seen 104 = .ok (.getfield 7, 3) := by decide +kernel
theorem dX11_seen_107 : decode cX11_seen 107 = .ok (.iconst 1, 1) := by decide +kernel
theorem dX11_seen_108 : decode cX11_seen 108 = .ok (.iaload, 1) := by decide +kernel
theorem dX11_seen_109 : decode cX11_seen 109 = .ok (.ireturn, 1) := by decide +kernel
theorem dX11_isOverBy_0 : decode cX11_isOverBy 0 = .ok (.aload_n 0, 1) := by decide +kernel
theorem dX11_isOverBy_1 : decode cX11_isOverBy 1 = .ok (.getfield 7, 3) := by decide +kernel
theorem dX11_isOverBy_4 : decode cX11_isOverBy 4 = .ok (.iload_n 1, 1) := by decide +kernel
theorem dX11_isOverBy_5 : decode cX11_isOverBy 5 = .ok (.aload_n 0, 1) := by decide +kernel
theorem dX11_isOverBy_6 : decode cX11_isOverBy 6 = .ok (.getfield 7, 3) := by decide +kernel
theorem dX11_isOverBy_9 : decode cX11_isOverBy 9 = .ok (.bipush 26, 2) := by decide +kernel
theorem dX11_isOverBy_11 : decode cX11_isOverBy 11 = .ok (.iload_n 1, 1) := by decide +kernel
theorem dX11_isOverBy_12 : decode cX11_isOverBy 12 = .ok (.iadd, 1) := by decide +kernel
theorem dX11_isOverBy_13 : decode cX11_isOverBy 13 = .ok (.iaload, 1) := by decide +kernel
theorem dX11_isOverBy_14 : decode cX11_isOverBy 14 = .ok (.iload_n 2, 1) := by decide +kernel
theorem dX11_isOverBy_15 : decode cX11_isOverBy 15 = .ok (.iload_n 3, 1) := by decide +kernel
theorem dX11_isOverBy_16 : decode cX11_isOverBy 16 = .ok (.invokestatic 103, 3) := by decide +kernel
theorem dX11_isOverBy_19 : decode cX11_isOverBy 19 = .ok (.aload_n 0, 1) := by decide +kernel
theorem dX11_isOverBy_20 : decode cX11_isOverBy 20 = .ok (.getfield 7, 3) := by decide +kernel
theorem dX11_isOverBy_23 : decode cX11_isOverBy 23 = .ok (.iconst 5, 1) := by decide +kernel
theorem dX11_isOverBy_24 : decode cX11_isOverBy 24 = .ok (.iaload, 1) := by decide +kernel
theorem dX11_isOverBy_25 : decode cX11_isOverBy 25 = .ok (.if_icmp .lt 7, 3) := by decide +kernel
theorem dX11_isOverBy_28 : decode cX11_isOverBy 28 = .ok (.iconst 1, 1) := by decide +kernel
theorem dX11_isOverBy_29 : decode cX11_isOverBy 29 = .ok (.goto 4, 3) := by decide +kernel
theorem dX11_isOverBy_32 : decode cX11_isOverBy 32 = .ok (.iconst 0, 1) := by decide +kernel
theorem dX11_isOverBy_33 : decode cX11_isOverBy 33 = .ok (.ireturn, 1) := by decide +kernel
theorem dX11_isHeavy_0 : decode cX11_isHeavy 0 = .ok (.iconst 1, 1) := by decide +kernel
theorem dX11_isHeavy_1 : decode cX11_isHeavy 1 = .ok (.istore_n 2, 1) := by decide +kernel
theorem dX11_isHeavy_2 : decode cX11_isHeavy 2 = .ok (.iconst 0, 1) := by decide +kernel
theorem dX11_isHeavy_3 : decode cX11_isHeavy 3 = .ok (.istore_n 3, 1) := by decide +kernel
theorem dX11_isHeavy_4 : decode cX11_isHeavy 4 = .ok (.iload_n 3, 1) := by decide +kernel
theorem dX11_isHeavy_5 : decode cX11_isHeavy 5 = .ok (.aload_n 0, 1) := by decide +kernel
theorem dX11_isHeavy_6 : decode cX11_isHeavy 6 = .ok (.getfield 7, 3) := by decide +kernel
theorem dX11_isHeavy_9 : decode cX11_isHeavy 9 = .ok (.iconst 1, 1) := by decide +kernel
theorem dX11_isHeavy_10 : decode cX11_isHeavy 10 = .ok (.iaload, 1) := by decide +kernel
theorem dX11_isHeavy_11 : decode cX11_isHeavy 11 = .ok (.if_icmp .ge 69, 3) := by decide +kernel
theorem dX11_isHeavy_14 : decode cX11_isHeavy 14 = .ok (.bipush 40, 2) := by decide +kernel
theorem dX11_isHeavy_16 : decode cX11_isHeavy 16 = .ok (.iconst 3, 1) := by decide +kernel
theorem dX11_isHeavy_17 : decode cX11_isHeavy 17 = .ok (.iload_n 3, 1) := by decide +kernel
theorem dX11_isHeavy_18 : decode cX11_isHeavy 18 = .ok (.imul, 1) := by decide +kernel
theorem dX11_isHeavy_19 : decode cX11_isHeavy 19 = .ok (.iadd, 1) := by decide +kernel
theorem dX11_isHeavy_20 : decode cX11_isHeavy 20 = .ok (.istore 4, 2) := by decide +kernel
theorem dX11_isHeavy_22 : decode cX11_isHeavy 22 = .ok (.iload_n 2, 1) := by decide +kernel
theorem dX11_isHeavy_23 : decode cX11_isHeavy 23 = .ok (.ifCond .eq 49, 3) := by decide +kernel
theorem dX11_isHeavy_26 : decode cX11_isHeavy 26 = .ok (.aload_n 0, 1) := by decide +kernel
theorem dX11_isHeavy_27 : decode cX11_isHeavy 27 = .ok (.aload_n 0, 1) := by decide +kernel
theorem dX11_isHeavy_28 : decode cX11_isHeavy 28 = .ok (.getfield 7, 3) := by decide +kernel
theorem dX11_isHeavy_31 : decode cX11_isHeavy 31 = .ok (.iload 4, 2) := by decide +kernel
theorem dX11_isHeavy_33 : decode cX11_isHeavy 33 = .ok (.iaload, 1) := by decide +kernel
theorem dX11_isHeavy_34 : decode cX11_isHeavy 34 = .ok (.aload_n 0, 1) := by decide +kernel
theorem dX11_isHeavy_35 : decode cX11_isHeavy 35 = .ok (.getfield 7, 3) := by decide +kernel
theorem dX11_isHeavy_38 : decode cX11_isHeavy 38 = .ok (.iload 4, 2) := by decide +kernel
theorem dX11_isHeavy_40 : decode cX11_isHeavy 40 = .ok (.iconst 1, 1) := by decide +kernel
theorem dX11_isHeavy_41 : decode cX11_isHeavy 41 = .ok (.iadd, 1) := by decide +kernel
theorem dX11_isHeavy_42 : decode cX11_isHeavy 42 = .ok (.iaload, 1) := by decide +kernel
theorem dX11_isHeavy_43 : decode cX11_isHeavy 43 = .ok (.iload_n 1, 1) := by decide +kernel
theorem dX11_isHeavy_44 : decode cX11_isHeavy 44 = .ok (.invokevirtual 163, 3) := by decide +kernel
theorem dX11_isHeavy_47 : decode cX11_isHeavy 47 = .ok (.aload_n 0, 1) := by decide +kernel
theorem dX11_isHeavy_48 : decode cX11_isHeavy 48 = .ok (.getfield 7, 3) := by decide +kernel
theorem dX11_isHeavy_51 : decode cX11_isHeavy 51 = .ok (.iload 4, 2) := by decide +kernel
theorem dX11_isHeavy_53 : decode cX11_isHeavy 53 = .ok (.iconst 2, 1) := by decide +kernel
theorem dX11_isHeavy_54 : decode cX11_isHeavy 54 = .ok (.iadd, 1) := by decide +kernel
theorem dX11_isHeavy_55 : decode cX11_isHeavy 55 = .ok (.iaload, 1) := by decide +kernel
theorem dX11_isHeavy_56 : decode cX11_isHeavy 56 = .ok (.iconst 1, 1) := by decide +kernel
theorem dX11_isHeavy_57 : decode cX11_isHeavy 57 = .ok (.if_icmp .ne 7, 3) := by decide +kernel
theorem dX11_isHeavy_60 : decode cX11_isHeavy 60 = .ok (.iconst 1, 1) := by decide +kernel
theorem dX11_isHeavy_61 : decode cX11_isHeavy 61 = .ok (.goto 4, 3) := by decide +kernel
theorem dX11_isHeavy_64 : decode cX11_isHeavy 64 = .ok (.iconst 0, 1) := by decide +kernel
theorem dX11_isHeavy_65 : decode cX11_isHeavy 65 = .ok (.if_icmp .ne 7, 3) := by decide +kernel
theorem dX11_isHeavy_68 : decode cX11_isHeavy 68 = .ok (.iconst 1, 1) := by decide +kernel
theorem dX11_isHeavy_69 : decode cX11_isHeavy 69 = .ok (.goto 4, 3) := by decide +kernel
theorem dX11_isHeavy_72 : decode cX11_isHeavy 72 = .ok (.iconst 0, 1) := by decide +kernel
theorem dX11_isHeavy_73 : decode cX11_isHeavy 73 = .ok (.istore_n 2, 1) := by decide +kernel
theorem dX11_isHeavy_74 : decode cX11_isHeavy 74 = .ok (.iinc 3 1, 3) := by decide +kernel
theorem dX11_isHeavy_77 : decode cX11_isHeavy 77 = .ok (.goto (-73), 3) := by decide +kernel
theorem dX11_isHeavy_80 : decode cX11_isHeavy 80 = .ok (.iload_n 2, 1) := by decide +kernel
theorem dX11_isHeavy_81 : decode cX11_isHeavy 81 = .ok (.ireturn, 1) := by decide +kernel
theorem dX11_heavy_0 : decode cX11_heavy 0 = .ok (.iload_n 1, 1) := by decide +kernel
theorem dX11_heavy_1 : decode cX11_heavy 1 = .ok (.i2l, 1) := by decide +kernel
theorem dX11_heavy_2 : decode cX11_heavy 2 = .ok (.lconst 0, 1) := by decide +kernel
theorem dX11_heavy_3 : decode cX11_heavy 3 = .ok (.ldc2_w 167, 3) := by decide +kernel
theorem dX11_heavy_6 : decode cX11_heavy 6 = .ok (.invokestatic 53, 3) := by decide +kernel
theorem dX11_heavy_9 : decode cX11_heavy 9 = .ok (.ifCond .ne 10, 3) := by decide +kernel
theorem dX11_heavy_12 : decode cX11_heavy 12 = .ok (.aload_n 0, 1) := by decide +kernel
theorem dX11_heavy_13 : decode cX11_heavy 13 = .ok (.bipush (-2), 2) := by decide +kernel
theorem dX11_heavy_15 : decode cX11_heavy 15 = .ok (.invokevirtual 67, 3) := by decide +kernel
theorem dX11_heavy_18 : decode cX11_heavy 18 = .ok (.ireturn, 1) := by decide +kernel
theorem dX11_heavy_19 : decode cX11_heavy 19 = .ok (.iconst 0, 1) := by decide +kernel
theorem dX11_heavy_20 : decode cX11_heavy 20 = .ok (.istore_n 2, 1) := by decide +kernel
theorem dX11_heavy_21 : decode cX11_heavy 21 = .ok (.iconst (-1), 1) := by decide +kernel
theorem dX11_heavy_22 : decode cX11_heavy 22 = .ok (.istore_n 3, 1) := by decide +kernel
theorem dX11_heavy_23 : decode cX11_heavy 23 = .ok (.iconst (-1), 1) := by decide +kernel
theorem dX11_heavy_24 : decode cX11_heavy 24 = .ok (.istore 4, 2) := by decide +kernel
theorem dX11_heavy_26 : decode cX11_heavy 26 = .ok (.iconst 1, 1) := by decide +kernel
theorem dX11_heavy_27 : decode cX11_heavy 27 = .ok (.istore 5, 2) := by decide +kernel
theorem dX11_heavy_29 : decode cX11_heavy 29 = .ok (.iload 5, 2) := by decide +kernel
theorem dX11_heavy_31 : decode cX11_heavy 31 = .ok (.bipush 10, 2) := by decide +kernel
theorem dX11_heavy_33 : decode cX11_heavy 33 = .ok (.if_icmp .ge 36, 3) := by decide +kernel
theorem dX11_heavy_36 : decode cX11_heavy 36 = .ok (.aload_n 0, 1) := by decide +kernel
theorem dX11_heavy_37 : decode cX11_heavy 37 = .ok (.iload 5, 2) := by decide +kernel
theorem dX11_heavy_39 : decode cX11_heavy 39 = .ok (.invokevirtual 169, 3) := by decide +kernel
theorem dX11_heavy_42 : decode cX11_heavy 42 = .ok (.ifCond .eq 21, 3) := by decide +kernel
theorem dX11_heavy_45 : decode cX11_heavy 45 = .ok (.iload_n 2, 1) := by decide +kernel
theorem dX11_heavy_46 : decode cX11_heavy 46 = .ok (.ifCond .ne 8, 3) := by decide +kernel
theorem dX11_heavy_49 : decode cX11_heavy 49 = .ok (.iload 5, 2) := by decide +kernel
theorem dX11_heavy_51 : decode cX11_heavy 51 = .ok (.goto 4, 3) := by decide +kernel
theorem dX11_heavy_54 : decode cX11_heavy 54 = .ok (.iload_n 3, 1) := by decide +kernel
theorem dX11_heavy_55 : decode cX11_heavy 55 = .ok (.istore_n 3, 1) := by decide +kernel
theorem dX11_heavy_56 : decode cX11_heavy 56 = .ok (.iload 5, 2) := by decide +kernel
theorem dX11_heavy_58 : decode cX11_heavy 58 = .ok (.istore 4, 2) := by decide +kernel
theorem dX11_heavy_60 : decode cX11_heavy 60 = .ok (.iinc 2 1, 3) := by decide +kernel
theorem dX11_heavy_63 : decode cX11_heavy 63 = .ok (.iinc 5 1, 3) := by decide +kernel
theorem dX11_heavy_66 : decode cX11_heavy 66 = .ok (.goto (-37), 3) := by decide +kernel
theorem dX11_heavy_69 : decode cX11_heavy 69 = .ok (.iload_n 1, 1) := by decide +kernel
theorem dX11_heavy_70 : decode cX11_heavy 70 = .ok (.ifCond .ne 7, 3) := by decide +kernel
theorem dX11_heavy_73 : decode cX11_heavy 73 = .ok (.iload_n 2, 1) := by decide +kernel
theorem dX11_heavy_74 : decode cX11_heavy 74 = .ok (.goto 14, 3) := by decide +kernel
theorem dX11_heavy_77 : decode cX11_heavy 77 = .ok (.iload_n 1, 1) := by decide +kernel
theorem dX11_heavy_78 : decode cX11_heavy 78 = .ok (.iconst 1, 1) := by decide +kernel
theorem dX11_heavy_79 : decode cX11_heavy 79 = .ok (.if_icmp .ne 7, 3) := by decide +kernel
theorem dX11_heavy_82 : decode cX11_heavy 82 = .ok (.iload_n 3, 1) := by decide +kernel
theorem dX11_heavy_83 : decode cX11_heavy 83 = .ok (.goto 5, 3) := by decide +kernel
theorem dX11_heavy_86 : decode cX11_heavy 86 = .ok (.iload 4, 2) := by decide +kernel
theorem dX11_heavy_88 : decode cX11_heavy 88 = .ok (.ireturn, 1) := by decide +kernel
theorem dX11_tell_0 : decode cX11_tell 0 = .ok (.aload_n 0, 1) := by decide +kernel
theorem dX11_tell_1 : decode cX11_tell 1 = .ok (.iload_n 1, 1) := by decide +kernel
theorem dX11_tell_2 : decode cX11_tell 2 = .ok (.invokevirtual 118, 3) := by decide +kernel
theorem dX11_tell_5 : decode cX11_tell 5 = .ok (.ifCond .ne 10, 3) := by decide +kernel
theorem dX11_tell_8 : decode cX11_tell 8 = .ok (.aload_n 0, 1) := by decide +kernel
theorem dX11_tell_9 : decode cX11_tell 9 = .ok (.bipush (-2), 2) := by decide +kernel
theorem dX11_tell_11 : decode cX11_tell 11 = .ok (.invokevirtual 67, 3) := by decide +kernel
theorem dX11_tell_14 : decode cX11_tell 14 = .ok (.ireturn, 1) := by decide +kernel
theorem dX11_tell_15 : decode cX11_tell 15 = .ok (.iconst (-1), 1) := by decide +kernel
theorem dX11_tell_16 : decode cX11_tell 16 = .ok (.istore_n 2, 1) := by decide +kernel
theorem dX11_tell_17 : decode cX11_tell 17 = .ok (.ldc 145, 2) := by decide +kernel
theorem dX11_tell_19 : decode cX11_tell 19 = .ok (.istore_n 3, 1) := by decide +kernel
theorem dX11_tell_20 : decode cX11_tell 20 = .ok (.iconst 0, 1) := by decide +kernel
theorem dX11_tell_21 : decode cX11_tell 21 = .ok (.istore 4, 2) := by decide +kernel
theorem dX11_tell_23 : decode cX11_tell 23 = .ok (.iload 4, 2) := by decide +kernel
theorem dX11_tell_25 : decode cX11_tell 25 = .ok (.bipush 24, 2) := by decide +kernel
theorem dX11_tell_27 : decode cX11_tell 27 = .ok (.if_icmp .ge 142, 3) := by decide +kernel
theorem dX11_tell_30 : decode cX11_tell 30 = .ok (.iconst 0, 1) := by decide +kernel
theorem dX11_tell_31 : decode cX11_tell 31 = .ok (.istore 5, 2) := by decide +kernel
theorem dX11_tell_33 : decode cX11_tell 33 = .ok (.iconst 0, 1) := by decide +kernel
theorem dX11_tell_34 : decode cX11_tell 34 = .ok (.istore 6, 2) := by decide +kernel
theorem dX11_tell_36 : decode cX11_tell 36 = .ok (.iconst 1, 1) := by decide +kernel
theorem dX11_tell_37 : decode cX11_tell 37 = .ok (.istore 7, 2) := by decide +kernel
theorem dX11_tell_39 : decode cX11_tell 39 = .ok (.iload 7, 2) := by decide +kernel
theorem dX11_tell_41 : decode cX11_tell 41 = .ok (.bipush 10, 2) := by decide +kernel
theorem dX11_tell_43 : decode cX11_tell 43 = .ok (.if_icmp .ge 68, 3) := by decide +kernel
theorem dX11_tell_46 : decode cX11_tell 46 = .ok (.aload_n 0, 1) := by decide +kernel
theorem dX11_tell_47 : decode cX11_tell 47 = .ok (.iload_n 1, 1) := by decide +kernel
theorem dX11_tell_48 : decode cX11_tell 48 = .ok (.iload 4, 2) := by decide +kernel
theorem dX11_tell_50 : decode cX11_tell 50 = .ok (.iload 7, 2) := by decide +kernel
theorem dX11_tell_52 : decode cX11_tell 52 = .ok (.invokevirtual 163, 3) := by decide +kernel
theorem dX11_tell_55 : decode cX11_tell 55 = .ok (.istore 8, 2) := by decide +kernel
theorem dX11_tell_57 : decode cX11_tell 57 = .ok (.iload 5, 2) := by decide +kernel
theorem dX11_tell_59 : decode cX11_tell 59 = .ok (.aload_n 0, 1) := by decide +kernel
theorem dX11_tell_60 : decode cX11_tell 60 = .ok (.iload 7, 2) := by decide +kernel
theorem dX11_tell_62 : decode cX11_tell 62 = .ok (.invokevirtual 169, 3) := by decide +kernel
theorem dX11_tell_65 : decode cX11_tell 65 = .ok (.ifCond .eq 12, 3) := by decide +kernel
theorem dX11_tell_68 : decode cX11_tell 68 = .ok (.iload 8, 2) := by decide +kernel
theorem dX11_tell_70 : decode cX11_tell 70 = .ok (.ifCond .eq 7, 3) := by decide +kernel
theorem dX11_tell_73 : decode cX11_tell 73 = .ok (.iconst 1, 1) := by decide +kernel
theorem dX11_tell_74 : decode cX11_tell 74 = .ok (.goto 4, 3) := by decide +kernel
theorem dX11_tell_77 : decode cX11_tell 77 = .ok (.iconst 0, 1) := by decide +kernel
theorem dX11_tell_78 : decode cX11_tell 78 = .ok (.iadd, 1) := by decide +kernel
theorem dX11_tell_79 : decode cX11_tell 79 = .ok (.istore 5, 2) := by decide +kernel
theorem dX11_tell_81 : decode cX11_tell 81 = .ok (.iload 6, 2) := by decide +kernel
theorem dX11_tell_83 : decode cX11_tell 83 = .ok (.aload_n 0, 1) := by decide +kernel
theorem dX11_tell_84 : decode cX11_tell 84 = .ok (.iload 7, 2) := by decide +kernel
theorem dX11_tell_86 : decode cX11_tell 86 = .ok (.invokevirtual 169, 3) := by decide +kernel
theorem dX11_tell_89 : decode cX11_tell 89 = .ok (.ifCond .eq 12, 3) := by decide +kernel
theorem dX11_tell_92 : decode cX11_tell 92 = .ok (.iload 8, 2) := by decide +kernel
theorem dX11_tell_94 : decode cX11_tell 94 = .ok (.ifCond .ne 7, 3) := by decide +kernel
theorem dX11_tell_97 : decode cX11_tell 97 = .ok (.iconst 1, 1) := by decide +kernel
theorem dX11_tell_98 : decode cX11_tell 98 = .ok (.goto 4, 3) := by decide +kernel
theorem dX11_tell_101 : decode cX11_tell 101 = .ok (.iconst 0, 1) := by decide +kernel
theorem dX11_tell_102 : decode cX11_tell 102 = .ok (.iadd, 1) := by decide +kernel
theorem dX11_tell_103 : decode cX11_tell 103 = .ok (.istore 6, 2) := by decide +kernel
theorem dX11_tell_105 : decode cX11_tell 105 = .ok (.iinc 7 1, 3) := by decide +kernel
theorem dX11_tell_108 : decode cX11_tell 108 = .ok (.goto (-69), 3) := by decide +kernel
theorem dX11_tell_111 : decode cX11_tell 111 = .ok (.iload 5, 2) := by decide +kernel
theorem dX11_tell_113 : decode cX11_tell 113 = .ok (.iload 6, 2) := by decide +kernel
theorem dX11_tell_115 : decode cX11_tell 115 = .ok (.if_icmp .le 8, 3) := by decide +kernel
theorem dX11_tell_118 : decode cX11_tell 118 = .ok (.iload 5, 2) := by decide +kernel
theorem dX11_tell_120 : decode cX11_tell 120 = .ok (.goto 5, 3) := by decide +kernel
theorem dX11_tell_123 : decode cX11_tell 123 = .ok (.iload 6, 2) := by decide +kernel
theorem dX11_tell_125 : decode cX11_tell 125 = .ok (.istore 7, 2) := by decide +kernel
theorem dX11_tell_127 : decode cX11_tell 127 = .ok (.iload 7, 2) := by decide +kernel
theorem dX11_tell_129 : decode cX11_tell 129 = .ok (.ifCond .le 14, 3) := by decide +kernel
theorem dX11_tell_132 : decode cX11_tell 132 = .ok (.iload 7, 2) := by decide +kernel
theorem dX11_tell_134 : decode cX11_tell 134 = .ok (.iload_n 3, 1) := by decide +kernel
theorem dX11_tell_135 : decode cX11_tell 135 = .ok (.if_icmp .ge 8, 3) := by decide +kernel
theorem dX11_tell_138 : decode cX11_tell 138 = .ok (.iload 4, 2) := by decide +kernel
theorem dX11_tell_140 : decode cX11_tell 140 = .ok (.goto 4, 3) := by decide +kernel
theorem dX11_tell_143 : decode cX11_tell 143 = .ok (.iload_n 2, 1) := by decide +kernel
theorem dX11_tell_144 : decode cX11_tell 144 = .ok (.istore_n 2, 1) := by decide +kernel
theorem dX11_tell_145 : decode cX11_tell 145 = .ok (.iload 7, 2) := by decide +kernel
theorem dX11_tell_147 : decode cX11_tell 147 = .ok (.ifCond .le 14, 3) := by decide +kernel
theorem dX11_tell_150 : decode cX11_tell 150 = .ok (.iload 7, 2) := by decide +kernel
theorem dX11_tell_152 : decode cX11_tell 152 = .ok (.iload_n 3, 1) := by decide +kernel
theorem dX11_tell_153 : decode cX11_tell 153 = .ok (.if_icmp .ge 8, 3) := by decide +kernel
theorem dX11_tell_156 : decode cX11_tell 156 = .ok (.iload 7, 2) := by decide +kernel
theorem dX11_tell_158 : decode cX11_tell 158 = .ok (.goto 4, 3) := by decide +kernel
theorem dX11_tell_161 : decode cX11_tell 161 = .ok (.iload_n 3, 1) := by decide +kernel
theorem dX11_tell_162 : decode cX11_tell 162 = .ok (.istore_n 3, 1) := by decide +kernel
theorem dX11_tell_163 : decode cX11_tell 163 = .ok (.iinc 4 1, 3) := by decide +kernel
theorem dX11_tell_166 : decode cX11_tell 166 = .ok (.goto (-143), 3) := by decide +kernel
theorem dX11_tell_169 : decode cX11_tell 169 = .ok (.iload_n 2, 1) := by decide +kernel
theorem dX11_tell_170 : decode cX11_tell 170 = .ok (.ireturn, 1) := by decide +kernel
theorem dX11_layFour_0 : decode cX11_layFour 0 = .ok (.aload_n 0, 1) := by decide +kernel
theorem dX11_layFour_1 : decode cX11_layFour 1 = .ok (.getfield 7, 3) := by decide +kernel
theorem dX11_layFour_4 : decode cX11_layFour 4 = .ok (.iload_n 1, 1) := by decide +kernel
theorem dX11_layFour_5 : decode cX11_layFour 5 = .ok (.iload_n 2, 1) := by decide +kernel
theorem dX11_layFour_6 : decode cX11_layFour 6 = .ok (.iastore, 1) := by decide +kernel
theorem dX11_layFour_7 : decode cX11_layFour 7 = .ok (.aload_n 0, 1) := by decide +kernel
theorem dX11_layFour_8 : decode cX11_layFour 8 = .ok (.getfield 7, 3) := by decide +kernel
theorem dX11_layFour_11 : decode cX11_layFour 11 = .ok (.iload_n 1, 1) := by decide +kernel
theorem dX11_layFour_12 : decode cX11_layFour 12 = .ok (.iconst 1, 1) := by decide +kernel
theorem dX11_layFour_13 : decode cX11_layFour 13 = .ok (.iadd, 1) := by decide +kernel
theorem dX11_layFour_14 : decode cX11_layFour 14 = .ok (.iload_n 3, 1) := by decide +kernel
theorem dX11_layFour_15 : decode cX11_layFour 15 = .ok (.iastore, 1) := by decide +kernel
theorem dX11_layFour_16 : decode cX11_layFour 16 = .ok (.aload_n 0, 1) := by decide +kernel
theorem dX11_layFour_17 : decode cX11_layFour 17 = .ok (.getfield 7, 3) := by decide +kernel
theorem dX11_layFour_20 : decode cX11_layFour 20 = .ok (.iload_n 1, 1) := by decide +kernel
theorem dX11_layFour_21 : decode cX11_layFour 21 = .ok (.iconst 2, 1) := by decide +kernel
theorem dX11_layFour_22 : decode cX11_layFour 22 = .ok (.iadd, 1) := by decide +kernel
theorem dX11_layFour_23 : decode cX11_layFour 23 = .ok (.iload 4, 2) := by decide +kernel
theorem dX11_layFour_25 : decode cX11_layFour 25 = .ok (.iastore, 1) := by decide +kernel
theorem dX11_layFour_26 : decode cX11_layFour 26 = .ok (.aload_n 0, 1) := by decide +kernel
theorem dX11_layFour_27 : decode cX11_layFour 27 = .ok (.getfield 7, 3) := by decide +kernel
theorem dX11_layFour_30 : decode cX11_layFour 30 = .ok (.iload_n 1, 1) := by decide +kernel
theorem dX11_layFour_31 : decode cX11_layFour 31 = .ok (.iconst 3, 1) := by decide +kernel
theorem dX11_layFour_32 : decode cX11_layFour 32 = .ok (.iadd, 1) := by decide +kernel
theorem dX11_layFour_33 : decode cX11_layFour 33 = .ok (.iload 5, 2) := by decide +kernel
theorem dX11_layFour_35 : decode cX11_layFour 35 = .ok (.iastore, 1) := by decide +kernel
theorem dX11_layFour_36 : decode cX11_layFour 36 = .ok (.return_, 1) := by decide +kernel
theorem dX11_note_0 : decode cX11_note 0 = .ok (.iload_n 1, 1) := by decide +kernel
theorem dX11_note_1 : decode cX11_note 1 = .ok (.invokestatic 81, 3) := by decide +kernel
theorem dX11_note_4 : decode cX11_note 4 = .ok (.ifCond .eq 35, 3) := by decide +kernel
theorem dX11_note_7 : decode cX11_note 7 = .ok (.iload_n 2, 1) := by decide +kernel
theorem dX11_note_8 : decode cX11_note 8 = .ok (.i2l, 1) := by decide +kernel
theorem dX11_note_9 : decode cX11_note 9 = .ok (.lconst 0, 1) := by decide +kernel
theorem dX11_note_10 : decode cX11_note 10 = .ok (.ldc2_w 172, 3) := by decide +kernel
theorem dX11_note_13 : decode cX11_note 13 = .ok (.invokestatic 53, 3) := by decide +kernel
theorem dX11_note_16 : decode cX11_note 16 = .ok (.ifCond .eq 23, 3) := by decide +kernel
theorem dX11_note_19 : decode cX11_note 19 = .ok (.iload_n 3, 1) := by decide +kernel
theorem dX11_note_20 : decode cX11_note 20 = .ok (.invokestatic 71, 3) := by decide +kernel
theorem dX11_note_23 : decode cX11_note 23 = .ok (.ifCond .eq 16, 3) := by decide +kernel
theorem dX11_note_26 : decode cX11_note 26 = .ok (.iload 4, 2) := by decide +kernel
theorem dX11_note_28 : decode cX11_note 28 = .ok (.i2l, 1) := by decide +kernel
theorem dX11_note_29 : decode cX11_note 29 = .ok (.lconst 0, 1) := by decide +kernel
theorem dX11_note_30 : decode cX11_note 30 = .ok (.ldc2_w 134, 3) := by decide +kernel
theorem dX11_note_33 : decode cX11_note 33 = .ok (.invokestatic 53, 3) := by decide +kernel
theorem dX11_note_36 : decode cX11_note 36 = .ok (.ifCond .ne 10, 3) := by decide +kernel
theorem dX11_note_39 : decode cX11_note 39 = .ok (.aload_n 0, 1) := by decide +kernel
theorem dX11_note_40 : decode cX11_note 40 = .ok (.bipush (-2), 2) := by decide +kernel
theorem dX11_note_42 : decode cX11_note 42 = .ok (.invokevirtual 67, 3) := by decide +kernel
theorem dX11_note_45 : decode cX11_note 45 = .ok (.ireturn, 1) := by decide +kernel
theorem dX11_note_46 : decode cX11_note 46 = .ok (.aload_n 0, 1) := by decide +kernel
theorem dX11_note_47 : decode cX11_note 47 = .ok (.getfield 7, 3) := by decide +kernel
theorem dX11_note_50 : decode cX11_note 50 = .ok (.iconst 2, 1) := by decide +kernel
theorem dX11_note_51 : decode cX11_note 51 = .ok (.iaload, 1) := by decide +kernel
theorem dX11_note_52 : decode cX11_note 52 = .ok (.bipush 6, 2) := by decide +kernel
theorem dX11_note_54 : decode cX11_note 54 = .ok (.if_icmp .ne 8, 3) := by decide +kernel
theorem dX11_note_57 : decode cX11_note 57 = .ok (.aload_n 0, 1) := by decide +kernel
theorem dX11_note_58 : decode cX11_note 58 = .ok (.invokevirtual 84, 3) := by decide +kernel
theorem dX11_note_61 : decode cX11_note 61 = .ok (.ireturn, 1) := by decide +kernel
theorem dX11_note_62 : decode cX11_note 62 = .ok (.aload_n 0, 1) := by decide +kernel
theorem dX11_note_63 : decode cX11_note 63 = .ok (.bipush 55, 2) := by decide +kernel
theorem dX11_note_65 : decode cX11_note 65 = .ok (.iconst 4, 1) := by decide +kernel
theorem dX11_note_66 : decode cX11_note 66 = .ok (.aload_n 0, 1) := by decide +kernel
theorem dX11_note_67 : decode cX11_note 67 = .ok (.getfield 7, 3) := by decide +kernel
theorem dX11_note_70 : decode cX11_note 70 = .ok (.iconst 2, 1) := by decide +kernel
theorem dX11_note_71 : decode cX11_note 71 = .ok (.iaload, 1) := by decide +kernel
theorem dX11_note_72 : decode cX11_note 72 = .ok (.imul, 1) := by decide +kernel
theorem dX11_note_73 : decode cX11_note 73 = .ok (.iadd, 1) := by decide +kernel
theorem dX11_note_74 : decode cX11_note 74 = .ok (.iload_n 1, 1) := by decide +kernel
theorem dX11_note_75 : decode cX11_note 75 = .ok (.iload_n 2, 1) := by decide +kernel
theorem dX11_note_76 : decode cX11_note 76 = .ok (.iload_n 3, 1) := by decide +kernel
theorem dX11_note_77 : decode cX11_note 77 = .ok (.iload 4, 2) := by decide +kernel
theorem dX11_note_79 : decode cX11_note 79 = .ok (.invokevirtual 174, 3) := by decide +kernel
theorem dX11_note_82 : decode cX11_note 82 = .ok (.aload_n 0, 1) := by decide +kernel
theorem dX11_note_83 : decode cX11_note 83 = .ok (.getfield 7, 3) := by decide +kernel
theorem dX11_note_86 : decode cX11_note 86 = .ok (.iconst 2, 1) := by decide +kernel
theorem dX11_note_87 : decode cX11_note 87 = .ok (.dup2, 1) := by decide +kernel
theorem dX11_note_88 : decode cX11_note 88 = .ok (.iaload, 1) := by decide +kernel
theorem dX11_note_89 : decode cX11_note 89 = .ok (.iconst 1, 1) := by decide +kernel
theorem dX11_note_90 : decode cX11_note 90 = .ok (.iadd, 1) := by decide +kernel
theorem dX11_note_91 : decode cX11_note 91 = .ok (.iastore, 1) := by decide +kernel
theorem dX11_note_92 : decode cX11_note 92 = .ok (.aload_n 0, 1) := by decide +kernel
theorem dX11_note_93 : decode cX11_note 93 = .ok (.getfield 7, 3) := by decide +kernel
theorem dX11_note_96 : decode cX11_note 96 = .ok (.iconst 2, 1) := by decide +kernel
theorem dX11_note_97 : decode cX11_note 97 = .ok (.iaload, 1) := by decide +kernel
theorem dX11_note_98 : decode cX11_note 98 = .ok (.ireturn, 1) := by decide +kernel
theorem dX11_mark_0 : decode cX11_mark 0 = .ok (.aload_n 0, 1) := by decide +kernel
theorem dX11_mark_1 : decode cX11_mark 1 = .ok (.iload_n 1, 1) := by decide +kernel
theorem dX11_mark_2 : decode cX11_mark 2 = .ok (.invokevirtual 118, 3) := by decide +kernel
theorem dX11_mark_5 : decode cX11_mark 5 = .ok (.ifCond .eq 35, 3) := by decide +kernel
theorem dX11_mark_8 : decode cX11_mark 8 = .ok (.iload_n 2, 1) := by decide +kernel
theorem dX11_mark_9 : decode cX11_mark 9 = .ok (.invokestatic 81, 3) := by decide +kernel
theorem dX11_mark_12 : decode cX11_mark 12 = .ok (.ifCond .eq 28, 3) := by decide +kernel
theorem dX11_mark_15 : decode cX11_mark 15 = .ok (.iload_n 3, 1) := by decide +kernel
theorem dX11_mark_16 : decode cX11_mark 16 = .ok (.i2l, 1) := by decide +kernel
theorem dX11_mark_17 : decode cX11_mark 17 = .ok (.lconst 0, 1) := by decide +kernel
theorem dX11_mark_18 : decode cX11_mark 18 = .ok (.ldc2_w 178, 3) := by decide +kernel
theorem dX11_mark_21 : decode cX11_mark 21 = .ok (.invokestatic 53, 3) := by decide +kernel
theorem dX11_mark_24 : decode cX11_mark 24 = .ok (.ifCond .eq 16, 3) := by decide +kernel
theorem dX11_mark_27 : decode cX11_mark 27 = .ok (.iload 4, 2) := by decide +kernel
theorem dX11_mark_29 : decode cX11_mark 29 = .ok (.i2l, 1) := by decide +kernel
theorem dX11_mark_30 : decode cX11_mark 30 = .ok (.lconst 0, 1) := by decide +kernel
theorem dX11_mark_31 : decode cX11_mark 31 = .ok (.ldc2_w 172, 3) := by decide +kernel
theorem dX11_mark_34 : decode cX11_mark 34 = .ok (.invokestatic 53, 3) := by decide +kernel
theorem dX11_mark_37 : decode cX11_mark 37 = .ok (.ifCond .ne 10, 3) := by decide +kernel
theorem dX11_mark_40 : decode cX11_mark 40 = .ok (.aload_n 0, 1) := by decide +kernel
theorem dX11_mark_41 : decode cX11_mark 41 = .ok (.bipush (-2), 2) := by decide +kernel
theorem dX11_mark_43 : decode cX11_mark 43 = .ok (.invokevirtual 67, 3) := by decide +kernel
theorem dX11_mark_46 : decode cX11_mark 46 = .ok (.ireturn, 1) := by decide +kernel
theorem dX11_mark_47 : decode cX11_mark 47 = .ok (.aload_n 0, 1) := by decide +kernel
theorem dX11_mark_48 : decode cX11_mark 48 = .ok (.getfield 7, 3) := by decide +kernel
theorem dX11_mark_51 : decode cX11_mark 51 = .ok (.iconst 3, 1) := by decide +kernel
theorem dX11_mark_52 : decode cX11_mark 52 = .ok (.iaload, 1) := by decide +kernel
theorem dX11_mark_53 : decode cX11_mark 53 = .ok (.bipush 6, 2) := by decide +kernel
theorem dX11_mark_55 : decode cX11_mark 55 = .ok (.if_icmp .ne 8, 3) := by decide +kernel
theorem dX11_mark_58 : decode cX11_mark 58 = .ok (.aload_n 0, 1) := by decide +kernel
theorem dX11_mark_59 : decode cX11_mark 59 = .ok (.invokevirtual 84, 3) := by decide +kernel
theorem dX11_mark_62 : decode cX11_mark 62 = .ok (.ireturn, 1) := by decide +kernel
theorem dX11_mark_63 : decode cX11_mark 63 = .ok (.aload_n 0, 1) := by decide +kernel
theorem dX11_mark_64 : decode cX11_mark 64 = .ok (.bipush 79, 2) := by decide +kernel
theorem dX11_mark_66 : decode cX11_mark 66 = .ok (.iconst 4, 1) := by decide +kernel
theorem dX11_mark_67 : decode cX11_mark 67 = .ok (.aload_n 0, 1) := by decide +kernel
theorem dX11_mark_68 : decode cX11_mark 68 = .ok (.getfield 7, 3) := by decide +kernel
theorem dX11_mark_71 : decode cX11_mark 71 = .ok (.iconst 3, 1) := by decide +kernel
theorem dX11_mark_72 : decode cX11_mark 72 = .ok (.iaload, 1) := by decide +kernel
theorem dX11_mark_73 : decode cX11_mark 73 = .ok (.imul, 1) := by decide +kernel
theorem dX11_mark_74 : decode cX11_mark 74 = .ok (.iadd, 1) := by decide +kernel
theorem dX11_mark_75 : decode cX11_mark 75 = .ok (.iload_n 1, 1) := by decide +kernel
theorem dX11_mark_76 : decode cX11_mark 76 = .ok (.iload_n 2, 1) := by decide +kernel
theorem dX11_mark_77 : decode cX11_mark 77 = .ok (.iload_n 3, 1) := by decide +kernel
theorem dX11_mark_78 : decode cX11_mark 78 = .ok (.iload 4, 2) := by decide +kernel
theorem dX11_mark_80 : decode cX11_mark 80 = .ok (.invokevirtual 174, 3) := by decide +kernel
theorem dX11_mark_83 : decode cX11_mark 83 = .ok (.aload_n 0, 1) := by decide +kernel
theorem dX11_mark_84 : decode cX11_mark 84 = .ok (.getfield 7, 3) := by decide +kernel
theorem dX11_mark_87 : decode cX11_mark 87 = .ok (.iconst 3, 1) := by decide +kernel
theorem dX11_mark_88 : decode cX11_mark 88 = .ok (.dup2, 1) := by decide +kernel
theorem dX11_mark_89 : decode cX11_mark 89 = .ok (.iaload, 1) := by decide +kernel
theorem dX11_mark_90 : decode cX11_mark 90 = .ok (.iconst 1, 1) := by decide +kernel
theorem dX11_mark_91 : decode cX11_mark 91 = .ok (.iadd, 1) := by decide +kernel
theorem dX11_mark_92 : decode cX11_mark 92 = .ok (.iastore, 1) := by decide +kernel
theorem dX11_mark_93 : decode cX11_mark 93 = .ok (.aload_n 0, 1) := by decide +kernel
theorem dX11_mark_94 : decode cX11_mark 94 = .ok (.getfield 7, 3) := by decide +kernel
theorem dX11_mark_97 : decode cX11_mark 97 = .ok (.iconst 3, 1) := by decide +kernel
theorem dX11_mark_98 : decode cX11_mark 98 = .ok (.iaload, 1) := by decide +kernel
theorem dX11_mark_99 : decode cX11_mark 99 = .ok (.ireturn, 1) := by decide +kernel
theorem dX11_forget_0 : decode cX11_forget 0 = .ok (.iload_n 1, 1) := by decide +kernel
theorem dX11_forget_1 : decode cX11_forget 1 = .ok (.i2l, 1) := by decide +kernel
theorem dX11_forget_2 : decode cX11_forget 2 = .ok (.lconst 0, 1) := by decide +kernel
theorem dX11_forget_3 : decode cX11_forget 3 = .ok (.ldc2_w 167, 3) := by decide +kernel
theorem dX11_forget_6 : decode cX11_forget 6 = .ok (.invokestatic 53, 3) := by decide +kernel
theorem dX11_forget_9 : decode cX11_forget 9 = .ok (.ifCond .ne 10, 3) := by decide +kernel
theorem dX11_forget_12 : decode cX11_forget 12 = .ok (.aload_n 0, 1) := by decide +kernel
theorem dX11_forget_13 : decode cX11_forget 13 = .ok (.bipush (-2), 2) := by decide +kernel
theorem dX11_forget_15 : decode cX11_forget 15 = .ok (.invokevirtual 67, 3) := by decide +kernel
theorem dX11_forget_18 : decode cX11_forget 18 = .ok (.ireturn, 1) := by decide +kernel
theorem dX11_forget_19 : decode cX11_forget 19 = .ok (.aload_n 0, 1) := by decide +kernel
theorem dX11_forget_20 : decode cX11_forget 20 = .ok (.getfield 7, 3) := by decide +kernel
theorem dX11_forget_23 : decode cX11_forget 23 = .ok (.iconst 1, 1) := by decide +kernel
theorem dX11_forget_24 : decode cX11_forget 24 = .ok (.iload_n 1, 1) := by decide +kernel
theorem dX11_forget_25 : decode cX11_forget 25 = .ok (.iadd, 1) := by decide +kernel
theorem dX11_forget_26 : decode cX11_forget 26 = .ok (.iaload, 1) := by decide +kernel
theorem dX11_forget_27 : decode cX11_forget 27 = .ok (.istore_n 2, 1) := by decide +kernel
theorem dX11_forget_28 : decode cX11_forget 28 = .ok (.aload_n 0, 1) := by decide +kernel
theorem dX11_forget_29 : decode cX11_forget 29 = .ok (.getfield 7, 3) := by decide +kernel
theorem dX11_forget_32 : decode cX11_forget 32 = .ok (.iconst 1, 1) := by decide +kernel
theorem dX11_forget_33 : decode cX11_forget 33 = .ok (.iload_n 1, 1) := by decide +kernel
theorem dX11_forget_34 : decode cX11_forget 34 = .ok (.iadd, 1) := by decide +kernel
theorem dX11_forget_35 : decode cX11_forget 35 = .ok (.iconst 0, 1) := by decide +kernel
theorem dX11_forget_36 : decode cX11_forget 36 = .ok (.iastore, 1) := by decide +kernel
theorem dX11_forget_37 : decode cX11_forget 37 = .ok (.iload_n 2, 1) := by decide +kernel
theorem dX11_forget_38 : decode cX11_forget 38 = .ok (.ireturn, 1) := by decide +kernel
theorem dX11_kindsOfCock_0 : decode cX11_kindsOfCock 0 = .ok (.iconst 0, 1) := by decide +kernel
theorem dX11_kindsOfCock_1 : decode cX11_kindsOfCock 1 = .ok (.istore_n 1, 1) := by decide +kernel
theorem dX11_kindsOfCock_2 : decode cX11_kindsOfCock 2 = .ok (.iconst 0, 1) := by decide +kernel
theorem dX11_kindsOfCock_3 : decode cX11_kindsOfCock 3 = .ok (.istore_n 2, 1) := by decide +kernel
theorem dX11_kindsOfCock_4 : decode cX11_kindsOfCock 4 = .ok (.iload_n 2, 1) := by decide +kernel
theorem dX11_kindsOfCock_5 : decode cX11_kindsOfCock 5 = .ok (.bipush 6, 2) := by decide +kernel
theorem dX11_kindsOfCock_7 : decode cX11_kindsOfCock 7 = .ok (.if_icmp .ge 105, 3) := by decide +kernel
theorem dX11_kindsOfCock_10 : decode cX11_kindsOfCock 10 = .ok (.iconst 1, 1) := by decide +kernel
theorem dX11_kindsOfCock_11 : decode cX11_kindsOfCock 11 = .ok (.istore_n 3, 1) := by decide +kernel
theorem dX11_kindsOfCock_12 : decode cX11_kindsOfCock 12 = .ok (.iconst 0, 1) := by decide +kernel
theorem dX11_kindsOfCock_13 : decode cX11_kindsOfCock 13 = .ok (.istore 4, 2) := by decide +kernel
theorem dX11_kindsOfCock_15 : decode cX11_kindsOfCock 15 = .ok (.iload 4, 2) := by decide +kernel
theorem dX11_kindsOfCock_17 : decode cX11_kindsOfCock 17 = .ok (.aload_n 0, 1) := by decide +kernel
theorem dX11_kindsOfCock_18 : decode cX11_kindsOfCock 18 = .ok (.getfield 7, 3) := by decide +kernel
theorem dX11_kindsOfCock_21 : decode cX11_kindsOfCock 21 = .ok (.iconst 2, 1) := by decide +kernel
theorem dX11_kindsOfCock_22 : decode cX11_kindsOfCock 22 = .ok (.iaload, 1) := by decide +kernel
theorem dX11_kindsOfCock_23 : decode cX11_kindsOfCock 23 = .ok (.if_icmp .ge 69, 3) := by decide +kernel
theorem dX11_kindsOfCock_26 : decode cX11_kindsOfCock 26 = .ok (.bipush 55, 2) := by decide +kernel
theorem dX11_kindsOfCock_28 : decode cX11_kindsOfCock 28 = .ok (.iconst 4, 1) := by decide +kernel
theorem dX11_kindsOfCock_29 : decode cX11_kindsOfCock 29 = .ok (.iload 4, 2) := by decide +kernel
theorem dX11_kindsOfCock_31 : decode cX11_kindsOfCock 31 = .ok (.imul, 1) := by decide +kernel
theorem dX11_kindsOfCock_32 : decode cX11_kindsOfCock 32 = .ok (.iadd, 1) := by decide +kernel
theorem dX11_kindsOfCock_33 : decode cX11_kindsOfCock 33 = .ok (.istore 5, 2) := by decide +kernel
theorem dX11_kindsOfCock_35 : decode cX11_kindsOfCock 35 = .ok (.iload_n 3, 1) := by decide +kernel
theorem dX11_kindsOfCock_36 : decode cX11_kindsOfCock 36 = .ok (.ifCond .eq 48, 3) := by decide +kernel
theorem dX11_kindsOfCock_39 : decode cX11_kindsOfCock 39 = .ok (.iload_n 2, 1) := by decide +kernel
theorem dX11_kindsOfCock_40 : decode cX11_kindsOfCock 40 = .ok (.aload_n 0, 1) := by decide +kernel
theorem dX11_kindsOfCock_41 : decode cX11_kindsOfCock 41 = .ok (.getfield 7, 3) := by decide +kernel
theorem dX11_kindsOfCock_44 : decode cX11_kindsOfCock 44 = .ok (.iload 5, 2) := by decide +kernel
theorem dX11_kindsOfCock_46 : decode cX11_kindsOfCock 46 = .ok (.iaload, 1) := by decide +kernel
theorem dX11_kindsOfCock_47 : decode cX11_kindsOfCock 47 = .ok (.aload_n 0, 1) := by decide +kernel
theorem dX11_kindsOfCock_48 : decode cX11_kindsOfCock 48 = .ok (.getfield 7, 3) := by decide +kernel
theorem dX11_kindsOfCock_51 : decode cX11_kindsOfCock 51 = .ok (.iload 5, 2) := by decide +kernel
theorem dX11_kindsOfCock_53 : decode cX11_kindsOfCock 53 = .ok (.iconst 1, 1) := by decide +kernel
theorem dX11_kindsOfCock_54 : decode cX11_kindsOfCock 54 = .ok (.iadd, 1) := by decide +kernel
theorem dX11_kindsOfCock_55 : decode cX11_kindsOfCock 55 = .ok (.iaload, 1) := by decide +kernel
theorem dX11_kindsOfCock_56 : decode cX11_kindsOfCock 56 = .ok (.aload_n 0, 1) := by decide +kernel
theorem dX11_kindsOfCock_57 : decode cX11_kindsOfCock 57 = .ok (.getfield 7, 3) := by decide +kernel
theorem dX11_kindsOfCock_60 : decode cX11_kindsOfCock 60 = .ok (.iload 5, 2) := by decide +kernel
theorem dX11_kindsOfCock_62 : decode cX11_kindsOfCock 62 = .ok (.iconst 2, 1) := by decide +kernel
theorem dX11_kindsOfCock_63 : decode cX11_kindsOfCock 63 = .ok (.iadd, 1) := by decide +kernel
theorem dX11_kindsOfCock_64 : decode cX11_kindsOfCock 64 = .ok (.iaload, 1) := by decide +kernel
theorem dX11_kindsOfCock_65 : decode cX11_kindsOfCock 65 = .ok (.invokestatic 99, 3) := by decide +kernel
theorem dX11_kindsOfCock_68 : decode cX11_kindsOfCock 68 = .ok (.aload_n 0, 1) := by decide +kernel
theorem dX11_kindsOfCock_69 : decode cX11_kindsOfCock 69 = .ok (.getfield 7, 3) := by decide +kernel
theorem dX11_kindsOfCock_72 : decode cX11_kindsOfCock 72 = .ok (.iload 5, 2) := by decide +kernel
theorem dX11_kindsOfCock_74 : decode cX11_kindsOfCock 74 = .ok (.iconst 3, 1) := by decide +kernel
theorem dX11_kindsOfCock_75 : decode cX11_kindsOfCock 75 = .ok (.iadd, 1) := by decide +kernel
theorem dX11_kindsOfCock_76 : decode cX11_kindsOfCock 76 = .ok (.iaload, 1) := by decide +kernel
theorem dX11_kindsOfCock_77 : decode cX11_kindsOfCock 77 = .ok (.if_icmp .ne 7, 3) := by decide +kernel
theorem dX11_kindsOfCock_80 : decode cX11_kindsOfCock 80 = .ok (.iconst 1, 1) := by decide +kernel
theorem dX11_kindsOfCock_81 : decode cX11_kindsOfCock 81 = .ok (.goto 4, 3) := by decide +kernel
theorem dX11_kindsOfCock_84 : decode cX11_kindsOfCock 84 = .ok (.iconst 0, 1) := by decide +kernel
theorem dX11_kindsOfCock_85 : decode cX11_kindsOfCock 85 = .ok (.istore_n 3, 1) := by decide +kernel
theorem dX11_kindsOfCock_86 : decode cX11_kindsOfCock 86 = .ok (.iinc 4 1, 3) := by decide +kernel
theorem dX11_kindsOfCock_89 : decode cX11_kindsOfCock 89 = .ok (.goto (-74), 3) := by decide +kernel
theorem dX11_kindsOfCock_92 : decode cX11_kindsOfCock 92 = .ok (.iload_n 1, 1) := by decide +kernel
theorem dX11_kindsOfCock_93 : decode cX11_kindsOfCock 93 = .ok (.iload_n 3, 1) := by decide +kernel
theorem dX11_kindsOfCock_94 : decode cX11_kindsOfCock 94 = .ok (.ifCond .eq 9, 3) := by decide +kernel
theorem dX11_kindsOfCock_97 : decode cX11_kindsOfCock 97 = .ok (.iconst 1, 1) := by decide +kernel
theorem dX11_kindsOfCock_98 : decode cX11_kindsOfCock 98 = .ok (.iload_n 2, 1) := by decide +kernel
theorem dX11_kindsOfCock_99 : decode cX11_kindsOfCock 99 = .ok (.ishl, 1) := by decide +kernel
theorem dX11_kindsOfCock_100 : decode cX11_kindsOfCock 100 = .ok (.goto 4, 3) := by decide +kernel
theorem dX11_kindsOfCock_103 : decode cX11_kindsOfCock 103 = .ok (.iconst 0, 1) := by decide +kernel
theorem dX11_kindsOfCock_104 : decode cX11_kindsOfCock 104 = .ok (.ior, 1) := by decide +kernel
theorem dX11_kindsOfCock_105 : decode cX11_kindsOfCock 105 = .ok (.istore_n 1, 1) := by decide +kernel
theorem dX11_kindsOfCock_106 : decode cX11_kindsOfCock 106 = .ok (.iinc 2 1, 3) := by decide +kernel
theorem dX11_kindsOfCock_109 : decode cX11_kindsOfCock 109 = .ok (.goto (-105), 3) := by decide +kernel
theorem dX11_kindsOfCock_112 : decode cX11_kindsOfCock 112 = .ok (.iload_n 1, 1) := by decide +kernel
theorem dX11_kindsOfCock_113 : decode cX11_kindsOfCock 113 = .ok (.ireturn, 1) := by decide +kernel
theorem dX11_kindsOfPlayer_0 : decode cX11_kindsOfPlayer 0 = .ok (.iconst 0, 1) := by decide +kernel
theorem dX11_kindsOfPlayer_1 : decode cX11_kindsOfPlayer 1 = .ok (.istore_n 2, 1) := by decide +kernel
theorem dX11_kindsOfPlayer_2 : decode cX11_kindsOfPlayer 2 = .ok (.iconst 0, 1) := by decide +kernel
theorem dX11_kindsOfPlayer_3 : decode cX11_kindsOfPlayer 3 = .ok (.istore_n 3, 1) := by decide +kernel
theorem dX11_kindsOfPlayer_4 : decode cX11_kindsOfPlayer 4 = .ok (.iload_n 3, 1) := by decide +kernel
theorem dX11_kindsOfPlayer_5 : decode cX11_kindsOfPlayer 5 = .ok (.bipush 6, 2) := by decide +kernel
theorem dX11_kindsOfPlayer_7 : decode cX11_kindsOfPlayer 7 = .ok (.if_icmp .ge 113, 3) := by decide +kernel
theorem dX11_kindsOfPlayer_10 : decode cX11_kindsOfPlayer 10 = .ok (.iconst 1, 1) := by decide +kernel
theorem dX11_kindsOfPlayer_11 : decode cX11_kindsOfPlayer 11 = .ok (.istore 4, 2) := by decide +kernel
theorem dX11_kindsOfPlayer_13 : decode cX11_kindsOfPlayer 13 = .ok (.iconst 0, 1) := by decide +kernel
theorem dX11_kindsOfPlayer_14 : decode cX11_kindsOfPlayer 14 = .ok (.istore 5, 2) := by decide +kernel
theorem dX11_kindsOfPlayer_16 : decode cX11_kindsOfPlayer 16 = .ok (.iload 5, 2) := by decide +kernel
theorem dX11_kindsOfPlayer_18 : decode cX11_kindsOfPlayer 18 = .ok (.aload_n 0, 1) := by decide +kernel
theorem dX11_kindsOfPlayer_19 : decode cX11_kindsOfPlayer 19 = .ok (.getfield 7, 3) := by decide +kernel
theorem dX11_kindsOfPlayer_22 : decode cX11_kindsOfPlayer 22 = .ok (.iconst 3, 1) := by decide +kernel
theorem dX11_kindsOfPlayer_23 : decode cX11_kindsOfPlayer 23 = .ok (.iaload, 1) := by decide +kernel
theorem dX11_kindsOfPlayer_24 : decode cX11_kindsOfPlayer 24 = .ok (.if_icmp .ge 75, 3) := by decide +kernel
theorem dX11_kindsOfPlayer_27 : decode cX11_kindsOfPlayer 27 = .ok (.bipush 79, 2) := by decide +kernel
theorem dX11_kindsOfPlayer_29 : decode cX11_kindsOfPlayer 29 = .ok (.iconst 4, 1) := by decide +kernel
theorem dX11_kindsOfPlayer_30 : decode cX11_kindsOfPlayer 30 = .ok (.iload 5, 2) := by decide +kernel
theorem dX11_kindsOfPlayer_32 : decode cX11_kindsOfPlayer 32 = .ok (.imul, 1) := by decide +kernel
theorem dX11_kindsOfPlayer_33 : decode cX11_kindsOfPlayer 33 = .ok (.iadd, 1) := by decide +kernel
theorem dX11_kindsOfPlayer_34 : decode cX11_kindsOfPlayer 34 = .ok (.istore 6, 2) := by decide +kernel
theorem dX11_kindsOfPlayer_36 : decode cX11_kindsOfPlayer 36 = .ok (.iload 4, 2) := by decide +kernel
theorem dX11_kindsOfPlayer_38 : decode cX11_kindsOfPlayer 38 = .ok (.ifCond .eq 52, 3) := by decide +kernel
theorem dX11_kindsOfPlayer_41 : decode cX11_kindsOfPlayer 41 = .ok (.aload_n 0, 1) := by decide +kernel
theorem dX11_kindsOfPlayer_42 : decode cX11_kindsOfPlayer 42 = .ok (.getfield 7, 3) := by decide +kernel
theorem dX11_kindsOfPlayer_45 : decode cX11_kindsOfPlayer 45 = .ok (.iload 6, 2) := by decide +kernel
theorem dX11_kindsOfPlayer_47 : decode cX11_kindsOfPlayer 47 = .ok (.iaload, 1) := by decide +kernel
theorem dX11_kindsOfPlayer_48 : decode cX11_kindsOfPlayer 48 = .ok (.iload_n 1, 1) := by decide +kernel
theorem dX11_kindsOfPlayer_49 : decode cX11_kindsOfPlayer 49 = .ok (.if_icmp .ne 37, 3) := by decide +kernel
theorem dX11_kindsOfPlayer_52 : decode cX11_kindsOfPlayer 52 = .ok (.iload_n 3, 1) := by decide +kernel
theorem dX11_kindsOfPlayer_53 : decode cX11_kindsOfPlayer 53 = .ok (.aload_n 0, 1) := by decide +kernel
theorem dX11_kindsOfPlayer_54 : decode cX11_kindsOfPlayer 54 = .ok (.getfield 7, 3) := by decide +kernel
theorem dX11_kindsOfPlayer_57 : decode cX11_kindsOfPlayer 57 = .ok (.iload 6, 2) := by decide +kernel
theorem dX11_kindsOfPlayer_59 : decode cX11_kindsOfPlayer 59 = .ok (.iconst 1, 1) := by decide +kernel
theorem dX11_kindsOfPlayer_60 : decode cX11_kindsOfPlayer 60 = .ok (.iadd, 1) := by decide +kernel
theorem dX11_kindsOfPlayer_61 : decode cX11_kindsOfPlayer 61 = .ok (.iaload, 1) := by decide +kernel
theorem dX11_kindsOfPlayer_62 : decode cX11_kindsOfPlayer 62 = .ok (.aload_n 0, 1) := by decide +kernel
theorem dX11_kindsOfPlayer_63 : decode cX11_kindsOfPlayer 63 = .ok (.getfield 7, 3) := by decide +kernel
theorem dX11_kindsOfPlayer_66 : decode cX11_kindsOfPlayer 66 = .ok (.iload 6, 2) := by decide +kernel
theorem dX11_kindsOfPlayer_68 : decode cX11_kindsOfPlayer 68 = .ok (.iconst 2, 1) := by decide +kernel
theorem dX11_kindsOfPlayer_69 : decode cX11_kindsOfPlayer 69 = .ok (.iadd, 1) := by decide +kernel
theorem dX11_kindsOfPlayer_70 : decode cX11_kindsOfPlayer 70 = .ok (.iaload, 1) := by decide +kernel
theorem dX11_kindsOfPlayer_71 : decode cX11_kindsOfPlayer 71 = .ok (.invokestatic 91, 3) := by decide +kernel
theorem dX11_kindsOfPlayer_74 : decode cX11_kindsOfPlayer 74 = .ok (.aload_n 0, 1) := by decide +kernel
theorem dX11_kindsOfPlayer_75 : decode cX11_kindsOfPlayer 75 = .ok (.getfield 7, 3) := by decide +kernel
theorem dX11_kindsOfPlayer_78 : decode cX11_kindsOfPlayer 78 = .ok (.iload 6, 2) := by decide +kernel
theorem dX11_kindsOfPlayer_80 : decode cX11_kindsOfPlayer 80 = .ok (.iconst 3, 1) := by decide +kernel
theorem dX11_kindsOfPlayer_81 : decode cX11_kindsOfPlayer 81 = .ok (.iadd, 1) := by decide +kernel
theorem dX11_kindsOfPlayer_82 : decode cX11_kindsOfPlayer 82 = .ok (.iaload, 1) := by decide +kernel
theorem dX11_kindsOfPlayer_83 : decode cX11_kindsOfPlayer 83 = .ok (.if_icmp .ne 7, 3) := by decide +kernel
theorem dX11_kindsOfPlayer_86 : decode cX11_kindsOfPlayer 86 = .ok (.iconst 1, 1) := by decide +kernel
theorem dX11_kindsOfPlayer_87 : decode cX11_kindsOfPlayer 87 = .ok (.goto 4, 3) := by decide +kernel
theorem dX11_kindsOfPlayer_90 : decode cX11_kindsOfPlayer 90 = .ok (.iconst 0, 1) := by decide +kernel
theorem dX11_kindsOfPlayer_91 : decode cX11_kindsOfPlayer 91 = .ok (.istore 4, 2) := by decide +kernel
theorem dX11_kindsOfPlayer_93 : decode cX11_kindsOfPlayer 93 = .ok (.iinc 5 1, 3) := by decide +kernel
theorem dX11_kindsOfPlayer_96 : decode cX11_kindsOfPlayer 96 = .ok (.goto (-80), 3) := by decide +kernel
theorem dX11_kindsOfPlayer_99 : decode cX11_kindsOfPlayer 99 = .ok (.iload_n 2, 1) := by decide +kernel
theorem dX11_kindsOfPlayer_100 : decode cX11_kindsOfPlayer 100 = .ok (.iload 4, 2) := by decide +kernel
theorem dX11_kindsOfPlayer_102 : decode cX11_kindsOfPlayer 102 = .ok (.ifCond .eq 9, 3) := by decide +kernel
theorem dX11_kindsOfPlayer_105 : decode cX11_kindsOfPlayer 105 = .ok (.iconst 1, 1) := by decide +kernel
theorem dX11_kindsOfPlayer_106 : decode cX11_kindsOfPlayer 106 = .ok (.iload_n 3, 1) := by decide +kernel
theorem dX11_kindsOfPlayer_107 : decode cX11_kindsOfPlayer 107 = .ok (.ishl, 1) := by decide +kernel
theorem dX11_kindsOfPlayer_108 : decode cX11_kindsOfPlayer 108 = .ok (.goto 4, 3) := by decide +kernel
theorem dX11_kindsOfPlayer_111 : decode cX11_kindsOfPlayer 111 = .ok (.iconst 0, 1) := by decide +kernel
theorem dX11_kindsOfPlayer_112 : decode cX11_kindsOfPlayer 112 = .ok (.ior, 1) := by decide +kernel
theorem dX11_kindsOfPlayer_113 : decode cX11_kindsOfPlayer 113 = .ok (.istore_n 2, 1) := by decide +kernel
theorem dX11_kindsOfPlayer_114 : decode cX11_kindsOfPlayer 114 = .ok (.iinc 3 1, 3) := by decide +kernel
theorem dX11_kindsOfPlayer_117 : decode cX11_kindsOfPlayer 117 = .ok (.goto (-113), 3) := by decide +kernel
theorem dX11_kindsOfPlayer_120 : decode cX11_kindsOfPlayer 120 = .ok (.iload_n 2, 1) := by decide +kernel
theorem dX11_kindsOfPlayer_121 : decode cX11_kindsOfPlayer 121 = .ok (.ireturn, 1) := by decide +kernel
theorem dX11_mostAlike_0 : decode cX11_mostAlike 0 = .ok (.iconst 0, 1) := by decide +kernel
theorem dX11_mostAlike_1 : decode cX11_mostAlike 1 = .ok (.istore_n 2, 1) := by decide +kernel
theorem dX11_mostAlike_2 : decode cX11_mostAlike 2 = .ok (.iconst 0, 1) := by decide +kernel
theorem dX11_mostAlike_3 : decode cX11_mostAlike 3 = .ok (.istore_n 3, 1) := by decide +kernel
theorem dX11_mostAlike_4 : decode cX11_mostAlike 4 = .ok (.iload_n 3, 1) := by decide +kernel
theorem dX11_mostAlike_5 : decode cX11_mostAlike 5 = .ok (.bipush 6, 2) := by decide +kernel
theorem dX11_mostAlike_7 : decode cX11_mostAlike 7 = .ok (.if_icmp .ge 84, 3) := by decide +kernel
theorem dX11_mostAlike_10 : decode cX11_mostAlike 10 = .ok (.iconst 0, 1) := by decide +kernel
theorem dX11_mostAlike_11 : decode cX11_mostAlike 11 = .ok (.istore 4, 2) := by decide +kernel
theorem dX11_mostAlike_13 : decode cX11_mostAlike 13 = .ok (.iconst 0, 1) := by decide +kernel
theorem dX11_mostAlike_14 : decode cX11_mostAlike 14 = .ok (.istore 5, 2) := by decide +kernel
theorem dX11_mostAlike_16 : decode cX11_mostAlike 16 = .ok (.iload 5, 2) := by decide +kernel
theorem dX11_mostAlike_18 : decode cX11_mostAlike 18 = .ok (.bipush 6, 2) := by decide +kernel
theorem dX11_mostAlike_20 : decode cX11_mostAlike 20 = .ok (.if_icmp .ge 52, 3) := by decide +kernel
theorem dX11_mostAlike_23 : decode cX11_mostAlike 23 = .ok (.iload_n 1, 1) := by decide +kernel
theorem dX11_mostAlike_24 : decode cX11_mostAlike 24 = .ok (.iload_n 3, 1) := by decide +kernel
theorem dX11_mostAlike_25 : decode cX11_mostAlike 25 = .ok (.invokestatic 180, 3) := by decide +kernel
theorem dX11_mostAlike_28 : decode cX11_mostAlike 28 = .ok (.ifCond .eq 44, 3) := by decide +kernel
theorem dX11_mostAlike_31 : decode cX11_mostAlike 31 = .ok (.iload 4, 2) := by decide +kernel
theorem dX11_mostAlike_33 : decode cX11_mostAlike 33 = .ok (.iload_n 1, 1) := by decide +kernel
theorem dX11_mostAlike_34 : decode cX11_mostAlike 34 = .ok (.iload 5, 2) := by decide +kernel
theorem dX11_mostAlike_36 : decode cX11_mostAlike 36 = .ok (.invokestatic 180, 3) := by decide +kernel
theorem dX11_mostAlike_39 : decode cX11_mostAlike 39 = .ok (.ifCond .eq 23, 3) := by decide +kernel
theorem dX11_mostAlike_42 : decode cX11_mostAlike 42 = .ok (.aload_n 0, 1) := by decide +kernel
theorem dX11_mostAlike_43 : decode cX11_mostAlike 43 = .ok (.getfield 33, 3) := by decide +kernel
theorem dX11_mostAlike_46 : decode cX11_mostAlike 46 = .ok (.iload_n 3, 1) := by decide +kernel
theorem dX11_mostAlike_47 : decode cX11_mostAlike 47 = .ok (.iaload, 1) := by decide +kernel
theorem dX11_mostAlike_48 : decode cX11_mostAlike 48 = .ok (.aload_n 0, 1) := by decide +kernel
theorem dX11_mostAlike_49 : decode cX11_mostAlike 49 = .ok (.getfield 33, 3) := by decide +kernel
theorem dX11_mostAlike_52 : decode cX11_mostAlike 52 = .ok (.iload 5, 2) := by decide +kernel
theorem dX11_mostAlike_54 : decode cX11_mostAlike 54 = .ok (.iaload, 1) := by decide +kernel
theorem dX11_mostAlike_55 : decode cX11_mostAlike 55 = .ok (.if_icmp .ne 7, 3) := by decide +kernel
theorem dX11_mostAlike_58 : decode cX11_mostAlike 58 = .ok (.iconst 1, 1) := by decide +kernel
theorem dX11_mostAlike_59 : decode cX11_mostAlike 59 = .ok (.goto 4, 3) := by decide +kernel
theorem dX11_mostAlike_62 : decode cX11_mostAlike 62 = .ok (.iconst 0, 1) := by decide +kernel
theorem dX11_mostAlike_63 : decode cX11_mostAlike 63 = .ok (.iadd, 1) := by decide +kernel
theorem dX11_mostAlike_64 : decode cX11_mostAlike 64 = .ok (.istore 4, 2) := by decide +kernel
theorem dX11_mostAlike_66 : decode cX11_mostAlike 66 = .ok (.iinc 5 1, 3) := by decide +kernel
theorem dX11_mostAlike_69 : decode cX11_mostAlike 69 = .ok (.goto (-53), 3) := by decide +kernel
theorem dX11_mostAlike_72 : decode cX11_mostAlike 72 = .ok (.iload 4, 2) := by decide +kernel
theorem dX11_mostAlike_74 : decode cX11_mostAlike 74 = .ok (.iload_n 2, 1) := by decide +kernel
theorem dX11_mostAlike_75 : decode cX11_mostAlike 75 = .ok (.if_icmp .le 8, 3) := by decide +kernel
theorem dX11_mostAlike_78 : decode cX11_mostAlike 78 = .ok (.iload 4, 2) := by decide +kernel
theorem dX11_mostAlike_80 : decode cX11_mostAlike 80 = .ok (.goto 4, 3) := by decide +kernel
theorem dX11_mostAlike_83 : decode cX11_mostAlike 83 = .ok (.iload_n 2, 1) := by decide +kernel
theorem dX11_mostAlike_84 : decode cX11_mostAlike 84 = .ok (.istore_n 2, 1) := by decide +kernel
theorem dX11_mostAlike_85 : decode cX11_mostAlike 85 = .ok (.iinc 3 1, 3) := by decide +kernel
theorem dX11_mostAlike_88 : decode cX11_mostAlike 88 = .ok (.goto (-84), 3) := by decide +kernel
theorem dX11_mostAlike_91 : decode cX11_mostAlike 91 = .ok (.iload_n 2, 1) := by decide +kernel
theorem dX11_mostAlike_92 : decode cX11_mostAlike 92 = .ok (.ireturn, 1) := by decide +kernel
theorem dX11_is_0 : decode cX11_is 0 = .ok (.aload_n 0, 1) := by decide +kernel
theorem dX11_is_1 : decode cX11_is 1 = .ok (.invokevirtual 184, 3) := by decide +kernel
theorem dX11_is_4 : decode cX11_is 4 = .ok (.ireturn, 1) := by decide +kernel
theorem dX11_look_0 : decode cX11_look 0 = .ok (.aload_n 0, 1) := by decide +kernel
theorem dX11_look_1 : decode cX11_look 1 = .ok (.invokevirtual 184, 3) := by decide +kernel
theorem dX11_look_4 : decode cX11_look 4 = .ok (.istore_n 1, 1) := by decide +kernel
theorem dX11_look_5 : decode cX11_look 5 = .ok (.iconst (-1), 1) := by decide +kernel
theorem dX11_look_6 : decode cX11_look 6 = .ok (.istore_n 2, 1) := by decide +kernel
theorem dX11_look_7 : decode cX11_look 7 = .ok (.ldc 145, 2) := by decide +kernel
theorem dX11_look_9 : decode cX11_look 9 = .ok (.istore_n 3, 1) := by decide +kernel
theorem dX11_look_10 : decode cX11_look 10 = .ok (.iconst 0, 1) := by decide +kernel
theorem dX11_look_11 : decode cX11_look 11 = .ok (.istore 4, 2) := by decide +kernel
theorem dX11_look_13 : decode cX11_look 13 = .ok (.iload 4, 2) := by decide +kernel
theorem dX11_look_15 : decode cX11_look 15 = .ok (.bipush 30, 2) := by decide +kernel
theorem dX11_look_17 : decode cX11_look 17 = .ok (.if_icmp .gt 109, 3) := by decide +kernel
theorem dX11_look_20 : decode cX11_look 20 = .ok (.iload_n 1, 1) := by decide +kernel
theorem dX11_look_21 : decode cX11_look 21 = .ok (.ifCond .le 105, 3) := by decide +kernel
theorem dX11_look_24 : decode cX11_look 24 = .ok (.iconst 0, 1) := by decide +kernel
theorem dX11_look_25 : decode cX11_look 25 = .ok (.istore 5, 2) := by decide +kernel
theorem dX11_look_27 : decode cX11_look 27 = .ok (.iload 5, 2) := by decide +kernel
theorem dX11_look_29 : decode cX11_look 29 = .ok (.bipush 9, 2) := by decide +kernel
theorem dX11_look_31 : decode cX11_look 31 = .ok (.if_icmp .ge 89, 3) := by decide +kernel
theorem dX11_look_34 : decode cX11_look 34 = .ok (.iconst 0, 1) := by decide +kernel
theorem dX11_look_35 : decode cX11_look 35 = .ok (.istore 6, 2) := by decide +kernel
theorem dX11_look_37 : decode cX11_look 37 = .ok (.iload 6, 2) := by decide +kernel
theorem dX11_look_39 : decode cX11_look 39 = .ok (.bipush 6, 2) := by decide +kernel
theorem dX11_look_41 : decode cX11_look 41 = .ok (.if_icmp .ge 34, 3) := by decide +kernel
theorem dX11_look_44 : decode cX11_look 44 = .ok (.aload_n 0, 1) := by decide +kernel
theorem dX11_look_45 : decode cX11_look 45 = .ok (.getfield 33, 3) := by decide +kernel
theorem dX11_look_48 : decode cX11_look 48 = .ok (.iload 6, 2) := by decide +kernel
theorem dX11_look_50 : decode cX11_look 50 = .ok (.iload 6, 2) := by decide +kernel
theorem dX11_look_52 : decode cX11_look 52 = .ok (.aload_n 0, 1) := by decide +kernel
theorem dX11_look_53 : decode cX11_look 53 = .ok (.getfield 7, 3) := by decide +kernel
theorem dX11_look_56 : decode cX11_look 56 = .ok (.bipush 7, 2) := by decide +kernel
theorem dX11_look_58 : decode cX11_look 58 = .ok (.iaload, 1) := by decide +kernel
theorem dX11_look_59 : decode cX11_look 59 = .ok (.iload 4, 2) := by decide +kernel
theorem dX11_look_61 : decode cX11_look 61 = .ok (.iload 5, 2) := by decide +kernel
theorem dX11_look_63 : decode cX11_look 63 = .ok (.iconst 4, 1) := by decide +kernel
theorem dX11_look_64 : decode cX11_look 64 = .ok (.isub, 1) := by decide +kernel
theorem dX11_look_65 : decode cX11_look 65 = .ok (.invokestatic 99, 3) := by decide +kernel
theorem dX11_look_68 : decode cX11_look 68 = .ok (.iastore, 1) := by decide +kernel
theorem dX11_look_69 : decode cX11_look 69 = .ok (.iinc 6 1, 3) := by decide +kernel
theorem dX11_look_72 : decode cX11_look 72 = .ok (.goto (-35), 3) := by decide +kernel
theorem dX11_look_75 : decode cX11_look 75 = .ok (.aload_n 0, 1) := by decide +kernel
theorem dX11_look_76 : decode cX11_look 76 = .ok (.iload_n 1, 1) := by decide +kernel
theorem dX11_look_77 : decode cX11_look 77 = .ok (.invokevirtual 187, 3) := by decide +kernel
theorem dX11_look_80 : decode cX11_look 80 = .ok (.istore 6, 2) := by decide +kernel
theorem dX11_look_82 : decode cX11_look 82 = .ok (.iload 6, 2) := by decide +kernel
theorem dX11_look_84 : decode cX11_look 84 = .ok (.iload_n 3, 1) := by decide +kernel
theorem dX11_look_85 : decode cX11_look 85 = .ok (.if_icmp .ge 14, 3) := by decide +kernel
theorem dX11_look_88 : decode cX11_look 88 = .ok (.bipush 10, 2) := by decide +kernel
theorem dX11_look_90 : decode cX11_look 90 = .ok (.iload 4, 2) := by decide +kernel
theorem dX11_look_92 : decode cX11_look 92 = .ok (.imul, 1) := by decide +kernel
theorem dX11_look_93 : decode cX11_look 93 = .ok (.iload 5, 2) := by decide +kernel
theorem dX11_look_95 : decode cX11_look 95 = .ok (.iadd, 1) := by decide +kernel
theorem dX11_look_96 : decode cX11_look 96 = .ok (.goto 4, 3) := by decide +kernel
theorem dX11_look_99 : decode cX11_look 99 = .ok (.iload_n 2, 1) := by decide +kernel
theorem dX11_look_100 : decode cX11_look 100 = .ok (.istore_n 2, 1) := by decide +kernel
theorem dX11_look_101 : decode cX11_look 101 = .ok (.iload 6, 2) := by decide +kernel
theorem dX11_look_103 : decode cX11_look 103 = .ok (.iload_n 3, 1) := by decide +kernel
theorem dX11_look_104 : decode cX11_look 104 = .ok (.if_icmp .ge 8, 3) := by decide +kernel
theorem dX11_look_107 : decode cX11_look 107 = .ok (.iload 6, 2) := by decide +kernel
theorem dX11_look_109 : decode cX11_look 109 = .ok (.goto 4, 3) := by decide +kernel
theorem dX11_look_112 : decode cX11_look 112 = .ok (.iload_n 3, 1) := by decide +kernel
theorem dX11_look_113 : decode cX11_look 113 = .ok (.istore_n 3, 1) := by decide +kernel
theorem dX11_look_114 : decode cX11_look 114 = .ok (.iinc 5 1, 3) := by decide +kernel
theorem dX11_look_117 : decode cX11_look 117 = .ok (.goto (-90), 3) := by decide +kernel
theorem dX11_look_120 : decode cX11_look 120 = .ok (.iinc 4 1, 3) := by decide +kernel
theorem dX11_look_123 : decode cX11_look 123 = .ok (.goto (-110), 3) := by decide +kernel
theorem dX11_look_126 : decode cX11_look 126 = .ok (.iload_n 2, 1) := by decide +kernel
theorem dX11_look_127 : decode cX11_look 127 = .ok (.ireturn, 1) := by decide +kernel
theorem dX11_kinds_0 : decode cX11_kinds 0 = .ok (.aload_n 0, 1) := by decide +kernel
theorem dX11_kinds_1 : decode cX11_kinds 1 = .ok (.iload_n 1, 1) := by decide +kernel
theorem dX11_kinds_2 : decode cX11_kinds 2 = .ok (.invokevirtual 118, 3) := by decide +kernel
theorem dX11_kinds_5 : decode cX11_kinds 5 = .ok (.ifCond .eq 11, 3) := by decide +kernel
theorem dX11_kinds_8 : decode cX11_kinds 8 = .ok (.aload_n 0, 1) := by decide +kernel
theorem dX11_kinds_9 : decode cX11_kinds 9 = .ok (.iload_n 1, 1) := by decide +kernel
theorem dX11_kinds_10 : decode cX11_kinds 10 = .ok (.invokevirtual 190, 3) := by decide +kernel
theorem dX11_kinds_13 : decode cX11_kinds 13 = .ok (.goto 9, 3) := by decide +kernel
theorem dX11_kinds_16 : decode cX11_kinds 16 = .ok (.aload_n 0, 1) := by decide +kernel
theorem dX11_kinds_17 : decode cX11_kinds 17 = .ok (.bipush (-2), 2) := by decide +kernel
theorem dX11_kinds_19 : decode cX11_kinds 19 = .ok (.invokevirtual 67, 3) := by decide +kernel
theorem dX11_kinds_22 : decode cX11_kinds 22 = .ok (.ireturn, 1) := by decide +kernel
theorem dX11_ask_0 : decode cX11_ask 0 = .ok (.aload_n 0, 1) := by decide +kernel
theorem dX11_ask_1 : decode cX11_ask 1 = .ok (.iload_n 1, 1) := by decide +kernel
theorem dX11_ask_2 : decode cX11_ask 2 = .ok (.invokevirtual 118, 3) := by decide +kernel
theorem dX11_ask_5 : decode cX11_ask 5 = .ok (.ifCond .ne 10, 3) := by decide +kernel
theorem dX11_ask_8 : decode cX11_ask 8 = .ok (.aload_n 0, 1) := by decide +kernel
theorem dX11_ask_9 : decode cX11_ask 9 = .ok (.bipush (-2), 2) := by decide +kernel
theorem dX11_ask_11 : decode cX11_ask 11 = .ok (.invokevirtual 67, 3) := by decide +kernel
theorem dX11_ask_14 : decode cX11_ask 14 = .ok (.ireturn, 1) := by decide +kernel
theorem dX11_ask_15 : decode cX11_ask 15 = .ok (.aload_n 0, 1) := by decide +kernel
theorem dX11_ask_16 : decode cX11_ask 16 = .ok (.iload_n 1, 1) := by decide +kernel
theorem dX11_ask_17 : decode cX11_ask 17 = .ok (.invokevirtual 190, 3) := by decide +kernel
theorem dX11_ask_20 : decode cX11_ask 20 = .ok (.istore_n 2, 1) := by decide +kernel
theorem dX11_ask_21 : decode cX11_ask 21 = .ok (.iconst (-1), 1) := by decide +kernel
theorem dX11_ask_22 : decode cX11_ask 22 = .ok (.istore_n 3, 1) := by decide +kernel
theorem dX11_ask_23 : decode cX11_ask 23 = .ok (.ldc 145, 2) := by decide +kernel
theorem dX11_ask_25 : decode cX11_ask 25 = .ok (.istore 4, 2) := by decide +kernel
theorem dX11_ask_27 : decode cX11_ask 27 = .ok (.iconst 0, 1) := by decide +kernel
theorem dX11_ask_28 : decode cX11_ask 28 = .ok (.istore 5, 2) := by decide +kernel
theorem dX11_ask_30 : decode cX11_ask 30 = .ok (.iload 5, 2) := by decide +kernel
theorem dX11_ask_32 : decode cX11_ask 32 = .ok (.bipush 24, 2) := by decide +kernel
theorem dX11_ask_34 : decode cX11_ask 34 = .ok (.if_icmp .ge 89, 3) := by decide +kernel
theorem dX11_ask_37 : decode cX11_ask 37 = .ok (.iload_n 2, 1) := by decide +kernel
theorem dX11_ask_38 : decode cX11_ask 38 = .ok (.ifCond .le 85, 3) := by decide +kernel
theorem dX11_ask_41 : decode cX11_ask 41 = .ok (.iconst 0, 1) := by decide +kernel
theorem dX11_ask_42 : decode cX11_ask 42 = .ok (.istore 6, 2) := by decide +kernel
theorem dX11_ask_44 : decode cX11_ask 44 = .ok (.iload 6, 2) := by decide +kernel
theorem dX11_ask_46 : decode cX11_ask 46 = .ok (.bipush 6, 2) := by decide +kernel
theorem dX11_ask_48 : decode cX11_ask 48 = .ok (.if_icmp .ge 32, 3) := by decide +kernel
theorem dX11_ask_51 : decode cX11_ask 51 = .ok (.aload_n 0, 1) := by decide +kernel
theorem dX11_ask_52 : decode cX11_ask 52 = .ok (.getfield 33, 3) := by decide +kernel
theorem dX11_ask_55 : decode cX11_ask 55 = .ok (.iload 6, 2) := by decide +kernel
theorem dX11_ask_57 : decode cX11_ask 57 = .ok (.iload 6, 2) := by decide +kernel
theorem dX11_ask_59 : decode cX11_ask 59 = .ok (.aload_n 0, 1) := by decide +kernel
theorem dX11_ask_60 : decode cX11_ask 60 = .ok (.getfield 7, 3) := by decide +kernel
theorem dX11_ask_63 : decode cX11_ask 63 = .ok (.bipush 33, 2) := by decide +kernel
theorem dX11_ask_65 : decode cX11_ask 65 = .ok (.iload_n 1, 1) := by decide +kernel
theorem dX11_ask_66 : decode cX11_ask 66 = .ok (.iadd, 1) := by decide +kernel
theorem dX11_ask_67 : decode cX11_ask 67 = .ok (.iaload, 1) := by decide +kernel
theorem dX11_ask_68 : decode cX11_ask 68 = .ok (.iload 5, 2) := by decide +kernel
theorem dX11_ask_70 : decode cX11_ask 70 = .ok (.invokestatic 91, 3) := by decide +kernel
theorem dX11_ask_73 : decode cX11_ask 73 = .ok (.iastore, 1) := by decide +kernel
theorem dX11_ask_74 : decode cX11_ask 74 = .ok (.iinc 6 1, 3) := by decide +kernel
theorem dX11_ask_77 : decode cX11_ask 77 = .ok (.goto (-33), 3) := by decide +kernel
theorem dX11_ask_80 : decode cX11_ask 80 = .ok (.aload_n 0, 1) := by decide +kernel
theorem dX11_ask_81 : decode cX11_ask 81 = .ok (.iload_n 2, 1) := by decide +kernel
theorem dX11_ask_82 : decode cX11_ask 82 = .ok (.invokevirtual 187, 3) := by decide +kernel
theorem dX11_ask_85 : decode cX11_ask 85 = .ok (.istore 6, 2) := by decide +kernel
theorem dX11_ask_87 : decode cX11_ask 87 = .ok (.iload 6, 2) := by decide +kernel
theorem dX11_ask_89 : decode cX11_ask 89 = .ok (.iload 4, 2) := by decide +kernel
theorem dX11_ask_91 : decode cX11_ask 91 = .ok (.if_icmp .ge 8, 3) := by decide +kernel
theorem dX11_ask_94 : decode cX11_ask 94 = .ok (.iload 5, 2) := by decide +kernel
theorem dX11_ask_96 : decode cX11_ask 96 = .ok (.goto 4, 3) := by decide +kernel
theorem dX11_ask_99 : decode cX11_ask 99 = .ok (.iload_n 3, 1) := by decide +kernel
theorem dX11_ask_100 : decode cX11_ask 100 = .ok (.istore_n 3, 1) := by decide +kernel
theorem dX11_ask_101 : decode cX11_ask 101 = .ok (.iload 6, 2) := by decide +kernel
theorem dX11_ask_103 : decode cX11_ask 103 = .ok (.iload 4, 2) := by decide +kernel
theorem dX11_ask_105 : decode cX11_ask 105 = .ok (.if_icmp .ge 8, 3) := by decide +kernel
theorem dX11_ask_108 : decode cX11_ask 108 = .ok (.iload 6, 2) := by decide +kernel
theorem dX11_ask_110 : decode cX11_ask 110 = .ok (.goto 5, 3) := by decide +kernel
theorem dX11_ask_113 : decode cX11_ask 113 = .ok (.iload 4, 2) := by decide +kernel
theorem dX11_ask_115 : decode cX11_ask 115 = .ok (.istore 4, 2) := by decide +kernel
theorem dX11_ask_117 : decode cX11_ask 117 = .ok (.iinc 5 1, 3) := by decide +kernel
theorem dX11_ask_120 : decode cX11_ask 120 = .ok (.goto (-90), 3) := by decide +kernel
theorem dX11_ask_123 : decode cX11_ask 123 = .ok (.iload_n 3, 1) := by decide +kernel
theorem dX11_ask_124 : decode cX11_ask 124 = .ok (.ireturn, 1) := by decide +kernel
theorem dX11_getsBy_0 : decode cX11_getsBy 0 = .ok (.iload_n 0, 1) := by decide +kernel
theorem dX11_getsBy_1 : decode cX11_getsBy 1 = .ok (.iload_n 1, 1) := by decide +kernel
theorem dX11_getsBy_2 : decode cX11_getsBy 2 = .ok (.if_icmp .ne 7, 3) := by decide +kernel
theorem dX11_getsBy_5 : decode cX11_getsBy 5 = .ok (.iconst (-1), 1) := by decide +kernel
theorem dX11_getsBy_6 : decode cX11_getsBy 6 = .ok (.goto 31, 3) := by decide +kernel
theorem dX11_getsBy_9 : decode cX11_getsBy 9 = .ok (.iload_n 0, 1) := by decide +kernel
theorem dX11_getsBy_10 : decode cX11_getsBy 10 = .ok (.iconst 1, 1) := by decide +kernel
theorem dX11_getsBy_11 : decode cX11_getsBy 11 = .ok (.if_icmp .ne 16, 3) := by decide +kernel
theorem dX11_getsBy_14 : decode cX11_getsBy 14 = .ok (.iload_n 2, 1) := by decide +kernel
theorem dX11_getsBy_15 : decode cX11_getsBy 15 = .ok (.ifCond .eq 7, 3) := by decide +kernel
theorem dX11_getsBy_18 : decode cX11_getsBy 18 = .ok (.iconst 2, 1) := by decide +kernel
theorem dX11_getsBy_19 : decode cX11_getsBy 19 = .ok (.goto 18, 3) := by decide +kernel
theorem dX11_getsBy_22 : decode cX11_getsBy 22 = .ok (.bipush (-2), 2) := by decide +kernel
theorem dX11_getsBy_24 : decode cX11_getsBy 24 = .ok (.goto 13, 3) := by decide +kernel
theorem dX11_getsBy_27 : decode cX11_getsBy 27 = .ok (.iload_n 3, 1) := by decide +kernel
theorem dX11_getsBy_28 : decode cX11_getsBy 28 = .ok (.ifCond .eq 7, 3) := by decide +kernel
theorem dX11_getsBy_31 : decode cX11_getsBy 31 = .ok (.iconst 3, 1) := by decide +kernel
theorem dX11_getsBy_32 : decode cX11_getsBy 32 = .ok (.goto 5, 3) := by decide +kernel
theorem dX11_getsBy_35 : decode cX11_getsBy 35 = .ok (.bipush (-2), 2) := by decide +kernel
theorem dX11_getsBy_37 : decode cX11_getsBy 37 = .ok (.istore 4, 2) := by decide +kernel
theorem dX11_getsBy_39 : decode cX11_getsBy 39 = .ok (.iload 4, 2) := by decide +kernel
theorem dX11_getsBy_41 : decode cX11_getsBy 41 = .ok (.iload_n 0, 1) := by decide +kernel
theorem dX11_getsBy_42 : decode cX11_getsBy 42 = .ok (.isub, 1) := by decide +kernel
theorem dX11_getsBy_43 : decode cX11_getsBy 43 = .ok (.ireturn, 1) := by decide +kernel
theorem dX11_yours_0 : decode cX11_yours 0 = .ok (.aload_n 0, 1) := by decide +kernel
theorem dX11_yours_1 : decode cX11_yours 1 = .ok (.iload_n 1, 1) := by decide +kernel
theorem dX11_yours_2 : decode cX11_yours 2 = .ok (.invokevirtual 118, 3) := by decide +kernel
theorem dX11_yours_5 : decode cX11_yours 5 = .ok (.ifCond .eq 16, 3) := by decide +kernel
theorem dX11_yours_8 : decode cX11_yours 8 = .ok (.aload_n 0, 1) := by decide +kernel
theorem dX11_yours_9 : decode cX11_yours 9 = .ok (.iload_n 2, 1) := by decide +kernel
theorem dX11_yours_10 : decode cX11_yours 10 = .ok (.invokevirtual 118, 3) := by decide +kernel
theorem dX11_yours_13 : decode cX11_yours 13 = .ok (.ifCond .eq 8, 3) := by decide +kernel
theorem dX11_yours_16 : decode cX11_yours 16 = .ok (.iload_n 1, 1) := by decide +kernel
theorem dX11_yours_17 : decode cX11_yours 17 = .ok (.iload_n 2, 1) := by decide +kernel
theorem dX11_yours_18 : decode cX11_yours 18 = .ok (.if_icmp .ne 10, 3) := by decide +kernel
theorem dX11_yours_21 : decode cX11_yours 21 = .ok (.aload_n 0, 1) := by decide +kernel
theorem dX11_yours_22 : decode cX11_yours 22 = .ok (.bipush (-2), 2) := by decide +kernel
theorem dX11_yours_24 : decode cX11_yours 24 = .ok (.invokevirtual 67, 3) := by decide +kernel
theorem dX11_yours_27 : decode cX11_yours 27 = .ok (.ireturn, 1) := by decide +kernel
theorem dX11_yours_28 : decode cX11_yours 28 = .ok (.aload_n 0, 1) := by decide +kernel
theorem dX11_yours_29 : decode cX11_yours 29 = .ok (.getfield 7, 3) := by decide +kernel
theorem dX11_yours_32 : decode cX11_yours 32 = .ok (.iload_n 1, 1) := by decide +kernel
theorem dX11_yours_33 : decode cX11_yours 33 = .ok (.invokestatic 107, 3) := by decide +kernel
theorem dX11_yours_36 : decode cX11_yours 36 = .ok (.ifCond .eq 14, 3) := by decide +kernel
theorem dX11_yours_39 : decode cX11_yours 39 = .ok (.aload_n 0, 1) := by decide +kernel
theorem dX11_yours_40 : decode cX11_yours 40 = .ok (.getfield 7, 3) := by decide +kernel
theorem dX11_yours_43 : decode cX11_yours 43 = .ok (.iload_n 2, 1) := by decide +kernel
theorem dX11_yours_44 : decode cX11_yours 44 = .ok (.invokestatic 107, 3) := by decide +kernel
theorem dX11_yours_47 : decode cX11_yours 47 = .ok (.ifCond .ne 8, 3) := by decide +kernel
theorem dX11_yours_50 : decode cX11_yours 50 = .ok (.aload_n 0, 1) := by decide +kernel
theorem dX11_yours_51 : decode cX11_yours 51 = .ok (.invokevirtual 124, 3) := by decide +kernel
theorem dX11_yours_54 : decode cX11_yours 54 = .ok (.ireturn, 1) := by decide +kernel
theorem dX11_yours_55 : decode cX11_yours 55 = .ok (.aload_n 0, 1) := by decide +kernel
theorem dX11_yours_56 : decode cX11_yours 56 = .ok (.getfield 7, 3) := by decide +kernel
theorem dX11_yours_59 : decode cX11_yours 59 = .ok (.iload_n 1, 1) := by decide +kernel
theorem dX11_yours_60 : decode cX11_yours 60 = .ok (.aload_n 0, 1) := by decide +kernel
theorem dX11_yours_61 : decode cX11_yours 61 = .ok (.getfield 7, 3) := by decide +kernel
theorem dX11_yours_64 : decode cX11_yours 64 = .ok (.bipush 8, 2) := by decide +kernel
theorem dX11_yours_66 : decode cX11_yours 66 = .ok (.iaload, 1) := by decide +kernel
theorem dX11_yours_67 : decode cX11_yours 67 = .ok (.aload_n 0, 1) := by decide +kernel
theorem dX11_yours_68 : decode cX11_yours 68 = .ok (.getfield 7, 3) := by decide +kernel
theorem dX11_yours_71 : decode cX11_yours 71 = .ok (.bipush 12, 2) := by decide +kernel
theorem dX11_yours_73 : decode cX11_yours 73 = .ok (.iaload, 1) := by decide +kernel
theorem dX11_yours_74 : decode cX11_yours 74 = .ok (.invokestatic 111, 3) := by decide +kernel
theorem dX11_yours_77 : decode cX11_yours 77 = .ok (.istore_n 3, 1) := by decide +kernel
theorem dX11_yours_78 : decode cX11_yours 78 = .ok (.aload_n 0, 1) := by decide +kernel
theorem dX11_yours_79 : decode cX11_yours 79 = .ok (.getfield 7, 3) := by decide +kernel
theorem dX11_yours_82 : decode cX11_yours 82 = .ok (.iload_n 2, 1) := by decide +kernel
theorem dX11_yours_83 : decode cX11_yours 83 = .ok (.aload_n 0, 1) := by decide +kernel
theorem dX11_yours_84 : decode cX11_yours 84 = .ok (.getfield 7, 3) := by decide +kernel
theorem dX11_yours_87 : decode cX11_yours 87 = .ok (.bipush 8, 2) := by decide +kernel
theorem dX11_yours_89 : decode cX11_yours 89 = .ok (.iaload, 1) := by decide +kernel
theorem dX11_yours_90 : decode cX11_yours 90 = .ok (.aload_n 0, 1) := by decide +kernel
theorem dX11_yours_91 : decode cX11_yours 91 = .ok (.getfield 7, 3) := by decide +kernel
theorem dX11_yours_94 : decode cX11_yours 94 = .ok (.bipush 12, 2) := by decide +kernel
theorem dX11_yours_96 : decode cX11_yours 96 = .ok (.iaload, 1) := by decide +kernel
theorem dX11_yours_97 : decode cX11_yours 97 = .ok (.invokestatic 111, 3) := by decide +kernel
theorem dX11_yours_100 : decode cX11_yours 100 = .ok (.istore 4, 2) := by decide +kernel
theorem dX11_yours_102 : decode cX11_yours 102 = .ok (.iconst 0, 1) := by decide +kernel
theorem dX11_yours_103 : decode cX11_yours 103 = .ok (.istore 5, 2) := by decide +kernel
theorem dX11_yours_105 : decode cX11_yours 105 = .ok (.iconst 0, 1) := by decide +kernel
theorem dX11_yours_106 : decode cX11_yours 106 = .ok (.istore 6, 2) := by decide +kernel
theorem dX11_yours_108 : decode cX11_yours 108 = .ok (.iload 6, 2) := by decide +kernel
theorem dX11_yours_110 : decode cX11_yours 110 = .ok (.iconst 4, 1) := by decide +kernel
theorem dX11_yours_111 : decode cX11_yours 111 = .ok (.if_icmp .ge 96, 3) := by decide +kernel
theorem dX11_yours_114 : decode cX11_yours 114 = .ok (.iload 6, 2) := by decide +kernel
theorem dX11_yours_116 : decode cX11_yours 116 = .ok (.iconst 1, 1) := by decide +kernel
theorem dX11_yours_117 : decode cX11_yours 117 = .ok (.iand, 1) := by decide +kernel
theorem dX11_yours_118 : decode cX11_yours 118 = .ok (.istore 7, 2) := by decide +kernel
theorem dX11_yours_120 : decode cX11_yours 120 = .ok (.iload 6, 2) := by decide +kernel
theorem dX11_yours_122 : decode cX11_yours 122 = .ok (.iconst 1, 1) := by decide +kernel
theorem dX11_yours_123 : decode cX11_yours 123 = .ok (.ishr, 1) := by decide +kernel
theorem dX11_yours_124 : decode cX11_yours 124 = .ok (.istore 8, 2) := by decide +kernel
theorem dX11_yours_126 : decode cX11_yours 126 = .ok (.iload 7, 2) := by decide +kernel
theorem dX11_yours_128 : decode cX11_yours 128 = .ok (.iload 8, 2) := by decide +kernel
theorem dX11_yours_130 : decode cX11_yours 130 = .ok (.iload_n 3, 1) := by decide +kernel
theorem dX11_yours_131 : decode cX11_yours 131 = .ok (.iload 4, 2) := by decide +kernel
theorem dX11_yours_133 : decode cX11_yours 133 = .ok (.invokestatic 193, 3) := by decide +kernel
theorem dX11_yours_136 : decode cX11_yours 136 = .ok (.iconst 1, 1) := by decide +kernel
theorem dX11_yours_137 : decode cX11_yours 137 = .ok (.iload 7, 2) := by decide +kernel
theorem dX11_yours_139 : decode cX11_yours 139 = .ok (.isub, 1) := by decide +kernel
theorem dX11_yours_140 : decode cX11_yours 140 = .ok (.iload 8, 2) := by decide +kernel
theorem dX11_yours_142 : decode cX11_yours 142 = .ok (.iload_n 3, 1) := by decide +kernel
theorem dX11_yours_143 : decode cX11_yours 143 = .ok (.iload 4, 2) := by decide +kernel
theorem dX11_yours_145 : decode cX11_yours 145 = .ok (.invokestatic 193, 3) := by decide +kernel
theorem dX11_yours_148 : decode cX11_yours 148 = .ok (.if_icmp .lt 32, 3) := by decide +kernel
theorem dX11_yours_151 : decode cX11_yours 151 = .ok (.iload 8, 2) := by decide +kernel
theorem dX11_yours_153 : decode cX11_yours 153 = .ok (.iload 7, 2) := by decide +kernel
theorem dX11_yours_155 : decode cX11_yours 155 = .ok (.iload 4, 2) := by decide +kernel
theorem dX11_yours_157 : decode cX11_yours 157 = .ok (.iload_n 3, 1) := by decide +kernel
theorem dX11_yours_158 : decode cX11_yours 158 = .ok (.invokestatic 193, 3) := by decide +kernel
theorem dX11_yours_161 : decode cX11_yours 161 = .ok (.iconst 1, 1) := by decide +kernel
theorem dX11_yours_162 : decode cX11_yours 162 = .ok (.iload 8, 2) := by decide +kernel
theorem dX11_yours_164 : decode cX11_yours 164 = .ok (.isub, 1) := by decide +kernel
theorem dX11_yours_165 : decode cX11_yours 165 = .ok (.iload 7, 2) := by decide +kernel
theorem dX11_yours_167 : decode cX11_yours 167 = .ok (.iload 4, 2) := by decide +kernel
theorem dX11_yours_169 : decode cX11_yours 169 = .ok (.iload_n 3, 1) := by decide +kernel
theorem dX11_yours_170 : decode cX11_yours 170 = .ok (.invokestatic 193, 3) := by decide +kernel
theorem dX11_yours_173 : decode cX11_yours 173 = .ok (.if_icmp .lt 7, 3) := by decide +kernel
theorem dX11_yours_176 : decode cX11_yours 176 = .ok (.iconst 1, 1) := by decide +kernel
theorem dX11_yours_177 : decode cX11_yours 177 = .ok (.goto 4, 3) := by decide +kernel
theorem dX11_yours_180 : decode cX11_yours 180 = .ok (.iconst 0, 1) := by decide +kernel
theorem dX11_yours_181 : decode cX11_yours 181 = .ok (.istore 9, 2) := by decide +kernel
theorem dX11_yours_183 : decode cX11_yours 183 = .ok (.iload 5, 2) := by decide +kernel
theorem dX11_yours_185 : decode cX11_yours 185 = .ok (.iload 9, 2) := by decide +kernel
theorem dX11_yours_187 : decode cX11_yours 187 = .ok (.ifCond .eq 10, 3) := by decide +kernel
theorem dX11_yours_190 : decode cX11_yours 190 = .ok (.iconst 1, 1) := by decide +kernel
theorem dX11_yours_191 : decode cX11_yours 191 = .ok (.iload 6, 2) := by decide +kernel
theorem dX11_yours_193 : decode cX11_yours 193 = .ok (.ishl, 1) := by decide +kernel
theorem dX11_yours_194 : decode cX11_yours 194 = .ok (.goto 4, 3) := by decide +kernel
theorem dX11_yours_197 : decode cX11_yours 197 = .ok (.iconst 0, 1) := by decide +kernel
theorem dX11_yours_198 : decode cX11_yours 198 = .ok (.ior, 1) := by decide +kernel
theorem dX11_yours_199 : decode cX11_yours 199 = .ok (.istore 5, 2) := by decide +kernel
theorem dX11_yours_201 : decode cX11_yours 201 = .ok (.iinc 6 1, 3) := by decide +kernel
theorem dX11_yours_204 : decode cX11_yours 204 = .ok (.goto (-96), 3) := by decide +kernel
theorem dX11_yours_207 : decode cX11_yours 207 = .ok (.iload 5, 2) := by decide +kernel
theorem dX11_yours_209 : decode cX11_yours 209 = .ok (.ireturn, 1) := by decide +kernel
theorem dX11_fraction_0 : decode cX11_fraction 0 = .ok (.lload_n 1, 1) := by decide +kernel
theorem dX11_fraction_1 : decode cX11_fraction 1 = .ok (.lstore 5, 2) := by decide +kernel
theorem dX11_fraction_3 : decode cX11_fraction 3 = .ok (.lload_n 3, 1) := by decide +kernel
theorem dX11_fraction_4 : decode cX11_fraction 4 = .ok (.lstore 7, 2) := by decide +kernel
theorem dX11_fraction_6 : decode cX11_fraction 6 = .ok (.lload 7, 2) := by decide +kernel
theorem dX11_fraction_8 : decode cX11_fraction 8 = .ok (.lconst 0, 1) := by decide +kernel
theorem dX11_fraction_9 : decode cX11_fraction 9 = .ok (.lcmp, 1) := by decide +kernel
theorem dX11_fraction_10 : decode cX11_fraction 10 = .ok (.ifCond .eq 21, 3) := by decide +kernel
theorem dX11_fraction_13 : decode cX11_fraction 13 = .ok (.lload 5, 2) := by decide +kernel
theorem dX11_fraction_15 : decode cX11_fraction 15 = .ok (.lload 7, 2) := by decide +kernel
theorem dX11_fraction_17 : decode cX11_fraction 17 = .ok (.lrem, 1) := by decide +kernel
theorem dX11_fraction_18 : decode cX11_fraction 18 = .ok (.lstore 9, 2) := by decide +kernel
theorem dX11_fraction_20 : decode cX11_fraction 20 = .ok (.lload 7, 2) := by decide +kernel
theorem dX11_fraction_22 : decode cX11_fraction 22 = .ok (.lstore 5, 2) := by decide +kernel
theorem dX11_fraction_24 : decode cX11_fraction 24 = .ok (.lload 9, 2) := by decide +kernel
theorem dX11_fraction_26 : decode cX11_fraction 26 = .ok (.lstore 7, 2) := by decide +kernel
theorem dX11_fraction_28 : decode cX11_fraction 28 = .ok (.goto (-22), 3) := by decide +kernel
theorem dX11_fraction_31 : decode cX11_fraction 31 = .ok (.aload_n 0, 1) := by decide +kernel
theorem dX11_fraction_32 : decode cX11_fraction 32 = .ok (.lload_n 1, 1) := by decide +kernel
theorem dX11_fraction_33 : decode cX11_fraction 33 = .ok (.lload 5, 2) := by decide +kernel
theorem dX11_fraction_35 : decode cX11_fraction 35 = .ok (.ldiv, 1) := by decide +kernel
theorem dX11_fraction_36 : decode cX11_fraction 36 = .ok (.putfield 197, 3) := by decide +kernel
theorem dX11_fraction_39 : decode cX11_fraction 39 = .ok (.aload_n 0, 1) := by decide +kernel
theorem dX11_fraction_40 : decode cX11_fraction 40 = .ok (.lload_n 3, 1) := by decide +kernel
theorem dX11_fraction_41 : decode cX11_fraction 41 = .ok (.lload 5, 2) := by decide +kernel
theorem dX11_fraction_43 : decode cX11_fraction 43 = .ok (.ldiv, 1) := by decide +kernel
theorem dX11_fraction_44 : decode cX11_fraction 44 = .ok (.putfield 23, 3) := by decide +kernel
theorem dX11_fraction_47 : decode cX11_fraction 47 = .ok (.return_, 1) := by decide +kernel
theorem dX11_gusts_0 : decode cX11_gusts 0 = .ok (.aload_n 0, 1) := by decide +kernel
theorem dX11_gusts_1 : decode cX11_gusts 1 = .ok (.iload_n 1, 1) := by decide +kernel
theorem dX11_gusts_2 : decode cX11_gusts 2 = .ok (.invokevirtual 118, 3) := by decide +kernel
theorem dX11_gusts_5 : decode cX11_gusts 5 = .ok (.ifCond .eq 15, 3) := by decide +kernel
theorem dX11_gusts_8 : decode cX11_gusts 8 = .ok (.iload_n 2, 1) := by decide +kernel
theorem dX11_gusts_9 : decode cX11_gusts 9 = .ok (.i2l, 1) := by decide +kernel
theorem dX11_gusts_10 : decode cX11_gusts 10 = .ok (.lconst 0, 1) := by decide +kernel
theorem dX11_gusts_11 : decode cX11_gusts 11 = .ok (.ldc2_w 200, 3) := by decide +kernel
theorem dX11_gusts_14 : decode cX11_gusts 14 = .ok (.invokestatic 53, 3) := by decide +kernel
theorem dX11_gusts_17 : decode cX11_gusts 17 = .ok (.ifCond .ne 10, 3) := by decide +kernel
theorem dX11_gusts_20 : decode cX11_gusts 20 = .ok (.aload_n 0, 1) := by decide +kernel
theorem dX11_gusts_21 : decode cX11_gusts 21 = .ok (.bipush (-2), 2) := by decide +kernel
theorem dX11_gusts_23 : decode cX11_gusts 23 = .ok (.invokevirtual 67, 3) := by decide +kernel
theorem dX11_gusts_26 : decode cX11_gusts 26 = .ok (.ireturn, 1) := by decide +kernel
theorem dX11_gusts_27 : decode cX11_gusts 27 = .ok (.bipush 13, 2) := by decide +kernel
theorem dX11_gusts_29 : decode cX11_gusts 29 = .ok (.aload_n 0, 1) := by decide +kernel
theorem dX11_gusts_30 : decode cX11_gusts 30 = .ok (.getfield 7, 3) := by decide +kernel
theorem dX11_gusts_33 : decode cX11_gusts 33 = .ok (.bipush 12, 2) := by decide +kernel
theorem dX11_gusts_35 : decode cX11_gusts 35 = .ok (.iaload, 1) := by decide +kernel
theorem dX11_gusts_36 : decode cX11_gusts 36 = .ok (.bipush 6, 2) := by decide +kernel
theorem dX11_gusts_38 : decode cX11_gusts 38 = .ok (.irem, 1) := by decide +kernel
theorem dX11_gusts_39 : decode cX11_gusts 39 = .ok (.iadd, 1) := by decide +kernel
theorem dX11_gusts_40 : decode cX11_gusts 40 = .ok (.istore_n 3, 1) := by decide +kernel
theorem dX11_gusts_41 : decode cX11_gusts 41 = .ok (.aload_n 0, 1) := by decide +kernel
theorem dX11_gusts_42 : decode cX11_gusts 42 = .ok (.invokevirtual 157, 3) := by decide +kernel
theorem dX11_gusts_45 : decode cX11_gusts 45 = .ok (.aload_n 0, 1) := by decide +kernel
theorem dX11_gusts_46 : decode cX11_gusts 46 = .ok (.getfield 30, 3) := by decide +kernel
theorem dX11_gusts_49 : decode cX11_gusts 49 = .ok (.iload_n 3, 1) := by decide +kernel
theorem dX11_gusts_50 : decode cX11_gusts 50 = .ok (.aload_n 0, 1) := by decide +kernel
theorem dX11_gusts_51 : decode cX11_gusts 51 = .ok (.getfield 7, 3) := by decide +kernel
theorem dX11_gusts_54 : decode cX11_gusts 54 = .ok (.iload_n 3, 1) := by decide +kernel
theorem dX11_gusts_55 : decode cX11_gusts 55 = .ok (.iaload, 1) := by decide +kernel
theorem dX11_gusts_56 : decode cX11_gusts 56 = .ok (.ifCond .ge 8, 3) := by decide +kernel
theorem dX11_gusts_59 : decode cX11_gusts 59 = .ok (.bipush (-4), 2) := by decide +kernel
theorem dX11_gusts_61 : decode cX11_gusts 61 = .ok (.goto 11, 3) := by decide +kernel
theorem dX11_gusts_64 : decode cX11_gusts 64 = .ok (.aload_n 0, 1) := by decide +kernel
theorem dX11_gusts_65 : decode cX11_gusts 65 = .ok (.getfield 7, 3) := by decide +kernel
theorem dX11_gusts_68 : decode cX11_gusts 68 = .ok (.iload_n 3, 1) := by decide +kernel
theorem dX11_gusts_69 : decode cX11_gusts 69 = .ok (.iaload, 1) := by decide +kernel
theorem dX11_gusts_70 : decode cX11_gusts 70 = .ok (.iconst 4, 1) := by decide +kernel
theorem dX11_gusts_71 : decode cX11_gusts 71 = .ok (.isub, 1) := by decide +kernel
theorem dX11_gusts_72 : decode cX11_gusts 72 = .ok (.iastore, 1) := by decide +kernel
theorem dX11_gusts_73 : decode cX11_gusts 73 = .ok (.aload_n 0, 1) := by decide +kernel
theorem dX11_gusts_74 : decode cX11_gusts 74 = .ok (.getfield 7, 3) := by decide +kernel
theorem dX11_gusts_77 : decode cX11_gusts 77 = .ok (.iload_n 1, 1) := by decide +kernel
theorem dX11_gusts_78 : decode cX11_gusts 78 = .ok (.aload_n 0, 1) := by decide +kernel
theorem dX11_gusts_79 : decode cX11_gusts 79 = .ok (.getfield 7, 3) := by decide +kernel
theorem dX11_gusts_82 : decode cX11_gusts 82 = .ok (.bipush 26, 2) := by decide +kernel
theorem dX11_gusts_84 : decode cX11_gusts 84 = .ok (.iload_n 1, 1) := by decide +kernel
theorem dX11_gusts_85 : decode cX11_gusts 85 = .ok (.iadd, 1) := by decide +kernel
theorem dX11_gusts_86 : decode cX11_gusts 86 = .ok (.iaload, 1) := by decide +kernel
theorem dX11_gusts_87 : decode cX11_gusts 87 = .ok (.aload_n 0, 1) := by decide +kernel
theorem dX11_gusts_88 : decode cX11_gusts 88 = .ok (.getfield 7, 3) := by decide +kernel
theorem dX11_gusts_91 : decode cX11_gusts 91 = .ok (.bipush 12, 2) := by decide +kernel
theorem dX11_gusts_93 : decode cX11_gusts 93 = .ok (.iaload, 1) := by decide +kernel
theorem dX11_gusts_94 : decode cX11_gusts 94 = .ok (.invokestatic 111, 3) := by decide +kernel
theorem dX11_gusts_97 : decode cX11_gusts 97 = .ok (.ifCond .eq 11, 3) := by decide +kernel
theorem dX11_gusts_100 : decode cX11_gusts 100 = .ok (.bipush 10, 2) := by decide +kernel
theorem dX11_gusts_102 : decode cX11_gusts 102 = .ok (.iload_n 2, 1) := by decide +kernel
theorem dX11_gusts_103 : decode cX11_gusts 103 = .ok (.isub, 1) := by decide +kernel
theorem dX11_gusts_104 : decode cX11_gusts 104 = .ok (.i2l, 1) := by decide +kernel
theorem dX11_gusts_105 : decode cX11_gusts 105 = .ok (.goto 4, 3) := by decide +kernel
theorem dX11_gusts_108 : decode cX11_gusts 108 = .ok (.lconst 0, 1) := by decide +kernel
theorem dX11_gusts_109 : decode cX11_gusts 109 = .ok (.lstore 4, 2) := by decide +kernel
theorem dX11_gusts_111 : decode cX11_gusts 111 = .ok (.lload 4, 2) := by decide +kernel
theorem dX11_gusts_113 : decode cX11_gusts 113 = .ok (.aload_n 0, 1) := by decide +kernel
theorem dX11_gusts_114 : decode cX11_gusts 114 = .ok (.getfield 30, 3) := by decide +kernel
theorem dX11_gusts_117 : decode cX11_gusts 117 = .ok (.iload_n 1, 1) := by decide +kernel
theorem dX11_gusts_118 : decode cX11_gusts 118 = .ok (.aload_n 0, 1) := by decide +kernel
theorem dX11_gusts_119 : decode cX11_gusts 119 = .ok (.getfield 7, 3) := by decide +kernel
theorem dX11_gusts_122 : decode cX11_gusts 122 = .ok (.bipush 26, 2) := by decide +kernel
theorem dX11_gusts_124 : decode cX11_gusts 124 = .ok (.iload_n 1, 1) := by decide +kernel
theorem dX11_gusts_125 : decode cX11_gusts 125 = .ok (.iadd, 1) := by decide +kernel
theorem dX11_gusts_126 : decode cX11_gusts 126 = .ok (.iaload, 1) := by decide +kernel
theorem dX11_gusts_127 : decode cX11_gusts 127 = .ok (.aload_n 0, 1) := by decide +kernel
theorem dX11_gusts_128 : decode cX11_gusts 128 = .ok (.getfield 7, 3) := by decide +kernel
theorem dX11_gusts_131 : decode cX11_gusts 131 = .ok (.bipush 12, 2) := by decide +kernel
theorem dX11_gusts_133 : decode cX11_gusts 133 = .ok (.iaload, 1) := by decide +kernel
theorem dX11_gusts_134 : decode cX11_gusts 134 = .ok (.invokestatic 111, 3) := by decide +kernel
theorem dX11_gusts_137 : decode cX11_gusts 137 = .ok (.ifCond .eq 8, 3) := by decide +kernel
theorem dX11_gusts_140 : decode cX11_gusts 140 = .ok (.iload_n 2, 1) := by decide +kernel
theorem dX11_gusts_141 : decode cX11_gusts 141 = .ok (.i2l, 1) := by decide +kernel
theorem dX11_gusts_142 : decode cX11_gusts 142 = .ok (.goto 4, 3) := by decide +kernel
theorem dX11_gusts_145 : decode cX11_gusts 145 = .ok (.lconst 0, 1) := by decide +kernel
theorem dX11_gusts_146 : decode cX11_gusts 146 = .ok (.ladd, 1) := by decide +kernel
theorem dX11_gusts_147 : decode cX11_gusts 147 = .ok (.lstore 4, 2) := by decide +kernel
theorem dX11_gusts_149 : decode cX11_gusts 149 = .ok (.aload_n 0, 1) := by decide +kernel
theorem dX11_gusts_150 : decode cX11_gusts 150 = .ok (.lload 4, 2) := by decide +kernel
theorem dX11_gusts_152 : decode cX11_gusts 152 = .ok (.ldc2_w 200, 3) := by decide +kernel
theorem dX11_gusts_155 : decode cX11_gusts 155 = .ok (.invokevirtual 202, 3) := by decide +kernel
theorem dX11_gusts_158 : decode cX11_gusts 158 = .ok (.iconst 1, 1) := by decide +kernel
theorem dX11_gusts_159 : decode cX11_gusts 159 = .ok (.ireturn, 1) := by decide +kernel
theorem dX11_centuries_0 : decode cX11_centuries 0 = .ok (.iload_n 1, 1) := by decide +kernel
theorem dX11_centuries_1 : decode cX11_centuries 1 = .ok (.i2l, 1) := by decide +kernel
theorem dX11_centuries_2 : decode cX11_centuries 2 = .ok (.lconst 0, 1) := by decide +kernel
theorem dX11_centuries_3 : decode cX11_centuries 3 = .ok (.ldc2_w 206, 3) := by decide +kernel
theorem dX11_centuries_6 : decode cX11_centuries 6 = .ok (.invokestatic 53, 3) := by decide +kernel
theorem dX11_centuries_9 : decode cX11_centuries 9 = .ok (.ifCond .eq 15, 3) := by decide +kernel
theorem dX11_centuries_12 : decode cX11_centuries 12 = .ok (.iload_n 2, 1) := by decide +kernel
theorem dX11_centuries_13 : decode cX11_centuries 13 = .ok (.i2l, 1) := by decide +kernel
theorem dX11_centuries_14 : decode cX11_centuries 14 = .ok (.lconst 0, 1) := by decide +kernel
theorem dX11_centuries_15 : decode cX11_centuries 15 = .ok (.ldc2_w 208, 3) := by decide +kernel
theorem dX11_centuries_18 : decode cX11_centuries 18 = .ok (.invokestatic 53, 3) := by decide +kernel
theorem dX11_centuries_21 : decode cX11_centuries 21 = .ok (.ifCond .ne 10, 3) := by decide +kernel
theorem dX11_centuries_24 : decode cX11_centuries 24 = .ok (.aload_n 0, 1) := by decide +kernel
theorem dX11_centuries_25 : decode cX11_centuries 25 = .ok (.bipush (-2), 2) := by decide +kernel
theorem dX11_centuries_27 : decode cX11_centuries 27 = .ok (.invokevirtual 67, 3) := by decide +kernel
theorem dX11_centuries_30 : decode cX11_centuries 30 = .ok (.ireturn, 1) := by decide +kernel
theorem dX11_centuries_31 : decode cX11_centuries 31 = .ok (.iload_n 1, 1) := by decide +kernel
theorem dX11_centuries_32 : decode cX11_centuries 32 = .ok (.i2l, 1) := by decide +kernel
theorem dX11_centuries_33 : decode cX11_centuries 33 = .ok (.lstore_n 3, 1) := by decide +kernel
theorem dX11_centuries_34 : decode cX11_centuries 34 = .ok (.iconst 0, 1) := by decide +kernel
theorem dX11_centuries_35 : decode cX11_centuries 35 = .ok (.istore 5, 2) := by decide +kernel
theorem dX11_centuries_37 : decode cX11_centuries 37 = .ok (.aload_n 0, 1) := by decide +kernel
theorem dX11_centuries_38 : decode cX11_centuries 38 = .ok (.invokevirtual 157, 3) := by decide +kernel
theorem dX11_centuries_41 : decode cX11_centuries 41 = .ok (.iconst 0, 1) := by decide +kernel
theorem dX11_centuries_42 : decode cX11_centuries 42 = .ok (.istore 6, 2) := by decide +kernel
theorem dX11_centuries_44 : decode cX11_centuries 44 = .ok (.iload 6, 2) := by decide +kernel
theorem dX11_centuries_46 : decode cX11_centuries 46 = .ok (.iload_n 2, 1) := by decide +kernel
theorem dX11_centuries_47 : decode cX11_centuries 47 = .ok (.if_icmp .ge 119, 3) := by decide +kernel
theorem dX11_centuries_50 : decode cX11_centuries 50 = .ok (.lload_n 3, 1) := by decide +kernel
theorem dX11_centuries_51 : decode cX11_centuries 51 = .ok (.ldc2_w 210, 3) := by decide +kernel
theorem dX11_centuries_54 : decode cX11_centuries 54 = .ok (.lmul, 1) := by decide +kernel
theorem dX11_centuries_55 : decode cX11_centuries 55 = .ok (.ldc2_w 212, 3) := by decide +kernel
theorem dX11_centuries_58 : decode cX11_centuries 58 = .ok (.ladd, 1) := by decide +kernel
theorem dX11_centuries_59 : decode cX11_centuries 59 = .ok (.ldc2_w 214, 3) := by decide +kernel
theorem dX11_centuries_62 : decode cX11_centuries 62 = .ok (.lrem, 1) := by decide +kernel
theorem dX11_centuries_63 : decode cX11_centuries 63 = .ok (.lstore_n 3, 1) := by decide +kernel
theorem dX11_centuries_64 : decode cX11_centuries 64 = .ok (.lload_n 3, 1) := by decide +kernel
theorem dX11_centuries_65 : decode cX11_centuries 65 = .ok (.ldc2_w 216, 3) := by decide +kernel
theorem dX11_centuries_68 : decode cX11_centuries 68 = .ok (.ldiv, 1) := by decide +kernel
theorem dX11_centuries_69 : decode cX11_centuries 69 = .ok (.ldc2_w 218, 3) := by decide +kernel
theorem dX11_centuries_72 : decode cX11_centuries 72 = .ok (.lrem, 1) := by decide +kernel
theorem dX11_centuries_73 : decode cX11_centuries 73 = .ok (.l2i, 1) := by decide +kernel
theorem dX11_centuries_74 : decode cX11_centuries 74 = .ok (.istore 7, 2) := by decide +kernel
theorem dX11_centuries_76 : decode cX11_centuries 76 = .ok (.aload_n 0, 1) := by decide +kernel
theorem dX11_centuries_77 : decode cX11_centuries 77 = .ok (.getfield 30, 3) := by decide +kernel
theorem dX11_centuries_80 : decode cX11_centuries 80 = .ok (.bipush 9, 2) := by decide +kernel
theorem dX11_centuries_82 : decode cX11_centuries 82 = .ok (.iaload, 1) := by decide +kernel
theorem dX11_centuries_83 : decode cX11_centuries 83 = .ok (.ifCond .ne 28, 3) := by decide +kernel
theorem dX11_centuries_86 : decode cX11_centuries 86 = .ok (.aload_n 0, 1) := by decide +kernel
theorem dX11_centuries_87 : decode cX11_centuries 87 = .ok (.getfield 30, 3) := by decide +kernel
theorem dX11_centuries_90 : decode cX11_centuries 90 = .ok (.bipush 9, 2) := by decide +kernel
theorem dX11_centuries_92 : decode cX11_centuries 92 = .ok (.iconst 1, 1) := by decide +kernel
theorem dX11_centuries_93 : decode cX11_centuries 93 = .ok (.iastore, 1) := by decide +kernel
theorem dX11_centuries_94 : decode cX11_centuries 94 = .ok (.aload_n 0, 1) := by decide +kernel
theorem dX11_centuries_95 : decode cX11_centuries 95 = .ok (.getfield 30, 3) := by decide +kernel
theorem dX11_centuries_98 : decode cX11_centuries 98 = .ok (.bipush 8, 2) := by decide +kernel
theorem dX11_centuries_100 : decode cX11_centuries 100 = .ok (.lload_n 3, 1) := by decide +kernel
theorem dX11_centuries_101 : decode cX11_centuries 101 = .ok (.ldc2_w 220, 3) := by decide +kernel
theorem dX11_centuries_104 : decode cX11_centuries 104 = .ok (.ldiv, 1) := by decide +kernel
theorem dX11_centuries_105 : decode cX11_centuries 105 = .ok (.ldc2_w 167, 3) := by decide +kernel
theorem dX11_centuries_108 : decode cX11_centuries 108 = .ok (.lrem, 1) := by decide +kernel
theorem dX11_centuries_109 : decode cX11_centuries 109 = .ok (.l2i, 1) := by decide +kernel
theorem dX11_centuries_110 : decode cX11_centuries 110 = .ok (.iastore, 1) := by decide +kernel
theorem dX11_centuries_111 : decode cX11_centuries 111 = .ok (.aload_n 0, 1) := by decide +kernel
theorem dX11_centuries_112 : decode cX11_centuries 112 = .ok (.iload 7, 2) := by decide +kernel
theorem dX11_centuries_114 : decode cX11_centuries 114 = .ok (.invokevirtual 118, 3) := by decide +kernel
theorem dX11_centuries_117 : decode cX11_centuries 117 = .ok (.ifCond .eq 32, 3) := by decide +kernel
theorem dX11_centuries_120 : decode cX11_centuries 120 = .ok (.aload_n 0, 1) := by decide +kernel
theorem dX11_centuries_121 : decode cX11_centuries 121 = .ok (.getfield 30, 3) := by decide +kernel
theorem dX11_centuries_124 : decode cX11_centuries 124 = .ok (.iload 7, 2) := by decide +kernel
theorem dX11_centuries_126 : decode cX11_centuries 126 = .ok (.invokestatic 107, 3) := by decide +kernel
theorem dX11_centuries_129 : decode cX11_centuries 129 = .ok (.ifCond .eq 20, 3) := by decide +kernel
theorem dX11_centuries_132 : decode cX11_centuries 132 = .ok (.iload 5, 2) := by decide +kernel
theorem dX11_centuries_134 : decode cX11_centuries 134 = .ok (.aload_n 0, 1) := by decide +kernel
theorem dX11_centuries_135 : decode cX11_centuries 135 = .ok (.getfield 30, 3) := by decide +kernel
theorem dX11_centuries_138 : decode cX11_centuries 138 = .ok (.iload 7, 2) := by decide +kernel
theorem dX11_centuries_140 : decode cX11_centuries 140 = .ok (.invokestatic 130, 3) := by decide +kernel
theorem dX11_centuries_143 : decode cX11_centuries 143 = .ok (.iadd, 1) := by decide +kernel
theorem dX11_centuries_144 : decode cX11_centuries 144 = .ok (.istore 5, 2) := by decide +kernel
theorem dX11_centuries_146 : decode cX11_centuries 146 = .ok (.goto 14, 3) := by decide +kernel
theorem dX11_centuries_149 : decode cX11_centuries 149 = .ok (.aload_n 0, 1) := by decide +kernel
theorem dX11_centuries_150 : decode cX11_centuries 150 = .ok (.getfield 30, 3) := by decide +kernel
theorem dX11_centuries_153 : decode cX11_centuries 153 = .ok (.bipush 12, 2) := by decide +kernel
theorem dX11_centuries_155 : decode cX11_centuries 155 = .ok (.dup2, 1) := by decide +kernel
theorem dX11_centuries_156 : decode cX11_centuries 156 = .ok (.iaload, 1) := by decide +kernel
theorem dX11_centuries_157 : decode cX11_centuries 157 = .ok (.iconst 1, 1) := by decide +kernel
theorem dX11_centuries_158 : decode cX11_centuries 158 = .ok (.iadd, 1) := by decide +kernel
theorem dX11_centuries_159 : decode cX11_centuries 159 = .ok (.iastore, 1) := by decide +kernel
theorem dX11_centuries_160 : decode cX11_centuries 160 = .ok (.iinc 6 1, 3) := by decide +kernel
theorem dX11_centuries_163 : decode cX11_centuries 163 = .ok (.goto (-119), 3) := by decide +kernel
theorem dX11_centuries_166 : decode cX11_centuries 166 = .ok (.iload 5, 2) := by decide +kernel
theorem dX11_centuries_168 : decode cX11_centuries 168 = .ok (.ireturn, 1) := by decide +kernel
theorem dX11_type_0 : decode cX11_type 0 = .ok (.iload_n 1, 1) := by decide +kernel
theorem dX11_type_1 : decode cX11_type 1 = .ok (.i2l, 1) := by decide +kernel
theorem dX11_type_2 : decode cX11_type 2 = .ok (.lconst 0, 1) := by decide +kernel
theorem dX11_type_3 : decode cX11_type 3 = .ok (.ldc2_w 222, 3) := by decide +kernel
theorem dX11_type_6 : decode cX11_type 6 = .ok (.invokestatic 53, 3) := by decide +kernel
theorem dX11_type_9 : decode cX11_type 9 = .ok (.ifCond .ne 10, 3) := by decide +kernel
theorem dX11_type_12 : decode cX11_type 12 = .ok (.aload_n 0, 1) := by decide +kernel
theorem dX11_type_13 : decode cX11_type 13 = .ok (.bipush (-2), 2) := by decide +kernel
theorem dX11_type_15 : decode cX11_type 15 = .ok (.invokevirtual 67, 3) := by decide +kernel
theorem dX11_type_18 : decode cX11_type 18 = .ok (.ireturn, 1) := by decide +kernel
theorem dX11_type_19 : decode cX11_type 19 = .ok (.aload_n 0, 1) := by decide +kernel
theorem dX11_type_20 : decode cX11_type 20 = .ok (.getfield 224, 3) := by decide +kernel
theorem dX11_type_23 : decode cX11_type 23 = .ok (.sipush 150, 3) := by decide +kernel
theorem dX11_type_26 : decode cX11_type 26 = .ok (.if_icmp .ne 8, 3) := by decide +kernel
theorem dX11_type_29 : decode cX11_type 29 = .ok (.aload_n 0, 1) := by decide +kernel
theorem dX11_type_30 : decode cX11_type 30 = .ok (.invokevirtual 84, 3) := by decide +kernel
theorem dX11_type_33 : decode cX11_type 33 = .ok (.ireturn, 1) := by decide +kernel
theorem dX11_type_34 : decode cX11_type 34 = .ok (.aload_n 0, 1) := by decide +kernel
theorem dX11_type_35 : decode cX11_type 35 = .ok (.getfield 36, 3) := by decide +kernel
theorem dX11_type_38 : decode cX11_type 38 = .ok (.aload_n 0, 1) := by decide +kernel
theorem dX11_type_39 : decode cX11_type 39 = .ok (.getfield 224, 3) := by decide +kernel
theorem dX11_type_42 : decode cX11_type 42 = .ok (.iload_n 1, 1) := by decide +kernel
theorem dX11_type_43 : decode cX11_type 43 = .ok (.iastore, 1) := by decide +kernel
theorem dX11_type_44 : decode cX11_type 44 = .ok (.aload_n 0, 1) := by decide +kernel
theorem dX11_type_45 : decode cX11_type 45 = .ok (.dup, 1) := by decide +kernel
theorem dX11_type_46 : decode cX11_type 46 = .ok (.getfield 224, 3) := by decide +kernel
theorem dX11_type_49 : decode cX11_type 49 = .ok (.iconst 1, 1) := by decide +kernel
theorem dX11_type_50 : decode cX11_type 50 = .ok (.iadd, 1) := by decide +kernel
theorem dX11_type_51 : decode cX11_type 51 = .ok (.putfield 224, 3) := by decide +kernel
theorem dX11_type_54 : decode cX11_type 54 = .ok (.aload_n 0, 1) := by decide +kernel
theorem dX11_type_55 : decode cX11_type 55 = .ok (.getfield 224, 3) := by decide +kernel
theorem dX11_type_58 : decode cX11_type 58 = .ok (.ireturn, 1) := by decide +kernel
theorem dX11_clear_0 : decode cX11_clear 0 = .ok (.aload_n 0, 1) := by decide +kernel
theorem dX11_clear_1 : decode cX11_clear 1 = .ok (.getfield 224, 3) := by decide +kernel
theorem dX11_clear_4 : decode cX11_clear 4 = .ok (.istore_n 1, 1) := by decide +kernel
theorem dX11_clear_5 : decode cX11_clear 5 = .ok (.aload_n 0, 1) := by decide +kernel
theorem dX11_clear_6 : decode cX11_clear 6 = .ok (.iconst 0, 1) := by decide +kernel
theorem dX11_clear_7 : decode cX11_clear 7 = .ok (.putfield 224, 3) := by decide +kernel
theorem dX11_clear_10 : decode cX11_clear 10 = .ok (.iload_n 1, 1) := by decide +kernel
theorem dX11_clear_11 : decode cX11_clear 11 = .ok (.ireturn, 1) := by decide +kernel
theorem dX11_isSmall_0 : decode cX11_isSmall 0 = .ok (.iload_n 0, 1) := by decide +kernel
theorem dX11_isSmall_1 : decode cX11_isSmall 1 = .ok (.i2l, 1) := by decide +kernel
theorem dX11_isSmall_2 : decode cX11_isSmall 2 = .ok (.ldc2_w 228, 3) := by decide +kernel
theorem dX11_isSmall_5 : decode cX11_isSmall 5 = .ok (.ldc2_w 230, 3) := by decide +kernel
theorem dX11_isSmall_8 : decode cX11_isSmall 8 = .ok (.invokestatic 53, 3) := by decide +kernel
theorem dX11_isSmall_11 : decode cX11_isSmall 11 = .ok (.ireturn, 1) := by decide +kernel
theorem dX11_isFigure_0 : decode cX11_isFigure 0 = .ok (.iload_n 0, 1) := by decide +kernel
theorem dX11_isFigure_1 : decode cX11_isFigure 1 = .ok (.i2l, 1) := by decide +kernel
theorem dX11_isFigure_2 : decode cX11_isFigure 2 = .ok (.ldc2_w 232, 3) := by decide +kernel
theorem dX11_isFigure_5 : decode cX11_isFigure 5 = .ok (.ldc2_w 234, 3) := by decide +kernel
theorem dX11_isFigure_8 : decode cX11_isFigure 8 = .ok (.invokestatic 53, 3) := by decide +kernel
theorem dX11_isFigure_11 : decode cX11_isFigure 11 = .ok (.ireturn, 1) := by decide +kernel
theorem dX11_lookAt_0 : decode cX11_lookAt 0 = .ok (.aload_n 0, 1) := by decide +kernel
theorem dX11_lookAt_1 : decode cX11_lookAt 1 = .ok (.iload_n 1, 1) := by decide +kernel
theorem dX11_lookAt_2 : decode cX11_lookAt 2 = .ok (.putfield 236, 3) := by decide +kernel
theorem dX11_lookAt_5 : decode cX11_lookAt 5 = .ok (.aload_n 0, 1) := by decide +kernel
theorem dX11_lookAt_6 : decode cX11_lookAt 6 = .ok (.getfield 236, 3) := by decide +kernel
theorem dX11_lookAt_9 : decode cX11_lookAt 9 = .ok (.aload_n 0, 1) := by decide +kernel
theorem dX11_lookAt_10 : decode cX11_lookAt 10 = .ok (.getfield 224, 3) := by decide +kernel
theorem dX11_lookAt_13 : decode cX11_lookAt 13 = .ok (.if_icmp .ge 30, 3) := by decide +kernel
theorem dX11_lookAt_16 : decode cX11_lookAt 16 = .ok (.aload_n 0, 1) := by decide +kernel
theorem dX11_lookAt_17 : decode cX11_lookAt 17 = .ok (.getfield 36, 3) := by decide +kernel
theorem dX11_lookAt_20 : decode cX11_lookAt 20 = .ok (.aload_n 0, 1) := by decide +kernel
theorem dX11_lookAt_21 : decode cX11_lookAt 21 = .ok (.getfield 236, 3) := by decide +kernel
theorem dX11_lookAt_24 : decode cX11_lookAt 24 = .ok (.iaload, 1) := by decide +kernel
theorem dX11_lookAt_25 : decode cX11_lookAt 25 = .ok (.bipush 32, 2) := by decide +kernel
theorem dX11_lookAt_27 : decode cX11_lookAt 27 = .ok (.if_icmp .ne 16, 3) := by decide +kernel
theorem dX11_lookAt_30 : decode cX11_lookAt 30 = .ok (.aload_n 0, 1) := by decide +kernel
theorem dX11_lookAt_31 : decode cX11_lookAt 31 = .ok (.dup, 1) := by decide +kernel
theorem dX11_lookAt_32 : decode cX11_lookAt 32 = .ok (.getfield 236, 3) := by decide +kernel
theorem dX11_lookAt_35 : decode cX11_lookAt 35 = .ok (.iconst 1, 1) := by decide +kernel
theorem dX11_lookAt_36 : decode cX11_lookAt 36 = .ok (.iadd, 1) := by decide +kernel
theorem dX11_lookAt_37 : decode cX11_lookAt 37 = .ok (.putfield 236, 3) := by decide +kernel
theorem dX11_lookAt_40 : decode cX11_lookAt 40 = .ok (.goto (-35), 3) := by decide +kernel
theorem dX11_lookAt_43 : decode cX11_lookAt 43 = .ok (.aload_n 0, 1) := by decide +kernel
theorem dX11_lookAt_44 : decode cX11_lookAt 44 = .ok (.iconst 0, 1) := by decide +kernel
theorem dX11_lookAt_45 : decode cX11_lookAt 45 = .ok (.putfield 239, 3) := by decide +kernel
theorem dX11_lookAt_48 : decode cX11_lookAt 48 = .ok (.aload_n 0, 1) := by decide +kernel
theorem dX11_lookAt_49 : decode cX11_lookAt 49 = .ok (.iconst 0, 1) := by decide +kernel
theorem dX11_lookAt_50 : decode cX11_lookAt 50 = .ok (.putfield 242, 3) := by decide +kernel
theorem dX11_lookAt_53 : decode cX11_lookAt 53 = .ok (.aload_n 0, 1) := by decide +kernel
theorem dX11_lookAt_54 : decode cX11_lookAt 54 = .ok (.iconst 0, 1) := by decide +kernel
theorem dX11_lookAt_55 : decode cX11_lookAt 55 = .ok (.putfield 245, 3) := by decide +kernel
theorem dX11_lookAt_58 : decode cX11_lookAt 58 = .ok (.aload_n 0, 1) := by decide +kernel
theorem dX11_lookAt_59 : decode cX11_lookAt 59 = .ok (.getfield 236, 3) := by decide +kernel
theorem dX11_lookAt_62 : decode cX11_lookAt 62 = .ok (.aload_n 0, 1) := by decide +kernel
theorem dX11_lookAt_63 : decode cX11_lookAt 63 = .ok (.getfield 224, 3) := by decide +kernel
theorem dX11_lookAt_66 : decode cX11_lookAt 66 = .ok (.if_icmp .ne 4, 3) := by decide +kernel
theorem dX11_lookAt_69 : decode cX11_lookAt 69 = .ok (.return_, 1) := by decide +kernel
theorem dX11_lookAt_70 : decode cX11_lookAt 70 = .ok (.aload_n 0, 1) := by decide +kernel
theorem dX11_lookAt_71 : decode cX11_lookAt 71 = .ok (.getfield 36, 3) := by decide +kernel
theorem dX11_lookAt_74 : decode cX11_lookAt 74 = .ok (.aload_n 0, 1) := by decide +kernel
theorem dX11_lookAt_75 : decode cX11_lookAt 75 = .ok (.getfield 236, 3) := by decide +kernel
theorem dX11_lookAt_78 : decode cX11_lookAt 78 = .ok (.iaload, 1) := by decide +kernel
theorem dX11_lookAt_79 : decode cX11_lookAt 79 = .ok (.istore_n 2, 1) := by decide +kernel
theorem dX11_lookAt_80 : decode cX11_lookAt 80 = .ok (.aload_n 0, 1) := by decide +kernel
theorem dX11_lookAt_81 : decode cX11_lookAt 81 = .ok (.iload_n 2, 1) := by decide +kernel
theorem dX11_lookAt_82 : decode cX11_lookAt 82 = .ok (.invokestatic 248, 3) := by decide +kernel
theorem dX11_lookAt_85 : decode cX11_lookAt 85 = .ok (.ifCond .eq 7, 3) := by decide +kernel
theorem dX11_lookAt_88 : decode cX11_lookAt 88 = .ok (.iconst 1, 1) := by decide +kernel
theorem dX11_lookAt_89 : decode cX11_lookAt 89 = .ok (.goto 25, 3) := by decide +kernel
theorem dX11_lookAt_92 : decode cX11_lookAt 92 = .ok (.iload_n 2, 1) := by decide +kernel
theorem dX11_lookAt_93 : decode cX11_lookAt 93 = .ok (.invokestatic 251, 3) := by decide +kernel
theorem dX11_lookAt_96 : decode cX11_lookAt 96 = .ok (.ifCond .eq 7, 3) := by decide +kernel
theorem dX11_lookAt_99 : decode cX11_lookAt 99 = .ok (.iconst 2, 1) := by decide +kernel
theorem dX11_lookAt_100 : decode cX11_lookAt 100 = .ok (.goto 14, 3) := by decide +kernel
theorem dX11_lookAt_103 : decode cX11_lookAt 103 = .ok (.iload_n 2, 1) := by decide +kernel
theorem dX11_lookAt_104 : decode cX11_lookAt 104 = .ok (.bipush 59, 2) := by decide +kernel
theorem dX11_lookAt_106 : decode cX11_lookAt 106 = .ok (.if_icmp .ne 7, 3) := by decide +kernel
theorem dX11_lookAt_109 : decode cX11_lookAt 109 = .ok (.iconst 3, 1) := by decide +kernel
theorem dX11_lookAt_110 : decode cX11_lookAt 110 = .ok (.goto 4, 3) := by decide +kernel
theorem dX11_lookAt_113 : decode cX11_lookAt 113 = .ok (.iconst 4, 1) := by decide +kernel
theorem dX11_lookAt_114 : decode cX11_lookAt 114 = .ok (.putfield 242, 3) := by decide +kernel
theorem dX11_lookAt_117 : decode cX11_lookAt 117 = .ok (.aload_n 0, 1) := by decide +kernel
theorem dX11_lookAt_118 : decode cX11_lookAt 118 = .ok (.iconst 1, 1) := by decide +kernel
theorem dX11_lookAt_119 : decode cX11_lookAt 119 = .ok (.putfield 239, 3) := by decide +kernel
theorem dX11_lookAt_122 : decode cX11_lookAt 122 = .ok (.aload_n 0, 1) := by decide +kernel
theorem dX11_lookAt_123 : decode cX11_lookAt 123 = .ok (.getfield 242, 3) := by decide +kernel
theorem dX11_lookAt_126 : decode cX11_lookAt 126 = .ok (.iconst 3, 1) := by decide +kernel
theorem dX11_lookAt_127 : decode cX11_lookAt 127 = .ok (.if_icmp .ge 7, 3) := by decide +kernel
theorem dX11_lookAt_130 : decode cX11_lookAt 130 = .ok (.iconst 1, 1) := by decide +kernel
theorem dX11_lookAt_131 : decode cX11_lookAt 131 = .ok (.goto 4, 3) := by decide +kernel
theorem dX11_lookAt_134 : decode cX11_lookAt 134 = .ok (.iconst 0, 1) := by decide +kernel
theorem dX11_lookAt_135 : decode cX11_lookAt 135 = .ok (.istore_n 3, 1) := by decide +kernel
theorem dX11_lookAt_136 : decode cX11_lookAt 136 = .ok (.iload_n 3, 1) := by decide +kernel
theorem dX11_lookAt_137 : decode cX11_lookAt 137 = .ok (.ifCond .eq 78, 3) := by decide +kernel
theorem dX11_lookAt_140 : decode cX11_lookAt 140 = .ok (.aload_n 0, 1) := by decide +kernel
theorem dX11_lookAt_141 : decode cX11_lookAt 141 = .ok (.getfield 236, 3) := by decide +kernel
theorem dX11_lookAt_144 : decode cX11_lookAt 144 = .ok (.aload_n 0, 1) := by decide +kernel
theorem dX11_lookAt_145 : decode cX11_lookAt 145 = .ok (.getfield 239, 3) := by decide +kernel
theorem dX11_lookAt_148 : decode cX11_lookAt 148 = .ok (.iadd, 1) := by decide +kernel
theorem dX11_lookAt_149 : decode cX11_lookAt 149 = .ok (.aload_n 0, 1) := by decide +kernel
theorem dX11_lookAt_150 : decode cX11_lookAt 150 = .ok (.getfield 224, 3) := by decide +kernel
theorem dX11_lookAt_153 : decode cX11_lookAt 153 = .ok (.if_icmp .ge 62, 3) := by decide +kernel
theorem dX11_lookAt_156 : decode cX11_lookAt 156 = .ok (.aload_n 0, 1) := by decide +kernel
theorem dX11_lookAt_157 : decode cX11_lookAt 157 = .ok (.getfield 36, 3) := by decide +kernel
theorem dX11_lookAt_160 : decode cX11_lookAt 160 = .ok (.aload_n 0, 1) := by decide +kernel
theorem dX11_lookAt_161 : decode cX11_lookAt 161 = .ok (.getfield 236, 3) := by decide +kernel
theorem dX11_lookAt_164 : decode cX11_lookAt 164 = .ok (.aload_n 0, 1) := by decide +kernel
theorem dX11_lookAt_165 : decode cX11_lookAt 165 = .ok (.getfield 239, 3) := by decide +kernel
theorem dX11_lookAt_168 : decode cX11_lookAt 168 = .ok (.iadd, 1) := by decide +kernel
theorem dX11_lookAt_169 : decode cX11_lookAt 169 = .ok (.iaload, 1) := by decide +kernel
theorem dX11_lookAt_170 : decode cX11_lookAt 170 = .ok (.istore 4, 2) := by decide +kernel
theorem dX11_lookAt_172 : decode cX11_lookAt 172 = .ok (.aload_n 0, 1) := by decide +kernel
theorem dX11_lookAt_173 : decode cX11_lookAt 173 = .ok (.getfield 242, 3) := by decide +kernel
theorem dX11_lookAt_176 : decode cX11_lookAt 176 = .ok (.iconst 1, 1) := by decide +kernel
theorem dX11_lookAt_177 : decode cX11_lookAt 177 = .ok (.if_icmp .ne 11, 3) := by decide +kernel
theorem dX11_lookAt_180 : decode cX11_lookAt 180 = .ok (.iload 4, 2) := by decide +kernel
theorem dX11_lookAt_182 : decode cX11_lookAt 182 = .ok (.invokestatic 248, 3) := by decide +kernel
theorem dX11_lookAt_185 : decode cX11_lookAt 185 = .ok (.goto 8, 3) := by decide +kernel
theorem dX11_lookAt_188 : decode cX11_lookAt 188 = .ok (.iload 4, 2) := by decide +kernel
theorem dX11_lookAt_190 : decode cX11_lookAt 190 = .ok (.invokestatic 251, 3) := by decide +kernel
theorem dX11_lookAt_193 : decode cX11_lookAt 193 = .ok (.istore_n 3, 1) := by decide +kernel
theorem dX11_lookAt_194 : decode cX11_lookAt 194 = .ok (.aload_n 0, 1) := by decide +kernel
theorem dX11_lookAt_195 : decode cX11_lookAt 195 = .ok (.dup, 1) := by decide +kernel
theorem dX11_lookAt_196 : decode cX11_lookAt 196 = .ok (.getfield 239, 3) := by decide +kernel
theorem dX11_lookAt_199 : decode cX11_lookAt 199 = .ok (.iload_n 3, 1) := by decide +kernel
theorem dX11_lookAt_200 : decode cX11_lookAt 200 = .ok (.ifCond .eq 7, 3) := by decide +kernel
theorem dX11_lookAt_203 : decode cX11_lookAt 203 = .ok (.iconst 1, 1) := by decide +kernel
theorem dX11_lookAt_204 : decode cX11_lookAt 204 = .ok (.goto 4, 3) := by decide +kernel
theorem dX11_lookAt_207 : decode cX11_lookAt 207 = .ok (.iconst 0, 1) := by decide +kernel
theorem dX11_lookAt_208 : decode cX11_lookAt 208 = .ok (.iadd, 1) := by decide +kernel
theorem dX11_lookAt_209 : decode cX11_lookAt 209 = .ok (.putfield 239, 3) := by decide +kernel
theorem dX11_lookAt_212 : decode cX11_lookAt 212 = .ok (.goto (-76), 3) := by decide +kernel
theorem dX11_lookAt_215 : decode cX11_lookAt 215 = .ok (.iconst 0, 1) := by decide +kernel
theorem dX11_lookAt_216 : decode cX11_lookAt 216 = .ok (.istore 4, 2) := by decide +kernel
theorem dX11_lookAt_218 : decode cX11_lookAt 218 = .ok (.iload 4, 2) := by decide +kernel
theorem dX11_lookAt_220 : decode cX11_lookAt 220 = .ok (.aload_n 0, 1) := by decide +kernel
theorem dX11_lookAt_221 : decode cX11_lookAt 221 = .ok (.getfield 239, 3) := by decide +kernel
theorem dX11_lookAt_224 : decode cX11_lookAt 224 = .ok (.if_icmp .ge 50, 3) := by decide +kernel
theorem dX11_lookAt_227 : decode cX11_lookAt 227 = .ok (.iload 4, 2) := by decide +kernel
theorem dX11_lookAt_229 : decode cX11_lookAt 229 = .ok (.iconst 2, 1) := by decide +kernel
theorem dX11_lookAt_230 : decode cX11_lookAt 230 = .ok (.if_icmp .ge 44, 3) := by decide +kernel
theorem dX11_lookAt_233 : decode cX11_lookAt 233 = .ok (.aload_n 0, 1) := by decide +kernel
theorem dX11_lookAt_234 : decode cX11_lookAt 234 = .ok (.getfield 242, 3) := by decide +kernel
theorem dX11_lookAt_237 : decode cX11_lookAt 237 = .ok (.iconst 2, 1) := by decide +kernel
theorem dX11_lookAt_238 : decode cX11_lookAt 238 = .ok (.if_icmp .ne 36, 3) := by decide +kernel
theorem dX11_lookAt_241 : decode cX11_lookAt 241 = .ok (.aload_n 0, 1) := by decide +kernel
theorem dX11_lookAt_242 : decode cX11_lookAt 242 = .ok (.bipush 10, 2) := by decide +kernel
theorem dX11_lookAt_244 : decode cX11_lookAt 244 = .ok (.aload_n 0, 1) := by decide +kernel
theorem dX11_lookAt_245 : decode cX11_lookAt 245 = .ok (.getfield 245, 3) := by decide +kernel
theorem dX11_lookAt_248 : decode cX11_lookAt 248 = .ok (.imul, 1) := by decide +kernel
theorem dX11_lookAt_249 : decode cX11_lookAt 249 = .ok (.aload_n 0, 1) := by decide +kernel
theorem dX11_lookAt_250 : decode cX11_lookAt 250 = .ok (.getfield 36, 3) := by decide +kernel
theorem dX11_lookAt_253 : decode cX11_lookAt 253 = .ok (.aload_n 0, 1) := by decide +kernel
theorem dX11_lookAt_254 : decode cX11_lookAt 254 = .ok (.getfield 236, 3) := by decide +kernel
theorem dX11_lookAt_257 : decode cX11_lookAt 257 = .ok (.iload 4, 2) := by decide +kernel
theorem dX11_lookAt_259 : decode cX11_lookAt 259 = .ok (.iadd, 1) := by decide +kernel
theorem dX11_lookAt_260 : decode cX11_lookAt 260 = .ok (.iaload, 1) := by decide +kernel
theorem dX11_lookAt_261 : decode cX11_lookAt 261 = .ok (.iadd, 1) := by decide +kernel
theorem dX11_lookAt_262 : decode cX11_lookAt 262 = .ok (.bipush 48, 2) := by decide +kernel
theorem dX11_lookAt_264 : decode cX11_lookAt 264 = .ok (.isub, 1) := by decide +kernel
theorem dX11_lookAt_265 : decode cX11_lookAt 265 = .ok (.putfield 245, 3) := by decide +kernel
theorem dX11_lookAt_268 : decode cX11_lookAt 268 = .ok (.iinc 4 1, 3) := by decide +kernel
theorem dX11_lookAt_271 : decode cX11_lookAt 271 = .ok (.goto (-53), 3) := by decide +kernel
theorem dX11_lookAt_274 : decode cX11_lookAt 274 = .ok (.aload_n 0, 1) := by decide +kernel
theorem dX11_lookAt_275 : decode cX11_lookAt 275 = .ok (.aload_n 0, 1) := by decide +kernel
theorem dX11_lookAt_276 : decode cX11_lookAt 276 = .ok (.getfield 242, 3) := by decide +kernel
theorem dX11_lookAt_279 : decode cX11_lookAt 279 = .ok (.iconst 2, 1) := by decide +kernel
theorem dX11_lookAt_280 : decode cX11_lookAt 280 = .ok (.if_icmp .ne 15, 3) := by decide +kernel
theorem dX11_lookAt_283 : decode cX11_lookAt 283 = .ok (.aload_n 0, 1) := by decide +kernel
theorem dX11_lookAt_284 : decode cX11_lookAt 284 = .ok (.getfield 239, 3) := by decide +kernel
theorem dX11_lookAt_287 : decode cX11_lookAt 287 = .ok (.iconst 2, 1) := by decide +kernel
theorem dX11_lookAt_288 : decode cX11_lookAt 288 = .ok (.if_icmp .le 7, 3) := by decide +kernel
theorem dX11_lookAt_291 : decode cX11_lookAt 291 = .ok (.iconst 4, 1) := by decide +kernel
theorem dX11_lookAt_292 : decode cX11_lookAt 292 = .ok (.goto 7, 3) := by decide +kernel
theorem dX11_lookAt_295 : decode cX11_lookAt 295 = .ok (.aload_n 0, 1) := by decide +kernel
theorem dX11_lookAt_296 : decode cX11_lookAt 296 = .ok (.getfield 242, 3) := by decide +kernel
theorem dX11_lookAt_299 : decode cX11_lookAt 299 = .ok (.putfield 242, 3) := by decide +kernel
theorem dX11_lookAt_302 : decode cX11_lookAt 302 = .ok (.return_, 1) := by decide +kernel
theorem dX11_goBehind_0 : decode cX11_goBehind 0 = .ok (.aload_n 0, 1) := by decide +kernel
theorem dX11_goBehind_1 : decode cX11_goBehind 1 = .ok (.aload_n 0, 1) := by decide +kernel
theorem dX11_goBehind_2 : decode cX11_goBehind 2 = .ok (.getfield 236, 3) := by decide +kernel
theorem dX11_goBehind_5 : decode cX11_goBehind 5 = .ok (.aload_n 0, 1) := by decide +kernel
theorem dX11_goBehind_6 : decode cX11_goBehind 6 = .ok (.getfield 239, 3) := by decide +kernel
theorem dX11_goBehind_9 : decode cX11_goBehind 9 = .ok (.iadd, 1) := by decide +kernel
theorem dX11_goBehind_10 : decode cX11_goBehind 10 = .ok (.invokevirtual 254, 3) := by decide +kernel
theorem dX11_goBehind_13 : decode cX11_goBehind 13 = .ok (.return_, 1) := by decide +kernel
theorem dX11_spells_0 : decode cX11_spells 0 = .ok (.aload_n 0, 1) := by decide +kernel
theorem dX11_spells_1 : decode cX11_spells 1 = .ok (.getfield 242, 3) := by decide +kernel
theorem dX11_spells_4 : decode cX11_spells 4 = .ok (.iconst 1, 1) := by decide +kernel
theorem dX11_spells_5 : decode cX11_spells 5 = .ok (.if_icmp .ne 15, 3) := by decide +kernel
theorem dX11_spells_8 : decode cX11_spells 8 = .ok (.aload_n 0, 1) := by decide +kernel
theorem dX11_spells_9 : decode cX11_spells 9 = .ok (.getfield 239, 3) := by decide +kernel
theorem dX11_spells_12 : decode cX11_spells 12 = .ok (.iload_n 1, 1) := by decide +kernel
theorem dX11_spells_13 : decode cX11_spells 13 = .ok (.if_icmp .ne 7, 3) := by decide +kernel
theorem dX11_spells_16 : decode cX11_spells 16 = .ok (.iconst 1, 1) := by decide +kernel
theorem dX11_spells_17 : decode cX11_spells 17 = .ok (.goto 4, 3) := by decide +kernel
theorem dX11_spells_20 : decode cX11_spells 20 = .ok (.iconst 0, 1) := by decide +kernel
theorem dX11_spells_21 : decode cX11_spells 21 = .ok (.istore 8, 2) := by decide +kernel
theorem dX11_spells_23 : decode cX11_spells 23 = .ok (.iconst 0, 1) := by decide +kernel
theorem dX11_spells_24 : decode cX11_spells 24 = .ok (.istore 9, 2) := by decide +kernel
theorem dX11_spells_26 : decode cX11_spells 26 = .ok (.iload 9, 2) := by decide +kernel
theorem dX11_spells_28 : decode cX11_spells 28 = .ok (.iload_n 1, 1) := by decide +kernel
theorem dX11_spells_29 : decode cX11_spells 29 = .ok (.if_icmp .ge 90, 3) := by decide +kernel
theorem dX11_spells_32 : decode cX11_spells 32 = .ok (.iload 8, 2) := by decide +kernel
theorem dX11_spells_34 : decode cX11_spells 34 = .ok (.ifCond .eq 85, 3) := by decide +kernel
theorem dX11_spells_37 : decode cX11_spells 37 = .ok (.aload_n 0, 1) := by decide +kernel
theorem dX11_spells_38 : decode cX11_spells 38 = .ok (.getfield 36, 3) := by decide +kernel
theorem dX11_spells_41 : decode cX11_spells 41 = .ok (.aload_n 0, 1) := by decide +kernel
theorem dX11_spells_42 : decode cX11_spells 42 = .ok (.getfield 236, 3) := by decide +kernel
theorem dX11_spells_45 : decode cX11_spells 45 = .ok (.iload 9, 2) := by decide +kernel
theorem dX11_spells_47 : decode cX11_spells 47 = .ok (.iadd, 1) := by decide +kernel
theorem dX11_spells_48 : decode cX11_spells 48 = .ok (.iaload, 1) := by decide +kernel
theorem dX11_spells_49 : decode cX11_spells 49 = .ok (.iload 9, 2) := by decide +kernel
theorem dX11_spells_51 : decode cX11_spells 51 = .ok (.ifCond .ne 7, 3) := by decide +kernel
theorem dX11_spells_54 : decode cX11_spells 54 = .ok (.iload_n 2, 1) := by decide +kernel
theorem dX11_spells_55 : decode cX11_spells 55 = .ok (.goto 48, 3) := by decide +kernel
theorem dX11_spells_58 : decode cX11_spells 58 = .ok (.iload 9, 2) := by decide +kernel
theorem dX11_spells_60 : decode cX11_spells 60 = .ok (.iconst 1, 1) := by decide +kernel
theorem dX11_spells_61 : decode cX11_spells 61 = .ok (.if_icmp .ne 7, 3) := by decide +kernel
theorem dX11_spells_64 : decode cX11_spells 64 = .ok (.iload_n 3, 1) := by decide +kernel
theorem dX11_spells_65 : decode cX11_spells 65 = .ok (.goto 38, 3) := by decide +kernel
theorem dX11_spells_68 : decode cX11_spells 68 = .ok (.iload 9, 2) := by decide +kernel
theorem dX11_spells_70 : decode cX11_spells 70 = .ok (.iconst 2, 1) := by decide +kernel
theorem dX11_spells_71 : decode cX11_spells 71 = .ok (.if_icmp .ne 8, 3) := by decide +kernel
theorem dX11_spells_74 : decode cX11_spells 74 = .ok (.iload 4, 2) := by decide +kernel
theorem dX11_spells_76 : decode cX11_spells 76 = .ok (.goto 27, 3) := by decide +kernel
theorem dX11_spells_79 : decode cX11_spells 79 = .ok (.iload 9, 2) := by decide +kernel
theorem dX11_spells_81 : decode cX11_spells 81 = .ok (.iconst 3, 1) := by decide +kernel
theorem dX11_spells_82 : decode cX11_spells 82 = .ok (.if_icmp .ne 8, 3) := by decide +kernel
theorem dX11_spells_85 : decode cX11_spells 85 = .ok (.iload 5, 2) := by decide +kernel
theorem dX11_spells_87 : decode cX11_spells 87 = .ok (.goto 16, 3) := by decide +kernel
theorem dX11_spells_90 : decode cX11_spells 90 = .ok (.iload 9, 2) := by decide +kernel
theorem dX11_spells_92 : decode cX11_spells 92 = .ok (.iconst 4, 1) := by decide +kernel
theorem dX11_spells_93 : decode cX11_spells 93 = .ok (.if_icmp .ne 8, 3) := by decide +kernel
theorem dX11_spells_96 : decode cX11_spells 96 = .ok (.iload 6, 2) := by decide +kernel
theorem dX11_spells_98 : decode cX11_spells 98 = .ok (.goto 5, 3) := by decide +kernel
theorem dX11_spells_101 : decode cX11_spells 101 = .ok (.iload 7, 2) := by decide +kernel
theorem dX11_spells_103 : decode cX11_spells 103 = .ok (.if_icmp .ne 7, 3) := by decide +kernel
theorem dX11_spells_106 : decode cX11_spells 106 = .ok (.iconst 1, 1) := by decide +kernel
theorem dX11_spells_107 : decode cX11_spells 107 = .ok (.goto 4, 3) := by decide +kernel
theorem dX11_spells_110 : decode cX11_spells 110 = .ok (.iconst 0, 1) := by decide +kernel
theorem dX11_spells_111 : decode cX11_spells 111 = .ok (.istore 8, 2) := by decide +kernel
theorem dX11_spells_113 : decode cX11_spells 113 = .ok (.iinc 9 1, 3) := by decide +kernel
theorem dX11_spells_116 : decode cX11_spells 116 = .ok (.goto (-90), 3) := by decide +kernel
theorem dX11_spells_119 : decode cX11_spells 119 = .ok (.iload 8, 2) := by decide +kernel
theorem dX11_spells_121 : decode cX11_spells 121 = .ok (.ireturn, 1) := by decide +kernel
theorem dX11_gives_0 : decode cX11_gives 0 = .ok (.aload_n 0, 1) := by decide +kernel
theorem dX11_gives_1 : decode cX11_gives 1 = .ok (.getfield 242, 3) := by decide +kernel
theorem dX11_gives_4 : decode cX11_gives 4 = .ok (.iconst 2, 1) := by decide +kernel
theorem dX11_gives_5 : decode cX11_gives 5 = .ok (.if_icmp .ne 18, 3) := by decide +kernel
theorem dX11_gives_8 : decode cX11_gives 8 = .ok (.aload_n 0, 1) := by decide +kernel
theorem dX11_gives_9 : decode cX11_gives 9 = .ok (.getfield 245, 3) := by decide +kernel
theorem dX11_gives_12 : decode cX11_gives 12 = .ok (.i2l, 1) := by decide +kernel
theorem dX11_gives_13 : decode cX11_gives 13 = .ok (.iload_n 2, 1) := by decide +kernel
theorem dX11_gives_14 : decode cX11_gives 14 = .ok (.i2l, 1) := by decide +kernel
theorem dX11_gives_15 : decode cX11_gives 15 = .ok (.iload_n 3, 1) := by decide +kernel
theorem dX11_gives_16 : decode cX11_gives 16 = .ok (.i2l, 1) := by decide +kernel
theorem dX11_gives_17 : decode cX11_gives 17 = .ok (.invokestatic 53, 3) := by decide +kernel
theorem dX11_gives_20 : decode cX11_gives 20 = .ok (.ifCond .ne 5, 3) := by decide +kernel
theorem dX11_gives_23 : decode cX11_gives 23 = .ok (.iconst 0, 1) := by decide +kernel
theorem dX11_gives_24 : decode cX11_gives 24 = .ok (.ireturn, 1) := by decide +kernel
theorem dX11_gives_25 : decode cX11_gives 25 = .ok (.aload_n 0, 1) := by decide +kernel
theorem dX11_gives_26 : decode cX11_gives 26 = .ok (.getfield 42, 3) := by decide +kernel
theorem dX11_gives_29 : decode cX11_gives 29 = .ok (.iload_n 1, 1) := by decide +kernel
theorem dX11_gives_30 : decode cX11_gives 30 = .ok (.aload_n 0, 1) := by decide +kernel
theorem dX11_gives_31 : decode cX11_gives 31 = .ok (.getfield 245, 3) := by decide +kernel
theorem dX11_gives_34 : decode cX11_gives 34 = .ok (.iastore, 1) := by decide +kernel
theorem dX11_gives_35 : decode cX11_gives 35 = .ok (.aload_n 0, 1) := by decide +kernel
theorem dX11_gives_36 : decode cX11_gives 36 = .ok (.invokevirtual 257, 3) := by decide +kernel
theorem dX11_gives_39 : decode cX11_gives 39 = .ok (.iconst 1, 1) := by decide +kernel
theorem dX11_gives_40 : decode cX11_gives 40 = .ok (.ireturn, 1) := by decide +kernel
theorem dX11_givesWind_0 : decode cX11_givesWind 0 = .ok (.iconst 0, 1) := by decide +kernel
theorem dX11_givesWind_1 : decode cX11_givesWind 1 = .ok (.istore_n 1, 1) := by decide +kernel
theorem dX11_givesWind_2 : decode cX11_givesWind 2 = .ok (.aload_n 0, 1) := by decide +kernel
theorem dX11_givesWind_3 : decode cX11_givesWind 3 = .ok (.invokevirtual 257, 3) := by decide +kernel
theorem dX11_givesWind_6 : decode cX11_givesWind 6 = .ok (.iload_n 1, 1) := by decide +kernel
theorem dX11_givesWind_7 : decode cX11_givesWind 7 = .ok (.ifCond .eq 11, 3) := by decide +kernel
theorem dX11_givesWind_10 : decode cX11_givesWind 10 = .ok (.aload_n 0, 1) := by decide +kernel
theorem dX11_givesWind_11 : decode cX11_givesWind 11 = .ok (.getfield 242, 3) := by decide +kernel
theorem dX11_givesWind_14 : decode cX11_givesWind 14 = .ok (.iconst 3, 1) := by decide +kernel
theorem dX11_givesWind_15 : decode cX11_givesWind 15 = .ok (.if_icmp .eq 45, 3) := by decide +kernel
theorem dX11_givesWind_18 : decode cX11_givesWind 18 = .ok (.iload_n 1, 1) := by decide +kernel
theorem dX11_givesWind_19 : decode cX11_givesWind 19 = .ok (.bipush 6, 2) := by decide +kernel
theorem dX11_givesWind_21 : decode cX11_givesWind 21 = .ok (.if_icmp .eq 14, 3) := by decide +kernel
theorem dX11_givesWind_24 : decode cX11_givesWind 24 = .ok (.aload_n 0, 1) := by decide +kernel
theorem dX11_givesWind_25 : decode cX11_givesWind 25 = .ok (.iconst 0, 1) := by decide +kernel
theorem dX11_givesWind_26 : decode cX11_givesWind 26 = .ok (.iconst 0, 1) := by decide +kernel
theorem dX11_givesWind_27 : decode cX11_givesWind 27 = .ok (.bipush 8, 2) := by decide +kernel
theorem dX11_givesWind_29 : decode cX11_givesWind 29 = .ok (.invokevirtual 260, 3) := by decide +kernel
theorem dX11_givesWind_32 : decode cX11_givesWind 32 = .ok (.ifCond .ne 5, 3) := by decide +kernel
theorem dX11_givesWind_35 : decode cX11_givesWind 35 = .ok (.iconst 0, 1) := by decide +kernel
theorem dX11_givesWind_36 : decode cX11_givesWind 36 = .ok (.ireturn, 1) := by decide +kernel
theorem dX11_givesWind_37 : decode cX11_givesWind 37 = .ok (.aload_n 0, 1) := by decide +kernel
theorem dX11_givesWind_38 : decode cX11_givesWind 38 = .ok (.getfield 39, 3) := by decide +kernel
theorem dX11_givesWind_41 : decode cX11_givesWind 41 = .ok (.bipush 13, 2) := by decide +kernel
theorem dX11_givesWind_43 : decode cX11_givesWind 43 = .ok (.iload_n 1, 1) := by decide +kernel
theorem dX11_givesWind_44 : decode cX11_givesWind 44 = .ok (.iadd, 1) := by decide +kernel
theorem dX11_givesWind_45 : decode cX11_givesWind 45 = .ok (.aload_n 0, 1) := by decide +kernel
theorem dX11_givesWind_46 : decode cX11_givesWind 46 = .ok (.getfield 42, 3) := by decide +kernel
theorem dX11_givesWind_49 : decode cX11_givesWind 49 = .ok (.iconst 0, 1) := by decide +kernel
theorem dX11_givesWind_50 : decode cX11_givesWind 50 = .ok (.iaload, 1) := by decide +kernel
theorem dX11_givesWind_51 : decode cX11_givesWind 51 = .ok (.iconst 4, 1) := by decide +kernel
theorem dX11_givesWind_52 : decode cX11_givesWind 52 = .ok (.isub, 1) := by decide +kernel
theorem dX11_givesWind_53 : decode cX11_givesWind 53 = .ok (.iastore, 1) := by decide +kernel
theorem dX11_givesWind_54 : decode cX11_givesWind 54 = .ok (.iinc 1 1, 3) := by decide +kernel
theorem dX11_givesWind_57 : decode cX11_givesWind 57 = .ok (.goto (-51), 3) := by decide +kernel
theorem dX11_givesWind_60 : decode cX11_givesWind 60 = .ok (.iconst 1, 1) := by decide +kernel
theorem dX11_givesWind_61 : decode cX11_givesWind 61 = .ok (.ireturn, 1) := by decide +kernel
theorem dX11_givesCock_0 : decode cX11_givesCock 0 = .ok (.aload_n 0, 1) := by decide +kernel
theorem dX11_givesCock_1 : decode cX11_givesCock 1 = .ok (.invokevirtual 257, 3) := by decide +kernel
theorem dX11_givesCock_4 : decode cX11_givesCock 4 = .ok (.aload_n 0, 1) := by decide +kernel
theorem dX11_givesCock_5 : decode cX11_givesCock 5 = .ok (.iconst 0, 1) := by decide +kernel
theorem dX11_givesCock_6 : decode cX11_givesCock 6 = .ok (.iconst 0, 1) := by decide +kernel
theorem dX11_givesCock_7 : decode cX11_givesCock 7 = .ok (.iconst 5, 1) := by decide +kernel
theorem dX11_givesCock_8 : decode cX11_givesCock 8 = .ok (.invokevirtual 260, 3) := by decide +kernel
theorem dX11_givesCock_11 : decode cX11_givesCock 11 = .ok (.ifCond .eq 14, 3) := by decide +kernel
theorem dX11_givesCock_14 : decode cX11_givesCock 14 = .ok (.aload_n 0, 1) := by decide +kernel
theorem dX11_givesCock_15 : decode cX11_givesCock 15 = .ok (.iconst 1, 1) := by decide +kernel
theorem dX11_givesCock_16 : decode cX11_givesCock 16 = .ok (.iconst 1, 1) := by decide +kernel
theorem dX11_givesCock_17 : decode cX11_givesCock 17 = .ok (.bipush 9, 2) := by decide +kernel
theorem dX11_givesCock_19 : decode cX11_givesCock 19 = .ok (.invokevirtual 260, 3) := by decide +kernel
theorem dX11_givesCock_22 : decode cX11_givesCock 22 = .ok (.ifCond .ne 5, 3) := by decide +kernel
theorem dX11_givesCock_25 : decode cX11_givesCock 25 = .ok (.iconst 0, 1) := by decide +kernel
theorem dX11_givesCock_26 : decode cX11_givesCock 26 = .ok (.ireturn, 1) := by decide +kernel
theorem dX11_givesCock_27 : decode cX11_givesCock 27 = .ok (.aload_n 0, 1) := by decide +kernel
theorem dX11_givesCock_28 : decode cX11_givesCock 28 = .ok (.getfield 39, 3) := by decide +kernel
theorem dX11_givesCock_31 : decode cX11_givesCock 31 = .ok (.bipush 6, 2) := by decide +kernel
theorem dX11_givesCock_33 : decode cX11_givesCock 33 = .ok (.aload_n 0, 1) := by decide +kernel
theorem dX11_givesCock_34 : decode cX11_givesCock 34 = .ok (.getfield 42, 3) := by decide +kernel
theorem dX11_givesCock_37 : decode cX11_givesCock 37 = .ok (.iconst 0, 1) := by decide +kernel
theorem dX11_givesCock_38 : decode cX11_givesCock 38 = .ok (.iaload, 1) := by decide +kernel
theorem dX11_givesCock_39 : decode cX11_givesCock 39 = .ok (.iastore, 1) := by decide +kernel
theorem dX11_givesCock_40 : decode cX11_givesCock 40 = .ok (.aload_n 0, 1) := by decide +kernel
theorem dX11_givesCock_41 : decode cX11_givesCock 41 = .ok (.getfield 39, 3) := by decide +kernel
theorem dX11_givesCock_44 : decode cX11_givesCock 44 = .ok (.bipush 7, 2) := by decide +kernel
theorem dX11_givesCock_46 : decode cX11_givesCock 46 = .ok (.aload_n 0, 1) := by decide +kernel
theorem dX11_givesCock_47 : decode cX11_givesCock 47 = .ok (.getfield 42, 3) := by decide +kernel
theorem dX11_givesCock_50 : decode cX11_givesCock 50 = .ok (.iconst 1, 1) := by decide +kernel
theorem dX11_givesCock_51 : decode cX11_givesCock 51 = .ok (.iaload, 1) := by decide +kernel
theorem dX11_givesCock_52 : decode cX11_givesCock 52 = .ok (.iastore, 1) := by decide +kernel
theorem dX11_givesCock_53 : decode cX11_givesCock 53 = .ok (.iconst 1, 1) := by decide +kernel
theorem dX11_givesCock_54 : decode cX11_givesCock 54 = .ok (.ireturn, 1) := by decide +kernel
theorem dX11_givesPlayer_0 : decode cX11_givesPlayer 0 = .ok (.aload_n 0, 1) := by decide +kernel
theorem dX11_givesPlayer_1 : decode cX11_givesPlayer 1 = .ok (.getfield 39, 3) := by decide +kernel
theorem dX11_givesPlayer_4 : decode cX11_givesPlayer 4 = .ok (.iconst 0, 1) := by decide +kernel
theorem dX11_givesPlayer_5 : decode cX11_givesPlayer 5 = .ok (.iaload, 1) := by decide +kernel
theorem dX11_givesPlayer_6 : decode cX11_givesPlayer 6 = .ok (.bipush 7, 2) := by decide +kernel
theorem dX11_givesPlayer_8 : decode cX11_givesPlayer 8 = .ok (.if_icmp .ne 5, 3) := by decide +kernel
theorem dX11_givesPlayer_11 : decode cX11_givesPlayer 11 = .ok (.iconst 0, 1) := by decide +kernel
theorem dX11_givesPlayer_12 : decode cX11_givesPlayer 12 = .ok (.ireturn, 1) := by decide +kernel
theorem dX11_givesPlayer_13 : decode cX11_givesPlayer 13 = .ok (.aload_n 0, 1) := by decide +kernel
theorem dX11_givesPlayer_14 : decode cX11_givesPlayer 14 = .ok (.invokevirtual 257, 3) := by decide +kernel
theorem dX11_givesPlayer_17 : decode cX11_givesPlayer 17 = .ok (.aload_n 0, 1) := by decide +kernel
theorem dX11_givesPlayer_18 : decode cX11_givesPlayer 18 = .ok (.iconst 0, 1) := by decide +kernel
theorem dX11_givesPlayer_19 : decode cX11_givesPlayer 19 = .ok (.iconst 0, 1) := by decide +kernel
theorem dX11_givesPlayer_20 : decode cX11_givesPlayer 20 = .ok (.iconst 5, 1) := by decide +kernel
theorem dX11_givesPlayer_21 : decode cX11_givesPlayer 21 = .ok (.invokevirtual 260, 3) := by decide +kernel
theorem dX11_givesPlayer_24 : decode cX11_givesPlayer 24 = .ok (.ifCond .eq 24, 3) := by decide +kernel
theorem dX11_givesPlayer_27 : decode cX11_givesPlayer 27 = .ok (.aload_n 0, 1) := by decide +kernel
theorem dX11_givesPlayer_28 : decode cX11_givesPlayer 28 = .ok (.iconst 1, 1) := by decide +kernel
theorem dX11_givesPlayer_29 : decode cX11_givesPlayer 29 = .ok (.iconst 0, 1) := by decide +kernel
theorem dX11_givesPlayer_30 : decode cX11_givesPlayer 30 = .ok (.iconst 1, 1) := by decide +kernel
theorem dX11_givesPlayer_31 : decode cX11_givesPlayer 31 = .ok (.invokevirtual 260, 3) := by decide +kernel
theorem dX11_givesPlayer_34 : decode cX11_givesPlayer 34 = .ok (.ifCond .eq 14, 3) := by decide +kernel
theorem dX11_givesPlayer_37 : decode cX11_givesPlayer 37 = .ok (.aload_n 0, 1) := by decide +kernel
theorem dX11_givesPlayer_38 : decode cX11_givesPlayer 38 = .ok (.iconst 2, 1) := by decide +kernel
theorem dX11_givesPlayer_39 : decode cX11_givesPlayer 39 = .ok (.iconst 1, 1) := by decide +kernel
theorem dX11_givesPlayer_40 : decode cX11_givesPlayer 40 = .ok (.bipush 9, 2) := by decide +kernel
theorem dX11_givesPlayer_42 : decode cX11_givesPlayer 42 = .ok (.invokevirtual 260, 3) := by decide +kernel
theorem dX11_givesPlayer_45 : decode cX11_givesPlayer 45 = .ok (.ifCond .ne 5, 3) := by decide +kernel
theorem dX11_givesPlayer_48 : decode cX11_givesPlayer 48 = .ok (.iconst 0, 1) := by decide +kernel
theorem dX11_givesPlayer_49 : decode cX11_givesPlayer 49 = .ok (.ireturn, 1) := by decide +kernel
theorem dX11_givesPlayer_50 : decode cX11_givesPlayer 50 = .ok (.aload_n 0, 1) := by decide +kernel
theorem dX11_givesPlayer_51 : decode cX11_givesPlayer 51 = .ok (.getfield 39, 3) := by decide +kernel
theorem dX11_givesPlayer_54 : decode cX11_givesPlayer 54 = .ok (.aload_n 0, 1) := by decide +kernel
theorem dX11_givesPlayer_55 : decode cX11_givesPlayer 55 = .ok (.getfield 42, 3) := by decide +kernel
theorem dX11_givesPlayer_58 : decode cX11_givesPlayer 58 = .ok (.iconst 0, 1) := by decide +kernel
theorem dX11_givesPlayer_59 : decode cX11_givesPlayer 59 = .ok (.iaload, 1) := by decide +kernel
theorem dX11_givesPlayer_60 : decode cX11_givesPlayer 60 = .ok (.aload_n 0, 1) := by decide +kernel
theorem dX11_givesPlayer_61 : decode cX11_givesPlayer 61 = .ok (.getfield 42, 3) := by decide +kernel
theorem dX11_givesPlayer_64 : decode cX11_givesPlayer 64 = .ok (.iconst 1, 1) := by decide +kernel
theorem dX11_givesPlayer_65 : decode cX11_givesPlayer 65 = .ok (.iaload, 1) := by decide +kernel
theorem dX11_givesPlayer_66 : decode cX11_givesPlayer 66 = .ok (.aload_n 0, 1) := by decide +kernel
theorem dX11_givesPlayer_67 : decode cX11_givesPlayer 67 = .ok (.getfield 42, 3) := by decide +kernel
theorem dX11_givesPlayer_70 : decode cX11_givesPlayer 70 = .ok (.iconst 2, 1) := by decide +kernel
theorem dX11_givesPlayer_71 : decode cX11_givesPlayer 71 = .ok (.iaload, 1) := by decide +kernel
theorem dX11_givesPlayer_72 : decode cX11_givesPlayer 72 = .ok (.invokestatic 87, 3) := by decide +kernel
theorem dX11_givesPlayer_75 : decode cX11_givesPlayer 75 = .ok (.iconst 1, 1) := by decide +kernel
theorem dX11_givesPlayer_76 : decode cX11_givesPlayer 76 = .ok (.ireturn, 1) := by decide +kernel
theorem dX11_givesHit_0 : decode cX11_givesHit 0 = .ok (.aload_n 0, 1) := by decide +kernel
theorem dX11_givesHit_1 : decode cX11_givesHit 1 = .ok (.invokevirtual 257, 3) := by decide +kernel
theorem dX11_givesHit_4 : decode cX11_givesHit 4 = .ok (.aload_n 0, 1) := by decide +kernel
theorem dX11_givesHit_5 : decode cX11_givesHit 5 = .ok (.getfield 242, 3) := by decide +kernel
theorem dX11_givesHit_8 : decode cX11_givesHit 8 = .ok (.iconst 2, 1) := by decide +kernel
theorem dX11_givesHit_9 : decode cX11_givesHit 9 = .ok (.if_icmp .ne 38, 3) := by decide +kernel
theorem dX11_givesHit_12 : decode cX11_givesHit 12 = .ok (.aload_n 0, 1) := by decide +kernel
theorem dX11_givesHit_13 : decode cX11_givesHit 13 = .ok (.getfield 245, 3) := by decide +kernel
theorem dX11_givesHit_16 : decode cX11_givesHit 16 = .ok (.i2l, 1) := by decide +kernel
theorem dX11_givesHit_17 : decode cX11_givesHit 17 = .ok (.lconst 0, 1) := by decide +kernel
theorem dX11_givesHit_18 : decode cX11_givesHit 18 = .ok (.aload_n 0, 1) := by decide +kernel
theorem dX11_givesHit_19 : decode cX11_givesHit 19 = .ok (.getfield 39, 3) := by decide +kernel
theorem dX11_givesHit_22 : decode cX11_givesHit 22 = .ok (.iconst 0, 1) := by decide +kernel
theorem dX11_givesHit_23 : decode cX11_givesHit 23 = .ok (.iaload, 1) := by decide +kernel
theorem dX11_givesHit_24 : decode cX11_givesHit 24 = .ok (.iconst 1, 1) := by decide +kernel
theorem dX11_givesHit_25 : decode cX11_givesHit 25 = .ok (.isub, 1) := by decide +kernel
theorem dX11_givesHit_26 : decode cX11_givesHit 26 = .ok (.i2l, 1) := by decide +kernel
theorem dX11_givesHit_27 : decode cX11_givesHit 27 = .ok (.invokestatic 53, 3) := by decide +kernel
theorem dX11_givesHit_30 : decode cX11_givesHit 30 = .ok (.ifCond .eq 17, 3) := by decide +kernel
theorem dX11_givesHit_33 : decode cX11_givesHit 33 = .ok (.aload_n 0, 1) := by decide +kernel
theorem dX11_givesHit_34 : decode cX11_givesHit 34 = .ok (.getfield 39, 3) := by decide +kernel
theorem dX11_givesHit_37 : decode cX11_givesHit 37 = .ok (.aload_n 0, 1) := by decide +kernel
theorem dX11_givesHit_38 : decode cX11_givesHit 38 = .ok (.getfield 245, 3) := by decide +kernel
theorem dX11_givesHit_41 : decode cX11_givesHit 41 = .ok (.invokestatic 121, 3) := by decide +kernel
theorem dX11_givesHit_44 : decode cX11_givesHit 44 = .ok (.ifCond .ne 5, 3) := by decide +kernel
theorem dX11_givesHit_47 : decode cX11_givesHit 47 = .ok (.iconst 0, 1) := by decide +kernel
theorem dX11_givesHit_48 : decode cX11_givesHit 48 = .ok (.ireturn, 1) := by decide +kernel
theorem dX11_givesHit_49 : decode cX11_givesHit 49 = .ok (.aload_n 0, 1) := by decide +kernel
theorem dX11_givesHit_50 : decode cX11_givesHit 50 = .ok (.getfield 39, 3) := by decide +kernel
theorem dX11_givesHit_53 : decode cX11_givesHit 53 = .ok (.aload_n 0, 1) := by decide +kernel
theorem dX11_givesHit_54 : decode cX11_givesHit 54 = .ok (.getfield 245, 3) := by decide +kernel
theorem dX11_givesHit_57 : decode cX11_givesHit 57 = .ok (.invokestatic 130, 3) := by decide +kernel
theorem dX11_givesHit_60 : decode cX11_givesHit 60 = .ok (.istore_n 1, 1) := by decide +kernel
theorem dX11_givesHit_61 : decode cX11_givesHit 61 = .ok (.aload_n 0, 1) := by decide +kernel
theorem dX11_givesHit_62 : decode cX11_givesHit 62 = .ok (.invokevirtual 257, 3) := by decide +kernel
theorem dX11_givesHit_65 : decode cX11_givesHit 65 = .ok (.iconst 1, 1) := by decide +kernel
theorem dX11_givesHit_66 : decode cX11_givesHit 66 = .ok (.ireturn, 1) := by decide +kernel
theorem dX11_givesPick_0 : decode cX11_givesPick 0 = .ok (.aload_n 0, 1) := by decide +kernel
theorem dX11_givesPick_1 : decode cX11_givesPick 1 = .ok (.getfield 39, 3) := by decide +kernel
theorem dX11_givesPick_4 : decode cX11_givesPick 4 = .ok (.bipush 9, 2) := by decide +kernel
theorem dX11_givesPick_6 : decode cX11_givesPick 6 = .ok (.iaload, 1) := by decide +kernel
theorem dX11_givesPick_7 : decode cX11_givesPick 7 = .ok (.iconst 1, 1) := by decide +kernel
theorem dX11_givesPick_8 : decode cX11_givesPick 8 = .ok (.if_icmp .ne 5, 3) := by decide +kernel
theorem dX11_givesPick_11 : decode cX11_givesPick 11 = .ok (.iconst 0, 1) := by decide +kernel
theorem dX11_givesPick_12 : decode cX11_givesPick 12 = .ok (.ireturn, 1) := by decide +kernel
theorem dX11_givesPick_13 : decode cX11_givesPick 13 = .ok (.aload_n 0, 1) := by decide +kernel
theorem dX11_givesPick_14 : decode cX11_givesPick 14 = .ok (.invokevirtual 257, 3) := by decide +kernel
theorem dX11_givesPick_17 : decode cX11_givesPick 17 = .ok (.aload_n 0, 1) := by decide +kernel
theorem dX11_givesPick_18 : decode cX11_givesPick 18 = .ok (.iconst 0, 1) := by decide +kernel
theorem dX11_givesPick_19 : decode cX11_givesPick 19 = .ok (.iconst 0, 1) := by decide +kernel
theorem dX11_givesPick_20 : decode cX11_givesPick 20 = .ok (.iconst 1, 1) := by decide +kernel
theorem dX11_givesPick_21 : decode cX11_givesPick 21 = .ok (.invokevirtual 260, 3) := by decide +kernel
theorem dX11_givesPick_24 : decode cX11_givesPick 24 = .ok (.ifCond .ne 5, 3) := by decide +kernel
theorem dX11_givesPick_27 : decode cX11_givesPick 27 = .ok (.iconst 0, 1) := by decide +kernel
theorem dX11_givesPick_28 : decode cX11_givesPick 28 = .ok (.ireturn, 1) := by decide +kernel
theorem dX11_givesPick_29 : decode cX11_givesPick 29 = .ok (.aload_n 0, 1) := by decide +kernel
theorem dX11_givesPick_30 : decode cX11_givesPick 30 = .ok (.getfield 39, 3) := by decide +kernel
theorem dX11_givesPick_33 : decode cX11_givesPick 33 = .ok (.bipush 9, 2) := by decide +kernel
theorem dX11_givesPick_35 : decode cX11_givesPick 35 = .ok (.iconst 1, 1) := by decide +kernel
theorem dX11_givesPick_36 : decode cX11_givesPick 36 = .ok (.iastore, 1) := by decide +kernel
theorem dX11_givesPick_37 : decode cX11_givesPick 37 = .ok (.aload_n 0, 1) := by decide +kernel
theorem dX11_givesPick_38 : decode cX11_givesPick 38 = .ok (.getfield 39, 3) := by decide +kernel
theorem dX11_givesPick_41 : decode cX11_givesPick 41 = .ok (.bipush 8, 2) := by decide +kernel
theorem dX11_givesPick_43 : decode cX11_givesPick 43 = .ok (.aload_n 0, 1) := by decide +kernel
theorem dX11_givesPick_44 : decode cX11_givesPick 44 = .ok (.getfield 42, 3) := by decide +kernel
theorem dX11_givesPick_47 : decode cX11_givesPick 47 = .ok (.iconst 0, 1) := by decide +kernel
theorem dX11_givesPick_48 : decode cX11_givesPick 48 = .ok (.iaload, 1) := by decide +kernel
theorem dX11_givesPick_49 : decode cX11_givesPick 49 = .ok (.iastore, 1) := by decide +kernel
theorem dX11_givesPick_50 : decode cX11_givesPick 50 = .ok (.iconst 1, 1) := by decide +kernel
theorem dX11_givesPick_51 : decode cX11_givesPick 51 = .ok (.ireturn, 1) := by decide +kernel
theorem dX11_givesHours_0 : decode cX11_givesHours 0 = .ok (.aload_n 0, 1) := by decide +kernel
theorem dX11_givesHours_1 : decode cX11_givesHours 1 = .ok (.invokevirtual 257, 3) := by decide +kernel
theorem dX11_givesHours_4 : decode cX11_givesHours 4 = .ok (.aload_n 0, 1) := by decide +kernel
theorem dX11_givesHours_5 : decode cX11_givesHours 5 = .ok (.iconst 0, 1) := by decide +kernel
theorem dX11_givesHours_6 : decode cX11_givesHours 6 = .ok (.iconst 1, 1) := by decide +kernel
theorem dX11_givesHours_7 : decode cX11_givesHours 7 = .ok (.bipush 99, 2) := by decide +kernel
theorem dX11_givesHours_9 : decode cX11_givesHours 9 = .ok (.invokevirtual 260, 3) := by decide +kernel
theorem dX11_givesHours_12 : decode cX11_givesHours 12 = .ok (.ifCond .ne 5, 3) := by decide +kernel
theorem dX11_givesHours_15 : decode cX11_givesHours 15 = .ok (.iconst 0, 1) := by decide +kernel
theorem dX11_givesHours_16 : decode cX11_givesHours 16 = .ok (.ireturn, 1) := by decide +kernel
theorem dX11_givesHours_17 : decode cX11_givesHours 17 = .ok (.aload_n 0, 1) := by decide +kernel
theorem dX11_givesHours_18 : decode cX11_givesHours 18 = .ok (.getfield 39, 3) := by decide +kernel
theorem dX11_givesHours_21 : decode cX11_givesHours 21 = .ok (.aload_n 0, 1) := by decide +kernel
theorem dX11_givesHours_22 : decode cX11_givesHours 22 = .ok (.getfield 42, 3) := by decide +kernel
theorem dX11_givesHours_25 : decode cX11_givesHours 25 = .ok (.iconst 0, 1) := by decide +kernel
theorem dX11_givesHours_26 : decode cX11_givesHours 26 = .ok (.iaload, 1) := by decide +kernel
theorem dX11_givesHours_27 : decode cX11_givesHours 27 = .ok (.invokestatic 136, 3) := by decide +kernel
theorem dX11_givesHours_30 : decode cX11_givesHours 30 = .ok (.iconst 1, 1) := by decide +kernel
theorem dX11_givesHours_31 : decode cX11_givesHours 31 = .ok (.ireturn, 1) := by decide +kernel
theorem dX11_givesItem_0 : decode cX11_givesItem 0 = .ok (.aload_n 0, 1) := by decide +kernel
theorem dX11_givesItem_1 : decode cX11_givesItem 1 = .ok (.iconst 4, 1) := by decide +kernel
theorem dX11_givesItem_2 : decode cX11_givesItem 2 = .ok (.bipush 119, 2) := by decide +kernel
theorem dX11_givesItem_4 : decode cX11_givesItem 4 = .ok (.bipush 105, 2) := by decide +kernel
theorem dX11_givesItem_6 : decode cX11_givesItem 6 = .ok (.bipush 110, 2) := by decide +kernel
theorem dX11_givesItem_8 : decode cX11_givesItem 8 = .ok (.bipush 100, 2) := by decide +kernel
theorem dX11_givesItem_10 : decode cX11_givesItem 10 = .ok (.iconst 0, 1) := by decide +kernel
theorem dX11_givesItem_11 : decode cX11_givesItem 11 = .ok (.iconst 0, 1) := by decide +kernel
theorem dX11_givesItem_12 : decode cX11_givesItem 12 = .ok (.invokevirtual 263, 3) := by decide +kernel
theorem dX11_givesItem_15 : decode cX11_givesItem 15 = .ok (.ifCond .eq 8, 3) := by decide +kernel
theorem dX11_givesItem_18 : decode cX11_givesItem 18 = .ok (.aload_n 0, 1) := by decide +kernel
theorem dX11_givesItem_19 : decode cX11_givesItem 19 = .ok (.invokevirtual 267, 3) := by decide +kernel
theorem dX11_givesItem_22 : decode cX11_givesItem 22 = .ok (.ireturn, 1) := by decide +kernel
theorem dX11_givesItem_23 : decode cX11_givesItem 23 = .ok (.aload_n 0, 1) := by decide +kernel
theorem dX11_givesItem_24 : decode cX11_givesItem 24 = .ok (.iconst 4, 1) := by decide +kernel
theorem dX11_givesItem_25 : decode cX11_givesItem 25 = .ok (.bipush 99, 2) := by decide +kernel
theorem dX11_givesItem_27 : decode cX11_givesItem 27 = .ok (.bipush 111, 2) := by decide +kernel
theorem dX11_givesItem_29 : decode cX11_givesItem 29 = .ok (.bipush 99, 2) := by decide +kernel
theorem dX11_givesItem_31 : decode cX11_givesItem 31 = .ok (.bipush 107, 2) := by decide +kernel
theorem dX11_givesItem_33 : decode cX11_givesItem 33 = .ok (.iconst 0, 1) := by decide +kernel
theorem dX11_givesItem_34 : decode cX11_givesItem 34 = .ok (.iconst 0, 1) := by decide +kernel
theorem dX11_givesItem_35 : decode cX11_givesItem 35 = .ok (.invokevirtual 263, 3) := by decide +kernel
theorem dX11_givesItem_38 : decode cX11_givesItem 38 = .ok (.ifCond .eq 8, 3) := by decide +kernel
theorem dX11_givesItem_41 : decode cX11_givesItem 41 = .ok (.aload_n 0, 1) := by decide +kernel
theorem dX11_givesItem_42 : decode cX11_givesItem 42 = .ok (.invokevirtual 271, 3) := by decide +kernel
theorem dX11_givesItem_45 : decode cX11_givesItem 45 = .ok (.ireturn, 1) := by decide +kernel
theorem dX11_givesItem_46 : decode cX11_givesItem 46 = .ok (.aload_n 0, 1) := by decide +kernel
theorem dX11_givesItem_47 : decode cX11_givesItem 47 = .ok (.bipush 6, 2) := by decide +kernel
theorem dX11_givesItem_49 : decode cX11_givesItem 49 = .ok (.bipush 112, 2) := by decide +kernel
theorem dX11_givesItem_51 : decode cX11_givesItem 51 = .ok (.bipush 108, 2) := by decide +kernel
theorem dX11_givesItem_53 : decode cX11_givesItem 53 = .ok (.bipush 97, 2) := by decide +kernel
theorem dX11_givesItem_55 : decode cX11_givesItem 55 = .ok (.bipush 121, 2) := by decide +kernel
theorem dX11_givesItem_57 : decode cX11_givesItem 57 = .ok (.bipush 101, 2) := by decide +kernel
theorem dX11_givesItem_59 : decode cX11_givesItem 59 = .ok (.bipush 114, 2) := by decide +kernel
theorem dX11_givesItem_61 : decode cX11_givesItem 61 = .ok (.invokevirtual 263, 3) := by decide +kernel
theorem dX11_givesItem_64 : decode cX11_givesItem 64 = .ok (.ifCond .eq 8, 3) := by decide +kernel
theorem dX11_givesItem_67 : decode cX11_givesItem 67 = .ok (.aload_n 0, 1) := by decide +kernel
theorem dX11_givesItem_68 : decode cX11_givesItem 68 = .ok (.invokevirtual 274, 3) := by decide +kernel
theorem dX11_givesItem_71 : decode cX11_givesItem 71 = .ok (.ireturn, 1) := by decide +kernel
theorem dX11_givesItem_72 : decode cX11_givesItem 72 = .ok (.aload_n 0, 1) := by decide +kernel
theorem dX11_givesItem_73 : decode cX11_givesItem 73 = .ok (.iconst 3, 1) := by decide +kernel
theorem dX11_givesItem_74 : decode cX11_givesItem 74 = .ok (.bipush 104, 2) := by decide +kernel
theorem dX11_givesItem_76 : decode cX11_givesItem 76 = .ok (.bipush 105, 2) := by decide +kernel
theorem dX11_givesItem_78 : decode cX11_givesItem 78 = .ok (.bipush 116, 2) := by decide +kernel
theorem dX11_givesItem_80 : decode cX11_givesItem 80 = .ok (.iconst 0, 1) := by decide +kernel
theorem dX11_givesItem_81 : decode cX11_givesItem 81 = .ok (.iconst 0, 1) := by decide +kernel
theorem dX11_givesItem_82 : decode cX11_givesItem 82 = .ok (.iconst 0, 1) := by decide +kernel
theorem dX11_givesItem_83 : decode cX11_givesItem 83 = .ok (.invokevirtual 263, 3) := by decide +kernel
theorem dX11_givesItem_86 : decode cX11_givesItem 86 = .ok (.ifCond .eq 8, 3) := by decide +kernel
theorem dX11_givesItem_89 : decode cX11_givesItem 89 = .ok (.aload_n 0, 1) := by decide +kernel
theorem dX11_givesItem_90 : decode cX11_givesItem 90 = .ok (.invokevirtual 277, 3) := by decide +kernel
theorem dX11_givesItem_93 : decode cX11_givesItem 93 = .ok (.ireturn, 1) := by decide +kernel
theorem dX11_givesItem_94 : decode cX11_givesItem 94 = .ok (.aload_n 0, 1) := by decide +kernel
theorem dX11_givesItem_95 : decode cX11_givesItem 95 = .ok (.iconst 4, 1) := by decide +kernel
theorem dX11_givesItem_96 : decode cX11_givesItem 96 = .ok (.bipush 112, 2) := by decide +kernel
theorem dX11_givesItem_98 : decode cX11_givesItem 98 = .ok (.bipush 105, 2) := by decide +kernel
theorem dX11_givesItem_100 : decode cX11_givesItem 100 = .ok (.bipush 99, 2) := by decide +kernel
theorem dX11_givesItem_102 : decode cX11_givesItem 102 = .ok (.bipush 107, 2) := by decide +kernel
theorem dX11_givesItem_104 : decode cX11_givesItem 104 = .ok (.iconst 0, 1) := by decide +kernel
theorem dX11_givesItem_105 : decode cX11_givesItem 105 = .ok (.iconst 0, 1) := by decide +kernel
theorem dX11_givesItem_106 : decode cX11_givesItem 106 = .ok (.invokevirtual 263, 3) := by decide +kernel
theorem dX11_givesItem_109 : decode cX11_givesItem 109 = .ok (.ifCond .eq 8, 3) := by decide +kernel
theorem dX11_givesItem_112 : decode cX11_givesItem 112 = .ok (.aload_n 0, 1) := by decide +kernel
theorem dX11_givesItem_113 : decode cX11_givesItem 113 = .ok (.invokevirtual 280, 3) := by decide +kernel
theorem dX11_givesItem_116 : decode cX11_givesItem 116 = .ok (.ireturn, 1) := by decide +kernel
theorem dX11_givesItem_117 : decode cX11_givesItem 117 = .ok (.aload_n 0, 1) := by decide +kernel
theorem dX11_givesItem_118 : decode cX11_givesItem 118 = .ok (.iconst 5, 1) := by decide +kernel
theorem dX11_givesItem_119 : decode cX11_givesItem 119 = .ok (.bipush 104, 2) := by decide +kernel
theorem dX11_givesItem_121 : decode cX11_givesItem 121 = .ok (.bipush 111, 2) := by decide +kernel
theorem dX11_givesItem_123 : decode cX11_givesItem 123 = .ok (.bipush 117, 2) := by decide +kernel
theorem dX11_givesItem_125 : decode cX11_givesItem 125 = .ok (.bipush 114, 2) := by decide +kernel
theorem dX11_givesItem_127 : decode cX11_givesItem 127 = .ok (.bipush 115, 2) := by decide +kernel
theorem dX11_givesItem_129 : decode cX11_givesItem 129 = .ok (.iconst 0, 1) := by decide +kernel
theorem dX11_givesItem_130 : decode cX11_givesItem 130 = .ok (.invokevirtual 263, 3) := by decide +kernel
theorem dX11_givesItem_133 : decode cX11_givesItem 133 = .ok (.ifCond .eq 14, 3) := by decide +kernel
theorem dX11_givesItem_136 : decode cX11_givesItem 136 = .ok (.aload_n 0, 1) := by decide +kernel
theorem dX11_givesItem_137 : decode cX11_givesItem 137 = .ok (.invokevirtual 283, 3) := by decide +kernel
theorem dX11_givesItem_140 : decode cX11_givesItem 140 = .ok (.ifCond .eq 7, 3) := by decide +kernel
theorem dX11_givesItem_143 : decode cX11_givesItem 143 = .ok (.iconst 1, 1) := by decide +kernel
theorem dX11_givesItem_144 : decode cX11_givesItem 144 = .ok (.goto 4, 3) := by decide +kernel
theorem dX11_givesItem_147 : decode cX11_givesItem 147 = .ok (.iconst 0, 1) := by decide +kernel
theorem dX11_givesItem_148 : decode cX11_givesItem 148 = .ok (.ireturn, 1) := by decide +kernel
theorem dX11_read_0 : decode cX11_read 0 = .ok (.aload_n 0, 1) := by decide +kernel
theorem dX11_read_1 : decode cX11_read 1 = .ok (.iconst 0, 1) := by decide +kernel
theorem dX11_read_2 : decode cX11_read 2 = .ok (.invokevirtual 254, 3) := by decide +kernel
theorem dX11_read_5 : decode cX11_read 5 = .ok (.aload_n 0, 1) := by decide +kernel
theorem dX11_read_6 : decode cX11_read 6 = .ok (.bipush 6, 2) := by decide +kernel
theorem dX11_read_8 : decode cX11_read 8 = .ok (.bipush 118, 2) := by decide +kernel
theorem dX11_read_10 : decode cX11_read 10 = .ok (.bipush 97, 2) := by decide +kernel
theorem dX11_read_12 : decode cX11_read 12 = .ok (.bipush 108, 2) := by decide +kernel
theorem dX11_read_14 : decode cX11_read 14 = .ok (.bipush 108, 2) := by decide +kernel
theorem dX11_read_16 : decode cX11_read 16 = .ok (.bipush 101, 2) := by decide +kernel
theorem dX11_read_18 : decode cX11_read 18 = .ok (.bipush 121, 2) := by decide +kernel
theorem dX11_read_20 : decode cX11_read 20 = .ok (.invokevirtual 263, 3) := by decide +kernel
theorem dX11_read_23 : decode cX11_read 23 = .ok (.ifCond .ne 11, 3) := by decide +kernel
theorem dX11_read_26 : decode cX11_read 26 = .ok (.bipush (-10), 2) := by decide +kernel
theorem dX11_read_28 : decode cX11_read 28 = .ok (.aload_n 0, 1) := by decide +kernel
theorem dX11_read_29 : decode cX11_read 29 = .ok (.getfield 236, 3) := by decide +kernel
theorem dX11_read_32 : decode cX11_read 32 = .ok (.isub, 1) := by decide +kernel
theorem dX11_read_33 : decode cX11_read 33 = .ok (.ireturn, 1) := by decide +kernel
theorem dX11_read_34 : decode cX11_read 34 = .ok (.aload_n 0, 1) := by decide +kernel
theorem dX11_read_35 : decode cX11_read 35 = .ok (.invokevirtual 257, 3) := by decide +kernel
theorem dX11_read_38 : decode cX11_read 38 = .ok (.aload_n 0, 1) := by decide +kernel
theorem dX11_read_39 : decode cX11_read 39 = .ok (.iconst 0, 1) := by decide +kernel
theorem dX11_read_40 : decode cX11_read 40 = .ok (.iconst 1, 1) := by decide +kernel
theorem dX11_read_41 : decode cX11_read 41 = .ok (.bipush 40, 2) := by decide +kernel
theorem dX11_read_43 : decode cX11_read 43 = .ok (.invokevirtual 260, 3) := by decide +kernel
theorem dX11_read_46 : decode cX11_read 46 = .ok (.ifCond .eq 11, 3) := by decide +kernel
theorem dX11_read_49 : decode cX11_read 49 = .ok (.aload_n 0, 1) := by decide +kernel
theorem dX11_read_50 : decode cX11_read 50 = .ok (.getfield 242, 3) := by decide +kernel
theorem dX11_read_53 : decode cX11_read 53 = .ok (.iconst 3, 1) := by decide +kernel
theorem dX11_read_54 : decode cX11_read 54 = .ok (.if_icmp .eq 11, 3) := by decide +kernel
theorem dX11_read_57 : decode cX11_read 57 = .ok (.bipush (-10), 2) := by decide +kernel
theorem dX11_read_59 : decode cX11_read 59 = .ok (.aload_n 0, 1) := by decide +kernel
theorem dX11_read_60 : decode cX11_read 60 = .ok (.getfield 236, 3) := by decide +kernel
theorem dX11_read_63 : decode cX11_read 63 = .ok (.isub, 1) := by decide +kernel
theorem dX11_read_64 : decode cX11_read 64 = .ok (.ireturn, 1) := by decide +kernel
theorem dX11_read_65 : decode cX11_read 65 = .ok (.aload_n 0, 1) := by decide +kernel
theorem dX11_read_66 : decode cX11_read 66 = .ok (.invokevirtual 257, 3) := by decide +kernel
theorem dX11_read_69 : decode cX11_read 69 = .ok (.aload_n 0, 1) := by decide +kernel
theorem dX11_read_70 : decode cX11_read 70 = .ok (.getfield 39, 3) := by decide +kernel
theorem dX11_read_73 : decode cX11_read 73 = .ok (.aload_n 0, 1) := by decide +kernel
theorem dX11_read_74 : decode cX11_read 74 = .ok (.getfield 42, 3) := by decide +kernel
theorem dX11_read_77 : decode cX11_read 77 = .ok (.iconst 0, 1) := by decide +kernel
theorem dX11_read_78 : decode cX11_read 78 = .ok (.iaload, 1) := by decide +kernel
theorem dX11_read_79 : decode cX11_read 79 = .ok (.invokestatic 45, 3) := by decide +kernel
theorem dX11_read_82 : decode cX11_read 82 = .ok (.iconst 1, 1) := by decide +kernel
theorem dX11_read_83 : decode cX11_read 83 = .ok (.istore_n 1, 1) := by decide +kernel
theorem dX11_read_84 : decode cX11_read 84 = .ok (.aload_n 0, 1) := by decide +kernel
theorem dX11_read_85 : decode cX11_read 85 = .ok (.getfield 242, 3) := by decide +kernel
theorem dX11_read_88 : decode cX11_read 88 = .ok (.ifCond .eq 36, 3) := by decide +kernel
theorem dX11_read_91 : decode cX11_read 91 = .ok (.aload_n 0, 1) := by decide +kernel
theorem dX11_read_92 : decode cX11_read 92 = .ok (.invokevirtual 286, 3) := by decide +kernel
theorem dX11_read_95 : decode cX11_read 95 = .ok (.ifCond .eq 11, 3) := by decide +kernel
theorem dX11_read_98 : decode cX11_read 98 = .ok (.aload_n 0, 1) := by decide +kernel
theorem dX11_read_99 : decode cX11_read 99 = .ok (.getfield 242, 3) := by decide +kernel
theorem dX11_read_102 : decode cX11_read 102 = .ok (.iconst 3, 1) := by decide +kernel
theorem dX11_read_103 : decode cX11_read 103 = .ok (.if_icmp .eq 11, 3) := by decide +kernel
theorem dX11_read_106 : decode cX11_read 106 = .ok (.bipush (-10), 2) := by decide +kernel
theorem dX11_read_108 : decode cX11_read 108 = .ok (.aload_n 0, 1) := by decide +kernel
theorem dX11_read_109 : decode cX11_read 109 = .ok (.getfield 236, 3) := by decide +kernel
theorem dX11_read_112 : decode cX11_read 112 = .ok (.isub, 1) := by decide +kernel
theorem dX11_read_113 : decode cX11_read 113 = .ok (.ireturn, 1) := by decide +kernel
theorem dX11_read_114 : decode cX11_read 114 = .ok (.aload_n 0, 1) := by decide +kernel
theorem dX11_read_115 : decode cX11_read 115 = .ok (.invokevirtual 257, 3) := by decide +kernel
theorem dX11_read_118 : decode cX11_read 118 = .ok (.iinc 1 1, 3) := by decide +kernel
theorem dX11_read_121 : decode cX11_read 121 = .ok (.goto (-37), 3) := by decide +kernel
theorem dX11_read_124 : decode cX11_read 124 = .ok (.iconst 0, 1) := by decide +kernel
theorem dX11_read_125 : decode cX11_read 125 = .ok (.istore_n 2, 1) := by decide +kernel
theorem dX11_read_126 : decode cX11_read 126 = .ok (.iload_n 2, 1) := by decide +kernel
theorem dX11_read_127 : decode cX11_read 127 = .ok (.bipush 103, 2) := by decide +kernel
theorem dX11_read_129 : decode cX11_read 129 = .ok (.if_icmp .ge 21, 3) := by decide +kernel
theorem dX11_read_132 : decode cX11_read 132 = .ok (.aload_n 0, 1) := by decide +kernel
theorem dX11_read_133 : decode cX11_read 133 = .ok (.getfield 7, 3) := by decide +kernel
theorem dX11_read_136 : decode cX11_read 136 = .ok (.iload_n 2, 1) := by decide +kernel
theorem dX11_read_137 : decode cX11_read 137 = .ok (.aload_n 0, 1) := by decide +kernel
theorem dX11_read_138 : decode cX11_read 138 = .ok (.getfield 39, 3) := by decide +kernel
theorem dX11_read_141 : decode cX11_read 141 = .ok (.iload_n 2, 1) := by decide +kernel
theorem dX11_read_142 : decode cX11_read 142 = .ok (.iaload, 1) := by decide +kernel
theorem dX11_read_143 : decode cX11_read 143 = .ok (.iastore, 1) := by decide +kernel
theorem dX11_read_144 : decode cX11_read 144 = .ok (.iinc 2 1, 3) := by decide +kernel
theorem dX11_read_147 : decode cX11_read 147 = .ok (.goto (-21), 3) := by decide +kernel
theorem dX11_read_150 : decode cX11_read 150 = .ok (.iload_n 1, 1) := by decide +kernel
theorem dX11_read_151 : decode cX11_read 151 = .ok (.ireturn, 1) := by decide +kernel
theorem dX11_part_0 : decode cX11_part 0 = .ok (.iload_n 1, 1) := by decide +kernel
theorem dX11_part_1 : decode cX11_part 1 = .ok (.ifCond .ne 10, 3) := by decide +kernel
theorem dX11_part_4 : decode cX11_part 4 = .ok (.aload_n 0, 1) := by decide +kernel
theorem dX11_part_5 : decode cX11_part 5 = .ok (.getfield 197, 3) := by decide +kernel
theorem dX11_part_8 : decode cX11_part 8 = .ok (.goto 22, 3) := by decide +kernel
theorem dX11_part_11 : decode cX11_part 11 = .ok (.iload_n 1, 1) := by decide +kernel
theorem dX11_part_12 : decode cX11_part 12 = .ok (.iconst 1, 1) := by decide +kernel
theorem dX11_part_13 : decode cX11_part 13 = .ok (.if_icmp .ne 10, 3) := by decide +kernel
theorem dX11_part_16 : decode cX11_part 16 = .ok (.aload_n 0, 1) := by decide +kernel
theorem dX11_part_17 : decode cX11_part 17 = .ok (.getfield 23, 3) := by decide +kernel
theorem dX11_part_20 : decode cX11_part 20 = .ok (.goto 10, 3) := by decide +kernel
theorem dX11_part_23 : decode cX11_part 23 = .ok (.aload_n 0, 1) := by decide +kernel
theorem dX11_part_24 : decode cX11_part 24 = .ok (.bipush (-2), 2) := by decide +kernel
theorem dX11_part_26 : decode cX11_part 26 = .ok (.invokevirtual 67, 3) := by decide +kernel
theorem dX11_part_29 : decode cX11_part 29 = .ok (.i2l, 1) := by decide +kernel
theorem dX11_part_30 : decode cX11_part 30 = .ok (.lreturn, 1) := by decide +kernel
theorem dX11_image_0 : decode cX11_image 0 = .ok (.iload_n 1, 1) := by decide +kernel
theorem dX11_image_1 : decode cX11_image 1 = .ok (.i2l, 1) := by decide +kernel
theorem dX11_image_2 : decode cX11_image 2 = .ok (.lconst 0, 1) := by decide +kernel
theorem dX11_image_3 : decode cX11_image 3 = .ok (.lconst 1, 1) := by decide +kernel
theorem dX11_image_4 : decode cX11_image 4 = .ok (.invokestatic 53, 3) := by decide +kernel
theorem dX11_image_7 : decode cX11_image 7 = .ok (.ifCond .ne 10, 3) := by decide +kernel
theorem dX11_image_10 : decode cX11_image 10 = .ok (.aload_n 0, 1) := by decide +kernel
theorem dX11_image_11 : decode cX11_image 11 = .ok (.bipush (-2), 2) := by decide +kernel
theorem dX11_image_13 : decode cX11_image 13 = .ok (.invokevirtual 67, 3) := by decide +kernel
theorem dX11_image_16 : decode cX11_image 16 = .ok (.ireturn, 1) := by decide +kernel
theorem dX11_image_17 : decode cX11_image 17 = .ok (.iconst 0, 1) := by decide +kernel
theorem dX11_image_18 : decode cX11_image 18 = .ok (.istore_n 2, 1) := by decide +kernel
theorem dX11_image_19 : decode cX11_image 19 = .ok (.iload_n 2, 1) := by decide +kernel
theorem dX11_image_20 : decode cX11_image 20 = .ok (.sipush 159, 3) := by decide +kernel
theorem dX11_image_23 : decode cX11_image 23 = .ok (.if_icmp .ge 27, 3) := by decide +kernel
theorem dX11_image_26 : decode cX11_image 26 = .ok (.aload_n 0, 1) := by decide +kernel
theorem dX11_image_27 : decode cX11_image 27 = .ok (.getfield 13, 3) := by decide +kernel
theorem dX11_image_30 : decode cX11_image 30 = .ok (.sipush 159, 3) := by decide +kernel
theorem dX11_image_33 : decode cX11_image 33 = .ok (.iload_n 1, 1) := by decide +kernel
theorem dX11_image_34 : decode cX11_image 34 = .ok (.imul, 1) := by decide +kernel
theorem dX11_image_35 : decode cX11_image 35 = .ok (.iload_n 2, 1) := by decide +kernel
theorem dX11_image_36 : decode cX11_image 36 = .ok (.iadd, 1) := by decide +kernel
theorem dX11_image_37 : decode cX11_image 37 = .ok (.aload_n 0, 1) := by decide +kernel
theorem dX11_image_38 : decode cX11_image 38 = .ok (.getfield 7, 3) := by decide +kernel
theorem dX11_image_41 : decode cX11_image 41 = .ok (.iload_n 2, 1) := by decide +kernel
theorem dX11_image_42 : decode cX11_image 42 = .ok (.iaload, 1) := by decide +kernel
theorem dX11_image_43 : decode cX11_image 43 = .ok (.iastore, 1) := by decide +kernel
theorem dX11_image_44 : decode cX11_image 44 = .ok (.iinc 2 1, 3) := by decide +kernel
theorem dX11_image_47 : decode cX11_image 47 = .ok (.goto (-28), 3) := by decide +kernel
theorem dX11_image_50 : decode cX11_image 50 = .ok (.aload_n 0, 1) := by decide +kernel
theorem dX11_image_51 : decode cX11_image 51 = .ok (.getfield 16, 3) := by decide +kernel
theorem dX11_image_54 : decode cX11_image 54 = .ok (.iload_n 1, 1) := by decide +kernel
theorem dX11_image_55 : decode cX11_image 55 = .ok (.iconst 1, 1) := by decide +kernel
theorem dX11_image_56 : decode cX11_image 56 = .ok (.bastore, 1) := by decide +kernel
theorem dX11_image_57 : decode cX11_image 57 = .ok (.iconst 1, 1) := by decide +kernel
theorem dX11_image_58 : decode cX11_image 58 = .ok (.ireturn, 1) := by decide +kernel
theorem dX11_from_0 : decode cX11_from 0 = .ok (.iload_n 1, 1) := by decide +kernel
theorem dX11_from_1 : decode cX11_from 1 = .ok (.i2l, 1) := by decide +kernel
theorem dX11_from_2 : decode cX11_from 2 = .ok (.lconst 0, 1) := by decide +kernel
theorem dX11_from_3 : decode cX11_from 3 = .ok (.lconst 1, 1) := by decide +kernel
theorem dX11_from_4 : decode cX11_from 4 = .ok (.invokestatic 53, 3) := by decide +kernel
theorem dX11_from_7 : decode cX11_from 7 = .ok (.ifCond .ne 10, 3) := by decide +kernel
theorem dX11_from_10 : decode cX11_from 10 = .ok (.aload_n 0, 1) := by decide +kernel
theorem dX11_from_11 : decode cX11_from 11 = .ok (.bipush (-2), 2) := by decide +kernel
theorem dX11_from_13 : decode cX11_from 13 = .ok (.invokevirtual 67, 3) := by decide +kernel
theorem dX11_from_16 : decode cX11_from 16 = .ok (.ireturn, 1) := by decide +kernel
theorem dX11_from_17 : decode cX11_from 17 = .ok (.aload_n 0, 1) := by decide +kernel
theorem dX11_from_18 : decode cX11_from 18 = .ok (.getfield 16, 3) := by decide +kernel
theorem dX11_from_21 : decode cX11_from 21 = .ok (.iload_n 1, 1) := by decide +kernel
theorem dX11_from_22 : decode cX11_from 22 = .ok (.baload, 1) := by decide +kernel
theorem dX11_from_23 : decode cX11_from 23 = .ok (.ifCond .ne 8, 3) := by decide +kernel
theorem dX11_from_26 : decode cX11_from 26 = .ok (.aload_n 0, 1) := by decide +kernel
theorem dX11_from_27 : decode cX11_from 27 = .ok (.invokevirtual 124, 3) := by decide +kernel
theorem dX11_from_30 : decode cX11_from 30 = .ok (.ireturn, 1) := by decide +kernel
theorem dX11_from_31 : decode cX11_from 31 = .ok (.iconst 0, 1) := by decide +kernel
theorem dX11_from_32 : decode cX11_from 32 = .ok (.istore_n 2, 1) := by decide +kernel
theorem dX11_from_33 : decode cX11_from 33 = .ok (.iload_n 2, 1) := by decide +kernel
theorem dX11_from_34 : decode cX11_from 34 = .ok (.sipush 159, 3) := by decide +kernel
theorem dX11_from_37 : decode cX11_from 37 = .ok (.if_icmp .ge 27, 3) := by decide +kernel
theorem dX11_from_40 : decode cX11_from 40 = .ok (.aload_n 0, 1) := by decide +kernel
theorem dX11_from_41 : decode cX11_from 41 = .ok (.getfield 7, 3) := by decide +kernel
theorem dX11_from_44 : decode cX11_from 44 = .ok (.iload_n 2, 1) := by decide +kernel
theorem dX11_from_45 : decode cX11_from 45 = .ok (.aload_n 0, 1) := by decide +kernel
theorem dX11_from_46 : decode cX11_from 46 = .ok (.getfield 13, 3) := by decide +kernel
theorem dX11_from_49 : decode cX11_from 49 = .ok (.sipush 159, 3) := by decide +kernel
theorem dX11_from_52 : decode cX11_from 52 = .ok (.iload_n 1, 1) := by decide +kernel
theorem dX11_from_53 : decode cX11_from 53 = .ok (.imul, 1) := by decide +kernel
theorem dX11_from_54 : decode cX11_from 54 = .ok (.iload_n 2, 1) := by decide +kernel
theorem dX11_from_55 : decode cX11_from 55 = .ok (.iadd, 1) := by decide +kernel
theorem dX11_from_56 : decode cX11_from 56 = .ok (.iaload, 1) := by decide +kernel
theorem dX11_from_57 : decode cX11_from 57 = .ok (.iastore, 1) := by decide +kernel
theorem dX11_from_58 : decode cX11_from 58 = .ok (.iinc 2 1, 3) := by decide +kernel
theorem dX11_from_61 : decode cX11_from 61 = .ok (.goto (-28), 3) := by decide +kernel
theorem dX11_from_64 : decode cX11_from 64 = .ok (.iconst 1, 1) := by decide +kernel
theorem dX11_from_65 : decode cX11_from 65 = .ok (.ireturn, 1) := by decide +kernel
theorem dX11_status_0 : decode cX11_status 0 = .ok (.iload_n 1, 1) := by decide +kernel
theorem dX11_status_1 : decode cX11_status 1 = .ok (.i2l, 1) := by decide +kernel
theorem dX11_status_2 : decode cX11_status 2 = .ok (.lconst 0, 1) := by decide +kernel
theorem dX11_status_3 : decode cX11_status 3 = .ok (.ldc2_w 167, 3) := by decide +kernel
theorem dX11_status_6 : decode cX11_status 6 = .ok (.invokestatic 53, 3) := by decide +kernel
theorem dX11_status_9 : decode cX11_status 9 = .ok (.ifCond .eq 12, 3) := by decide +kernel
theorem dX11_status_12 : decode cX11_status 12 = .ok (.aload_n 0, 1) := by decide +kernel
theorem dX11_status_13 : decode cX11_status 13 = .ok (.getfield 20, 3) := by decide +kernel
theorem dX11_status_16 : decode cX11_status 16 = .ok (.iload_n 1, 1) := by decide +kernel
theorem dX11_status_17 : decode cX11_status 17 = .ok (.iaload, 1) := by decide +kernel
theorem dX11_status_18 : decode cX11_status 18 = .ok (.goto 8, 3) := by decide +kernel
theorem dX11_status_21 : decode cX11_status 21 = .ok (.aload_n 0, 1) := by decide +kernel
theorem dX11_status_22 : decode cX11_status 22 = .ok (.iconst (-1), 1) := by decide +kernel
theorem dX11_status_23 : decode cX11_status 23 = .ok (.invokevirtual 67, 3) := by decide +kernel
theorem dX11_status_26 : decode cX11_status 26 = .ok (.ireturn, 1) := by decide +kernel
theorem dX11_counted_0 : decode cX11_counted 0 = .ok (.iconst 0, 1) := by decide +kernel
theorem dX11_counted_1 : decode cX11_counted 1 = .ok (.istore_n 2, 1) := by decide +kernel
theorem dX11_counted_2 : decode cX11_counted 2 = .ok (.iconst 0, 1) := by decide +kernel
theorem dX11_counted_3 : decode cX11_counted 3 = .ok (.istore_n 3, 1) := by decide +kernel
theorem dX11_counted_4 : decode cX11_counted 4 = .ok (.iload_n 3, 1) := by decide +kernel
theorem dX11_counted_5 : decode cX11_counted 5 = .ok (.aload_n 0, 1) := by decide +kernel
theorem dX11_counted_6 : decode cX11_counted 6 = .ok (.invokevirtual 49, 3) := by decide +kernel
theorem dX11_counted_9 : decode cX11_counted 9 = .ok (.if_icmp .ge 21, 3) := by decide +kernel
theorem dX11_counted_12 : decode cX11_counted 12 = .ok (.iload_n 2, 1) := by decide +kernel
theorem dX11_counted_13 : decode cX11_counted 13 = .ok (.aload_n 0, 1) := by decide +kernel
theorem dX11_counted_14 : decode cX11_counted 14 = .ok (.getfield 7, 3) := by decide +kernel
theorem dX11_counted_17 : decode cX11_counted 17 = .ok (.bipush 26, 2) := by decide +kernel
theorem dX11_counted_19 : decode cX11_counted 19 = .ok (.iload_n 3, 1) := by decide +kernel
theorem dX11_counted_20 : decode cX11_counted 20 = .ok (.iadd, 1) := by decide +kernel
theorem dX11_counted_21 : decode cX11_counted 21 = .ok (.iaload, 1) := by decide +kernel
theorem dX11_counted_22 : decode cX11_counted 22 = .ok (.iadd, 1) := by decide +kernel
theorem dX11_counted_23 : decode cX11_counted 23 = .ok (.istore_n 2, 1) := by decide +kernel
theorem dX11_counted_24 : decode cX11_counted 24 = .ok (.iinc 3 1, 3) := by decide +kernel
theorem dX11_counted_27 : decode cX11_counted 27 = .ok (.goto (-23), 3) := by decide +kernel
theorem dX11_counted_30 : decode cX11_counted 30 = .ok (.iload_n 1, 1) := by decide +kernel
theorem dX11_counted_31 : decode cX11_counted 31 = .ok (.tableswitch 76 0 8 #[49, 54, 56, 64, 76, 76, 76, 76, 71], 49) := by decide +kernel
theorem dX11_counted_80 : decode cX11_counted 80 = .ok (.aload_n 0, 1) := by decide +kernel
theorem dX11_counted_81 : decode cX11_counted 81 = .ok (.invokevirtual 49, 3) := by decide +kernel
theorem dX11_counted_84 : decode cX11_counted 84 = .ok (.ireturn, 1) := by decide +kernel
theorem dX11_counted_85 : decode cX11_counted 85 = .ok (.iload_n 2, 1) := by decide +kernel
theorem dX11_counted_86 : decode cX11_counted 86 = .ok (.ireturn, 1) := by decide +kernel
theorem dX11_counted_87 : decode cX11_counted 87 = .ok (.aload_n 0, 1) := by decide +kernel
theorem dX11_counted_88 : decode cX11_counted 88 = .ok (.getfield 7, 3) := by decide +kernel
theorem dX11_counted_91 : decode cX11_counted 91 = .ok (.bipush 12, 2) := by decide +kernel
theorem dX11_counted_93 : decode cX11_counted 93 = .ok (.iaload, 1) := by decide +kernel
theorem dX11_counted_94 : decode cX11_counted 94 = .ok (.ireturn, 1) := by decide +kernel
theorem dX11_counted_95 : decode cX11_counted 95 = .ok (.aload_n 0, 1) := by decide +kernel
theorem dX11_counted_96 : decode cX11_counted 96 = .ok (.getfield 7, 3) := by decide +kernel
theorem dX11_counted_99 : decode cX11_counted 99 = .ok (.iconst 5, 1) := by decide +kernel
theorem dX11_counted_100 : decode cX11_counted 100 = .ok (.iaload, 1) := by decide +kernel
theorem dX11_counted_101 : decode cX11_counted 101 = .ok (.ireturn, 1) := by decide +kernel
theorem dX11_counted_102 : decode cX11_counted 102 = .ok (.aload_n 0, 1) := by decide +kernel
theorem dX11_counted_103 : decode cX11_counted 103 = .ok (.getfield 224, 3) := by decide +kernel
theorem dX11_counted_106 : decode cX11_counted 106 = .ok (.ireturn, 1) := by decide +kernel
theorem dX11_counted_107 : decode cX11_counted 107 = .ok (.aload_n 0, 1) := by decide +kernel
theorem dX11_counted_108 : decode cX11_counted 108 = .ok (.getfield 7, 3) := by decide +kernel
theorem dX11_counted_111 : decode cX11_counted 111 = .ok (.iconst 1, 1) := by decide +kernel
theorem dX11_counted_112 : decode cX11_counted 112 = .ok (.iload_n 1, 1) := by decide +kernel
theorem dX11_counted_113 : decode cX11_counted 113 = .ok (.iadd, 1) := by decide +kernel
theorem dX11_counted_114 : decode cX11_counted 114 = .ok (.iconst 4, 1) := by decide +kernel
theorem dX11_counted_115 : decode cX11_counted 115 = .ok (.isub, 1) := by decide +kernel
theorem dX11_counted_116 : decode cX11_counted 116 = .ok (.iaload, 1) := by decide +kernel
theorem dX11_counted_117 : decode cX11_counted 117 = .ok (.ireturn, 1) := by decide +kernel
theorem dX11_count_0 : decode cX11_count 0 = .ok (.iload_n 1, 1) := by decide +kernel
theorem dX11_count_1 : decode cX11_count 1 = .ok (.i2l, 1) := by decide +kernel
theorem dX11_count_2 : decode cX11_count 2 = .ok (.lconst 0, 1) := by decide +kernel
theorem dX11_count_3 : decode cX11_count 3 = .ok (.ldc2_w 289, 3) := by decide +kernel
theorem dX11_count_6 : decode cX11_count 6 = .ok (.invokestatic 53, 3) := by decide +kernel
theorem dX11_count_9 : decode cX11_count 9 = .ok (.ifCond .eq 11, 3) := by decide +kernel
theorem dX11_count_12 : decode cX11_count 12 = .ok (.aload_n 0, 1) := by decide +kernel
theorem dX11_count_13 : decode cX11_count 13 = .ok (.iload_n 1, 1) := by decide +kernel
theorem dX11_count_14 : decode cX11_count 14 = .ok (.invokevirtual 291, 3) := by decide +kernel
theorem dX11_count_17 : decode cX11_count 17 = .ok (.goto 9, 3) := by decide +kernel
theorem dX11_count_20 : decode cX11_count 20 = .ok (.aload_n 0, 1) := by decide +kernel
theorem dX11_count_21 : decode cX11_count 21 = .ok (.bipush (-2), 2) := by decide +kernel
theorem dX11_count_23 : decode cX11_count 23 = .ok (.invokevirtual 67, 3) := by decide +kernel
theorem dX11_count_26 : decode cX11_count 26 = .ok (.ireturn, 1) := by decide +kernel
theorem dX11_sums_0 : decode cX11_sums 0 = .ok (.lload_n 1, 1) := by decide +kernel
theorem dX11_sums_1 : decode cX11_sums 1 = .ok (.lstore 5, 2) := by decide +kernel
theorem dX11_sums_3 : decode cX11_sums 3 = .ok (.iconst 0, 1) := by decide +kernel
theorem dX11_sums_4 : decode cX11_sums 4 = .ok (.istore 7, 2) := by decide +kernel
theorem dX11_sums_6 : decode cX11_sums 6 = .ok (.iload 7, 2) := by decide +kernel
theorem dX11_sums_8 : decode cX11_sums 8 = .ok (.iload 4, 2) := by decide +kernel
theorem dX11_sums_10 : decode cX11_sums 10 = .ok (.if_icmp .ge 28, 3) := by decide +kernel
theorem dX11_sums_13 : decode cX11_sums 13 = .ok (.ldc2_w 294, 3) := by decide +kernel
theorem dX11_sums_16 : decode cX11_sums 16 = .ok (.lload 5, 2) := by decide +kernel
theorem dX11_sums_18 : decode cX11_sums 18 = .ok (.lmul, 1) := by decide +kernel
theorem dX11_sums_19 : decode cX11_sums 19 = .ok (.aload_n 0, 1) := by decide +kernel
theorem dX11_sums_20 : decode cX11_sums 20 = .ok (.getfield 7, 3) := by decide +kernel
theorem dX11_sums_23 : decode cX11_sums 23 = .ok (.iload_n 3, 1) := by decide +kernel
theorem dX11_sums_24 : decode cX11_sums 24 = .ok (.iload 7, 2) := by decide +kernel
theorem dX11_sums_26 : decode cX11_sums 26 = .ok (.iadd, 1) := by decide +kernel
theorem dX11_sums_27 : decode cX11_sums 27 = .ok (.iaload, 1) := by decide +kernel
theorem dX11_sums_28 : decode cX11_sums 28 = .ok (.i2l, 1) := by decide +kernel
theorem dX11_sums_29 : decode cX11_sums 29 = .ok (.ladd, 1) := by decide +kernel
theorem dX11_sums_30 : decode cX11_sums 30 = .ok (.lstore 5, 2) := by decide +kernel
theorem dX11_sums_32 : decode cX11_sums 32 = .ok (.iinc 7 1, 3) := by decide +kernel
theorem dX11_sums_35 : decode cX11_sums 35 = .ok (.goto (-29), 3) := by decide +kernel
theorem dX11_sums_38 : decode cX11_sums 38 = .ok (.lload 5, 2) := by decide +kernel
theorem dX11_sums_40 : decode cX11_sums 40 = .ok (.lreturn, 1) := by decide +kernel
theorem dX11_digest_0 : decode cX11_digest 0 = .ok (.ldc2_w 296, 3) := by decide +kernel
theorem dX11_digest_3 : decode cX11_digest 3 = .ok (.lstore_n 1, 1) := by decide +kernel
theorem dX11_digest_4 : decode cX11_digest 4 = .ok (.iconst 0, 1) := by decide +kernel
theorem dX11_digest_5 : decode cX11_digest 5 = .ok (.istore_n 3, 1) := by decide +kernel
theorem dX11_digest_6 : decode cX11_digest 6 = .ok (.iload_n 3, 1) := by decide +kernel
theorem dX11_digest_7 : decode cX11_digest 7 = .ok (.bipush 9, 2) := by decide +kernel
theorem dX11_digest_9 : decode cX11_digest 9 = .ok (.if_icmp .ge 22, 3) := by decide +kernel
theorem dX11_digest_12 : decode cX11_digest 12 = .ok (.ldc2_w 294, 3) := by decide +kernel
theorem dX11_digest_15 : decode cX11_digest 15 = .ok (.lload_n 1, 1) := by decide +kernel
theorem dX11_digest_16 : decode cX11_digest 16 = .ok (.lmul, 1) := by decide +kernel
theorem dX11_digest_17 : decode cX11_digest 17 = .ok (.aload_n 0, 1) := by decide +kernel
theorem dX11_digest_18 : decode cX11_digest 18 = .ok (.iload_n 3, 1) := by decide +kernel
theorem dX11_digest_19 : decode cX11_digest 19 = .ok (.invokevirtual 291, 3) := by decide +kernel
theorem dX11_digest_22 : decode cX11_digest 22 = .ok (.i2l, 1) := by decide +kernel
theorem dX11_digest_23 : decode cX11_digest 23 = .ok (.ladd, 1) := by decide +kernel
theorem dX11_digest_24 : decode cX11_digest 24 = .ok (.lstore_n 1, 1) := by decide +kernel
theorem dX11_digest_25 : decode cX11_digest 25 = .ok (.iinc 3 1, 3) := by decide +kernel
theorem dX11_digest_28 : decode cX11_digest 28 = .ok (.goto (-22), 3) := by decide +kernel
theorem dX11_digest_31 : decode cX11_digest 31 = .ok (.aload_n 0, 1) := by decide +kernel
theorem dX11_digest_32 : decode cX11_digest 32 = .ok (.lload_n 1, 1) := by decide +kernel
theorem dX11_digest_33 : decode cX11_digest 33 = .ok (.bipush 6, 2) := by decide +kernel
theorem dX11_digest_35 : decode cX11_digest 35 = .ok (.bipush 6, 2) := by decide +kernel
theorem dX11_digest_37 : decode cX11_digest 37 = .ok (.invokevirtual 298, 3) := by decide +kernel
theorem dX11_digest_40 : decode cX11_digest 40 = .ok (.lstore_n 1, 1) := by decide +kernel
theorem dX11_digest_41 : decode cX11_digest 41 = .ok (.aload_n 0, 1) := by decide +kernel
theorem dX11_digest_42 : decode cX11_digest 42 = .ok (.lload_n 1, 1) := by decide +kernel
theorem dX11_digest_43 : decode cX11_digest 43 = .ok (.bipush 13, 2) := by decide +kernel
theorem dX11_digest_45 : decode cX11_digest 45 = .ok (.bipush 6, 2) := by decide +kernel
theorem dX11_digest_47 : decode cX11_digest 47 = .ok (.invokevirtual 298, 3) := by decide +kernel
theorem dX11_digest_50 : decode cX11_digest 50 = .ok (.lstore_n 1, 1) := by decide +kernel
theorem dX11_digest_51 : decode cX11_digest 51 = .ok (.iconst 0, 1) := by decide +kernel
theorem dX11_digest_52 : decode cX11_digest 52 = .ok (.istore_n 3, 1) := by decide +kernel
theorem dX11_digest_53 : decode cX11_digest 53 = .ok (.iload_n 3, 1) := by decide +kernel
theorem dX11_digest_54 : decode cX11_digest 54 = .ok (.aload_n 0, 1) := by decide +kernel
theorem dX11_digest_55 : decode cX11_digest 55 = .ok (.invokevirtual 49, 3) := by decide +kernel
theorem dX11_digest_58 : decode cX11_digest 58 = .ok (.if_icmp .ge 56, 3) := by decide +kernel
theorem dX11_digest_61 : decode cX11_digest 61 = .ok (.ldc2_w 294, 3) := by decide +kernel
theorem dX11_digest_64 : decode cX11_digest 64 = .ok (.ldc2_w 294, 3) := by decide +kernel
theorem dX11_digest_67 : decode cX11_digest 67 = .ok (.ldc2_w 294, 3) := by decide +kernel
theorem dX11_digest_70 : decode cX11_digest 70 = .ok (.lload_n 1, 1) := by decide +kernel
theorem dX11_digest_71 : decode cX11_digest 71 = .ok (.lmul, 1) := by decide +kernel
theorem dX11_digest_72 : decode cX11_digest 72 = .ok (.aload_n 0, 1) := by decide +kernel
theorem dX11_digest_73 : decode cX11_digest 73 = .ok (.getfield 7, 3) := by decide +kernel
theorem dX11_digest_76 : decode cX11_digest 76 = .ok (.bipush 19, 2) := by decide +kernel
theorem dX11_digest_78 : decode cX11_digest 78 = .ok (.iload_n 3, 1) := by decide +kernel
theorem dX11_digest_79 : decode cX11_digest 79 = .ok (.iadd, 1) := by decide +kernel
theorem dX11_digest_80 : decode cX11_digest 80 = .ok (.iaload, 1) := by decide +kernel
theorem dX11_digest_81 : decode cX11_digest 81 = .ok (.i2l, 1) := by decide +kernel
theorem dX11_digest_82 : decode cX11_digest 82 = .ok (.ladd, 1) := by decide +kernel
theorem dX11_digest_83 : decode cX11_digest 83 = .ok (.lmul, 1) := by decide +kernel
theorem dX11_digest_84 : decode cX11_digest 84 = .ok (.aload_n 0, 1) := by decide +kernel
theorem dX11_digest_85 : decode cX11_digest 85 = .ok (.getfield 7, 3) := by decide +kernel
theorem dX11_digest_88 : decode cX11_digest 88 = .ok (.bipush 26, 2) := by decide +kernel
theorem dX11_digest_90 : decode cX11_digest 90 = .ok (.iload_n 3, 1) := by decide +kernel
theorem dX11_digest_91 : decode cX11_digest 91 = .ok (.iadd, 1) := by decide +kernel
theorem dX11_digest_92 : decode cX11_digest 92 = .ok (.iaload, 1) := by decide +kernel
theorem dX11_digest_93 : decode cX11_digest 93 = .ok (.i2l, 1) := by decide +kernel
theorem dX11_digest_94 : decode cX11_digest 94 = .ok (.ladd, 1) := by decide +kernel
theorem dX11_digest_95 : decode cX11_digest 95 = .ok (.lmul, 1) := by decide +kernel
theorem dX11_digest_96 : decode cX11_digest 96 = .ok (.aload_n 0, 1) := by decide +kernel
theorem dX11_digest_97 : decode cX11_digest 97 = .ok (.getfield 7, 3) := by decide +kernel
theorem dX11_digest_100 : decode cX11_digest 100 = .ok (.bipush 33, 2) := by decide +kernel
theorem dX11_digest_102 : decode cX11_digest 102 = .ok (.iload_n 3, 1) := by decide +kernel
theorem dX11_digest_103 : decode cX11_digest 103 = .ok (.iadd, 1) := by decide +kernel
theorem dX11_digest_104 : decode cX11_digest 104 = .ok (.iaload, 1) := by decide +kernel
theorem dX11_digest_105 : decode cX11_digest 105 = .ok (.i2l, 1) := by decide +kernel
theorem dX11_digest_106 : decode cX11_digest 106 = .ok (.ladd, 1) := by decide +kernel
theorem dX11_digest_107 : decode cX11_digest 107 = .ok (.lstore_n 1, 1) := by decide +kernel
theorem dX11_digest_108 : decode cX11_digest 108 = .ok (.iinc 3 1, 3) := by decide +kernel
theorem dX11_digest_111 : decode cX11_digest 111 = .ok (.goto (-58), 3) := by decide +kernel
theorem dX11_digest_114 : decode cX11_digest 114 = .ok (.aload_n 0, 1) := by decide +kernel
theorem dX11_digest_115 : decode cX11_digest 115 = .ok (.lload_n 1, 1) := by decide +kernel
theorem dX11_digest_116 : decode cX11_digest 116 = .ok (.bipush 40, 2) := by decide +kernel
theorem dX11_digest_118 : decode cX11_digest 118 = .ok (.iconst 3, 1) := by decide +kernel
theorem dX11_digest_119 : decode cX11_digest 119 = .ok (.aload_n 0, 1) := by decide +kernel
theorem dX11_digest_120 : decode cX11_digest 120 = .ok (.getfield 7, 3) := by decide +kernel
theorem dX11_digest_123 : decode cX11_digest 123 = .ok (.iconst 1, 1) := by decide +kernel
theorem dX11_digest_124 : decode cX11_digest 124 = .ok (.iaload, 1) := by decide +kernel
theorem dX11_digest_125 : decode cX11_digest 125 = .ok (.imul, 1) := by decide +kernel
theorem dX11_digest_126 : decode cX11_digest 126 = .ok (.invokevirtual 298, 3) := by decide +kernel
theorem dX11_digest_129 : decode cX11_digest 129 = .ok (.lstore_n 1, 1) := by decide +kernel
theorem dX11_digest_130 : decode cX11_digest 130 = .ok (.aload_n 0, 1) := by decide +kernel
theorem dX11_digest_131 : decode cX11_digest 131 = .ok (.lload_n 1, 1) := by decide +kernel
theorem dX11_digest_132 : decode cX11_digest 132 = .ok (.bipush 55, 2) := by decide +kernel
theorem dX11_digest_134 : decode cX11_digest 134 = .ok (.iconst 4, 1) := by decide +kernel
theorem dX11_digest_135 : decode cX11_digest 135 = .ok (.aload_n 0, 1) := by decide +kernel
theorem dX11_digest_136 : decode cX11_digest 136 = .ok (.getfield 7, 3) := by decide +kernel
theorem dX11_digest_139 : decode cX11_digest 139 = .ok (.iconst 2, 1) := by decide +kernel
theorem dX11_digest_140 : decode cX11_digest 140 = .ok (.iaload, 1) := by decide +kernel
theorem dX11_digest_141 : decode cX11_digest 141 = .ok (.imul, 1) := by decide +kernel
theorem dX11_digest_142 : decode cX11_digest 142 = .ok (.invokevirtual 298, 3) := by decide +kernel
theorem dX11_digest_145 : decode cX11_digest 145 = .ok (.lstore_n 1, 1) := by decide +kernel
theorem dX11_digest_146 : decode cX11_digest 146 = .ok (.aload_n 0, 1) := by decide +kernel
theorem dX11_digest_147 : decode cX11_digest 147 = .ok (.lload_n 1, 1) := by decide +kernel
theorem dX11_digest_148 : decode cX11_digest 148 = .ok (.bipush 79, 2) := by decide +kernel
theorem dX11_digest_150 : decode cX11_digest 150 = .ok (.iconst 4, 1) := by decide +kernel
theorem dX11_digest_151 : decode cX11_digest 151 = .ok (.aload_n 0, 1) := by decide +kernel
theorem dX11_digest_152 : decode cX11_digest 152 = .ok (.getfield 7, 3) := by decide +kernel
theorem dX11_digest_155 : decode cX11_digest 155 = .ok (.iconst 3, 1) := by decide +kernel
theorem dX11_digest_156 : decode cX11_digest 156 = .ok (.iaload, 1) := by decide +kernel
theorem dX11_digest_157 : decode cX11_digest 157 = .ok (.imul, 1) := by decide +kernel
theorem dX11_digest_158 : decode cX11_digest 158 = .ok (.invokevirtual 298, 3) := by decide +kernel
theorem dX11_digest_161 : decode cX11_digest 161 = .ok (.lstore_n 1, 1) := by decide +kernel
theorem dX11_digest_162 : decode cX11_digest 162 = .ok (.ldc2_w 294, 3) := by decide +kernel
theorem dX11_digest_165 : decode cX11_digest 165 = .ok (.ldc2_w 294, 3) := by decide +kernel
theorem dX11_digest_168 : decode cX11_digest 168 = .ok (.lload_n 1, 1) := by decide +kernel
theorem dX11_digest_169 : decode cX11_digest 169 = .ok (.lmul, 1) := by decide +kernel
theorem dX11_digest_170 : decode cX11_digest 170 = .ok (.aload_n 0, 1) := by decide +kernel
theorem dX11_digest_171 : decode cX11_digest 171 = .ok (.getfield 197, 3) := by decide +kernel
theorem dX11_digest_174 : decode cX11_digest 174 = .ok (.ladd, 1) := by decide +kernel
theorem dX11_digest_175 : decode cX11_digest 175 = .ok (.lmul, 1) := by decide +kernel
theorem dX11_digest_176 : decode cX11_digest 176 = .ok (.aload_n 0, 1) := by decide +kernel
theorem dX11_digest_177 : decode cX11_digest 177 = .ok (.getfield 23, 3) := by decide +kernel
theorem dX11_digest_180 : decode cX11_digest 180 = .ok (.ladd, 1) := by decide +kernel
theorem dX11_digest_181 : decode cX11_digest 181 = .ok (.lreturn, 1) := by decide +kernel
theorem dJ6_bitCount_0f7a4_0 : decode cJ6_bitCount_0f7a4 0 = .ok (.iload_n 0, 1) := by decide +kernel
theorem dJ6_bitCount_0f7a4_1 : decode cJ6_bitCount_0f7a4 1 = .ok (.iload_n 0, 1) := by decide +kernel
theorem dJ6_bitCount_0f7a4_2 : decode cJ6_bitCount_0f7a4 2 = .ok (.iconst 1, 1) := by decide +kernel
theorem dJ6_bitCount_0f7a4_3 : decode cJ6_bitCount_0f7a4 3 = .ok (.iushr, 1) := by decide +kernel
theorem dJ6_bitCount_0f7a4_4 : decode cJ6_bitCount_0f7a4 4 = .ok (.ldc_w 265, 3) := by decide +kernel
theorem dJ6_bitCount_0f7a4_7 : decode cJ6_bitCount_0f7a4 7 = .ok (.iand, 1) := by decide +kernel
theorem dJ6_bitCount_0f7a4_8 : decode cJ6_bitCount_0f7a4 8 = .ok (.isub, 1) := by decide +kernel
theorem dJ6_bitCount_0f7a4_9 : decode cJ6_bitCount_0f7a4 9 = .ok (.istore_n 0, 1) := by decide +kernel
theorem dJ6_bitCount_0f7a4_10 : decode cJ6_bitCount_0f7a4 10 = .ok (.iload_n 0, 1) := by decide +kernel
theorem dJ6_bitCount_0f7a4_11 : decode cJ6_bitCount_0f7a4 11 = .ok (.ldc_w 266, 3) := by decide +kernel
theorem dJ6_bitCount_0f7a4_14 : decode cJ6_bitCount_0f7a4 14 = .ok (.iand, 1) := by decide +kernel
theorem dJ6_bitCount_0f7a4_15 : decode cJ6_bitCount_0f7a4 15 = .ok (.iload_n 0, 1) := by decide +kernel
theorem dJ6_bitCount_0f7a4_16 : decode cJ6_bitCount_0f7a4 16 = .ok (.iconst 2, 1) := by decide +kernel
theorem dJ6_bitCount_0f7a4_17 : decode cJ6_bitCount_0f7a4 17 = .ok (.iushr, 1) := by decide +kernel
theorem dJ6_bitCount_0f7a4_18 : decode cJ6_bitCount_0f7a4 18 = .ok (.ldc_w 266, 3) := by decide +kernel
theorem dJ6_bitCount_0f7a4_21 : decode cJ6_bitCount_0f7a4 21 = .ok (.iand, 1) := by decide +kernel
theorem dJ6_bitCount_0f7a4_22 : decode cJ6_bitCount_0f7a4 22 = .ok (.iadd, 1) := by decide +kernel
theorem dJ6_bitCount_0f7a4_23 : decode cJ6_bitCount_0f7a4 23 = .ok (.istore_n 0, 1) := by decide +kernel
theorem dJ6_bitCount_0f7a4_24 : decode cJ6_bitCount_0f7a4 24 = .ok (.iload_n 0, 1) := by decide +kernel
theorem dJ6_bitCount_0f7a4_25 : decode cJ6_bitCount_0f7a4 25 = .ok (.iload_n 0, 1) := by decide +kernel
theorem dJ6_bitCount_0f7a4_26 : decode cJ6_bitCount_0f7a4 26 = .ok (.iconst 4, 1) := by decide +kernel
theorem dJ6_bitCount_0f7a4_27 : decode cJ6_bitCount_0f7a4 27 = .ok (.iushr, 1) := by decide +kernel
theorem dJ6_bitCount_0f7a4_28 : decode cJ6_bitCount_0f7a4 28 = .ok (.iadd, 1) := by decide +kernel
theorem dJ6_bitCount_0f7a4_29 : decode cJ6_bitCount_0f7a4 29 = .ok (.ldc_w 267, 3) := by decide +kernel
theorem dJ6_bitCount_0f7a4_32 : decode cJ6_bitCount_0f7a4 32 = .ok (.iand, 1) := by decide +kernel
theorem dJ6_bitCount_0f7a4_33 : decode cJ6_bitCount_0f7a4 33 = .ok (.istore_n 0, 1) := by decide +kernel
theorem dJ6_bitCount_0f7a4_34 : decode cJ6_bitCount_0f7a4 34 = .ok (.iload_n 0, 1) := by decide +kernel
theorem dJ6_bitCount_0f7a4_35 : decode cJ6_bitCount_0f7a4 35 = .ok (.iload_n 0, 1) := by decide +kernel
theorem dJ6_bitCount_0f7a4_36 : decode cJ6_bitCount_0f7a4 36 = .ok (.bipush 8, 2) := by decide +kernel
theorem dJ6_bitCount_0f7a4_38 : decode cJ6_bitCount_0f7a4 38 = .ok (.iushr, 1) := by decide +kernel
theorem dJ6_bitCount_0f7a4_39 : decode cJ6_bitCount_0f7a4 39 = .ok (.iadd, 1) := by decide +kernel
theorem dJ6_bitCount_0f7a4_40 : decode cJ6_bitCount_0f7a4 40 = .ok (.istore_n 0, 1) := by decide +kernel
theorem dJ6_bitCount_0f7a4_41 : decode cJ6_bitCount_0f7a4 41 = .ok (.iload_n 0, 1) := by decide +kernel
theorem dJ6_bitCount_0f7a4_42 : decode cJ6_bitCount_0f7a4 42 = .ok (.iload_n 0, 1) := by decide +kernel
theorem dJ6_bitCount_0f7a4_43 : decode cJ6_bitCount_0f7a4 43 = .ok (.bipush 16, 2) := by decide +kernel
theorem dJ6_bitCount_0f7a4_45 : decode cJ6_bitCount_0f7a4 45 = .ok (.iushr, 1) := by decide +kernel
theorem dJ6_bitCount_0f7a4_46 : decode cJ6_bitCount_0f7a4 46 = .ok (.iadd, 1) := by decide +kernel
theorem dJ6_bitCount_0f7a4_47 : decode cJ6_bitCount_0f7a4 47 = .ok (.istore_n 0, 1) := by decide +kernel
theorem dJ6_bitCount_0f7a4_48 : decode cJ6_bitCount_0f7a4 48 = .ok (.iload_n 0, 1) := by decide +kernel
theorem dJ6_bitCount_0f7a4_49 : decode cJ6_bitCount_0f7a4 49 = .ok (.bipush 63, 2) := by decide +kernel
theorem dJ6_bitCount_0f7a4_51 : decode cJ6_bitCount_0f7a4 51 = .ok (.iand, 1) := by decide +kernel
theorem dJ6_bitCount_0f7a4_52 : decode cJ6_bitCount_0f7a4 52 = .ok (.ireturn, 1) := by decide +kernel
theorem dJ9_floorMod_7cf53_0 : decode cJ9_floorMod_7cf53 0 = .ok (.iload_n 0, 1) := by decide +kernel
theorem dJ9_floorMod_7cf53_1 : decode cJ9_floorMod_7cf53 1 = .ok (.iload_n 1, 1) := by decide +kernel
theorem dJ9_floorMod_7cf53_2 : decode cJ9_floorMod_7cf53 2 = .ok (.irem, 1) := by decide +kernel
theorem dJ9_floorMod_7cf53_3 : decode cJ9_floorMod_7cf53 3 = .ok (.istore_n 2, 1) := by decide +kernel
theorem dJ9_floorMod_7cf53_4 : decode cJ9_floorMod_7cf53 4 = .ok (.iload_n 0, 1) := by decide +kernel
theorem dJ9_floorMod_7cf53_5 : decode cJ9_floorMod_7cf53 5 = .ok (.iload_n 1, 1) := by decide +kernel
theorem dJ9_floorMod_7cf53_6 : decode cJ9_floorMod_7cf53 6 = .ok (.ixor, 1) := by decide +kernel
theorem dJ9_floorMod_7cf53_7 : decode cJ9_floorMod_7cf53 7 = .ok (.ifCond .ge 11, 3) := by decide +kernel
theorem dJ9_floorMod_7cf53_10 : decode cJ9_floorMod_7cf53 10 = .ok (.iload_n 2, 1) := by decide +kernel
theorem dJ9_floorMod_7cf53_11 : decode cJ9_floorMod_7cf53 11 = .ok (.ifCond .eq 7, 3) := by decide +kernel
theorem dJ9_floorMod_7cf53_14 : decode cJ9_floorMod_7cf53 14 = .ok (.iload_n 2, 1) := by decide +kernel
theorem dJ9_floorMod_7cf53_15 : decode cJ9_floorMod_7cf53 15 = .ok (.iload_n 1, 1) := by decide +kernel
theorem dJ9_floorMod_7cf53_16 : decode cJ9_floorMod_7cf53 16 = .ok (.iadd, 1) := by decide +kernel
theorem dJ9_floorMod_7cf53_17 : decode cJ9_floorMod_7cf53 17 = .ok (.ireturn, 1) := by decide +kernel
theorem dJ9_floorMod_7cf53_18 : decode cJ9_floorMod_7cf53 18 = .ok (.iload_n 2, 1) := by decide +kernel
theorem dJ9_floorMod_7cf53_19 : decode cJ9_floorMod_7cf53 19 = .ok (.ireturn, 1) := by decide +kernel
theorem dJ9_max_7cf53_0 : decode cJ9_max_7cf53 0 = .ok (.iload_n 0, 1) := by decide +kernel
theorem dJ9_max_7cf53_1 : decode cJ9_max_7cf53 1 = .ok (.iload_n 1, 1) := by decide +kernel
theorem dJ9_max_7cf53_2 : decode cJ9_max_7cf53 2 = .ok (.if_icmp .lt 7, 3) := by decide +kernel
theorem dJ9_max_7cf53_5 : decode cJ9_max_7cf53 5 = .ok (.iload_n 0, 1) := by decide +kernel
theorem dJ9_max_7cf53_6 : decode cJ9_max_7cf53 6 = .ok (.goto 4, 3) := by decide +kernel
theorem dJ9_max_7cf53_9 : decode cJ9_max_7cf53 9 = .ok (.iload_n 1, 1) := by decide +kernel
theorem dJ9_max_7cf53_10 : decode cJ9_max_7cf53 10 = .ok (.ireturn, 1) := by decide +kernel
theorem dJ9_min_7cf53_0 : decode cJ9_min_7cf53 0 = .ok (.iload_n 0, 1) := by decide +kernel
theorem dJ9_min_7cf53_1 : decode cJ9_min_7cf53 1 = .ok (.iload_n 1, 1) := by decide +kernel
theorem dJ9_min_7cf53_2 : decode cJ9_min_7cf53 2 = .ok (.if_icmp .gt 7, 3) := by decide +kernel
theorem dJ9_min_7cf53_5 : decode cJ9_min_7cf53 5 = .ok (.iload_n 0, 1) := by decide +kernel
theorem dJ9_min_7cf53_6 : decode cJ9_min_7cf53 6 = .ok (.goto 4, 3) := by decide +kernel
theorem dJ9_min_7cf53_9 : decode cJ9_min_7cf53 9 = .ok (.iload_n 1, 1) := by decide +kernel
theorem dJ9_min_7cf53_10 : decode cJ9_min_7cf53 10 = .ok (.ireturn, 1) := by decide +kernel
theorem dJ0_length_8abf5_0 : decode cJ0_length_8abf5 0 = .ok (.aload_n 0, 1) := by decide +kernel
theorem dJ0_length_8abf5_1 : decode cJ0_length_8abf5 1 = .ok (.getfield 9, 3) := by decide +kernel
theorem dJ0_length_8abf5_4 : decode cJ0_length_8abf5 4 = .ok (.arraylength, 1) := by decide +kernel
theorem dJ0_length_8abf5_5 : decode cJ0_length_8abf5 5 = .ok (.aload_n 0, 1) := by decide +kernel
theorem dJ0_length_8abf5_6 : decode cJ0_length_8abf5 6 = .ok (.invokevirtual 335, 3) := by decide +kernel
theorem dJ0_length_8abf5_9 : decode cJ0_length_8abf5 9 = .ok (.ishr, 1) := by decide +kernel
theorem dJ0_length_8abf5_10 : decode cJ0_length_8abf5 10 = .ok (.ireturn, 1) := by decide +kernel
theorem dJ0_charAt_5068e_0 : decode cJ0_charAt_5068e 0 = .ok (.aload_n 0, 1) := by decide +kernel
theorem dJ0_charAt_5068e_1 : decode cJ0_charAt_5068e 1 = .ok (.invokevirtual 492, 3) := by decide +kernel
theorem dJ0_charAt_5068e_4 : decode cJ0_charAt_5068e 4 = .ok (.ifCond .eq 12, 3) := by decide +kernel
theorem dJ0_charAt_5068e_7 : decode cJ0_charAt_5068e 7 = .ok (.aload_n 0, 1) := by decide +kernel
theorem dJ0_charAt_5068e_8 : decode cJ0_charAt_5068e 8 = .ok (.getfield 9, 3) := by decide +kernel
theorem dJ0_charAt_5068e_11 : decode cJ0_charAt_5068e 11 = .ok (.iload_n 1, 1) := by decide +kernel
theorem dJ0_charAt_5068e_12 : decode cJ0_charAt_5068e 12 = .ok (.invokestatic 495, 3) := by decide +kernel
theorem dJ0_charAt_5068e_15 : decode cJ0_charAt_5068e 15 = .ok (.ireturn, 1) := by decide +kernel
theorem dJ0_charAt_5068e_16 : decode cJ0_charAt_5068e 16 = .ok (.aload_n 0, 1) := by decide +kernel
theorem dJ0_charAt_5068e_17 : decode cJ0_charAt_5068e 17 = .ok (.getfield 9, 3) := by decide +kernel
theorem dJ0_charAt_5068e_20 : decode cJ0_charAt_5068e 20 = .ok (.iload_n 1, 1) := by decide +kernel
theorem dJ0_charAt_5068e_21 : decode cJ0_charAt_5068e 21 = .ok (.invokestatic 498, 3) := by decide +kernel
theorem dJ0_charAt_5068e_24 : decode cJ0_charAt_5068e 24 = .ok (.ireturn, 1) := by decide +kernel
theorem dJ0_coder_7d493_0 : decode cJ0_coder_7d493 0 = .ok (.getstatic 38, 3) := by decide +kernel
theorem dJ0_coder_7d493_3 : decode cJ0_coder_7d493 3 = .ok (.ifCond .eq 10, 3) := by decide +kernel
theorem dJ0_coder_7d493_6 : decode cJ0_coder_7d493 6 = .ok (.aload_n 0, 1) := by decide +kernel
theorem dJ0_coder_7d493_7 : decode cJ0_coder_7d493 7 = .ok (.getfield 15, 3) := by decide +kernel
theorem dJ0_coder_7d493_10 : decode cJ0_coder_7d493 10 = .ok (.goto 4, 3) := by decide +kernel
theorem dJ0_coder_7d493_13 : decode cJ0_coder_7d493 13 = .ok (.iconst 1, 1) := by decide +kernel
theorem dJ0_coder_7d493_14 : decode cJ0_coder_7d493 14 = .ok (.ireturn, 1) := by decide +kernel
theorem dJ0_isLatin1_aae02_0 : decode cJ0_isLatin1_aae02 0 = .ok (.getstatic 38, 3) := by decide +kernel
theorem dJ0_isLatin1_aae02_3 : decode cJ0_isLatin1_aae02 3 = .ok (.ifCond .eq 14, 3) := by decide +kernel
theorem dJ0_isLatin1_aae02_6 : decode cJ0_isLatin1_aae02 6 = .ok (.aload_n 0, 1) := by decide +kernel
theorem dJ0_isLatin1_aae02_7 : decode cJ0_isLatin1_aae02 7 = .ok (.getfield 15, 3) := by decide +kernel
theorem dJ0_isLatin1_aae02_10 : decode cJ0_isLatin1_aae02 10 = .ok (.ifCond .ne 7, 3) := by decide +kernel
theorem dJ0_isLatin1_aae02_13 : decode cJ0_isLatin1_aae02 13 = .ok (.iconst 1, 1) := by decide +kernel
theorem dJ0_isLatin1_aae02_14 : decode cJ0_isLatin1_aae02 14 = .ok (.goto 4, 3) := by decide +kernel
theorem dJ0_isLatin1_aae02_17 : decode cJ0_isLatin1_aae02 17 = .ok (.iconst 0, 1) := by decide +kernel
theorem dJ0_isLatin1_aae02_18 : decode cJ0_isLatin1_aae02 18 = .ok (.ireturn, 1) := by decide +kernel
theorem dJ0_checkIndex_df160_0 : decode cJ0_checkIndex_df160 0 = .ok (.iload_n 0, 1) := by decide +kernel
theorem dJ0_checkIndex_df160_1 : decode cJ0_checkIndex_df160 1 = .ok (.iload_n 1, 1) := by decide +kernel
theorem dJ0_checkIndex_df160_2 : decode cJ0_checkIndex_df160 2 = .ok (.getstatic 1053, 3) := by decide +kernel
theorem dJ0_checkIndex_df160_5 : decode cJ0_checkIndex_df160 5 = .ok (.invokestatic 1059, 3) := by decide +kernel
theorem dJ0_checkIndex_df160_8 : decode cJ0_checkIndex_df160 8 = .ok (.pop, 1) := by decide +kernel
theorem dJ0_checkIndex_df160_9 : decode cJ0_checkIndex_df160 9 = .ok (.return_, 1) := by decide +kernel
theorem dJ1_charAt_3b067_0 : decode cJ1_charAt_3b067 0 = .ok (.iload_n 1, 1) := by decide +kernel
theorem dJ1_charAt_3b067_1 : decode cJ1_charAt_3b067 1 = .ok (.aload_n 0, 1) := by decide +kernel
theorem dJ1_charAt_3b067_2 : decode cJ1_charAt_3b067 2 = .ok (.arraylength, 1) := by decide +kernel
theorem dJ1_charAt_3b067_3 : decode cJ1_charAt_3b067 3 = .ok (.invokestatic 9, 3) := by decide +kernel
theorem dJ1_charAt_3b067_6 : decode cJ1_charAt_3b067 6 = .ok (.aload_n 0, 1) := by decide +kernel
theorem dJ1_charAt_3b067_7 : decode cJ1_charAt_3b067 7 = .ok (.iload_n 1, 1) := by decide +kernel
theorem dJ1_charAt_3b067_8 : decode cJ1_charAt_3b067 8 = .ok (.baload, 1) := by decide +kernel
theorem dJ1_charAt_3b067_9 : decode cJ1_charAt_3b067 9 = .ok (.sipush 255, 3) := by decide +kernel
theorem dJ1_charAt_3b067_12 : decode cJ1_charAt_3b067 12 = .ok (.iand, 1) := by decide +kernel
theorem dJ1_charAt_3b067_13 : decode cJ1_charAt_3b067 13 = .ok (.i2c, 1) := by decide +kernel
theorem dJ1_charAt_3b067_14 : decode cJ1_charAt_3b067 14 = .ok (.ireturn, 1) := by decide +kernel
theorem dJ2_getChar_3b067_0 : decode cJ2_getChar_3b067 0 = .ok (.getstatic 44, 3) := by decide +kernel
theorem dJ2_getChar_3b067_3 : decode cJ2_getChar_3b067 3 = .ok (.ifCond .ne 25, 3) := by decide +kernel
theorem dJ2_getChar_3b067_6 : decode cJ2_getChar_3b067 6 = .ok (.iload_n 1, 1) := by decide +kernel
theorem dJ2_getChar_3b067_7 : decode cJ2_getChar_3b067 7 = .ok (.ifCond .lt 11, 3) := by decide +kernel
theorem dJ2_getChar_3b067_10 : decode cJ2_getChar_3b067 10 = .ok (.iload_n 1, 1) := by decide +kernel
theorem dJ2_getChar_3b067_11 : decode cJ2_getChar_3b067 11 = .ok (.aload_n 0, 1) := by decide +kernel
theorem dJ2_getChar_3b067_12 : decode cJ2_getChar_3b067 12 = .ok (.invokestatic 48, 3) := by decide +kernel
theorem dJ2_getChar_3b067_15 : decode cJ2_getChar_3b067 15 = .ok (.if_icmp .lt 13, 3) := by decide +kernel
theorem dJ2_getChar_3b067_18 : decode cJ2_getChar_3b067 18 = .ok (.new 52, 3) := by decide +kernel
theorem dJ2_getChar_3b067_21 : decode cJ2_getChar_3b067 21 = .ok (.dup, 1) := by decide +kernel
theorem dJ2_getChar_3b067_22 : decode cJ2_getChar_3b067 22 = .ok (.ldc 54, 2) := by decide +kernel
theorem dJ2_getChar_3b067_24 : decode cJ2_getChar_3b067 24 = .ok (.invokespecial 56, 3) := by decide +kernel
theorem dJ2_getChar_3b067_27 : decode cJ2_getChar_3b067 27 = .ok (.athrow, 1) := by decide +kernel
theorem dJ2_getChar_3b067_28 : decode cJ2_getChar_3b067 28 = .ok (.iload_n 1, 1) := by decide +kernel
theorem dJ2_getChar_3b067_29 : decode cJ2_getChar_3b067 29 = .ok (.iconst 1, 1) := by decide +kernel
theorem dJ2_getChar_3b067_30 : decode cJ2_getChar_3b067 30 = .ok (.ishl, 1) := by decide +kernel
theorem dJ2_getChar_3b067_31 : decode cJ2_getChar_3b067 31 = .ok (.istore_n 1, 1) := by decide +kernel
theorem dJ2_getChar_3b067_32 : decode cJ2_getChar_3b067 32 = .ok (.aload_n 0, 1) := by decide +kernel
theorem dJ2_getChar_3b067_33 : decode cJ2_getChar_3b067 33 = .ok (.iload_n 1, 1) := by decide +kernel
theorem dJ2_getChar_3b067_34 : decode cJ2_getChar_3b067 34 = .ok (.iinc 1 1, 3) := by decide +kernel
theorem dJ2_getChar_3b067_37 : decode cJ2_getChar_3b067 37 = .ok (.baload, 1) := by decide +kernel
theorem dJ2_getChar_3b067_38 : decode cJ2_getChar_3b067 38 = .ok (.sipush 255, 3) := by decide +kernel
theorem dJ2_getChar_3b067_41 : decode cJ2_getChar_3b067 41 = .ok (.iand, 1) := by decide +kernel
theorem dJ2_getChar_3b067_42 : decode cJ2_getChar_3b067 42 = .ok (.getstatic 59, 3) := by decide +kernel
theorem dJ2_getChar_3b067_45 : decode cJ2_getChar_3b067 45 = .ok (.ishl, 1) := by decide +kernel
theorem dJ2_getChar_3b067_46 : decode cJ2_getChar_3b067 46 = .ok (.aload_n 0, 1) := by decide +kernel
theorem dJ2_getChar_3b067_47 : decode cJ2_getChar_3b067 47 = .ok (.iload_n 1, 1) := by decide +kernel
theorem dJ2_getChar_3b067_48 : decode cJ2_getChar_3b067 48 = .ok (.baload, 1) := by decide +kernel
theorem dJ2_getChar_3b067_49 : decode cJ2_getChar_3b067 49 = .ok (.sipush 255, 3) := by decide +kernel
theorem dJ2_getChar_3b067_52 : decode cJ2_getChar_3b067 52 = .ok (.iand, 1) := by decide +kernel
theorem dJ2_getChar_3b067_53 : decode cJ2_getChar_3b067 53 = .ok (.getstatic 63, 3) := by decide +kernel
theorem dJ2_getChar_3b067_56 : decode cJ2_getChar_3b067 56 = .ok (.ishl, 1) := by decide +kernel
theorem dJ2_getChar_3b067_57 : decode cJ2_getChar_3b067 57 = .ok (.ior, 1) := by decide +kernel
theorem dJ2_getChar_3b067_58 : decode cJ2_getChar_3b067 58 = .ok (.i2c, 1) := by decide +kernel
theorem dJ2_getChar_3b067_59 : decode cJ2_getChar_3b067 59 = .ok (.ireturn, 1) := by decide +kernel
theorem dJ2_length_9d52b_0 : decode cJ2_length_9d52b 0 = .ok (.aload_n 0, 1) := by decide +kernel
theorem dJ2_length_9d52b_1 : decode cJ2_length_9d52b 1 = .ok (.arraylength, 1) := by decide +kernel
theorem dJ2_length_9d52b_2 : decode cJ2_length_9d52b 2 = .ok (.iconst 1, 1) := by decide +kernel
theorem dJ2_length_9d52b_3 : decode cJ2_length_9d52b 3 = .ok (.ishr, 1) := by decide +kernel
theorem dJ2_length_9d52b_4 : decode cJ2_length_9d52b 4 = .ok (.ireturn, 1) := by decide +kernel
theorem dJ2_charAt_3b067_0 : decode cJ2_charAt_3b067 0 = .ok (.iload_n 1, 1) := by decide +kernel
theorem dJ2_charAt_3b067_1 : decode cJ2_charAt_3b067 1 = .ok (.aload_n 0, 1) := by decide +kernel
theorem dJ2_charAt_3b067_2 : decode cJ2_charAt_3b067 2 = .ok (.invokestatic 67, 3) := by decide +kernel
theorem dJ2_charAt_3b067_5 : decode cJ2_charAt_3b067 5 = .ok (.aload_n 0, 1) := by decide +kernel
theorem dJ2_charAt_3b067_6 : decode cJ2_charAt_3b067 6 = .ok (.iload_n 1, 1) := by decide +kernel
theorem dJ2_charAt_3b067_7 : decode cJ2_charAt_3b067 7 = .ok (.invokestatic 71, 3) := by decide +kernel
theorem dJ2_charAt_3b067_10 : decode cJ2_charAt_3b067 10 = .ok (.ireturn, 1) := by decide +kernel
theorem dJ2_checkIndex_2214a_0 : decode cJ2_checkIndex_2214a 0 = .ok (.iload_n 0, 1) := by decide +kernel
theorem dJ2_checkIndex_2214a_1 : decode cJ2_checkIndex_2214a 1 = .ok (.aload_n 1, 1) := by decide +kernel
theorem dJ2_checkIndex_2214a_2 : decode cJ2_checkIndex_2214a 2 = .ok (.invokestatic 48, 3) := by decide +kernel
theorem dJ2_checkIndex_2214a_5 : decode cJ2_checkIndex_2214a 5 = .ok (.invokestatic 414, 3) := by decide +kernel
theorem dJ2_checkIndex_2214a_8 : decode cJ2_checkIndex_2214a 8 = .ok (.return_, 1) := by decide +kernel
theorem dJ7_fill_53178_0 : decode cJ7_fill_53178 0 = .ok (.iconst 0, 1) := by decide +kernel
theorem dJ7_fill_53178_1 : decode cJ7_fill_53178 1 = .ok (.istore_n 2, 1) := by decide +kernel
theorem dJ7_fill_53178_2 : decode cJ7_fill_53178 2 = .ok (.aload_n 0, 1) := by decide +kernel
theorem dJ7_fill_53178_3 : decode cJ7_fill_53178 3 = .ok (.arraylength, 1) := by decide +kernel
theorem dJ7_fill_53178_4 : decode cJ7_fill_53178 4 = .ok (.istore_n 3, 1) := by decide +kernel
theorem dJ7_fill_53178_5 : decode cJ7_fill_53178 5 = .ok (.iload_n 2, 1) := by decide +kernel
theorem dJ7_fill_53178_6 : decode cJ7_fill_53178 6 = .ok (.iload_n 3, 1) := by decide +kernel
theorem dJ7_fill_53178_7 : decode cJ7_fill_53178 7 = .ok (.if_icmp .ge 13, 3) := by decide +kernel
theorem dJ7_fill_53178_10 : decode cJ7_fill_53178 10 = .ok (.aload_n 0, 1) := by decide +kernel
theorem dJ7_fill_53178_11 : decode cJ7_fill_53178 11 = .ok (.iload_n 2, 1) := by decide +kernel
theorem dJ7_fill_53178_12 : decode cJ7_fill_53178 12 = .ok (.iload_n 1, 1) := by decide +kernel
theorem dJ7_fill_53178_13 : decode cJ7_fill_53178 13 = .ok (.iastore, 1) := by decide +kernel
theorem dJ7_fill_53178_14 : decode cJ7_fill_53178 14 = .ok (.iinc 2 1, 3) := by decide +kernel
theorem dJ7_fill_53178_17 : decode cJ7_fill_53178 17 = .ok (.goto (-12), 3) := by decide +kernel
theorem dJ7_fill_53178_20 : decode cJ7_fill_53178 20 = .ok (.return_, 1) := by decide +kernel
theorem dJ3_checkIndex_8e157_0 : decode cJ3_checkIndex_8e157 0 = .ok (.iload_n 0, 1) := by decide +kernel
theorem dJ3_checkIndex_8e157_1 : decode cJ3_checkIndex_8e157 1 = .ok (.ifCond .lt 8, 3) := by decide +kernel
theorem dJ3_checkIndex_8e157_4 : decode cJ3_checkIndex_8e157 4 = .ok (.iload_n 0, 1) := by decide +kernel
theorem dJ3_checkIndex_8e157_5 : decode cJ3_checkIndex_8e157 5 = .ok (.iload_n 1, 1) := by decide +kernel
theorem dJ3_checkIndex_8e157_6 : decode cJ3_checkIndex_8e157 6 = .ok (.if_icmp .lt 10, 3) := by decide +kernel
theorem dJ3_checkIndex_8e157_9 : decode cJ3_checkIndex_8e157 9 = .ok (.aload_n 2, 1) := by decide +kernel
theorem dJ3_checkIndex_8e157_10 : decode cJ3_checkIndex_8e157 10 = .ok (.iload_n 0, 1) := by decide +kernel
theorem dJ3_checkIndex_8e157_11 : decode cJ3_checkIndex_8e157 11 = .ok (.iload_n 1, 1) := by decide +kernel
theorem dJ3_checkIndex_8e157_12 : decode cJ3_checkIndex_8e157 12 = .ok (.invokestatic 95, 3) := by decide +kernel
theorem dJ3_checkIndex_8e157_15 : decode cJ3_checkIndex_8e157 15 = .ok (.athrow, 1) := by decide +kernel
theorem dJ3_checkIndex_8e157_16 : decode cJ3_checkIndex_8e157 16 = .ok (.iload_n 0, 1) := by decide +kernel
theorem dJ3_checkIndex_8e157_17 : decode cJ3_checkIndex_8e157 17 = .ok (.ireturn, 1) := by decide +kernel
