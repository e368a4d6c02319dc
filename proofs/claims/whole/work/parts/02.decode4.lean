theorem dX5_keep_25 : decode cX5_keep 25 = .ok (.aload_n 0, 1) := by decide +kernel
theorem dX5_keep_26 : decode cX5_keep 26 = .ok (.getfield 32, 3) := by decide +kernel
theorem dX5_keep_29 : decode cX5_keep 29 = .ok (.iload_n 1, 1) := by decide +kernel
theorem dX5_keep_30 : decode cX5_keep 30 = .ok (.iaload, 1) := by decide +kernel
theorem dX5_keep_31 : decode cX5_keep 31 = .ok (.iastore, 1) := by decide +kernel
theorem dX5_keep_32 : decode cX5_keep 32 = .ok (.aload_n 0, 1) := by decide +kernel
theorem dX5_keep_33 : decode cX5_keep 33 = .ok (.getfield 59, 3) := by decide +kernel
theorem dX5_keep_36 : decode cX5_keep 36 = .ok (.iload_n 1, 1) := by decide +kernel
theorem dX5_keep_37 : decode cX5_keep 37 = .ok (.aload_n 0, 1) := by decide +kernel
theorem dX5_keep_38 : decode cX5_keep 38 = .ok (.getfield 35, 3) := by decide +kernel
theorem dX5_keep_41 : decode cX5_keep 41 = .ok (.iload_n 1, 1) := by decide +kernel
theorem dX5_keep_42 : decode cX5_keep 42 = .ok (.iaload, 1) := by decide +kernel
theorem dX5_keep_43 : decode cX5_keep 43 = .ok (.iastore, 1) := by decide +kernel
theorem dX5_keep_44 : decode cX5_keep 44 = .ok (.iinc 1 1, 3) := by decide +kernel
theorem dX5_keep_47 : decode cX5_keep 47 = .ok (.goto (-45), 3) := by decide +kernel
theorem dX5_keep_50 : decode cX5_keep 50 = .ok (.return_, 1) := by decide +kernel
theorem dX5_giveBack_0 : decode cX5_giveBack 0 = .ok (.iconst 0, 1) := by decide +kernel
theorem dX5_giveBack_1 : decode cX5_giveBack 1 = .ok (.istore_n 1, 1) := by decide +kernel
theorem dX5_giveBack_2 : decode cX5_giveBack 2 = .ok (.iload_n 1, 1) := by decide +kernel
theorem dX5_giveBack_3 : decode cX5_giveBack 3 = .ok (.bipush 48, 2) := by decide +kernel
theorem dX5_giveBack_5 : decode cX5_giveBack 5 = .ok (.if_icmp .ge 45, 3) := by decide +kernel
theorem dX5_giveBack_8 : decode cX5_giveBack 8 = .ok (.aload_n 0, 1) := by decide +kernel
theorem dX5_giveBack_9 : decode cX5_giveBack 9 = .ok (.getfield 29, 3) := by decide +kernel
theorem dX5_giveBack_12 : decode cX5_giveBack 12 = .ok (.iload_n 1, 1) := by decide +kernel
theorem dX5_giveBack_13 : decode cX5_giveBack 13 = .ok (.aload_n 0, 1) := by decide +kernel
theorem dX5_giveBack_14 : decode cX5_giveBack 14 = .ok (.getfield 53, 3) := by decide +kernel
theorem dX5_giveBack_17 : decode cX5_giveBack 17 = .ok (.iload_n 1, 1) := by decide +kernel
theorem dX5_giveBack_18 : decode cX5_giveBack 18 = .ok (.iaload, 1) := by decide +kernel
theorem dX5_giveBack_19 : decode cX5_giveBack 19 = .ok (.iastore, 1) := by decide +kernel
theorem dX5_giveBack_20 : decode cX5_giveBack 20 = .ok (.aload_n 0, 1) := by decide +kernel
theorem dX5_giveBack_21 : decode cX5_giveBack 21 = .ok (.getfield 32, 3) := by decide +kernel
theorem dX5_giveBack_24 : decode cX5_giveBack 24 = .ok (.iload_n 1, 1) := by decide +kernel
theorem dX5_giveBack_25 : decode cX5_giveBack 25 = .ok (.aload_n 0, 1) := by decide +kernel
theorem dX5_giveBack_26 : decode cX5_giveBack 26 = .ok (.getfield 56, 3) := by decide +kernel
theorem dX5_giveBack_29 : decode cX5_giveBack 29 = .ok (.iload_n 1, 1) := by decide +kernel
theorem dX5_giveBack_30 : decode cX5_giveBack 30 = .ok (.iaload, 1) := by decide +kernel
theorem dX5_giveBack_31 : decode cX5_giveBack 31 = .ok (.iastore, 1) := by decide +kernel
theorem dX5_giveBack_32 : decode cX5_giveBack 32 = .ok (.aload_n 0, 1) := by decide +kernel
theorem dX5_giveBack_33 : decode cX5_giveBack 33 = .ok (.getfield 35, 3) := by decide +kernel
theorem dX5_giveBack_36 : decode cX5_giveBack 36 = .ok (.iload_n 1, 1) := by decide +kernel
theorem dX5_giveBack_37 : decode cX5_giveBack 37 = .ok (.aload_n 0, 1) := by decide +kernel
theorem dX5_giveBack_38 : decode cX5_giveBack 38 = .ok (.getfield 59, 3) := by decide +kernel
theorem dX5_giveBack_41 : decode cX5_giveBack 41 = .ok (.iload_n 1, 1) := by decide +kernel
theorem dX5_giveBack_42 : decode cX5_giveBack 42 = .ok (.iaload, 1) := by decide +kernel
theorem dX5_giveBack_43 : decode cX5_giveBack 43 = .ok (.iastore, 1) := by decide +kernel
theorem dX5_giveBack_44 : decode cX5_giveBack 44 = .ok (.iinc 1 1, 3) := by decide +kernel
theorem dX5_giveBack_47 : decode cX5_giveBack 47 = .ok (.goto (-45), 3) := by decide +kernel
theorem dX5_giveBack_50 : decode cX5_giveBack 50 = .ok (.return_, 1) := by decide +kernel
theorem dX5_strike_0 : decode cX5_strike 0 = .ok (.aload_n 0, 1) := by decide +kernel
theorem dX5_strike_1 : decode cX5_strike 1 = .ok (.iload_n 1, 1) := by decide +kernel
theorem dX5_strike_2 : decode cX5_strike 2 = .ok (.iload_n 2, 1) := by decide +kernel
theorem dX5_strike_3 : decode cX5_strike 3 = .ok (.invokevirtual 155, 3) := by decide +kernel
theorem dX5_strike_6 : decode cX5_strike 6 = .ok (.ifCond .eq 19, 3) := by decide +kernel
theorem dX5_strike_9 : decode cX5_strike 9 = .ok (.aload_n 0, 1) := by decide +kernel
theorem dX5_strike_10 : decode cX5_strike 10 = .ok (.getfield 29, 3) := by decide +kernel
theorem dX5_strike_13 : decode cX5_strike 13 = .ok (.iload_n 1, 1) := by decide +kernel
theorem dX5_strike_14 : decode cX5_strike 14 = .ok (.aload_n 0, 1) := by decide +kernel
theorem dX5_strike_15 : decode cX5_strike 15 = .ok (.getfield 23, 3) := by decide +kernel
theorem dX5_strike_18 : decode cX5_strike 18 = .ok (.iload_n 2, 1) := by decide +kernel
theorem dX5_strike_19 : decode cX5_strike 19 = .ok (.imul, 1) := by decide +kernel
theorem dX5_strike_20 : decode cX5_strike 20 = .ok (.iadd, 1) := by decide +kernel
theorem dX5_strike_21 : decode cX5_strike 21 = .ok (.iaload, 1) := by decide +kernel
theorem dX5_strike_22 : decode cX5_strike 22 = .ok (.ifCond .ne 5, 3) := by decide +kernel
theorem dX5_strike_25 : decode cX5_strike 25 = .ok (.iconst 0, 1) := by decide +kernel
theorem dX5_strike_26 : decode cX5_strike 26 = .ok (.ireturn, 1) := by decide +kernel
theorem dX5_strike_27 : decode cX5_strike 27 = .ok (.iload_n 1, 1) := by decide +kernel
theorem dX5_strike_28 : decode cX5_strike 28 = .ok (.aload_n 0, 1) := by decide +kernel
theorem dX5_strike_29 : decode cX5_strike 29 = .ok (.getfield 23, 3) := by decide +kernel
theorem dX5_strike_32 : decode cX5_strike 32 = .ok (.iload_n 2, 1) := by decide +kernel
theorem dX5_strike_33 : decode cX5_strike 33 = .ok (.imul, 1) := by decide +kernel
theorem dX5_strike_34 : decode cX5_strike 34 = .ok (.iadd, 1) := by decide +kernel
theorem dX5_strike_35 : decode cX5_strike 35 = .ok (.istore 4, 2) := by decide +kernel
theorem dX5_strike_37 : decode cX5_strike 37 = .ok (.aload_n 0, 1) := by decide +kernel
theorem dX5_strike_38 : decode cX5_strike 38 = .ok (.getfield 32, 3) := by decide +kernel
theorem dX5_strike_41 : decode cX5_strike 41 = .ok (.iload 4, 2) := by decide +kernel
theorem dX5_strike_43 : decode cX5_strike 43 = .ok (.dup2, 1) := by decide +kernel
theorem dX5_strike_44 : decode cX5_strike 44 = .ok (.iaload, 1) := by decide +kernel
theorem dX5_strike_45 : decode cX5_strike 45 = .ok (.iload_n 3, 1) := by decide +kernel
theorem dX5_strike_46 : decode cX5_strike 46 = .ok (.isub, 1) := by decide +kernel
theorem dX5_strike_47 : decode cX5_strike 47 = .ok (.iastore, 1) := by decide +kernel
theorem dX5_strike_48 : decode cX5_strike 48 = .ok (.aload_n 0, 1) := by decide +kernel
theorem dX5_strike_49 : decode cX5_strike 49 = .ok (.getfield 35, 3) := by decide +kernel
theorem dX5_strike_52 : decode cX5_strike 52 = .ok (.iload 4, 2) := by decide +kernel
theorem dX5_strike_54 : decode cX5_strike 54 = .ok (.iconst 0, 1) := by decide +kernel
theorem dX5_strike_55 : decode cX5_strike 55 = .ok (.iastore, 1) := by decide +kernel
theorem dX5_strike_56 : decode cX5_strike 56 = .ok (.iconst 0, 1) := by decide +kernel
theorem dX5_strike_57 : decode cX5_strike 57 = .ok (.istore 5, 2) := by decide +kernel
theorem dX5_strike_59 : decode cX5_strike 59 = .ok (.aload_n 0, 1) := by decide +kernel
theorem dX5_strike_60 : decode cX5_strike 60 = .ok (.getfield 32, 3) := by decide +kernel
theorem dX5_strike_63 : decode cX5_strike 63 = .ok (.iload 4, 2) := by decide +kernel
theorem dX5_strike_65 : decode cX5_strike 65 = .ok (.iaload, 1) := by decide +kernel
theorem dX5_strike_66 : decode cX5_strike 66 = .ok (.ifCond .gt 14, 3) := by decide +kernel
theorem dX5_strike_69 : decode cX5_strike 69 = .ok (.aload_n 0, 1) := by decide +kernel
theorem dX5_strike_70 : decode cX5_strike 70 = .ok (.getfield 29, 3) := by decide +kernel
theorem dX5_strike_73 : decode cX5_strike 73 = .ok (.iload 4, 2) := by decide +kernel
theorem dX5_strike_75 : decode cX5_strike 75 = .ok (.iconst 0, 1) := by decide +kernel
theorem dX5_strike_76 : decode cX5_strike 76 = .ok (.iastore, 1) := by decide +kernel
theorem dX5_strike_77 : decode cX5_strike 77 = .ok (.iconst 1, 1) := by decide +kernel
theorem dX5_strike_78 : decode cX5_strike 78 = .ok (.istore 5, 2) := by decide +kernel
theorem dX5_strike_80 : decode cX5_strike 80 = .ok (.iconst 1, 1) := by decide +kernel
theorem dX5_strike_81 : decode cX5_strike 81 = .ok (.istore 6, 2) := by decide +kernel
theorem dX5_strike_83 : decode cX5_strike 83 = .ok (.iload 6, 2) := by decide +kernel
theorem dX5_strike_85 : decode cX5_strike 85 = .ok (.aload_n 0, 1) := by decide +kernel
theorem dX5_strike_86 : decode cX5_strike 86 = .ok (.getfield 26, 3) := by decide +kernel
theorem dX5_strike_89 : decode cX5_strike 89 = .ok (.if_icmp .ge 67, 3) := by decide +kernel
theorem dX5_strike_92 : decode cX5_strike 92 = .ok (.iload_n 1, 1) := by decide +kernel
theorem dX5_strike_93 : decode cX5_strike 93 = .ok (.aload_n 0, 1) := by decide +kernel
theorem dX5_strike_94 : decode cX5_strike 94 = .ok (.getfield 23, 3) := by decide +kernel
theorem dX5_strike_97 : decode cX5_strike 97 = .ok (.iload 6, 2) := by decide +kernel
theorem dX5_strike_99 : decode cX5_strike 99 = .ok (.imul, 1) := by decide +kernel
theorem dX5_strike_100 : decode cX5_strike 100 = .ok (.iadd, 1) := by decide +kernel
theorem dX5_strike_101 : decode cX5_strike 101 = .ok (.istore 7, 2) := by decide +kernel
theorem dX5_strike_103 : decode cX5_strike 103 = .ok (.aload_n 0, 1) := by decide +kernel
theorem dX5_strike_104 : decode cX5_strike 104 = .ok (.getfield 29, 3) := by decide +kernel
theorem dX5_strike_107 : decode cX5_strike 107 = .ok (.iload 7, 2) := by decide +kernel
theorem dX5_strike_109 : decode cX5_strike 109 = .ok (.iaload, 1) := by decide +kernel
theorem dX5_strike_110 : decode cX5_strike 110 = .ok (.iconst 1, 1) := by decide +kernel
theorem dX5_strike_111 : decode cX5_strike 111 = .ok (.if_icmp .ne 39, 3) := by decide +kernel
theorem dX5_strike_114 : decode cX5_strike 114 = .ok (.aload_n 0, 1) := by decide +kernel
theorem dX5_strike_115 : decode cX5_strike 115 = .ok (.getfield 35, 3) := by decide +kernel
theorem dX5_strike_118 : decode cX5_strike 118 = .ok (.iload 7, 2) := by decide +kernel
theorem dX5_strike_120 : decode cX5_strike 120 = .ok (.iaload, 1) := by decide +kernel
theorem dX5_strike_121 : decode cX5_strike 121 = .ok (.ifCond .ne 29, 3) := by decide +kernel
theorem dX5_strike_124 : decode cX5_strike 124 = .ok (.aload_n 0, 1) := by decide +kernel
theorem dX5_strike_125 : decode cX5_strike 125 = .ok (.getfield 29, 3) := by decide +kernel
theorem dX5_strike_128 : decode cX5_strike 128 = .ok (.iload 7, 2) := by decide +kernel
theorem dX5_strike_130 : decode cX5_strike 130 = .ok (.aload_n 0, 1) := by decide +kernel
theorem dX5_strike_131 : decode cX5_strike 131 = .ok (.getfield 23, 3) := by decide +kernel
theorem dX5_strike_134 : decode cX5_strike 134 = .ok (.isub, 1) := by decide +kernel
theorem dX5_strike_135 : decode cX5_strike 135 = .ok (.iaload, 1) := by decide +kernel
theorem dX5_strike_136 : decode cX5_strike 136 = .ok (.ifCond .ne 14, 3) := by decide +kernel
theorem dX5_strike_139 : decode cX5_strike 139 = .ok (.aload_n 0, 1) := by decide +kernel
theorem dX5_strike_140 : decode cX5_strike 140 = .ok (.getfield 29, 3) := by decide +kernel
theorem dX5_strike_143 : decode cX5_strike 143 = .ok (.iload 7, 2) := by decide +kernel
theorem dX5_strike_145 : decode cX5_strike 145 = .ok (.iconst 0, 1) := by decide +kernel
theorem dX5_strike_146 : decode cX5_strike 146 = .ok (.iastore, 1) := by decide +kernel
theorem dX5_strike_147 : decode cX5_strike 147 = .ok (.iinc 5 1, 3) := by decide +kernel
theorem dX5_strike_150 : decode cX5_strike 150 = .ok (.iinc 6 1, 3) := by decide +kernel
theorem dX5_strike_153 : decode cX5_strike 153 = .ok (.goto (-70), 3) := by decide +kernel
theorem dX5_strike_156 : decode cX5_strike 156 = .ok (.iload 5, 2) := by decide +kernel
theorem dX5_strike_158 : decode cX5_strike 158 = .ok (.ireturn, 1) := by decide +kernel
theorem dX5_isForce_0 : decode cX5_isForce 0 = .ok (.iload_n 0, 1) := by decide +kernel
theorem dX5_isForce_1 : decode cX5_isForce 1 = .ok (.iconst 1, 1) := by decide +kernel
theorem dX5_isForce_2 : decode cX5_isForce 2 = .ok (.bipush 99, 2) := by decide +kernel
theorem dX5_isForce_4 : decode cX5_isForce 4 = .ok (.invokestatic 71, 3) := by decide +kernel
theorem dX5_isForce_7 : decode cX5_isForce 7 = .ok (.ireturn, 1) := by decide +kernel
theorem dX5_hit_0 : decode cX5_hit 0 = .ok (.aload_n 0, 1) := by decide +kernel
theorem dX5_hit_1 : decode cX5_hit 1 = .ok (.iload_n 1, 1) := by decide +kernel
theorem dX5_hit_2 : decode cX5_hit 2 = .ok (.iload_n 2, 1) := by decide +kernel
theorem dX5_hit_3 : decode cX5_hit 3 = .ok (.invokevirtual 155, 3) := by decide +kernel
theorem dX5_hit_6 : decode cX5_hit 6 = .ok (.ifCond .eq 10, 3) := by decide +kernel
theorem dX5_hit_9 : decode cX5_hit 9 = .ok (.iload_n 3, 1) := by decide +kernel
theorem dX5_hit_10 : decode cX5_hit 10 = .ok (.invokestatic 159, 3) := by decide +kernel
theorem dX5_hit_13 : decode cX5_hit 13 = .ok (.ifCond .ne 5, 3) := by decide +kernel
theorem dX5_hit_16 : decode cX5_hit 16 = .ok (.iconst (-1), 1) := by decide +kernel
theorem dX5_hit_17 : decode cX5_hit 17 = .ok (.ireturn, 1) := by decide +kernel
theorem dX5_hit_18 : decode cX5_hit 18 = .ok (.aload_n 0, 1) := by decide +kernel
theorem dX5_hit_19 : decode cX5_hit 19 = .ok (.getfield 29, 3) := by decide +kernel
theorem dX5_hit_22 : decode cX5_hit 22 = .ok (.iload_n 1, 1) := by decide +kernel
theorem dX5_hit_23 : decode cX5_hit 23 = .ok (.aload_n 0, 1) := by decide +kernel
theorem dX5_hit_24 : decode cX5_hit 24 = .ok (.getfield 23, 3) := by decide +kernel
theorem dX5_hit_27 : decode cX5_hit 27 = .ok (.iload_n 2, 1) := by decide +kernel
theorem dX5_hit_28 : decode cX5_hit 28 = .ok (.imul, 1) := by decide +kernel
theorem dX5_hit_29 : decode cX5_hit 29 = .ok (.iadd, 1) := by decide +kernel
theorem dX5_hit_30 : decode cX5_hit 30 = .ok (.iaload, 1) := by decide +kernel
theorem dX5_hit_31 : decode cX5_hit 31 = .ok (.ifCond .ne 8, 3) := by decide +kernel
theorem dX5_hit_34 : decode cX5_hit 34 = .ok (.bipush (-2), 2) := by decide +kernel
theorem dX5_hit_36 : decode cX5_hit 36 = .ok (.goto 10, 3) := by decide +kernel
theorem dX5_hit_39 : decode cX5_hit 39 = .ok (.aload_n 0, 1) := by decide +kernel
theorem dX5_hit_40 : decode cX5_hit 40 = .ok (.iload_n 1, 1) := by decide +kernel
theorem dX5_hit_41 : decode cX5_hit 41 = .ok (.iload_n 2, 1) := by decide +kernel
theorem dX5_hit_42 : decode cX5_hit 42 = .ok (.iload_n 3, 1) := by decide +kernel
theorem dX5_hit_43 : decode cX5_hit 43 = .ok (.invokevirtual 163, 3) := by decide +kernel
theorem dX5_hit_46 : decode cX5_hit 46 = .ok (.ireturn, 1) := by decide +kernel
theorem dX5_cell_0 : decode cX5_cell 0 = .ok (.aload_n 0, 1) := by decide +kernel
theorem dX5_cell_1 : decode cX5_cell 1 = .ok (.iload_n 1, 1) := by decide +kernel
theorem dX5_cell_2 : decode cX5_cell 2 = .ok (.iload_n 2, 1) := by decide +kernel
theorem dX5_cell_3 : decode cX5_cell 3 = .ok (.invokevirtual 155, 3) := by decide +kernel
theorem dX5_cell_6 : decode cX5_cell 6 = .ok (.ifCond .eq 12, 3) := by decide +kernel
theorem dX5_cell_9 : decode cX5_cell 9 = .ok (.iload_n 3, 1) := by decide +kernel
theorem dX5_cell_10 : decode cX5_cell 10 = .ok (.iconst 0, 1) := by decide +kernel
theorem dX5_cell_11 : decode cX5_cell 11 = .ok (.iconst 2, 1) := by decide +kernel
theorem dX5_cell_12 : decode cX5_cell 12 = .ok (.invokestatic 71, 3) := by decide +kernel
theorem dX5_cell_15 : decode cX5_cell 15 = .ok (.ifCond .ne 5, 3) := by decide +kernel
theorem dX5_cell_18 : decode cX5_cell 18 = .ok (.iconst (-1), 1) := by decide +kernel
theorem dX5_cell_19 : decode cX5_cell 19 = .ok (.ireturn, 1) := by decide +kernel
theorem dX5_cell_20 : decode cX5_cell 20 = .ok (.iload_n 1, 1) := by decide +kernel
theorem dX5_cell_21 : decode cX5_cell 21 = .ok (.aload_n 0, 1) := by decide +kernel
theorem dX5_cell_22 : decode cX5_cell 22 = .ok (.getfield 23, 3) := by decide +kernel
theorem dX5_cell_25 : decode cX5_cell 25 = .ok (.iload_n 2, 1) := by decide +kernel
theorem dX5_cell_26 : decode cX5_cell 26 = .ok (.imul, 1) := by decide +kernel
theorem dX5_cell_27 : decode cX5_cell 27 = .ok (.iadd, 1) := by decide +kernel
theorem dX5_cell_28 : decode cX5_cell 28 = .ok (.istore 4, 2) := by decide +kernel
theorem dX5_cell_30 : decode cX5_cell 30 = .ok (.iload_n 3, 1) := by decide +kernel
theorem dX5_cell_31 : decode cX5_cell 31 = .ok (.ifCond .ne 13, 3) := by decide +kernel
theorem dX5_cell_34 : decode cX5_cell 34 = .ok (.aload_n 0, 1) := by decide +kernel
theorem dX5_cell_35 : decode cX5_cell 35 = .ok (.getfield 29, 3) := by decide +kernel
theorem dX5_cell_38 : decode cX5_cell 38 = .ok (.iload 4, 2) := by decide +kernel
theorem dX5_cell_40 : decode cX5_cell 40 = .ok (.iaload, 1) := by decide +kernel
theorem dX5_cell_41 : decode cX5_cell 41 = .ok (.goto 25, 3) := by decide +kernel
theorem dX5_cell_44 : decode cX5_cell 44 = .ok (.iload_n 3, 1) := by decide +kernel
theorem dX5_cell_45 : decode cX5_cell 45 = .ok (.iconst 1, 1) := by decide +kernel
theorem dX5_cell_46 : decode cX5_cell 46 = .ok (.if_icmp .ne 13, 3) := by decide +kernel
theorem dX5_cell_49 : decode cX5_cell 49 = .ok (.aload_n 0, 1) := by decide +kernel
theorem dX5_cell_50 : decode cX5_cell 50 = .ok (.getfield 32, 3) := by decide +kernel
theorem dX5_cell_53 : decode cX5_cell 53 = .ok (.iload 4, 2) := by decide +kernel
theorem dX5_cell_55 : decode cX5_cell 55 = .ok (.iaload, 1) := by decide +kernel
theorem dX5_cell_56 : decode cX5_cell 56 = .ok (.goto 10, 3) := by decide +kernel
theorem dX5_cell_59 : decode cX5_cell 59 = .ok (.aload_n 0, 1) := by decide +kernel
theorem dX5_cell_60 : decode cX5_cell 60 = .ok (.getfield 35, 3) := by decide +kernel
theorem dX5_cell_63 : decode cX5_cell 63 = .ok (.iload 4, 2) := by decide +kernel
theorem dX5_cell_65 : decode cX5_cell 65 = .ok (.iaload, 1) := by decide +kernel
theorem dX5_cell_66 : decode cX5_cell 66 = .ok (.ireturn, 1) := by decide +kernel
theorem dX5_level_0 : decode cX5_level 0 = .ok (.iload_n 1, 1) := by decide +kernel
theorem dX5_level_1 : decode cX5_level 1 = .ok (.iconst 0, 1) := by decide +kernel
theorem dX5_level_2 : decode cX5_level 2 = .ok (.iconst 2, 1) := by decide +kernel
theorem dX5_level_3 : decode cX5_level 3 = .ok (.invokestatic 71, 3) := by decide +kernel
theorem dX5_level_6 : decode cX5_level 6 = .ok (.ifCond .ne 5, 3) := by decide +kernel
theorem dX5_level_9 : decode cX5_level 9 = .ok (.iconst (-1), 1) := by decide +kernel
theorem dX5_level_10 : decode cX5_level 10 = .ok (.ireturn, 1) := by decide +kernel
theorem dX5_level_11 : decode cX5_level 11 = .ok (.aload_n 0, 1) := by decide +kernel
theorem dX5_level_12 : decode cX5_level 12 = .ok (.getfield 167, 3) := by decide +kernel
theorem dX5_level_15 : decode cX5_level 15 = .ok (.istore_n 2, 1) := by decide +kernel
theorem dX5_level_16 : decode cX5_level 16 = .ok (.aload_n 0, 1) := by decide +kernel
theorem dX5_level_17 : decode cX5_level 17 = .ok (.iload_n 1, 1) := by decide +kernel
theorem dX5_level_18 : decode cX5_level 18 = .ok (.putfield 167, 3) := by decide +kernel
theorem dX5_level_21 : decode cX5_level 21 = .ok (.iload_n 2, 1) := by decide +kernel
theorem dX5_level_22 : decode cX5_level 22 = .ok (.ireturn, 1) := by decide +kernel
theorem dX5_standing_0 : decode cX5_standing 0 = .ok (.iconst 0, 1) := by decide +kernel
theorem dX5_standing_1 : decode cX5_standing 1 = .ok (.istore_n 2, 1) := by decide +kernel
theorem dX5_standing_2 : decode cX5_standing 2 = .ok (.iconst 0, 1) := by decide +kernel
theorem dX5_standing_3 : decode cX5_standing 3 = .ok (.istore_n 3, 1) := by decide +kernel
theorem dX5_standing_4 : decode cX5_standing 4 = .ok (.iload_n 3, 1) := by decide +kernel
theorem dX5_standing_5 : decode cX5_standing 5 = .ok (.aload_n 0, 1) := by decide +kernel
theorem dX5_standing_6 : decode cX5_standing 6 = .ok (.getfield 26, 3) := by decide +kernel
theorem dX5_standing_9 : decode cX5_standing 9 = .ok (.if_icmp .ge 25, 3) := by decide +kernel
theorem dX5_standing_12 : decode cX5_standing 12 = .ok (.iload_n 2, 1) := by decide +kernel
theorem dX5_standing_13 : decode cX5_standing 13 = .ok (.aload_n 0, 1) := by decide +kernel
theorem dX5_standing_14 : decode cX5_standing 14 = .ok (.getfield 29, 3) := by decide +kernel
theorem dX5_standing_17 : decode cX5_standing 17 = .ok (.iload_n 1, 1) := by decide +kernel
theorem dX5_standing_18 : decode cX5_standing 18 = .ok (.aload_n 0, 1) := by decide +kernel
theorem dX5_standing_19 : decode cX5_standing 19 = .ok (.getfield 23, 3) := by decide +kernel
theorem dX5_standing_22 : decode cX5_standing 22 = .ok (.iload_n 3, 1) := by decide +kernel
theorem dX5_standing_23 : decode cX5_standing 23 = .ok (.imul, 1) := by decide +kernel
theorem dX5_standing_24 : decode cX5_standing 24 = .ok (.iadd, 1) := by decide +kernel
theorem dX5_standing_25 : decode cX5_standing 25 = .ok (.iaload, 1) := by decide +kernel
theorem dX5_standing_26 : decode cX5_standing 26 = .ok (.iadd, 1) := by decide +kernel
theorem dX5_standing_27 : decode cX5_standing 27 = .ok (.istore_n 2, 1) := by decide +kernel
theorem dX5_standing_28 : decode cX5_standing 28 = .ok (.iinc 3 1, 3) := by decide +kernel
theorem dX5_standing_31 : decode cX5_standing 31 = .ok (.goto (-27), 3) := by decide +kernel
theorem dX5_standing_34 : decode cX5_standing 34 = .ok (.iload_n 2, 1) := by decide +kernel
theorem dX5_standing_35 : decode cX5_standing 35 = .ok (.ireturn, 1) := by decide +kernel
theorem dX5_open_0 : decode cX5_open 0 = .ok (.iconst 0, 1) := by decide +kernel
theorem dX5_open_1 : decode cX5_open 1 = .ok (.istore_n 1, 1) := by decide +kernel
theorem dX5_open_2 : decode cX5_open 2 = .ok (.iload_n 1, 1) := by decide +kernel
theorem dX5_open_3 : decode cX5_open 3 = .ok (.aload_n 0, 1) := by decide +kernel
theorem dX5_open_4 : decode cX5_open 4 = .ok (.getfield 23, 3) := by decide +kernel
theorem dX5_open_7 : decode cX5_open 7 = .ok (.if_icmp .ge 23, 3) := by decide +kernel
theorem dX5_open_10 : decode cX5_open 10 = .ok (.aload_n 0, 1) := by decide +kernel
theorem dX5_open_11 : decode cX5_open 11 = .ok (.iload_n 1, 1) := by decide +kernel
theorem dX5_open_12 : decode cX5_open 12 = .ok (.invokevirtual 170, 3) := by decide +kernel
theorem dX5_open_15 : decode cX5_open 15 = .ok (.aload_n 0, 1) := by decide +kernel
theorem dX5_open_16 : decode cX5_open 16 = .ok (.getfield 167, 3) := by decide +kernel
theorem dX5_open_19 : decode cX5_open 19 = .ok (.if_icmp .gt 5, 3) := by decide +kernel
theorem dX5_open_22 : decode cX5_open 22 = .ok (.iload_n 1, 1) := by decide +kernel
theorem dX5_open_23 : decode cX5_open 23 = .ok (.ireturn, 1) := by decide +kernel
theorem dX5_open_24 : decode cX5_open 24 = .ok (.iinc 1 1, 3) := by decide +kernel
theorem dX5_open_27 : decode cX5_open 27 = .ok (.goto (-25), 3) := by decide +kernel
theorem dX5_open_30 : decode cX5_open 30 = .ok (.bipush (-9), 2) := by decide +kernel
theorem dX5_open_32 : decode cX5_open 32 = .ok (.ireturn, 1) := by decide +kernel
theorem dX5_cheaper_0 : decode cX5_cheaper 0 = .ok (.aload_n 0, 1) := by decide +kernel
theorem dX5_cheaper_1 : decode cX5_cheaper 1 = .ok (.getfield 65, 3) := by decide +kernel
theorem dX5_cheaper_4 : decode cX5_cheaper 4 = .ok (.iload_n 1, 1) := by decide +kernel
theorem dX5_cheaper_5 : decode cX5_cheaper 5 = .ok (.iload_n 2, 1) := by decide +kernel
theorem dX5_cheaper_6 : decode cX5_cheaper 6 = .ok (.aload_n 0, 1) := by decide +kernel
theorem dX5_cheaper_7 : decode cX5_cheaper 7 = .ok (.getfield 65, 3) := by decide +kernel
theorem dX5_cheaper_10 : decode cX5_cheaper 10 = .ok (.iload_n 1, 1) := by decide +kernel
theorem dX5_cheaper_11 : decode cX5_cheaper 11 = .ok (.iaload, 1) := by decide +kernel
theorem dX5_cheaper_12 : decode cX5_cheaper 12 = .ok (.if_icmp .ge 7, 3) := by decide +kernel
theorem dX5_cheaper_15 : decode cX5_cheaper 15 = .ok (.iload_n 2, 1) := by decide +kernel
theorem dX5_cheaper_16 : decode cX5_cheaper 16 = .ok (.goto 9, 3) := by decide +kernel
theorem dX5_cheaper_19 : decode cX5_cheaper 19 = .ok (.aload_n 0, 1) := by decide +kernel
theorem dX5_cheaper_20 : decode cX5_cheaper 20 = .ok (.getfield 65, 3) := by decide +kernel
theorem dX5_cheaper_23 : decode cX5_cheaper 23 = .ok (.iload_n 1, 1) := by decide +kernel
theorem dX5_cheaper_24 : decode cX5_cheaper 24 = .ok (.iaload, 1) := by decide +kernel
theorem dX5_cheaper_25 : decode cX5_cheaper 25 = .ok (.iastore, 1) := by decide +kernel
theorem dX5_cheaper_26 : decode cX5_cheaper 26 = .ok (.return_, 1) := by decide +kernel
theorem dX5_fewest_0 : decode cX5_fewest 0 = .ok (.ldc 173, 2) := by decide +kernel
theorem dX5_fewest_2 : decode cX5_fewest 2 = .ok (.istore_n 3, 1) := by decide +kernel
theorem dX5_fewest_3 : decode cX5_fewest 3 = .ok (.iconst 0, 1) := by decide +kernel
theorem dX5_fewest_4 : decode cX5_fewest 4 = .ok (.istore 4, 2) := by decide +kernel
theorem dX5_fewest_6 : decode cX5_fewest 6 = .ok (.iload 4, 2) := by decide +kernel
theorem dX5_fewest_8 : decode cX5_fewest 8 = .ok (.bipush 6, 2) := by decide +kernel
theorem dX5_fewest_10 : decode cX5_fewest 10 = .ok (.if_icmp .ge 26, 3) := by decide +kernel
theorem dX5_fewest_13 : decode cX5_fewest 13 = .ok (.aload_n 0, 1) := by decide +kernel
theorem dX5_fewest_14 : decode cX5_fewest 14 = .ok (.getfield 62, 3) := by decide +kernel
theorem dX5_fewest_17 : decode cX5_fewest 17 = .ok (.iload 4, 2) := by decide +kernel
theorem dX5_fewest_19 : decode cX5_fewest 19 = .ok (.iload 4, 2) := by decide +kernel
theorem dX5_fewest_21 : decode cX5_fewest 21 = .ok (.ifCond .ne 7, 3) := by decide +kernel
theorem dX5_fewest_24 : decode cX5_fewest 24 = .ok (.iconst 0, 1) := by decide +kernel
theorem dX5_fewest_25 : decode cX5_fewest 25 = .ok (.goto 4, 3) := by decide +kernel
theorem dX5_fewest_28 : decode cX5_fewest 28 = .ok (.iload_n 3, 1) := by decide +kernel
theorem dX5_fewest_29 : decode cX5_fewest 29 = .ok (.iastore, 1) := by decide +kernel
theorem dX5_fewest_30 : decode cX5_fewest 30 = .ok (.iinc 4 1, 3) := by decide +kernel
theorem dX5_fewest_33 : decode cX5_fewest 33 = .ok (.goto (-27), 3) := by decide +kernel
theorem dX5_fewest_36 : decode cX5_fewest 36 = .ok (.iconst 0, 1) := by decide +kernel
theorem dX5_fewest_37 : decode cX5_fewest 37 = .ok (.istore 4, 2) := by decide +kernel
theorem dX5_fewest_39 : decode cX5_fewest 39 = .ok (.iload 4, 2) := by decide +kernel
theorem dX5_fewest_41 : decode cX5_fewest 41 = .ok (.aload_n 0, 1) := by decide +kernel
theorem dX5_fewest_42 : decode cX5_fewest 42 = .ok (.getfield 26, 3) := by decide +kernel
theorem dX5_fewest_45 : decode cX5_fewest 45 = .ok (.if_icmp .ge 241, 3) := by decide +kernel
theorem dX5_fewest_48 : decode cX5_fewest 48 = .ok (.iload_n 1, 1) := by decide +kernel
theorem dX5_fewest_49 : decode cX5_fewest 49 = .ok (.aload_n 0, 1) := by decide +kernel
theorem dX5_fewest_50 : decode cX5_fewest 50 = .ok (.getfield 23, 3) := by decide +kernel
theorem dX5_fewest_53 : decode cX5_fewest 53 = .ok (.iload 4, 2) := by decide +kernel
theorem dX5_fewest_55 : decode cX5_fewest 55 = .ok (.imul, 1) := by decide +kernel
theorem dX5_fewest_56 : decode cX5_fewest 56 = .ok (.iadd, 1) := by decide +kernel
theorem dX5_fewest_57 : decode cX5_fewest 57 = .ok (.istore 5, 2) := by decide +kernel
theorem dX5_fewest_59 : decode cX5_fewest 59 = .ok (.iconst 0, 1) := by decide +kernel
theorem dX5_fewest_60 : decode cX5_fewest 60 = .ok (.istore 6, 2) := by decide +kernel
theorem dX5_fewest_62 : decode cX5_fewest 62 = .ok (.iload 6, 2) := by decide +kernel
theorem dX5_fewest_64 : decode cX5_fewest 64 = .ok (.bipush 6, 2) := by decide +kernel
theorem dX5_fewest_66 : decode cX5_fewest 66 = .ok (.if_icmp .ge 17, 3) := by decide +kernel
theorem dX5_fewest_69 : decode cX5_fewest 69 = .ok (.aload_n 0, 1) := by decide +kernel
theorem dX5_fewest_70 : decode cX5_fewest 70 = .ok (.getfield 65, 3) := by decide +kernel
theorem dX5_fewest_73 : decode cX5_fewest 73 = .ok (.iload 6, 2) := by decide +kernel
theorem dX5_fewest_75 : decode cX5_fewest 75 = .ok (.iload_n 3, 1) := by decide +kernel
theorem dX5_fewest_76 : decode cX5_fewest 76 = .ok (.iastore, 1) := by decide +kernel
theorem dX5_fewest_77 : decode cX5_fewest 77 = .ok (.iinc 6 1, 3) := by decide +kernel
theorem dX5_fewest_80 : decode cX5_fewest 80 = .ok (.goto (-18), 3) := by decide +kernel
theorem dX5_fewest_83 : decode cX5_fewest 83 = .ok (.iconst 0, 1) := by decide +kernel
theorem dX5_fewest_84 : decode cX5_fewest 84 = .ok (.istore 6, 2) := by decide +kernel
theorem dX5_fewest_86 : decode cX5_fewest 86 = .ok (.iload 6, 2) := by decide +kernel
theorem dX5_fewest_88 : decode cX5_fewest 88 = .ok (.iconst 3, 1) := by decide +kernel
theorem dX5_fewest_89 : decode cX5_fewest 89 = .ok (.if_icmp .ge 161, 3) := by decide +kernel
theorem dX5_fewest_92 : decode cX5_fewest 92 = .ok (.aload_n 0, 1) := by decide +kernel
theorem dX5_fewest_93 : decode cX5_fewest 93 = .ok (.getfield 62, 3) := by decide +kernel
theorem dX5_fewest_96 : decode cX5_fewest 96 = .ok (.iconst 2, 1) := by decide +kernel
theorem dX5_fewest_97 : decode cX5_fewest 97 = .ok (.iload 6, 2) := by decide +kernel
theorem dX5_fewest_99 : decode cX5_fewest 99 = .ok (.imul, 1) := by decide +kernel
theorem dX5_fewest_100 : decode cX5_fewest 100 = .ok (.iaload, 1) := by decide +kernel
theorem dX5_fewest_101 : decode cX5_fewest 101 = .ok (.istore 7, 2) := by decide +kernel
theorem dX5_fewest_103 : decode cX5_fewest 103 = .ok (.aload_n 0, 1) := by decide +kernel
theorem dX5_fewest_104 : decode cX5_fewest 104 = .ok (.getfield 62, 3) := by decide +kernel
theorem dX5_fewest_107 : decode cX5_fewest 107 = .ok (.iconst 2, 1) := by decide +kernel
theorem dX5_fewest_108 : decode cX5_fewest 108 = .ok (.iload 6, 2) := by decide +kernel
theorem dX5_fewest_110 : decode cX5_fewest 110 = .ok (.imul, 1) := by decide +kernel
theorem dX5_fewest_111 : decode cX5_fewest 111 = .ok (.iconst 1, 1) := by decide +kernel
theorem dX5_fewest_112 : decode cX5_fewest 112 = .ok (.iadd, 1) := by decide +kernel
theorem dX5_fewest_113 : decode cX5_fewest 113 = .ok (.iaload, 1) := by decide +kernel
theorem dX5_fewest_114 : decode cX5_fewest 114 = .ok (.istore 8, 2) := by decide +kernel
theorem dX5_fewest_116 : decode cX5_fewest 116 = .ok (.aload_n 0, 1) := by decide +kernel
theorem dX5_fewest_117 : decode cX5_fewest 117 = .ok (.getfield 29, 3) := by decide +kernel
theorem dX5_fewest_120 : decode cX5_fewest 120 = .ok (.iload 5, 2) := by decide +kernel
theorem dX5_fewest_122 : decode cX5_fewest 122 = .ok (.iaload, 1) := by decide +kernel
theorem dX5_fewest_123 : decode cX5_fewest 123 = .ok (.ifCond .ne 30, 3) := by decide +kernel
theorem dX5_fewest_126 : decode cX5_fewest 126 = .ok (.aload_n 0, 1) := by decide +kernel
theorem dX5_fewest_127 : decode cX5_fewest 127 = .ok (.iconst 2, 1) := by decide +kernel
theorem dX5_fewest_128 : decode cX5_fewest 128 = .ok (.iload 6, 2) := by decide +kernel
theorem dX5_fewest_130 : decode cX5_fewest 130 = .ok (.imul, 1) := by decide +kernel
theorem dX5_fewest_131 : decode cX5_fewest 131 = .ok (.iconst 1, 1) := by decide +kernel
theorem dX5_fewest_132 : decode cX5_fewest 132 = .ok (.iadd, 1) := by decide +kernel
theorem dX5_fewest_133 : decode cX5_fewest 133 = .ok (.iload 7, 2) := by decide +kernel
theorem dX5_fewest_135 : decode cX5_fewest 135 = .ok (.invokevirtual 174, 3) := by decide +kernel
theorem dX5_fewest_138 : decode cX5_fewest 138 = .ok (.aload_n 0, 1) := by decide +kernel
theorem dX5_fewest_139 : decode cX5_fewest 139 = .ok (.iconst 2, 1) := by decide +kernel
theorem dX5_fewest_140 : decode cX5_fewest 140 = .ok (.iload 6, 2) := by decide +kernel
theorem dX5_fewest_142 : decode cX5_fewest 142 = .ok (.imul, 1) := by decide +kernel
theorem dX5_fewest_143 : decode cX5_fewest 143 = .ok (.iconst 1, 1) := by decide +kernel
theorem dX5_fewest_144 : decode cX5_fewest 144 = .ok (.iadd, 1) := by decide +kernel
theorem dX5_fewest_145 : decode cX5_fewest 145 = .ok (.iload 8, 2) := by decide +kernel
theorem dX5_fewest_147 : decode cX5_fewest 147 = .ok (.invokevirtual 174, 3) := by decide +kernel
theorem dX5_fewest_150 : decode cX5_fewest 150 = .ok (.goto 94, 3) := by decide +kernel
theorem dX5_fewest_153 : decode cX5_fewest 153 = .ok (.aload_n 0, 1) := by decide +kernel
theorem dX5_fewest_154 : decode cX5_fewest 154 = .ok (.iconst 2, 1) := by decide +kernel
theorem dX5_fewest_155 : decode cX5_fewest 155 = .ok (.iload 6, 2) := by decide +kernel
theorem dX5_fewest_157 : decode cX5_fewest 157 = .ok (.imul, 1) := by decide +kernel
theorem dX5_fewest_158 : decode cX5_fewest 158 = .ok (.iconst 1, 1) := by decide +kernel
theorem dX5_fewest_159 : decode cX5_fewest 159 = .ok (.iadd, 1) := by decide +kernel
theorem dX5_fewest_160 : decode cX5_fewest 160 = .ok (.iload 7, 2) := by decide +kernel
theorem dX5_fewest_162 : decode cX5_fewest 162 = .ok (.aload_n 0, 1) := by decide +kernel
theorem dX5_fewest_163 : decode cX5_fewest 163 = .ok (.getfield 32, 3) := by decide +kernel
theorem dX5_fewest_166 : decode cX5_fewest 166 = .ok (.iload 5, 2) := by decide +kernel
theorem dX5_fewest_168 : decode cX5_fewest 168 = .ok (.iaload, 1) := by decide +kernel
theorem dX5_fewest_169 : decode cX5_fewest 169 = .ok (.iload_n 2, 1) := by decide +kernel
theorem dX5_fewest_170 : decode cX5_fewest 170 = .ok (.iadd, 1) := by decide +kernel
theorem dX5_fewest_171 : decode cX5_fewest 171 = .ok (.iconst 1, 1) := by decide +kernel
theorem dX5_fewest_172 : decode cX5_fewest 172 = .ok (.isub, 1) := by decide +kernel
theorem dX5_fewest_173 : decode cX5_fewest 173 = .ok (.iload_n 2, 1) := by decide +kernel
theorem dX5_fewest_174 : decode cX5_fewest 174 = .ok (.idiv, 1) := by decide +kernel
theorem dX5_fewest_175 : decode cX5_fewest 175 = .ok (.iadd, 1) := by decide +kernel
theorem dX5_fewest_176 : decode cX5_fewest 176 = .ok (.invokevirtual 174, 3) := by decide +kernel
theorem dX5_fewest_179 : decode cX5_fewest 179 = .ok (.aload_n 0, 1) := by decide +kernel
theorem dX5_fewest_180 : decode cX5_fewest 180 = .ok (.iconst 2, 1) := by decide +kernel
theorem dX5_fewest_181 : decode cX5_fewest 181 = .ok (.iload 6, 2) := by decide +kernel
theorem dX5_fewest_183 : decode cX5_fewest 183 = .ok (.imul, 1) := by decide +kernel
theorem dX5_fewest_184 : decode cX5_fewest 184 = .ok (.iconst 1, 1) := by decide +kernel
theorem dX5_fewest_185 : decode cX5_fewest 185 = .ok (.iadd, 1) := by decide +kernel
theorem dX5_fewest_186 : decode cX5_fewest 186 = .ok (.iload 8, 2) := by decide +kernel
theorem dX5_fewest_188 : decode cX5_fewest 188 = .ok (.aload_n 0, 1) := by decide +kernel
theorem dX5_fewest_189 : decode cX5_fewest 189 = .ok (.getfield 35, 3) := by decide +kernel
theorem dX5_fewest_192 : decode cX5_fewest 192 = .ok (.iload 5, 2) := by decide +kernel
theorem dX5_fewest_194 : decode cX5_fewest 194 = .ok (.iaload, 1) := by decide +kernel
theorem dX5_fewest_195 : decode cX5_fewest 195 = .ok (.iadd, 1) := by decide +kernel
theorem dX5_fewest_196 : decode cX5_fewest 196 = .ok (.invokevirtual 174, 3) := by decide +kernel
theorem dX5_fewest_199 : decode cX5_fewest 199 = .ok (.iload 6, 2) := by decide +kernel
theorem dX5_fewest_201 : decode cX5_fewest 201 = .ok (.iconst 2, 1) := by decide +kernel
theorem dX5_fewest_202 : decode cX5_fewest 202 = .ok (.if_icmp .ge 42, 3) := by decide +kernel
theorem dX5_fewest_205 : decode cX5_fewest 205 = .ok (.aload_n 0, 1) := by decide +kernel
theorem dX5_fewest_206 : decode cX5_fewest 206 = .ok (.iconst 2, 1) := by decide +kernel
theorem dX5_fewest_207 : decode cX5_fewest 207 = .ok (.iload 6, 2) := by decide +kernel
theorem dX5_fewest_209 : decode cX5_fewest 209 = .ok (.imul, 1) := by decide +kernel
theorem dX5_fewest_210 : decode cX5_fewest 210 = .ok (.iconst 2, 1) := by decide +kernel
theorem dX5_fewest_211 : decode cX5_fewest 211 = .ok (.iadd, 1) := by decide +kernel
theorem dX5_fewest_212 : decode cX5_fewest 212 = .ok (.iload 7, 2) := by decide +kernel
theorem dX5_fewest_214 : decode cX5_fewest 214 = .ok (.invokevirtual 174, 3) := by decide +kernel
theorem dX5_fewest_217 : decode cX5_fewest 217 = .ok (.aload_n 0, 1) := by decide +kernel
theorem dX5_fewest_218 : decode cX5_fewest 218 = .ok (.iconst 2, 1) := by decide +kernel
theorem dX5_fewest_219 : decode cX5_fewest 219 = .ok (.iload 6, 2) := by decide +kernel
theorem dX5_fewest_221 : decode cX5_fewest 221 = .ok (.imul, 1) := by decide +kernel
theorem dX5_fewest_222 : decode cX5_fewest 222 = .ok (.iconst 2, 1) := by decide +kernel
theorem dX5_fewest_223 : decode cX5_fewest 223 = .ok (.iadd, 1) := by decide +kernel
theorem dX5_fewest_224 : decode cX5_fewest 224 = .ok (.aload_n 0, 1) := by decide +kernel
theorem dX5_fewest_225 : decode cX5_fewest 225 = .ok (.getfield 35, 3) := by decide +kernel
theorem dX5_fewest_228 : decode cX5_fewest 228 = .ok (.iload 5, 2) := by decide +kernel
theorem dX5_fewest_230 : decode cX5_fewest 230 = .ok (.iaload, 1) := by decide +kernel
theorem dX5_fewest_231 : decode cX5_fewest 231 = .ok (.iconst 1, 1) := by decide +kernel
theorem dX5_fewest_232 : decode cX5_fewest 232 = .ok (.if_icmp .ne 8, 3) := by decide +kernel
theorem dX5_fewest_235 : decode cX5_fewest 235 = .ok (.iload 8, 2) := by decide +kernel
theorem dX5_fewest_237 : decode cX5_fewest 237 = .ok (.goto 4, 3) := by decide +kernel
theorem dX5_fewest_240 : decode cX5_fewest 240 = .ok (.iload_n 3, 1) := by decide +kernel
theorem dX5_fewest_241 : decode cX5_fewest 241 = .ok (.invokevirtual 174, 3) := by decide +kernel
theorem dX5_fewest_244 : decode cX5_fewest 244 = .ok (.iinc 6 1, 3) := by decide +kernel
theorem dX5_fewest_247 : decode cX5_fewest 247 = .ok (.goto (-161), 3) := by decide +kernel
theorem dX5_fewest_250 : decode cX5_fewest 250 = .ok (.iconst 0, 1) := by decide +kernel
theorem dX5_fewest_251 : decode cX5_fewest 251 = .ok (.istore 6, 2) := by decide +kernel
theorem dX5_fewest_253 : decode cX5_fewest 253 = .ok (.iload 6, 2) := by decide +kernel
theorem dX5_fewest_255 : decode cX5_fewest 255 = .ok (.bipush 6, 2) := by decide +kernel
theorem dX5_fewest_257 : decode cX5_fewest 257 = .ok (.if_icmp .ge 23, 3) := by decide +kernel
theorem dX5_fewest_260 : decode cX5_fewest 260 = .ok (.aload_n 0, 1) := by decide +kernel
theorem dX5_fewest_261 : decode cX5_fewest 261 = .ok (.getfield 62, 3) := by decide +kernel
theorem dX5_fewest_264 : decode cX5_fewest 264 = .ok (.iload 6, 2) := by decide +kernel
theorem dX5_fewest_266 : decode cX5_fewest 266 = .ok (.aload_n 0, 1) := by decide +kernel
theorem dX5_fewest_267 : decode cX5_fewest 267 = .ok (.getfield 65, 3) := by decide +kernel
theorem dX5_fewest_270 : decode cX5_fewest 270 = .ok (.iload 6, 2) := by decide +kernel
theorem dX5_fewest_272 : decode cX5_fewest 272 = .ok (.iaload, 1) := by decide +kernel
theorem dX5_fewest_273 : decode cX5_fewest 273 = .ok (.iastore, 1) := by decide +kernel
theorem dX5_fewest_274 : decode cX5_fewest 274 = .ok (.iinc 6 1, 3) := by decide +kernel
theorem dX5_fewest_277 : decode cX5_fewest 277 = .ok (.goto (-24), 3) := by decide +kernel
theorem dX5_fewest_280 : decode cX5_fewest 280 = .ok (.iinc 4 1, 3) := by decide +kernel
theorem dX5_fewest_283 : decode cX5_fewest 283 = .ok (.goto (-244), 3) := by decide +kernel
theorem dX5_fewest_286 : decode cX5_fewest 286 = .ok (.iload_n 3, 1) := by decide +kernel
theorem dX5_fewest_287 : decode cX5_fewest 287 = .ok (.istore 4, 2) := by decide +kernel
theorem dX5_fewest_289 : decode cX5_fewest 289 = .ok (.iconst 0, 1) := by decide +kernel
theorem dX5_fewest_290 : decode cX5_fewest 290 = .ok (.istore 5, 2) := by decide +kernel
theorem dX5_fewest_292 : decode cX5_fewest 292 = .ok (.iload 5, 2) := by decide +kernel
theorem dX5_fewest_294 : decode cX5_fewest 294 = .ok (.iconst 2, 1) := by decide +kernel
theorem dX5_fewest_295 : decode cX5_fewest 295 = .ok (.aload_n 0, 1) := by decide +kernel
theorem dX5_fewest_296 : decode cX5_fewest 296 = .ok (.getfield 167, 3) := by decide +kernel
theorem dX5_fewest_299 : decode cX5_fewest 299 = .ok (.imul, 1) := by decide +kernel
theorem dX5_fewest_300 : decode cX5_fewest 300 = .ok (.iconst 2, 1) := by decide +kernel
theorem dX5_fewest_301 : decode cX5_fewest 301 = .ok (.iadd, 1) := by decide +kernel
theorem dX5_fewest_302 : decode cX5_fewest 302 = .ok (.if_icmp .ge 35, 3) := by decide +kernel
theorem dX5_fewest_305 : decode cX5_fewest 305 = .ok (.aload_n 0, 1) := by decide +kernel
theorem dX5_fewest_306 : decode cX5_fewest 306 = .ok (.getfield 62, 3) := by decide +kernel
theorem dX5_fewest_309 : decode cX5_fewest 309 = .ok (.iload 5, 2) := by decide +kernel
theorem dX5_fewest_311 : decode cX5_fewest 311 = .ok (.iaload, 1) := by decide +kernel
theorem dX5_fewest_312 : decode cX5_fewest 312 = .ok (.iload 4, 2) := by decide +kernel
theorem dX5_fewest_314 : decode cX5_fewest 314 = .ok (.if_icmp .ge 13, 3) := by decide +kernel
theorem dX5_fewest_317 : decode cX5_fewest 317 = .ok (.aload_n 0, 1) := by decide +kernel
theorem dX5_fewest_318 : decode cX5_fewest 318 = .ok (.getfield 62, 3) := by decide +kernel
theorem dX5_fewest_321 : decode cX5_fewest 321 = .ok (.iload 5, 2) := by decide +kernel
theorem dX5_fewest_323 : decode cX5_fewest 323 = .ok (.iaload, 1) := by decide +kernel
theorem dX5_fewest_324 : decode cX5_fewest 324 = .ok (.goto 5, 3) := by decide +kernel
theorem dX5_fewest_327 : decode cX5_fewest 327 = .ok (.iload 4, 2) := by decide +kernel
theorem dX5_fewest_329 : decode cX5_fewest 329 = .ok (.istore 4, 2) := by decide +kernel
theorem dX5_fewest_331 : decode cX5_fewest 331 = .ok (.iinc 5 1, 3) := by decide +kernel
theorem dX5_fewest_334 : decode cX5_fewest 334 = .ok (.goto (-42), 3) := by decide +kernel
theorem dX5_fewest_337 : decode cX5_fewest 337 = .ok (.iload 4, 2) := by decide +kernel
theorem dX5_fewest_339 : decode cX5_fewest 339 = .ok (.ireturn, 1) := by decide +kernel
theorem dX5_soonest_0 : decode cX5_soonest 0 = .ok (.iload_n 1, 1) := by decide +kernel
theorem dX5_soonest_1 : decode cX5_soonest 1 = .ok (.invokestatic 159, 3) := by decide +kernel
theorem dX5_soonest_4 : decode cX5_soonest 4 = .ok (.ifCond .eq 12, 3) := by decide +kernel
theorem dX5_soonest_7 : decode cX5_soonest 7 = .ok (.iload_n 2, 1) := by decide +kernel
theorem dX5_soonest_8 : decode cX5_soonest 8 = .ok (.iconst 0, 1) := by decide +kernel
theorem dX5_soonest_9 : decode cX5_soonest 9 = .ok (.iconst 1, 1) := by decide +kernel
theorem dX5_soonest_10 : decode cX5_soonest 10 = .ok (.invokestatic 71, 3) := by decide +kernel
theorem dX5_soonest_13 : decode cX5_soonest 13 = .ok (.ifCond .ne 5, 3) := by decide +kernel
theorem dX5_soonest_16 : decode cX5_soonest 16 = .ok (.iconst (-1), 1) := by decide +kernel
theorem dX5_soonest_17 : decode cX5_soonest 17 = .ok (.ireturn, 1) := by decide +kernel
theorem dX5_soonest_18 : decode cX5_soonest 18 = .ok (.iconst 0, 1) := by decide +kernel
theorem dX5_soonest_19 : decode cX5_soonest 19 = .ok (.istore_n 3, 1) := by decide +kernel
theorem dX5_soonest_20 : decode cX5_soonest 20 = .ok (.aload_n 0, 1) := by decide +kernel
theorem dX5_soonest_21 : decode cX5_soonest 21 = .ok (.iconst 0, 1) := by decide +kernel
theorem dX5_soonest_22 : decode cX5_soonest 22 = .ok (.iload_n 1, 1) := by decide +kernel
theorem dX5_soonest_23 : decode cX5_soonest 23 = .ok (.invokevirtual 177, 3) := by decide +kernel
theorem dX5_soonest_26 : decode cX5_soonest 26 = .ok (.istore 4, 2) := by decide +kernel
theorem dX5_soonest_28 : decode cX5_soonest 28 = .ok (.iconst 1, 1) := by decide +kernel
theorem dX5_soonest_29 : decode cX5_soonest 29 = .ok (.istore 5, 2) := by decide +kernel
theorem dX5_soonest_31 : decode cX5_soonest 31 = .ok (.iload 5, 2) := by decide +kernel
theorem dX5_soonest_33 : decode cX5_soonest 33 = .ok (.aload_n 0, 1) := by decide +kernel
theorem dX5_soonest_34 : decode cX5_soonest 34 = .ok (.getfield 23, 3) := by decide +kernel
theorem dX5_soonest_37 : decode cX5_soonest 37 = .ok (.if_icmp .ge 48, 3) := by decide +kernel
theorem dX5_soonest_40 : decode cX5_soonest 40 = .ok (.aload_n 0, 1) := by decide +kernel
theorem dX5_soonest_41 : decode cX5_soonest 41 = .ok (.iload 5, 2) := by decide +kernel
theorem dX5_soonest_43 : decode cX5_soonest 43 = .ok (.iload_n 1, 1) := by decide +kernel
theorem dX5_soonest_44 : decode cX5_soonest 44 = .ok (.invokevirtual 177, 3) := by decide +kernel
theorem dX5_soonest_47 : decode cX5_soonest 47 = .ok (.istore 6, 2) := by decide +kernel
theorem dX5_soonest_49 : decode cX5_soonest 49 = .ok (.iload 6, 2) := by decide +kernel
theorem dX5_soonest_51 : decode cX5_soonest 51 = .ok (.iload 4, 2) := by decide +kernel
theorem dX5_soonest_53 : decode cX5_soonest 53 = .ok (.if_icmp .ge 8, 3) := by decide +kernel
theorem dX5_soonest_56 : decode cX5_soonest 56 = .ok (.iload 5, 2) := by decide +kernel
theorem dX5_soonest_58 : decode cX5_soonest 58 = .ok (.goto 4, 3) := by decide +kernel
theorem dX5_soonest_61 : decode cX5_soonest 61 = .ok (.iload_n 3, 1) := by decide +kernel
theorem dX5_soonest_62 : decode cX5_soonest 62 = .ok (.istore_n 3, 1) := by decide +kernel
theorem dX5_soonest_63 : decode cX5_soonest 63 = .ok (.iload 6, 2) := by decide +kernel
theorem dX5_soonest_65 : decode cX5_soonest 65 = .ok (.iload 4, 2) := by decide +kernel
theorem dX5_soonest_67 : decode cX5_soonest 67 = .ok (.if_icmp .ge 8, 3) := by decide +kernel
theorem dX5_soonest_70 : decode cX5_soonest 70 = .ok (.iload 6, 2) := by decide +kernel
theorem dX5_soonest_72 : decode cX5_soonest 72 = .ok (.goto 5, 3) := by decide +kernel
theorem dX5_soonest_75 : decode cX5_soonest 75 = .ok (.iload 4, 2) := by decide +kernel
theorem dX5_soonest_77 : decode cX5_soonest 77 = .ok (.istore 4, 2) := by decide +kernel
theorem dX5_soonest_79 : decode cX5_soonest 79 = .ok (.iinc 5 1, 3) := by decide +kernel
theorem dX5_soonest_82 : decode cX5_soonest 82 = .ok (.goto (-51), 3) := by decide +kernel
theorem dX5_soonest_85 : decode cX5_soonest 85 = .ok (.iload_n 2, 1) := by decide +kernel
theorem dX5_soonest_86 : decode cX5_soonest 86 = .ok (.ifCond .ne 7, 3) := by decide +kernel
theorem dX5_soonest_89 : decode cX5_soonest 89 = .ok (.iload_n 3, 1) := by decide +kernel
theorem dX5_soonest_90 : decode cX5_soonest 90 = .ok (.goto 5, 3) := by decide +kernel
theorem dX5_soonest_93 : decode cX5_soonest 93 = .ok (.iload 4, 2) := by decide +kernel
theorem dX5_soonest_95 : decode cX5_soonest 95 = .ok (.ireturn, 1) := by decide +kernel
theorem dX5_scatter_0 : decode cX5_scatter 0 = .ok (.iload_n 1, 1) := by decide +kernel
theorem dX5_scatter_1 : decode cX5_scatter 1 = .ok (.iconst (-1), 1) := by decide +kernel
theorem dX5_scatter_2 : decode cX5_scatter 2 = .ok (.iconst 1, 1) := by decide +kernel
theorem dX5_scatter_3 : decode cX5_scatter 3 = .ok (.invokestatic 71, 3) := by decide +kernel
theorem dX5_scatter_6 : decode cX5_scatter 6 = .ok (.ifCond .eq 22, 3) := by decide +kernel
theorem dX5_scatter_9 : decode cX5_scatter 9 = .ok (.iload_n 2, 1) := by decide +kernel
theorem dX5_scatter_10 : decode cX5_scatter 10 = .ok (.iconst (-1), 1) := by decide +kernel
theorem dX5_scatter_11 : decode cX5_scatter 11 = .ok (.iconst 1, 1) := by decide +kernel
theorem dX5_scatter_12 : decode cX5_scatter 12 = .ok (.invokestatic 71, 3) := by decide +kernel
theorem dX5_scatter_15 : decode cX5_scatter 15 = .ok (.ifCond .eq 13, 3) := by decide +kernel
theorem dX5_scatter_18 : decode cX5_scatter 18 = .ok (.iload_n 3, 1) := by decide +kernel
theorem dX5_scatter_19 : decode cX5_scatter 19 = .ok (.iconst 0, 1) := by decide +kernel
theorem dX5_scatter_20 : decode cX5_scatter 20 = .ok (.bipush 9, 2) := by decide +kernel
theorem dX5_scatter_22 : decode cX5_scatter 22 = .ok (.invokestatic 71, 3) := by decide +kernel
theorem dX5_scatter_25 : decode cX5_scatter 25 = .ok (.ifCond .ne 5, 3) := by decide +kernel
theorem dX5_scatter_28 : decode cX5_scatter 28 = .ok (.iconst (-1), 1) := by decide +kernel
theorem dX5_scatter_29 : decode cX5_scatter 29 = .ok (.ireturn, 1) := by decide +kernel
theorem dX5_scatter_30 : decode cX5_scatter 30 = .ok (.iload_n 1, 1) := by decide +kernel
theorem dX5_scatter_31 : decode cX5_scatter 31 = .ok (.iconst 1, 1) := by decide +kernel
theorem dX5_scatter_32 : decode cX5_scatter 32 = .ok (.iadd, 1) := by decide +kernel
theorem dX5_scatter_33 : decode cX5_scatter 33 = .ok (.iconst 3, 1) := by decide +kernel
theorem dX5_scatter_34 : decode cX5_scatter 34 = .ok (.iload_n 2, 1) := by decide +kernel
theorem dX5_scatter_35 : decode cX5_scatter 35 = .ok (.iconst 1, 1) := by decide +kernel
theorem dX5_scatter_36 : decode cX5_scatter 36 = .ok (.iadd, 1) := by decide +kernel
theorem dX5_scatter_37 : decode cX5_scatter 37 = .ok (.imul, 1) := by decide +kernel
theorem dX5_scatter_38 : decode cX5_scatter 38 = .ok (.iadd, 1) := by decide +kernel
theorem dX5_scatter_39 : decode cX5_scatter 39 = .ok (.istore 4, 2) := by decide +kernel
theorem dX5_scatter_41 : decode cX5_scatter 41 = .ok (.aload_n 0, 1) := by decide +kernel
theorem dX5_scatter_42 : decode cX5_scatter 42 = .ok (.getfield 38, 3) := by decide +kernel
theorem dX5_scatter_45 : decode cX5_scatter 45 = .ok (.iload 4, 2) := by decide +kernel
theorem dX5_scatter_47 : decode cX5_scatter 47 = .ok (.iaload, 1) := by decide +kernel
theorem dX5_scatter_48 : decode cX5_scatter 48 = .ok (.istore 5, 2) := by decide +kernel
theorem dX5_scatter_50 : decode cX5_scatter 50 = .ok (.aload_n 0, 1) := by decide +kernel
theorem dX5_scatter_51 : decode cX5_scatter 51 = .ok (.getfield 38, 3) := by decide +kernel
theorem dX5_scatter_54 : decode cX5_scatter 54 = .ok (.iload 4, 2) := by decide +kernel
theorem dX5_scatter_56 : decode cX5_scatter 56 = .ok (.iload_n 3, 1) := by decide +kernel
theorem dX5_scatter_57 : decode cX5_scatter 57 = .ok (.iastore, 1) := by decide +kernel
theorem dX5_scatter_58 : decode cX5_scatter 58 = .ok (.iload 5, 2) := by decide +kernel
theorem dX5_scatter_60 : decode cX5_scatter 60 = .ok (.ireturn, 1) := by decide +kernel
theorem dX5_worthOf_0 : decode cX5_worthOf 0 = .ok (.iconst 0, 1) := by decide +kernel
theorem dX5_worthOf_1 : decode cX5_worthOf 1 = .ok (.istore 4, 2) := by decide +kernel
theorem dX5_worthOf_3 : decode cX5_worthOf 3 = .ok (.aload_n 0, 1) := by decide +kernel
theorem dX5_worthOf_4 : decode cX5_worthOf 4 = .ok (.invokevirtual 180, 3) := by decide +kernel
theorem dX5_worthOf_7 : decode cX5_worthOf 7 = .ok (.iconst 0, 1) := by decide +kernel
theorem dX5_worthOf_8 : decode cX5_worthOf 8 = .ok (.istore 5, 2) := by decide +kernel
theorem dX5_worthOf_10 : decode cX5_worthOf 10 = .ok (.iload 5, 2) := by decide +kernel
theorem dX5_worthOf_12 : decode cX5_worthOf 12 = .ok (.bipush 9, 2) := by decide +kernel
theorem dX5_worthOf_14 : decode cX5_worthOf 14 = .ok (.if_icmp .ge 47, 3) := by decide +kernel
theorem dX5_worthOf_17 : decode cX5_worthOf 17 = .ok (.iload 4, 2) := by decide +kernel
theorem dX5_worthOf_19 : decode cX5_worthOf 19 = .ok (.aload_n 0, 1) := by decide +kernel
theorem dX5_worthOf_20 : decode cX5_worthOf 20 = .ok (.getfield 38, 3) := by decide +kernel
theorem dX5_worthOf_23 : decode cX5_worthOf 23 = .ok (.iload 5, 2) := by decide +kernel
theorem dX5_worthOf_25 : decode cX5_worthOf 25 = .ok (.iaload, 1) := by decide +kernel
theorem dX5_worthOf_26 : decode cX5_worthOf 26 = .ok (.aload_n 0, 1) := by decide +kernel
theorem dX5_worthOf_27 : decode cX5_worthOf 27 = .ok (.iload_n 1, 1) := by decide +kernel
theorem dX5_worthOf_28 : decode cX5_worthOf 28 = .ok (.iload 5, 2) := by decide +kernel
theorem dX5_worthOf_30 : decode cX5_worthOf 30 = .ok (.iconst 3, 1) := by decide +kernel
theorem dX5_worthOf_31 : decode cX5_worthOf 31 = .ok (.irem, 1) := by decide +kernel
theorem dX5_worthOf_32 : decode cX5_worthOf 32 = .ok (.iadd, 1) := by decide +kernel
theorem dX5_worthOf_33 : decode cX5_worthOf 33 = .ok (.iconst 1, 1) := by decide +kernel
theorem dX5_worthOf_34 : decode cX5_worthOf 34 = .ok (.isub, 1) := by decide +kernel
theorem dX5_worthOf_35 : decode cX5_worthOf 35 = .ok (.iload_n 2, 1) := by decide +kernel
theorem dX5_worthOf_36 : decode cX5_worthOf 36 = .ok (.iload 5, 2) := by decide +kernel
theorem dX5_worthOf_38 : decode cX5_worthOf 38 = .ok (.iconst 3, 1) := by decide +kernel
theorem dX5_worthOf_39 : decode cX5_worthOf 39 = .ok (.idiv, 1) := by decide +kernel
theorem dX5_worthOf_40 : decode cX5_worthOf 40 = .ok (.iadd, 1) := by decide +kernel
theorem dX5_worthOf_41 : decode cX5_worthOf 41 = .ok (.iconst 1, 1) := by decide +kernel
theorem dX5_worthOf_42 : decode cX5_worthOf 42 = .ok (.isub, 1) := by decide +kernel
theorem dX5_worthOf_43 : decode cX5_worthOf 43 = .ok (.iload_n 3, 1) := by decide +kernel
theorem dX5_worthOf_44 : decode cX5_worthOf 44 = .ok (.invokevirtual 163, 3) := by decide +kernel
theorem dX5_worthOf_47 : decode cX5_worthOf 47 = .ok (.imul, 1) := by decide +kernel
theorem dX5_worthOf_48 : decode cX5_worthOf 48 = .ok (.iadd, 1) := by decide +kernel
theorem dX5_worthOf_49 : decode cX5_worthOf 49 = .ok (.istore 4, 2) := by decide +kernel
theorem dX5_worthOf_51 : decode cX5_worthOf 51 = .ok (.aload_n 0, 1) := by decide +kernel
theorem dX5_worthOf_52 : decode cX5_worthOf 52 = .ok (.invokevirtual 183, 3) := by decide +kernel
theorem dX5_worthOf_55 : decode cX5_worthOf 55 = .ok (.iinc 5 1, 3) := by decide +kernel
theorem dX5_worthOf_58 : decode cX5_worthOf 58 = .ok (.goto (-48), 3) := by decide +kernel
theorem dX5_worthOf_61 : decode cX5_worthOf 61 = .ok (.iload 4, 2) := by decide +kernel
theorem dX5_worthOf_63 : decode cX5_worthOf 63 = .ok (.ireturn, 1) := by decide +kernel
theorem dX5_worth_0 : decode cX5_worth 0 = .ok (.aload_n 0, 1) := by decide +kernel
theorem dX5_worth_1 : decode cX5_worth 1 = .ok (.iload_n 1, 1) := by decide +kernel
theorem dX5_worth_2 : decode cX5_worth 2 = .ok (.iload_n 2, 1) := by decide +kernel
theorem dX5_worth_3 : decode cX5_worth 3 = .ok (.invokevirtual 155, 3) := by decide +kernel
theorem dX5_worth_6 : decode cX5_worth 6 = .ok (.ifCond .eq 20, 3) := by decide +kernel
theorem dX5_worth_9 : decode cX5_worth 9 = .ok (.iload_n 3, 1) := by decide +kernel
theorem dX5_worth_10 : decode cX5_worth 10 = .ok (.invokestatic 159, 3) := by decide +kernel
theorem dX5_worth_13 : decode cX5_worth 13 = .ok (.ifCond .eq 13, 3) := by decide +kernel
theorem dX5_worth_16 : decode cX5_worth 16 = .ok (.aload_n 0, 1) := by decide +kernel
theorem dX5_worth_17 : decode cX5_worth 17 = .ok (.iload_n 1, 1) := by decide +kernel
theorem dX5_worth_18 : decode cX5_worth 18 = .ok (.iload_n 2, 1) := by decide +kernel
theorem dX5_worth_19 : decode cX5_worth 19 = .ok (.iload_n 3, 1) := by decide +kernel
theorem dX5_worth_20 : decode cX5_worth 20 = .ok (.invokevirtual 186, 3) := by decide +kernel
theorem dX5_worth_23 : decode cX5_worth 23 = .ok (.goto 4, 3) := by decide +kernel
theorem dX5_worth_26 : decode cX5_worth 26 = .ok (.iconst (-1), 1) := by decide +kernel
theorem dX5_worth_27 : decode cX5_worth 27 = .ok (.ireturn, 1) := by decide +kernel
theorem dX5_aim_0 : decode cX5_aim 0 = .ok (.iload_n 1, 1) := by decide +kernel
theorem dX5_aim_1 : decode cX5_aim 1 = .ok (.invokestatic 159, 3) := by decide +kernel
theorem dX5_aim_4 : decode cX5_aim 4 = .ok (.ifCond .eq 12, 3) := by decide +kernel
theorem dX5_aim_7 : decode cX5_aim 7 = .ok (.iload_n 2, 1) := by decide +kernel
theorem dX5_aim_8 : decode cX5_aim 8 = .ok (.iconst 0, 1) := by decide +kernel
theorem dX5_aim_9 : decode cX5_aim 9 = .ok (.iconst 1, 1) := by decide +kernel
theorem dX5_aim_10 : decode cX5_aim 10 = .ok (.invokestatic 71, 3) := by decide +kernel
theorem dX5_aim_13 : decode cX5_aim 13 = .ok (.ifCond .ne 5, 3) := by decide +kernel
theorem dX5_aim_16 : decode cX5_aim 16 = .ok (.iconst (-1), 1) := by decide +kernel
theorem dX5_aim_17 : decode cX5_aim 17 = .ok (.ireturn, 1) := by decide +kernel
theorem dX5_aim_18 : decode cX5_aim 18 = .ok (.iconst 0, 1) := by decide +kernel
theorem dX5_aim_19 : decode cX5_aim 19 = .ok (.istore_n 3, 1) := by decide +kernel
theorem dX5_aim_20 : decode cX5_aim 20 = .ok (.iconst (-1), 1) := by decide +kernel
theorem dX5_aim_21 : decode cX5_aim 21 = .ok (.istore 4, 2) := by decide +kernel
theorem dX5_aim_23 : decode cX5_aim 23 = .ok (.iconst 0, 1) := by decide +kernel
theorem dX5_aim_24 : decode cX5_aim 24 = .ok (.istore 5, 2) := by decide +kernel
theorem dX5_aim_26 : decode cX5_aim 26 = .ok (.iload 5, 2) := by decide +kernel
theorem dX5_aim_28 : decode cX5_aim 28 = .ok (.aload_n 0, 1) := by decide +kernel
theorem dX5_aim_29 : decode cX5_aim 29 = .ok (.getfield 23, 3) := by decide +kernel
theorem dX5_aim_32 : decode cX5_aim 32 = .ok (.aload_n 0, 1) := by decide +kernel
theorem dX5_aim_33 : decode cX5_aim 33 = .ok (.getfield 26, 3) := by decide +kernel
theorem dX5_aim_36 : decode cX5_aim 36 = .ok (.imul, 1) := by decide +kernel
theorem dX5_aim_37 : decode cX5_aim 37 = .ok (.if_icmp .ge 60, 3) := by decide +kernel
theorem dX5_aim_40 : decode cX5_aim 40 = .ok (.aload_n 0, 1) := by decide +kernel
theorem dX5_aim_41 : decode cX5_aim 41 = .ok (.iload 5, 2) := by decide +kernel
theorem dX5_aim_43 : decode cX5_aim 43 = .ok (.aload_n 0, 1) := by decide +kernel
theorem dX5_aim_44 : decode cX5_aim 44 = .ok (.getfield 23, 3) := by decide +kernel
theorem dX5_aim_47 : decode cX5_aim 47 = .ok (.irem, 1) := by decide +kernel
theorem dX5_aim_48 : decode cX5_aim 48 = .ok (.iload 5, 2) := by decide +kernel
theorem dX5_aim_50 : decode cX5_aim 50 = .ok (.aload_n 0, 1) := by decide +kernel
theorem dX5_aim_51 : decode cX5_aim 51 = .ok (.getfield 23, 3) := by decide +kernel
theorem dX5_aim_54 : decode cX5_aim 54 = .ok (.idiv, 1) := by decide +kernel
theorem dX5_aim_55 : decode cX5_aim 55 = .ok (.iload_n 1, 1) := by decide +kernel
theorem dX5_aim_56 : decode cX5_aim 56 = .ok (.invokevirtual 186, 3) := by decide +kernel
theorem dX5_aim_59 : decode cX5_aim 59 = .ok (.istore 6, 2) := by decide +kernel
theorem dX5_aim_61 : decode cX5_aim 61 = .ok (.iload 6, 2) := by decide +kernel
theorem dX5_aim_63 : decode cX5_aim 63 = .ok (.iload 4, 2) := by decide +kernel
theorem dX5_aim_65 : decode cX5_aim 65 = .ok (.if_icmp .le 8, 3) := by decide +kernel
theorem dX5_aim_68 : decode cX5_aim 68 = .ok (.iload 5, 2) := by decide +kernel
theorem dX5_aim_70 : decode cX5_aim 70 = .ok (.goto 4, 3) := by decide +kernel
theorem dX5_aim_73 : decode cX5_aim 73 = .ok (.iload_n 3, 1) := by decide +kernel
theorem dX5_aim_74 : decode cX5_aim 74 = .ok (.istore_n 3, 1) := by decide +kernel
theorem dX5_aim_75 : decode cX5_aim 75 = .ok (.iload 6, 2) := by decide +kernel
theorem dX5_aim_77 : decode cX5_aim 77 = .ok (.iload 4, 2) := by decide +kernel
theorem dX5_aim_79 : decode cX5_aim 79 = .ok (.if_icmp .le 8, 3) := by decide +kernel
theorem dX5_aim_82 : decode cX5_aim 82 = .ok (.iload 6, 2) := by decide +kernel
theorem dX5_aim_84 : decode cX5_aim 84 = .ok (.goto 5, 3) := by decide +kernel
theorem dX5_aim_87 : decode cX5_aim 87 = .ok (.iload 4, 2) := by decide +kernel
theorem dX5_aim_89 : decode cX5_aim 89 = .ok (.istore 4, 2) := by decide +kernel
theorem dX5_aim_91 : decode cX5_aim 91 = .ok (.iinc 5 1, 3) := by decide +kernel
theorem dX5_aim_94 : decode cX5_aim 94 = .ok (.goto (-68), 3) := by decide +kernel
theorem dX5_aim_97 : decode cX5_aim 97 = .ok (.iload_n 2, 1) := by decide +kernel
theorem dX5_aim_98 : decode cX5_aim 98 = .ok (.ifCond .ne 7, 3) := by decide +kernel
theorem dX5_aim_101 : decode cX5_aim 101 = .ok (.iload_n 3, 1) := by decide +kernel
theorem dX5_aim_102 : decode cX5_aim 102 = .ok (.goto 5, 3) := by decide +kernel
theorem dX5_aim_105 : decode cX5_aim 105 = .ok (.iload 4, 2) := by decide +kernel
theorem dX5_aim_107 : decode cX5_aim 107 = .ok (.ireturn, 1) := by decide +kernel
theorem dX5_held_0 : decode cX5_held 0 = .ok (.aload_n 0, 1) := by decide +kernel
theorem dX5_held_1 : decode cX5_held 1 = .ok (.iload_n 1, 1) := by decide +kernel
theorem dX5_held_2 : decode cX5_held 2 = .ok (.iload_n 2, 1) := by decide +kernel
theorem dX5_held_3 : decode cX5_held 3 = .ok (.invokevirtual 155, 3) := by decide +kernel
theorem dX5_held_6 : decode cX5_held 6 = .ok (.ifCond .eq 20, 3) := by decide +kernel
theorem dX5_held_9 : decode cX5_held 9 = .ok (.iload_n 3, 1) := by decide +kernel
theorem dX5_held_10 : decode cX5_held 10 = .ok (.invokestatic 159, 3) := by decide +kernel
theorem dX5_held_13 : decode cX5_held 13 = .ok (.ifCond .eq 13, 3) := by decide +kernel
theorem dX5_held_16 : decode cX5_held 16 = .ok (.iload 4, 2) := by decide +kernel
theorem dX5_held_18 : decode cX5_held 18 = .ok (.iconst 1, 1) := by decide +kernel
theorem dX5_held_19 : decode cX5_held 19 = .ok (.iconst 4, 1) := by decide +kernel
theorem dX5_held_20 : decode cX5_held 20 = .ok (.invokestatic 71, 3) := by decide +kernel
theorem dX5_held_23 : decode cX5_held 23 = .ok (.ifCond .ne 7, 3) := by decide +kernel
theorem dX5_held_26 : decode cX5_held 26 = .ok (.ldc2_w 189, 3) := by decide +kernel
theorem dX5_held_29 : decode cX5_held 29 = .ok (.lreturn, 1) := by decide +kernel
theorem dX5_held_30 : decode cX5_held 30 = .ok (.iconst 1, 1) := by decide +kernel
theorem dX5_held_31 : decode cX5_held 31 = .ok (.istore 5, 2) := by decide +kernel
theorem dX5_held_33 : decode cX5_held 33 = .ok (.iconst 0, 1) := by decide +kernel
theorem dX5_held_34 : decode cX5_held 34 = .ok (.istore 6, 2) := by decide +kernel
theorem dX5_held_36 : decode cX5_held 36 = .ok (.iload 6, 2) := by decide +kernel
theorem dX5_held_38 : decode cX5_held 38 = .ok (.iload 4, 2) := by decide +kernel
theorem dX5_held_40 : decode cX5_held 40 = .ok (.if_icmp .ge 16, 3) := by decide +kernel
theorem dX5_held_43 : decode cX5_held 43 = .ok (.iload 5, 2) := by decide +kernel
theorem dX5_held_45 : decode cX5_held 45 = .ok (.bipush 9, 2) := by decide +kernel
theorem dX5_held_47 : decode cX5_held 47 = .ok (.imul, 1) := by decide +kernel
theorem dX5_held_48 : decode cX5_held 48 = .ok (.istore 5, 2) := by decide +kernel
theorem dX5_held_50 : decode cX5_held 50 = .ok (.iinc 6 1, 3) := by decide +kernel
theorem dX5_held_53 : decode cX5_held 53 = .ok (.goto (-17), 3) := by decide +kernel
theorem dX5_held_56 : decode cX5_held 56 = .ok (.aload_n 0, 1) := by decide +kernel
theorem dX5_held_57 : decode cX5_held 57 = .ok (.invokevirtual 180, 3) := by decide +kernel
theorem dX5_held_60 : decode cX5_held 60 = .ok (.lconst 0, 1) := by decide +kernel
theorem dX5_held_61 : decode cX5_held 61 = .ok (.lstore 6, 2) := by decide +kernel
theorem dX5_held_63 : decode cX5_held 63 = .ok (.iconst 0, 1) := by decide +kernel
theorem dX5_held_64 : decode cX5_held 64 = .ok (.istore 8, 2) := by decide +kernel
theorem dX5_held_66 : decode cX5_held 66 = .ok (.iload 8, 2) := by decide +kernel
theorem dX5_held_68 : decode cX5_held 68 = .ok (.iload 5, 2) := by decide +kernel
theorem dX5_held_70 : decode cX5_held 70 = .ok (.if_icmp .ge 127, 3) := by decide +kernel
theorem dX5_held_73 : decode cX5_held 73 = .ok (.iload 8, 2) := by decide +kernel
theorem dX5_held_75 : decode cX5_held 75 = .ok (.istore 9, 2) := by decide +kernel
theorem dX5_held_77 : decode cX5_held 77 = .ok (.lconst 1, 1) := by decide +kernel
theorem dX5_held_78 : decode cX5_held 78 = .ok (.lstore 10, 2) := by decide +kernel
theorem dX5_held_80 : decode cX5_held 80 = .ok (.iconst 0, 1) := by decide +kernel
theorem dX5_held_81 : decode cX5_held 81 = .ok (.istore 12, 2) := by decide +kernel
theorem dX5_held_83 : decode cX5_held 83 = .ok (.iload 12, 2) := by decide +kernel
theorem dX5_held_85 : decode cX5_held 85 = .ok (.iload 4, 2) := by decide +kernel
theorem dX5_held_87 : decode cX5_held 87 = .ok (.if_icmp .ge 73, 3) := by decide +kernel
theorem dX5_held_90 : decode cX5_held 90 = .ok (.lload 10, 2) := by decide +kernel
theorem dX5_held_92 : decode cX5_held 92 = .ok (.lconst 0, 1) := by decide +kernel
theorem dX5_held_93 : decode cX5_held 93 = .ok (.lcmp, 1) := by decide +kernel
theorem dX5_held_94 : decode cX5_held 94 = .ok (.ifCond .le 66, 3) := by decide +kernel
theorem dX5_held_97 : decode cX5_held 97 = .ok (.iload 9, 2) := by decide +kernel
theorem dX5_held_99 : decode cX5_held 99 = .ok (.bipush 9, 2) := by decide +kernel
theorem dX5_held_101 : decode cX5_held 101 = .ok (.irem, 1) := by decide +kernel
theorem dX5_held_102 : decode cX5_held 102 = .ok (.istore 13, 2) := by decide +kernel
theorem dX5_held_104 : decode cX5_held 104 = .ok (.iload 9, 2) := by decide +kernel
theorem dX5_held_106 : decode cX5_held 106 = .ok (.bipush 9, 2) := by decide +kernel
theorem dX5_held_108 : decode cX5_held 108 = .ok (.idiv, 1) := by decide +kernel
theorem dX5_held_109 : decode cX5_held 109 = .ok (.istore 9, 2) := by decide +kernel
theorem dX5_held_111 : decode cX5_held 111 = .ok (.lload 10, 2) := by decide +kernel
theorem dX5_held_113 : decode cX5_held 113 = .ok (.aload_n 0, 1) := by decide +kernel
theorem dX5_held_114 : decode cX5_held 114 = .ok (.getfield 38, 3) := by decide +kernel
theorem dX5_held_117 : decode cX5_held 117 = .ok (.iload 13, 2) := by decide +kernel
theorem dX5_held_119 : decode cX5_held 119 = .ok (.iaload, 1) := by decide +kernel
theorem dX5_held_120 : decode cX5_held 120 = .ok (.i2l, 1) := by decide +kernel
theorem dX5_held_121 : decode cX5_held 121 = .ok (.lmul, 1) := by decide +kernel
theorem dX5_held_122 : decode cX5_held 122 = .ok (.lstore 10, 2) := by decide +kernel
theorem dX5_held_124 : decode cX5_held 124 = .ok (.lload 10, 2) := by decide +kernel
theorem dX5_held_126 : decode cX5_held 126 = .ok (.lconst 0, 1) := by decide +kernel
theorem dX5_held_127 : decode cX5_held 127 = .ok (.lcmp, 1) := by decide +kernel
theorem dX5_held_128 : decode cX5_held 128 = .ok (.ifCond .le 26, 3) := by decide +kernel
theorem dX5_held_131 : decode cX5_held 131 = .ok (.aload_n 0, 1) := by decide +kernel
theorem dX5_held_132 : decode cX5_held 132 = .ok (.iload_n 1, 1) := by decide +kernel
theorem dX5_held_133 : decode cX5_held 133 = .ok (.iload 13, 2) := by decide +kernel
theorem dX5_held_135 : decode cX5_held 135 = .ok (.iconst 3, 1) := by decide +kernel
theorem dX5_held_136 : decode cX5_held 136 = .ok (.irem, 1) := by decide +kernel
theorem dX5_held_137 : decode cX5_held 137 = .ok (.iadd, 1) := by decide +kernel
theorem dX5_held_138 : decode cX5_held 138 = .ok (.iconst 1, 1) := by decide +kernel
theorem dX5_held_139 : decode cX5_held 139 = .ok (.isub, 1) := by decide +kernel
theorem dX5_held_140 : decode cX5_held 140 = .ok (.iload_n 2, 1) := by decide +kernel
theorem dX5_held_141 : decode cX5_held 141 = .ok (.iload 13, 2) := by decide +kernel
theorem dX5_held_143 : decode cX5_held 143 = .ok (.iconst 3, 1) := by decide +kernel
theorem dX5_held_144 : decode cX5_held 144 = .ok (.idiv, 1) := by decide +kernel
theorem dX5_held_145 : decode cX5_held 145 = .ok (.iadd, 1) := by decide +kernel
theorem dX5_held_146 : decode cX5_held 146 = .ok (.iconst 1, 1) := by decide +kernel
theorem dX5_held_147 : decode cX5_held 147 = .ok (.isub, 1) := by decide +kernel
theorem dX5_held_148 : decode cX5_held 148 = .ok (.iload_n 3, 1) := by decide +kernel
theorem dX5_held_149 : decode cX5_held 149 = .ok (.invokevirtual 163, 3) := by decide +kernel
theorem dX5_held_152 : decode cX5_held 152 = .ok (.istore 14, 2) := by decide +kernel
theorem dX5_held_154 : decode cX5_held 154 = .ok (.iinc 12 1, 3) := by decide +kernel
theorem dX5_held_157 : decode cX5_held 157 = .ok (.goto (-74), 3) := by decide +kernel
theorem dX5_held_160 : decode cX5_held 160 = .ok (.lload 6, 2) := by decide +kernel
theorem dX5_held_162 : decode cX5_held 162 = .ok (.lload 10, 2) := by decide +kernel
theorem dX5_held_164 : decode cX5_held 164 = .ok (.lconst 0, 1) := by decide +kernel
theorem dX5_held_165 : decode cX5_held 165 = .ok (.lcmp, 1) := by decide +kernel
theorem dX5_held_166 : decode cX5_held 166 = .ok (.ifCond .le 17, 3) := by decide +kernel
theorem dX5_held_169 : decode cX5_held 169 = .ok (.aload_n 0, 1) := by decide +kernel
theorem dX5_held_170 : decode cX5_held 170 = .ok (.invokevirtual 191, 3) := by decide +kernel
theorem dX5_held_173 : decode cX5_held 173 = .ok (.bipush (-9), 2) := by decide +kernel
theorem dX5_held_175 : decode cX5_held 175 = .ok (.if_icmp .ne 8, 3) := by decide +kernel
theorem dX5_held_178 : decode cX5_held 178 = .ok (.lload 10, 2) := by decide +kernel
theorem dX5_held_180 : decode cX5_held 180 = .ok (.goto 4, 3) := by decide +kernel
theorem dX5_held_183 : decode cX5_held 183 = .ok (.lconst 0, 1) := by decide +kernel
theorem dX5_held_184 : decode cX5_held 184 = .ok (.ladd, 1) := by decide +kernel
theorem dX5_held_185 : decode cX5_held 185 = .ok (.lstore 6, 2) := by decide +kernel
theorem dX5_held_187 : decode cX5_held 187 = .ok (.aload_n 0, 1) := by decide +kernel
theorem dX5_held_188 : decode cX5_held 188 = .ok (.invokevirtual 183, 3) := by decide +kernel
theorem dX5_held_191 : decode cX5_held 191 = .ok (.iinc 8 1, 3) := by decide +kernel
theorem dX5_held_194 : decode cX5_held 194 = .ok (.goto (-128), 3) := by decide +kernel
theorem dX5_held_197 : decode cX5_held 197 = .ok (.lload 6, 2) := by decide +kernel
theorem dX5_held_199 : decode cX5_held 199 = .ok (.lreturn, 1) := by decide +kernel
theorem dX5_wound_0 : decode cX5_wound 0 = .ok (.aload_n 0, 1) := by decide +kernel
theorem dX5_wound_1 : decode cX5_wound 1 = .ok (.getfield 82, 3) := by decide +kernel
theorem dX5_wound_4 : decode cX5_wound 4 = .ok (.ifCond .eq 6, 3) := by decide +kernel
theorem dX5_wound_7 : decode cX5_wound 7 = .ok (.bipush (-2), 2) := by decide +kernel
theorem dX5_wound_9 : decode cX5_wound 9 = .ok (.ireturn, 1) := by decide +kernel
theorem dX5_wound_10 : decode cX5_wound 10 = .ok (.aload_n 0, 1) := by decide +kernel
theorem dX5_wound_11 : decode cX5_wound 11 = .ok (.iconst 1, 1) := by decide +kernel
theorem dX5_wound_12 : decode cX5_wound 12 = .ok (.putfield 82, 3) := by decide +kernel
theorem dX5_wound_15 : decode cX5_wound 15 = .ok (.aload_n 0, 1) := by decide +kernel
theorem dX5_wound_16 : decode cX5_wound 16 = .ok (.getfield 82, 3) := by decide +kernel
theorem dX5_wound_19 : decode cX5_wound 19 = .ok (.ireturn, 1) := by decide +kernel
theorem dX5_sling_0 : decode cX5_sling 0 = .ok (.aload_n 0, 1) := by decide +kernel
theorem dX5_sling_1 : decode cX5_sling 1 = .ok (.getfield 82, 3) := by decide +kernel
theorem dX5_sling_4 : decode cX5_sling 4 = .ok (.iconst 1, 1) := by decide +kernel
theorem dX5_sling_5 : decode cX5_sling 5 = .ok (.if_icmp .eq 6, 3) := by decide +kernel
theorem dX5_sling_8 : decode cX5_sling 8 = .ok (.bipush (-2), 2) := by decide +kernel
theorem dX5_sling_10 : decode cX5_sling 10 = .ok (.ireturn, 1) := by decide +kernel
theorem dX5_sling_11 : decode cX5_sling 11 = .ok (.aload_n 0, 1) := by decide +kernel
theorem dX5_sling_12 : decode cX5_sling 12 = .ok (.iconst 2, 1) := by decide +kernel
theorem dX5_sling_13 : decode cX5_sling 13 = .ok (.putfield 82, 3) := by decide +kernel
theorem dX5_sling_16 : decode cX5_sling 16 = .ok (.aload_n 0, 1) := by decide +kernel
theorem dX5_sling_17 : decode cX5_sling 17 = .ok (.getfield 82, 3) := by decide +kernel
theorem dX5_sling_20 : decode cX5_sling 20 = .ok (.ireturn, 1) := by decide +kernel
theorem dX5_near_0 : decode cX5_near 0 = .ok (.iload_n 1, 1) := by decide +kernel
theorem dX5_near_1 : decode cX5_near 1 = .ok (.iconst 0, 1) := by decide +kernel
theorem dX5_near_2 : decode cX5_near 2 = .ok (.sipush 200, 3) := by decide +kernel
theorem dX5_near_5 : decode cX5_near 5 = .ok (.invokestatic 71, 3) := by decide +kernel
theorem dX5_near_8 : decode cX5_near 8 = .ok (.ifCond .ne 5, 3) := by decide +kernel
theorem dX5_near_11 : decode cX5_near 11 = .ok (.iconst (-1), 1) := by decide +kernel
theorem dX5_near_12 : decode cX5_near 12 = .ok (.ireturn, 1) := by decide +kernel
theorem dX5_near_13 : decode cX5_near 13 = .ok (.aload_n 0, 1) := by decide +kernel
theorem dX5_near_14 : decode cX5_near 14 = .ok (.getfield 82, 3) := by decide +kernel
theorem dX5_near_17 : decode cX5_near 17 = .ok (.iconst 2, 1) := by decide +kernel
theorem dX5_near_18 : decode cX5_near 18 = .ok (.if_icmp .lt 16, 3) := by decide +kernel
theorem dX5_near_21 : decode cX5_near 21 = .ok (.aload_n 0, 1) := by decide +kernel
theorem dX5_near_22 : decode cX5_near 22 = .ok (.iload_n 1, 1) := by decide +kernel
theorem dX5_near_23 : decode cX5_near 23 = .ok (.ifCond .ne 7, 3) := by decide +kernel
theorem dX5_near_26 : decode cX5_near 26 = .ok (.iconst 3, 1) := by decide +kernel
theorem dX5_near_27 : decode cX5_near 27 = .ok (.goto 4, 3) := by decide +kernel
theorem dX5_near_30 : decode cX5_near 30 = .ok (.iconst 2, 1) := by decide +kernel
theorem dX5_near_31 : decode cX5_near 31 = .ok (.putfield 82, 3) := by decide +kernel
theorem dX5_near_34 : decode cX5_near 34 = .ok (.aload_n 0, 1) := by decide +kernel
theorem dX5_near_35 : decode cX5_near 35 = .ok (.getfield 82, 3) := by decide +kernel
theorem dX5_near_38 : decode cX5_near 38 = .ok (.ireturn, 1) := by decide +kernel
theorem dX5_loose_0 : decode cX5_loose 0 = .ok (.aload_n 0, 1) := by decide +kernel
theorem dX5_loose_1 : decode cX5_loose 1 = .ok (.iload_n 1, 1) := by decide +kernel
theorem dX5_loose_2 : decode cX5_loose 2 = .ok (.iload_n 2, 1) := by decide +kernel
theorem dX5_loose_3 : decode cX5_loose 3 = .ok (.invokevirtual 155, 3) := by decide +kernel
theorem dX5_loose_6 : decode cX5_loose 6 = .ok (.ifCond .eq 14, 3) := by decide +kernel
theorem dX5_loose_9 : decode cX5_loose 9 = .ok (.iload_n 3, 1) := by decide +kernel
theorem dX5_loose_10 : decode cX5_loose 10 = .ok (.iconst 0, 1) := by decide +kernel
theorem dX5_loose_11 : decode cX5_loose 11 = .ok (.sipush 2000, 3) := by decide +kernel
theorem dX5_loose_14 : decode cX5_loose 14 = .ok (.invokestatic 71, 3) := by decide +kernel
theorem dX5_loose_17 : decode cX5_loose 17 = .ok (.ifCond .ne 5, 3) := by decide +kernel
theorem dX5_loose_20 : decode cX5_loose 20 = .ok (.iconst (-1), 1) := by decide +kernel
theorem dX5_loose_21 : decode cX5_loose 21 = .ok (.ireturn, 1) := by decide +kernel
theorem dX5_loose_22 : decode cX5_loose 22 = .ok (.aload_n 0, 1) := by decide +kernel
theorem dX5_loose_23 : decode cX5_loose 23 = .ok (.getfield 82, 3) := by decide +kernel
theorem dX5_loose_26 : decode cX5_loose 26 = .ok (.iconst 3, 1) := by decide +kernel
theorem dX5_loose_27 : decode cX5_loose 27 = .ok (.if_icmp .ne 12, 3) := by decide +kernel
theorem dX5_loose_30 : decode cX5_loose 30 = .ok (.aload_n 0, 1) := by decide +kernel
theorem dX5_loose_31 : decode cX5_loose 31 = .ok (.getfield 41, 3) := by decide +kernel
theorem dX5_loose_34 : decode cX5_loose 34 = .ok (.iconst 1, 1) := by decide +kernel
theorem dX5_loose_35 : decode cX5_loose 35 = .ok (.iaload, 1) := by decide +kernel
theorem dX5_loose_36 : decode cX5_loose 36 = .ok (.ifCond .ne 6, 3) := by decide +kernel
theorem dX5_loose_39 : decode cX5_loose 39 = .ok (.bipush (-2), 2) := by decide +kernel
theorem dX5_loose_41 : decode cX5_loose 41 = .ok (.ireturn, 1) := by decide +kernel
theorem dX5_loose_42 : decode cX5_loose 42 = .ok (.aload_n 0, 1) := by decide +kernel
theorem dX5_loose_43 : decode cX5_loose 43 = .ok (.iconst 0, 1) := by decide +kernel
theorem dX5_loose_44 : decode cX5_loose 44 = .ok (.putfield 82, 3) := by decide +kernel
theorem dX5_loose_47 : decode cX5_loose 47 = .ok (.aload_n 0, 1) := by decide +kernel
theorem dX5_loose_48 : decode cX5_loose 48 = .ok (.getfield 41, 3) := by decide +kernel
theorem dX5_loose_51 : decode cX5_loose 51 = .ok (.iconst 1, 1) := by decide +kernel
theorem dX5_loose_52 : decode cX5_loose 52 = .ok (.dup2, 1) := by decide +kernel
theorem dX5_loose_53 : decode cX5_loose 53 = .ok (.iaload, 1) := by decide +kernel
theorem dX5_loose_54 : decode cX5_loose 54 = .ok (.iconst 1, 1) := by decide +kernel
theorem dX5_loose_55 : decode cX5_loose 55 = .ok (.isub, 1) := by decide +kernel
theorem dX5_loose_56 : decode cX5_loose 56 = .ok (.iastore, 1) := by decide +kernel
theorem dX5_loose_57 : decode cX5_loose 57 = .ok (.aload_n 0, 1) := by decide +kernel
theorem dX5_loose_58 : decode cX5_loose 58 = .ok (.dup, 1) := by decide +kernel
theorem dX5_loose_59 : decode cX5_loose 59 = .ok (.getfield 194, 3) := by decide +kernel
theorem dX5_loose_62 : decode cX5_loose 62 = .ok (.iconst 1, 1) := by decide +kernel
theorem dX5_loose_63 : decode cX5_loose 63 = .ok (.iadd, 1) := by decide +kernel
theorem dX5_loose_64 : decode cX5_loose 64 = .ok (.putfield 194, 3) := by decide +kernel
theorem dX5_loose_67 : decode cX5_loose 67 = .ok (.aload_n 0, 1) := by decide +kernel
theorem dX5_loose_68 : decode cX5_loose 68 = .ok (.aload_n 0, 1) := by decide +kernel
theorem dX5_loose_69 : decode cX5_loose 69 = .ok (.getfield 7, 3) := by decide +kernel
theorem dX5_loose_72 : decode cX5_loose 72 = .ok (.iconst 3, 1) := by decide +kernel
theorem dX5_loose_73 : decode cX5_loose 73 = .ok (.iaload, 1) := by decide +kernel
theorem dX5_loose_74 : decode cX5_loose 74 = .ok (.aload_n 0, 1) := by decide +kernel
theorem dX5_loose_75 : decode cX5_loose 75 = .ok (.getfield 7, 3) := by decide +kernel
theorem dX5_loose_78 : decode cX5_loose 78 = .ok (.iconst 4, 1) := by decide +kernel
theorem dX5_loose_79 : decode cX5_loose 79 = .ok (.iaload, 1) := by decide +kernel
theorem dX5_loose_80 : decode cX5_loose 80 = .ok (.invokevirtual 129, 3) := by decide +kernel
theorem dX5_loose_83 : decode cX5_loose 83 = .ok (.aload_n 0, 1) := by decide +kernel
theorem dX5_loose_84 : decode cX5_loose 84 = .ok (.getfield 115, 3) := by decide +kernel
theorem dX5_loose_87 : decode cX5_loose 87 = .ok (.bipush (-9), 2) := by decide +kernel
theorem dX5_loose_89 : decode cX5_loose 89 = .ok (.if_icmp .ne 6, 3) := by decide +kernel
theorem dX5_loose_92 : decode cX5_loose 92 = .ok (.bipush (-3), 2) := by decide +kernel
theorem dX5_loose_94 : decode cX5_loose 94 = .ok (.ireturn, 1) := by decide +kernel
theorem dX5_loose_95 : decode cX5_loose 95 = .ok (.aload_n 0, 1) := by decide +kernel
theorem dX5_loose_96 : decode cX5_loose 96 = .ok (.getfield 7, 3) := by decide +kernel
theorem dX5_loose_99 : decode cX5_loose 99 = .ok (.bipush 7, 2) := by decide +kernel
theorem dX5_loose_101 : decode cX5_loose 101 = .ok (.iaload, 1) := by decide +kernel
theorem dX5_loose_102 : decode cX5_loose 102 = .ok (.aload_n 0, 1) := by decide +kernel
theorem dX5_loose_103 : decode cX5_loose 103 = .ok (.getfield 115, 3) := by decide +kernel
theorem dX5_loose_106 : decode cX5_loose 106 = .ok (.imul, 1) := by decide +kernel
theorem dX5_loose_107 : decode cX5_loose 107 = .ok (.sipush 500, 3) := by decide +kernel
theorem dX5_loose_110 : decode cX5_loose 110 = .ok (.idiv, 1) := by decide +kernel
theorem dX5_loose_111 : decode cX5_loose 111 = .ok (.iconst 1, 1) := by decide +kernel
theorem dX5_loose_112 : decode cX5_loose 112 = .ok (.iadd, 1) := by decide +kernel
theorem dX5_loose_113 : decode cX5_loose 113 = .ok (.istore 4, 2) := by decide +kernel
theorem dX5_loose_115 : decode cX5_loose 115 = .ok (.aload_n 0, 1) := by decide +kernel
theorem dX5_loose_116 : decode cX5_loose 116 = .ok (.getfield 115, 3) := by decide +kernel
theorem dX5_loose_119 : decode cX5_loose 119 = .ok (.iload_n 3, 1) := by decide +kernel
theorem dX5_loose_120 : decode cX5_loose 120 = .ok (.isub, 1) := by decide +kernel
theorem dX5_loose_121 : decode cX5_loose 121 = .ok (.invokestatic 88, 3) := by decide +kernel
theorem dX5_loose_124 : decode cX5_loose 124 = .ok (.iconst 5, 1) := by decide +kernel
theorem dX5_loose_125 : decode cX5_loose 125 = .ok (.if_icmp .gt 25, 3) := by decide +kernel
theorem dX5_loose_128 : decode cX5_loose 128 = .ok (.aload_n 0, 1) := by decide +kernel
theorem dX5_loose_129 : decode cX5_loose 129 = .ok (.iload_n 1, 1) := by decide +kernel
theorem dX5_loose_130 : decode cX5_loose 130 = .ok (.iload_n 2, 1) := by decide +kernel
theorem dX5_loose_131 : decode cX5_loose 131 = .ok (.iload 4, 2) := by decide +kernel
theorem dX5_loose_133 : decode cX5_loose 133 = .ok (.bipush 99, 2) := by decide +kernel
theorem dX5_loose_135 : decode cX5_loose 135 = .ok (.if_icmp .le 8, 3) := by decide +kernel
theorem dX5_loose_138 : decode cX5_loose 138 = .ok (.bipush 99, 2) := by decide +kernel
theorem dX5_loose_140 : decode cX5_loose 140 = .ok (.goto 5, 3) := by decide +kernel
theorem dX5_loose_143 : decode cX5_loose 143 = .ok (.iload 4, 2) := by decide +kernel
theorem dX5_loose_145 : decode cX5_loose 145 = .ok (.invokevirtual 163, 3) := by decide +kernel
theorem dX5_loose_148 : decode cX5_loose 148 = .ok (.istore 5, 2) := by decide +kernel
theorem dX5_loose_150 : decode cX5_loose 150 = .ok (.aload_n 0, 1) := by decide +kernel
theorem dX5_loose_151 : decode cX5_loose 151 = .ok (.getfield 115, 3) := by decide +kernel
theorem dX5_loose_154 : decode cX5_loose 154 = .ok (.ireturn, 1) := by decide +kernel
theorem dX5_store_0 : decode cX5_store 0 = .ok (.iload_n 1, 1) := by decide +kernel
theorem dX5_store_1 : decode cX5_store 1 = .ok (.ifCond .eq 8, 3) := by decide +kernel
theorem dX5_store_4 : decode cX5_store 4 = .ok (.iload_n 1, 1) := by decide +kernel
theorem dX5_store_5 : decode cX5_store 5 = .ok (.iconst 4, 1) := by decide +kernel
theorem dX5_store_6 : decode cX5_store 6 = .ok (.if_icmp .ne 7, 3) := by decide +kernel
theorem dX5_store_9 : decode cX5_store 9 = .ok (.iconst 1, 1) := by decide +kernel
theorem dX5_store_10 : decode cX5_store 10 = .ok (.goto 4, 3) := by decide +kernel
theorem dX5_store_13 : decode cX5_store 13 = .ok (.iconst 0, 1) := by decide +kernel
theorem dX5_store_14 : decode cX5_store 14 = .ok (.istore_n 3, 1) := by decide +kernel
theorem dX5_store_15 : decode cX5_store 15 = .ok (.iload_n 1, 1) := by decide +kernel
theorem dX5_store_16 : decode cX5_store 16 = .ok (.ifCond .eq 8, 3) := by decide +kernel
theorem dX5_store_19 : decode cX5_store 19 = .ok (.iload_n 1, 1) := by decide +kernel
theorem dX5_store_20 : decode cX5_store 20 = .ok (.iconst 4, 1) := by decide +kernel
theorem dX5_store_21 : decode cX5_store 21 = .ok (.if_icmp .ne 9, 3) := by decide +kernel
theorem dX5_store_24 : decode cX5_store 24 = .ok (.sipush 200, 3) := by decide +kernel
theorem dX5_store_27 : decode cX5_store 27 = .ok (.goto 6, 3) := by decide +kernel
theorem dX5_store_30 : decode cX5_store 30 = .ok (.sipush 9999, 3) := by decide +kernel
theorem dX5_store_33 : decode cX5_store 33 = .ok (.istore 4, 2) := by decide +kernel
theorem dX5_store_35 : decode cX5_store 35 = .ok (.iload_n 1, 1) := by decide +kernel
theorem dX5_store_36 : decode cX5_store 36 = .ok (.iconst 0, 1) := by decide +kernel
theorem dX5_store_37 : decode cX5_store 37 = .ok (.iconst 4, 1) := by decide +kernel
theorem dX5_store_38 : decode cX5_store 38 = .ok (.invokestatic 71, 3) := by decide +kernel
theorem dX5_store_41 : decode cX5_store 41 = .ok (.ifCond .eq 13, 3) := by decide +kernel
theorem dX5_store_44 : decode cX5_store 44 = .ok (.iload_n 2, 1) := by decide +kernel
theorem dX5_store_45 : decode cX5_store 45 = .ok (.iload_n 3, 1) := by decide +kernel
theorem dX5_store_46 : decode cX5_store 46 = .ok (.iload 4, 2) := by decide +kernel
theorem dX5_store_48 : decode cX5_store 48 = .ok (.invokestatic 71, 3) := by decide +kernel
theorem dX5_store_51 : decode cX5_store 51 = .ok (.ifCond .ne 5, 3) := by decide +kernel
theorem dX5_store_54 : decode cX5_store 54 = .ok (.iconst (-1), 1) := by decide +kernel
theorem dX5_store_55 : decode cX5_store 55 = .ok (.ireturn, 1) := by decide +kernel
theorem dX5_store_56 : decode cX5_store 56 = .ok (.aload_n 0, 1) := by decide +kernel
theorem dX5_store_57 : decode cX5_store 57 = .ok (.getfield 41, 3) := by decide +kernel
theorem dX5_store_60 : decode cX5_store 60 = .ok (.iload_n 1, 1) := by decide +kernel
theorem dX5_store_61 : decode cX5_store 61 = .ok (.iaload, 1) := by decide +kernel
theorem dX5_store_62 : decode cX5_store 62 = .ok (.istore 5, 2) := by decide +kernel
theorem dX5_store_64 : decode cX5_store 64 = .ok (.aload_n 0, 1) := by decide +kernel
theorem dX5_store_65 : decode cX5_store 65 = .ok (.getfield 41, 3) := by decide +kernel
theorem dX5_store_68 : decode cX5_store 68 = .ok (.iload_n 1, 1) := by decide +kernel
theorem dX5_store_69 : decode cX5_store 69 = .ok (.iload_n 2, 1) := by decide +kernel
theorem dX5_store_70 : decode cX5_store 70 = .ok (.iastore, 1) := by decide +kernel
theorem dX5_store_71 : decode cX5_store 71 = .ok (.iload 5, 2) := by decide +kernel
theorem dX5_store_73 : decode cX5_store 73 = .ok (.ireturn, 1) := by decide +kernel
theorem dX5_wet_0 : decode cX5_wet 0 = .ok (.iload_n 1, 1) := by decide +kernel
theorem dX5_wet_1 : decode cX5_wet 1 = .ok (.iconst 1, 1) := by decide +kernel
theorem dX5_wet_2 : decode cX5_wet 2 = .ok (.bipush 20, 2) := by decide +kernel
theorem dX5_wet_4 : decode cX5_wet 4 = .ok (.invokestatic 71, 3) := by decide +kernel
theorem dX5_wet_7 : decode cX5_wet 7 = .ok (.ifCond .eq 16, 3) := by decide +kernel
theorem dX5_wet_10 : decode cX5_wet 10 = .ok (.iload_n 2, 1) := by decide +kernel
theorem dX5_wet_11 : decode cX5_wet 11 = .ok (.iconst 0, 1) := by decide +kernel
theorem dX5_wet_12 : decode cX5_wet 12 = .ok (.iconst 1, 1) := by decide +kernel
theorem dX5_wet_13 : decode cX5_wet 13 = .ok (.iload_n 1, 1) := by decide +kernel
theorem dX5_wet_14 : decode cX5_wet 14 = .ok (.ishl, 1) := by decide +kernel
theorem dX5_wet_15 : decode cX5_wet 15 = .ok (.iconst 1, 1) := by decide +kernel
theorem dX5_wet_16 : decode cX5_wet 16 = .ok (.isub, 1) := by decide +kernel
theorem dX5_wet_17 : decode cX5_wet 17 = .ok (.invokestatic 71, 3) := by decide +kernel
theorem dX5_wet_20 : decode cX5_wet 20 = .ok (.ifCond .ne 5, 3) := by decide +kernel
theorem dX5_wet_23 : decode cX5_wet 23 = .ok (.iconst (-1), 1) := by decide +kernel
theorem dX5_wet_24 : decode cX5_wet 24 = .ok (.ireturn, 1) := by decide +kernel
theorem dX5_wet_25 : decode cX5_wet 25 = .ok (.aload_n 0, 1) := by decide +kernel
theorem dX5_wet_26 : decode cX5_wet 26 = .ok (.iload_n 1, 1) := by decide +kernel
theorem dX5_wet_27 : decode cX5_wet 27 = .ok (.putfield 44, 3) := by decide +kernel
theorem dX5_wet_30 : decode cX5_wet 30 = .ok (.aload_n 0, 1) := by decide +kernel
theorem dX5_wet_31 : decode cX5_wet 31 = .ok (.iload_n 2, 1) := by decide +kernel
theorem dX5_wet_32 : decode cX5_wet 32 = .ok (.putfield 197, 3) := by decide +kernel
theorem dX5_wet_35 : decode cX5_wet 35 = .ok (.iload_n 1, 1) := by decide +kernel
theorem dX5_wet_36 : decode cX5_wet 36 = .ok (.ireturn, 1) := by decide +kernel
theorem dX5_lastsBy_0 : decode cX5_lastsBy 0 = .ok (.aload_n 0, 1) := by decide +kernel
theorem dX5_lastsBy_1 : decode cX5_lastsBy 1 = .ok (.getfield 41, 3) := by decide +kernel
theorem dX5_lastsBy_4 : decode cX5_lastsBy 4 = .ok (.iconst 1, 1) := by decide +kernel
theorem dX5_lastsBy_5 : decode cX5_lastsBy 5 = .ok (.iaload, 1) := by decide +kernel
theorem dX5_lastsBy_6 : decode cX5_lastsBy 6 = .ok (.istore_n 2, 1) := by decide +kernel
theorem dX5_lastsBy_7 : decode cX5_lastsBy 7 = .ok (.aload_n 0, 1) := by decide +kernel
theorem dX5_lastsBy_8 : decode cX5_lastsBy 8 = .ok (.getfield 41, 3) := by decide +kernel
theorem dX5_lastsBy_11 : decode cX5_lastsBy 11 = .ok (.iconst 2, 1) := by decide +kernel
theorem dX5_lastsBy_12 : decode cX5_lastsBy 12 = .ok (.iaload, 1) := by decide +kernel
theorem dX5_lastsBy_13 : decode cX5_lastsBy 13 = .ok (.istore_n 3, 1) := by decide +kernel
theorem dX5_lastsBy_14 : decode cX5_lastsBy 14 = .ok (.aload_n 0, 1) := by decide +kernel
theorem dX5_lastsBy_15 : decode cX5_lastsBy 15 = .ok (.getfield 41, 3) := by decide +kernel
theorem dX5_lastsBy_18 : decode cX5_lastsBy 18 = .ok (.iconst 3, 1) := by decide +kernel
theorem dX5_lastsBy_19 : decode cX5_lastsBy 19 = .ok (.iaload, 1) := by decide +kernel
theorem dX5_lastsBy_20 : decode cX5_lastsBy 20 = .ok (.istore 4, 2) := by decide +kernel
theorem dX5_lastsBy_22 : decode cX5_lastsBy 22 = .ok (.iconst 0, 1) := by decide +kernel
theorem dX5_lastsBy_23 : decode cX5_lastsBy 23 = .ok (.istore 5, 2) := by decide +kernel
theorem dX5_lastsBy_25 : decode cX5_lastsBy 25 = .ok (.aload_n 0, 1) := by decide +kernel
theorem dX5_lastsBy_26 : decode cX5_lastsBy 26 = .ok (.getfield 7, 3) := by decide +kernel
theorem dX5_lastsBy_29 : decode cX5_lastsBy 29 = .ok (.iconst 2, 1) := by decide +kernel
theorem dX5_lastsBy_30 : decode cX5_lastsBy 30 = .ok (.iaload, 1) := by decide +kernel
theorem dX5_lastsBy_31 : decode cX5_lastsBy 31 = .ok (.aload_n 0, 1) := by decide +kernel
theorem dX5_lastsBy_32 : decode cX5_lastsBy 32 = .ok (.getfield 7, 3) := by decide +kernel
theorem dX5_lastsBy_35 : decode cX5_lastsBy 35 = .ok (.iconst 0, 1) := by decide +kernel
theorem dX5_lastsBy_36 : decode cX5_lastsBy 36 = .ok (.iaload, 1) := by decide +kernel
theorem dX5_lastsBy_37 : decode cX5_lastsBy 37 = .ok (.imul, 1) := by decide +kernel
theorem dX5_lastsBy_38 : decode cX5_lastsBy 38 = .ok (.sipush 999, 3) := by decide +kernel
theorem dX5_lastsBy_41 : decode cX5_lastsBy 41 = .ok (.iadd, 1) := by decide +kernel
theorem dX5_lastsBy_42 : decode cX5_lastsBy 42 = .ok (.sipush 1000, 3) := by decide +kernel
theorem dX5_lastsBy_45 : decode cX5_lastsBy 45 = .ok (.idiv, 1) := by decide +kernel
theorem dX5_lastsBy_46 : decode cX5_lastsBy 46 = .ok (.istore 6, 2) := by decide +kernel
theorem dX5_lastsBy_48 : decode cX5_lastsBy 48 = .ok (.iconst 0, 1) := by decide +kernel
theorem dX5_lastsBy_49 : decode cX5_lastsBy 49 = .ok (.istore 7, 2) := by decide +kernel
theorem dX5_lastsBy_51 : decode cX5_lastsBy 51 = .ok (.iload 7, 2) := by decide +kernel
theorem dX5_lastsBy_53 : decode cX5_lastsBy 53 = .ok (.bipush 100, 2) := by decide +kernel
theorem dX5_lastsBy_55 : decode cX5_lastsBy 55 = .ok (.if_icmp .ge 200, 3) := by decide +kernel
theorem dX5_lastsBy_58 : decode cX5_lastsBy 58 = .ok (.aload_n 0, 1) := by decide +kernel
theorem dX5_lastsBy_59 : decode cX5_lastsBy 59 = .ok (.getfield 197, 3) := by decide +kernel
theorem dX5_lastsBy_62 : decode cX5_lastsBy 62 = .ok (.iload 7, 2) := by decide +kernel
theorem dX5_lastsBy_64 : decode cX5_lastsBy 64 = .ok (.aload_n 0, 1) := by decide +kernel
theorem dX5_lastsBy_65 : decode cX5_lastsBy 65 = .ok (.getfield 44, 3) := by decide +kernel
theorem dX5_lastsBy_68 : decode cX5_lastsBy 68 = .ok (.irem, 1) := by decide +kernel
theorem dX5_lastsBy_69 : decode cX5_lastsBy 69 = .ok (.ishr, 1) := by decide +kernel
theorem dX5_lastsBy_70 : decode cX5_lastsBy 70 = .ok (.iconst 1, 1) := by decide +kernel
theorem dX5_lastsBy_71 : decode cX5_lastsBy 71 = .ok (.iand, 1) := by decide +kernel
theorem dX5_lastsBy_72 : decode cX5_lastsBy 72 = .ok (.iconst 1, 1) := by decide +kernel
theorem dX5_lastsBy_73 : decode cX5_lastsBy 73 = .ok (.if_icmp .ne 7, 3) := by decide +kernel
theorem dX5_lastsBy_76 : decode cX5_lastsBy 76 = .ok (.iconst 1, 1) := by decide +kernel
theorem dX5_lastsBy_77 : decode cX5_lastsBy 77 = .ok (.goto 4, 3) := by decide +kernel
theorem dX5_lastsBy_80 : decode cX5_lastsBy 80 = .ok (.iconst 0, 1) := by decide +kernel
theorem dX5_lastsBy_81 : decode cX5_lastsBy 81 = .ok (.istore 8, 2) := by decide +kernel
theorem dX5_lastsBy_83 : decode cX5_lastsBy 83 = .ok (.iload 8, 2) := by decide +kernel
theorem dX5_lastsBy_85 : decode cX5_lastsBy 85 = .ok (.ifCond .eq 15, 3) := by decide +kernel
theorem dX5_lastsBy_88 : decode cX5_lastsBy 88 = .ok (.iload 6, 2) := by decide +kernel
theorem dX5_lastsBy_90 : decode cX5_lastsBy 90 = .ok (.iload 6, 2) := by decide +kernel
theorem dX5_lastsBy_92 : decode cX5_lastsBy 92 = .ok (.iconst 3, 1) := by decide +kernel
theorem dX5_lastsBy_93 : decode cX5_lastsBy 93 = .ok (.iadd, 1) := by decide +kernel
theorem dX5_lastsBy_94 : decode cX5_lastsBy 94 = .ok (.iconst 4, 1) := by decide +kernel
theorem dX5_lastsBy_95 : decode cX5_lastsBy 95 = .ok (.idiv, 1) := by decide +kernel
theorem dX5_lastsBy_96 : decode cX5_lastsBy 96 = .ok (.iadd, 1) := by decide +kernel
theorem dX5_lastsBy_97 : decode cX5_lastsBy 97 = .ok (.goto 5, 3) := by decide +kernel
theorem dX5_lastsBy_100 : decode cX5_lastsBy 100 = .ok (.iload 6, 2) := by decide +kernel
theorem dX5_lastsBy_102 : decode cX5_lastsBy 102 = .ok (.istore 9, 2) := by decide +kernel
theorem dX5_lastsBy_104 : decode cX5_lastsBy 104 = .ok (.bipush 30, 2) := by decide +kernel
theorem dX5_lastsBy_106 : decode cX5_lastsBy 106 = .ok (.aload_n 0, 1) := by decide +kernel
theorem dX5_lastsBy_107 : decode cX5_lastsBy 107 = .ok (.getfield 41, 3) := by decide +kernel
theorem dX5_lastsBy_110 : decode cX5_lastsBy 110 = .ok (.iconst 0, 1) := by decide +kernel
theorem dX5_lastsBy_111 : decode cX5_lastsBy 111 = .ok (.iaload, 1) := by decide +kernel
theorem dX5_lastsBy_112 : decode cX5_lastsBy 112 = .ok (.imul, 1) := by decide +kernel
theorem dX5_lastsBy_113 : decode cX5_lastsBy 113 = .ok (.istore 10, 2) := by decide +kernel
theorem dX5_lastsBy_115 : decode cX5_lastsBy 115 = .ok (.iload 4, 2) := by decide +kernel
theorem dX5_lastsBy_117 : decode cX5_lastsBy 117 = .ok (.aload_n 0, 1) := by decide +kernel
theorem dX5_lastsBy_118 : decode cX5_lastsBy 118 = .ok (.getfield 41, 3) := by decide +kernel
theorem dX5_lastsBy_121 : decode cX5_lastsBy 121 = .ok (.iconst 0, 1) := by decide +kernel
theorem dX5_lastsBy_122 : decode cX5_lastsBy 122 = .ok (.iaload, 1) := by decide +kernel
theorem dX5_lastsBy_123 : decode cX5_lastsBy 123 = .ok (.if_icmp .lt 7, 3) := by decide +kernel
theorem dX5_lastsBy_126 : decode cX5_lastsBy 126 = .ok (.iconst 1, 1) := by decide +kernel
theorem dX5_lastsBy_127 : decode cX5_lastsBy 127 = .ok (.goto 4, 3) := by decide +kernel
theorem dX5_lastsBy_130 : decode cX5_lastsBy 130 = .ok (.iconst 0, 1) := by decide +kernel
theorem dX5_lastsBy_131 : decode cX5_lastsBy 131 = .ok (.istore 11, 2) := by decide +kernel
theorem dX5_lastsBy_133 : decode cX5_lastsBy 133 = .ok (.iload 4, 2) := by decide +kernel
theorem dX5_lastsBy_135 : decode cX5_lastsBy 135 = .ok (.aload_n 0, 1) := by decide +kernel
theorem dX5_lastsBy_136 : decode cX5_lastsBy 136 = .ok (.getfield 41, 3) := by decide +kernel
theorem dX5_lastsBy_139 : decode cX5_lastsBy 139 = .ok (.iconst 0, 1) := by decide +kernel
theorem dX5_lastsBy_140 : decode cX5_lastsBy 140 = .ok (.iaload, 1) := by decide +kernel
theorem dX5_lastsBy_141 : decode cX5_lastsBy 141 = .ok (.isub, 1) := by decide +kernel
theorem dX5_lastsBy_142 : decode cX5_lastsBy 142 = .ok (.istore 4, 2) := by decide +kernel
theorem dX5_lastsBy_144 : decode cX5_lastsBy 144 = .ok (.iconst 0, 1) := by decide +kernel
theorem dX5_lastsBy_145 : decode cX5_lastsBy 145 = .ok (.istore 12, 2) := by decide +kernel
theorem dX5_lastsBy_147 : decode cX5_lastsBy 147 = .ok (.iload 12, 2) := by decide +kernel
theorem dX5_lastsBy_149 : decode cX5_lastsBy 149 = .ok (.iload_n 1, 1) := by decide +kernel
theorem dX5_lastsBy_150 : decode cX5_lastsBy 150 = .ok (.if_icmp .ge 91, 3) := by decide +kernel
theorem dX5_lastsBy_153 : decode cX5_lastsBy 153 = .ok (.iload 11, 2) := by decide +kernel
theorem dX5_lastsBy_155 : decode cX5_lastsBy 155 = .ok (.ifCond .eq 86, 3) := by decide +kernel
theorem dX5_lastsBy_158 : decode cX5_lastsBy 158 = .ok (.iload 10, 2) := by decide +kernel
theorem dX5_lastsBy_160 : decode cX5_lastsBy 160 = .ok (.iload 9, 2) := by decide +kernel
theorem dX5_lastsBy_162 : decode cX5_lastsBy 162 = .ok (.if_icmp .lt 11, 3) := by decide +kernel
theorem dX5_lastsBy_165 : decode cX5_lastsBy 165 = .ok (.iload_n 2, 1) := by decide +kernel
theorem dX5_lastsBy_166 : decode cX5_lastsBy 166 = .ok (.ifCond .le 7, 3) := by decide +kernel
theorem dX5_lastsBy_169 : decode cX5_lastsBy 169 = .ok (.iconst 1, 1) := by decide +kernel
theorem dX5_lastsBy_170 : decode cX5_lastsBy 170 = .ok (.goto 4, 3) := by decide +kernel
theorem dX5_lastsBy_173 : decode cX5_lastsBy 173 = .ok (.iconst 0, 1) := by decide +kernel
theorem dX5_lastsBy_174 : decode cX5_lastsBy 174 = .ok (.istore 11, 2) := by decide +kernel
theorem dX5_lastsBy_176 : decode cX5_lastsBy 176 = .ok (.iload 10, 2) := by decide +kernel
theorem dX5_lastsBy_178 : decode cX5_lastsBy 178 = .ok (.iload 9, 2) := by decide +kernel
theorem dX5_lastsBy_180 : decode cX5_lastsBy 180 = .ok (.isub, 1) := by decide +kernel
theorem dX5_lastsBy_181 : decode cX5_lastsBy 181 = .ok (.istore 10, 2) := by decide +kernel
theorem dX5_lastsBy_183 : decode cX5_lastsBy 183 = .ok (.iinc 2 (-1), 3) := by decide +kernel
theorem dX5_lastsBy_186 : decode cX5_lastsBy 186 = .ok (.iload 5, 2) := by decide +kernel
theorem dX5_lastsBy_188 : decode cX5_lastsBy 188 = .ok (.iload 8, 2) := by decide +kernel
theorem dX5_lastsBy_190 : decode cX5_lastsBy 190 = .ok (.ifCond .eq 7, 3) := by decide +kernel
theorem dX5_lastsBy_193 : decode cX5_lastsBy 193 = .ok (.iconst 2, 1) := by decide +kernel
theorem dX5_lastsBy_194 : decode cX5_lastsBy 194 = .ok (.goto 4, 3) := by decide +kernel
theorem dX5_lastsBy_197 : decode cX5_lastsBy 197 = .ok (.iconst 1, 1) := by decide +kernel
theorem dX5_lastsBy_198 : decode cX5_lastsBy 198 = .ok (.iadd, 1) := by decide +kernel
theorem dX5_lastsBy_199 : decode cX5_lastsBy 199 = .ok (.istore 5, 2) := by decide +kernel
theorem dX5_lastsBy_201 : decode cX5_lastsBy 201 = .ok (.iload 11, 2) := by decide +kernel
theorem dX5_lastsBy_203 : decode cX5_lastsBy 203 = .ok (.ifCond .eq 32, 3) := by decide +kernel
theorem dX5_lastsBy_206 : decode cX5_lastsBy 206 = .ok (.iload 5, 2) := by decide +kernel
theorem dX5_lastsBy_208 : decode cX5_lastsBy 208 = .ok (.aload_n 0, 1) := by decide +kernel
theorem dX5_lastsBy_209 : decode cX5_lastsBy 209 = .ok (.getfield 41, 3) := by decide +kernel
theorem dX5_lastsBy_212 : decode cX5_lastsBy 212 = .ok (.iconst 4, 1) := by decide +kernel
theorem dX5_lastsBy_213 : decode cX5_lastsBy 213 = .ok (.iaload, 1) := by decide +kernel
theorem dX5_lastsBy_214 : decode cX5_lastsBy 214 = .ok (.if_icmp .lt 21, 3) := by decide +kernel
theorem dX5_lastsBy_217 : decode cX5_lastsBy 217 = .ok (.iload_n 3, 1) := by decide +kernel
theorem dX5_lastsBy_218 : decode cX5_lastsBy 218 = .ok (.iconst 3, 1) := by decide +kernel
theorem dX5_lastsBy_219 : decode cX5_lastsBy 219 = .ok (.if_icmp .lt 7, 3) := by decide +kernel
theorem dX5_lastsBy_222 : decode cX5_lastsBy 222 = .ok (.iconst 1, 1) := by decide +kernel
theorem dX5_lastsBy_223 : decode cX5_lastsBy 223 = .ok (.goto 4, 3) := by decide +kernel
theorem dX5_lastsBy_226 : decode cX5_lastsBy 226 = .ok (.iconst 0, 1) := by decide +kernel
theorem dX5_lastsBy_227 : decode cX5_lastsBy 227 = .ok (.istore 11, 2) := by decide +kernel
theorem dX5_lastsBy_229 : decode cX5_lastsBy 229 = .ok (.iinc 3 (-3), 3) := by decide +kernel
theorem dX5_lastsBy_232 : decode cX5_lastsBy 232 = .ok (.iconst 0, 1) := by decide +kernel
theorem dX5_lastsBy_233 : decode cX5_lastsBy 233 = .ok (.istore 5, 2) := by decide +kernel
theorem dX5_lastsBy_235 : decode cX5_lastsBy 235 = .ok (.iinc 12 1, 3) := by decide +kernel
theorem dX5_lastsBy_238 : decode cX5_lastsBy 238 = .ok (.goto (-91), 3) := by decide +kernel
theorem dX5_lastsBy_241 : decode cX5_lastsBy 241 = .ok (.iload 11, 2) := by decide +kernel
theorem dX5_lastsBy_243 : decode cX5_lastsBy 243 = .ok (.ifCond .ne 6, 3) := by decide +kernel
theorem dX5_lastsBy_246 : decode cX5_lastsBy 246 = .ok (.iload 7, 2) := by decide +kernel
theorem dX5_lastsBy_248 : decode cX5_lastsBy 248 = .ok (.ireturn, 1) := by decide +kernel
theorem dX5_lastsBy_249 : decode cX5_lastsBy 249 = .ok (.iinc 7 1, 3) := by decide +kernel
theorem dX5_lastsBy_252 : decode cX5_lastsBy 252 = .ok (.goto (-201), 3) := by decide +kernel
theorem dX5_lastsBy_255 : decode cX5_lastsBy 255 = .ok (.bipush 100, 2) := by decide +kernel
theorem dX5_lastsBy_257 : decode cX5_lastsBy 257 = .ok (.ireturn, 1) := by decide +kernel
theorem dX5_lasts_0 : decode cX5_lasts 0 = .ok (.iload_n 1, 1) := by decide +kernel
theorem dX5_lasts_1 : decode cX5_lasts 1 = .ok (.iconst 0, 1) := by decide +kernel
theorem dX5_lasts_2 : decode cX5_lasts 2 = .ok (.bipush 60, 2) := by decide +kernel
theorem dX5_lasts_4 : decode cX5_lasts 4 = .ok (.invokestatic 71, 3) := by decide +kernel
theorem dX5_lasts_7 : decode cX5_lasts 7 = .ok (.ifCond .eq 11, 3) := by decide +kernel
theorem dX5_lasts_10 : decode cX5_lasts 10 = .ok (.aload_n 0, 1) := by decide +kernel
theorem dX5_lasts_11 : decode cX5_lasts 11 = .ok (.iload_n 1, 1) := by decide +kernel
theorem dX5_lasts_12 : decode cX5_lasts 12 = .ok (.invokevirtual 200, 3) := by decide +kernel
theorem dX5_lasts_15 : decode cX5_lasts 15 = .ok (.goto 4, 3) := by decide +kernel
theorem dX5_lasts_18 : decode cX5_lasts 18 = .ok (.iconst (-1), 1) := by decide +kernel
theorem dX5_lasts_19 : decode cX5_lasts 19 = .ok (.ireturn, 1) := by decide +kernel
theorem dX5_rate_0 : decode cX5_rate 0 = .ok (.iload_n 1, 1) := by decide +kernel
theorem dX5_rate_1 : decode cX5_rate 1 = .ok (.iconst 1, 1) := by decide +kernel
theorem dX5_rate_2 : decode cX5_rate 2 = .ok (.bipush 100, 2) := by decide +kernel
theorem dX5_rate_4 : decode cX5_rate 4 = .ok (.invokestatic 71, 3) := by decide +kernel
theorem dX5_rate_7 : decode cX5_rate 7 = .ok (.ifCond .ne 5, 3) := by decide +kernel
theorem dX5_rate_10 : decode cX5_rate 10 = .ok (.iconst (-1), 1) := by decide +kernel
theorem dX5_rate_11 : decode cX5_rate 11 = .ok (.ireturn, 1) := by decide +kernel
theorem dX5_rate_12 : decode cX5_rate 12 = .ok (.bipush 60, 2) := by decide +kernel
theorem dX5_rate_14 : decode cX5_rate 14 = .ok (.istore_n 2, 1) := by decide +kernel
theorem dX5_rate_15 : decode cX5_rate 15 = .ok (.iload_n 2, 1) := by decide +kernel
theorem dX5_rate_16 : decode cX5_rate 16 = .ok (.ifCond .lt 20, 3) := by decide +kernel
theorem dX5_rate_19 : decode cX5_rate 19 = .ok (.aload_n 0, 1) := by decide +kernel
theorem dX5_rate_20 : decode cX5_rate 20 = .ok (.iload_n 2, 1) := by decide +kernel
theorem dX5_rate_21 : decode cX5_rate 21 = .ok (.invokevirtual 200, 3) := by decide +kernel
theorem dX5_rate_24 : decode cX5_rate 24 = .ok (.iload_n 1, 1) := by decide +kernel
theorem dX5_rate_25 : decode cX5_rate 25 = .ok (.if_icmp .lt 5, 3) := by decide +kernel
theorem dX5_rate_28 : decode cX5_rate 28 = .ok (.iload_n 2, 1) := by decide +kernel
theorem dX5_rate_29 : decode cX5_rate 29 = .ok (.ireturn, 1) := by decide +kernel
theorem dX5_rate_30 : decode cX5_rate 30 = .ok (.iinc 2 (-1), 3) := by decide +kernel
theorem dX5_rate_33 : decode cX5_rate 33 = .ok (.goto (-18), 3) := by decide +kernel
theorem dX5_rate_36 : decode cX5_rate 36 = .ok (.bipush (-9), 2) := by decide +kernel
theorem dX5_rate_38 : decode cX5_rate 38 = .ok (.ireturn, 1) := by decide +kernel
theorem dX5_count_0 : decode cX5_count 0 = .ok (.iconst 0, 1) := by decide +kernel
theorem dX5_count_1 : decode cX5_count 1 = .ok (.istore_n 2, 1) := by decide +kernel
theorem dX5_count_2 : decode cX5_count 2 = .ok (.iload_n 1, 1) := by decide +kernel
theorem dX5_count_3 : decode cX5_count 3 = .ok (.tableswitch 141 0 7 #[45, 50, 55, 60, 86, 91, 96, 103], 45) := by decide +kernel
theorem dX5_count_48 : decode cX5_count 48 = .ok (.aload_n 0, 1) := by decide +kernel
theorem dX5_count_49 : decode cX5_count 49 = .ok (.getfield 82, 3) := by decide +kernel
theorem dX5_count_52 : decode cX5_count 52 = .ok (.ireturn, 1) := by decide +kernel
theorem dX5_count_53 : decode cX5_count 53 = .ok (.aload_n 0, 1) := by decide +kernel
theorem dX5_count_54 : decode cX5_count 54 = .ok (.getfield 23, 3) := by decide +kernel
theorem dX5_count_57 : decode cX5_count 57 = .ok (.ireturn, 1) := by decide +kernel
theorem dX5_count_58 : decode cX5_count 58 = .ok (.aload_n 0, 1) := by decide +kernel
theorem dX5_count_59 : decode cX5_count 59 = .ok (.getfield 26, 3) := by decide +kernel
theorem dX5_count_62 : decode cX5_count 62 = .ok (.ireturn, 1) := by decide +kernel
theorem dX5_count_63 : decode cX5_count 63 = .ok (.iconst 0, 1) := by decide +kernel
theorem dX5_count_64 : decode cX5_count 64 = .ok (.istore_n 3, 1) := by decide +kernel
theorem dX5_count_65 : decode cX5_count 65 = .ok (.iload_n 3, 1) := by decide +kernel
theorem dX5_count_66 : decode cX5_count 66 = .ok (.aload_n 0, 1) := by decide +kernel
theorem dX5_count_67 : decode cX5_count 67 = .ok (.getfield 23, 3) := by decide +kernel
theorem dX5_count_70 : decode cX5_count 70 = .ok (.if_icmp .ge 17, 3) := by decide +kernel
theorem dX5_count_73 : decode cX5_count 73 = .ok (.iload_n 2, 1) := by decide +kernel
theorem dX5_count_74 : decode cX5_count 74 = .ok (.aload_n 0, 1) := by decide +kernel
theorem dX5_count_75 : decode cX5_count 75 = .ok (.iload_n 3, 1) := by decide +kernel
theorem dX5_count_76 : decode cX5_count 76 = .ok (.invokevirtual 170, 3) := by decide +kernel
theorem dX5_count_79 : decode cX5_count 79 = .ok (.iadd, 1) := by decide +kernel
theorem dX5_count_80 : decode cX5_count 80 = .ok (.istore_n 2, 1) := by decide +kernel
theorem dX5_count_81 : decode cX5_count 81 = .ok (.iinc 3 1, 3) := by decide +kernel
theorem dX5_count_84 : decode cX5_count 84 = .ok (.goto (-19), 3) := by decide +kernel
theorem dX5_count_87 : decode cX5_count 87 = .ok (.iload_n 2, 1) := by decide +kernel
theorem dX5_count_88 : decode cX5_count 88 = .ok (.ireturn, 1) := by decide +kernel
theorem dX5_count_89 : decode cX5_count 89 = .ok (.aload_n 0, 1) := by decide +kernel
theorem dX5_count_90 : decode cX5_count 90 = .ok (.getfield 141, 3) := by decide +kernel
theorem dX5_count_93 : decode cX5_count 93 = .ok (.ireturn, 1) := by decide +kernel
theorem dX5_count_94 : decode cX5_count 94 = .ok (.aload_n 0, 1) := by decide +kernel
theorem dX5_count_95 : decode cX5_count 95 = .ok (.getfield 194, 3) := by decide +kernel
theorem dX5_count_98 : decode cX5_count 98 = .ok (.ireturn, 1) := by decide +kernel
theorem dX5_count_99 : decode cX5_count 99 = .ok (.aload_n 0, 1) := by decide +kernel
theorem dX5_count_100 : decode cX5_count 100 = .ok (.getfield 41, 3) := by decide +kernel
theorem dX5_count_103 : decode cX5_count 103 = .ok (.iconst 1, 1) := by decide +kernel
theorem dX5_count_104 : decode cX5_count 104 = .ok (.iaload, 1) := by decide +kernel
theorem dX5_count_105 : decode cX5_count 105 = .ok (.ireturn, 1) := by decide +kernel
theorem dX5_count_106 : decode cX5_count 106 = .ok (.iconst 0, 1) := by decide +kernel
theorem dX5_count_107 : decode cX5_count 107 = .ok (.istore_n 3, 1) := by decide +kernel
theorem dX5_count_108 : decode cX5_count 108 = .ok (.iload_n 3, 1) := by decide +kernel
theorem dX5_count_109 : decode cX5_count 109 = .ok (.aload_n 0, 1) := by decide +kernel
theorem dX5_count_110 : decode cX5_count 110 = .ok (.getfield 23, 3) := by decide +kernel
theorem dX5_count_113 : decode cX5_count 113 = .ok (.if_icmp .ge 29, 3) := by decide +kernel
theorem dX5_count_116 : decode cX5_count 116 = .ok (.iload_n 2, 1) := by decide +kernel
theorem dX5_count_117 : decode cX5_count 117 = .ok (.aload_n 0, 1) := by decide +kernel
theorem dX5_count_118 : decode cX5_count 118 = .ok (.iload_n 3, 1) := by decide +kernel
theorem dX5_count_119 : decode cX5_count 119 = .ok (.invokevirtual 170, 3) := by decide +kernel
theorem dX5_count_122 : decode cX5_count 122 = .ok (.aload_n 0, 1) := by decide +kernel
theorem dX5_count_123 : decode cX5_count 123 = .ok (.getfield 167, 3) := by decide +kernel
theorem dX5_count_126 : decode cX5_count 126 = .ok (.if_icmp .gt 7, 3) := by decide +kernel
theorem dX5_count_129 : decode cX5_count 129 = .ok (.iconst 1, 1) := by decide +kernel
theorem dX5_count_130 : decode cX5_count 130 = .ok (.goto 4, 3) := by decide +kernel
theorem dX5_count_133 : decode cX5_count 133 = .ok (.iconst 0, 1) := by decide +kernel
theorem dX5_count_134 : decode cX5_count 134 = .ok (.iadd, 1) := by decide +kernel
theorem dX5_count_135 : decode cX5_count 135 = .ok (.istore_n 2, 1) := by decide +kernel
theorem dX5_count_136 : decode cX5_count 136 = .ok (.iinc 3 1, 3) := by decide +kernel
theorem dX5_count_139 : decode cX5_count 139 = .ok (.goto (-31), 3) := by decide +kernel
theorem dX5_count_142 : decode cX5_count 142 = .ok (.iload_n 2, 1) := by decide +kernel
theorem dX5_count_143 : decode cX5_count 143 = .ok (.ireturn, 1) := by decide +kernel
theorem dX5_count_144 : decode cX5_count 144 = .ok (.iconst (-1), 1) := by decide +kernel
theorem dX5_count_145 : decode cX5_count 145 = .ok (.ireturn, 1) := by decide +kernel
theorem dX5_trace_0 : decode cX5_trace 0 = .ok (.aload_n 0, 1) := by decide +kernel
theorem dX5_trace_1 : decode cX5_trace 1 = .ok (.getfield 133, 3) := by decide +kernel
theorem dX5_trace_4 : decode cX5_trace 4 = .ok (.lreturn, 1) := by decide +kernel
theorem dJ6_bitCount_0f7a4_0 : decode cJ6_bitCount_0f7a4 0 = .ok (.iload_n 0, 1) := by decide +kernel
theorem dJ6_bitCount_0f7a4_1 : decode cJ6_bitCount_0f7a4 1 = .ok (.iload_n 0, 1) := by decide +kernel
theorem dJ6_bitCount_0f7a4_2 : decode cJ6_bitCount_0f7a4 2 = .ok (.iconst 1, 1) := by decide +kernel
theorem dJ6_bitCount_0f7a4_3 : decode cJ6_bitCount_0f7a4 3 = .ok (.iushr, 1) := by decide +kernel
theorem dJ6_bitCount_0f7a4_4 : decode cJ6_bitCount_0f7a4 4 = .ok (.ldc_w 265, 3) := by decide +kernel
theorem dJ6_bitCount_0f7a4_7 : decode cJ6_bitCount_0f7a4 7 = .ok (.iand, 1) := by decide +kernel
theorem dJ6_bitCount_0f7a4_8 : decode cJ6_bitCount_0f7a4 8 = .ok (.isub, 1) := by decide +kernel
theorem dJ6_bitCount_0f7a4_9 : decode cJ6_bitCount_0f7a4 9 = .ok (.istore_n 0, 1) := by decide +kernel
theorem dJ6_bitCount_0f7a4_10 : decode cJ6_bitCount_0f7a4 10 = .ok (.iload_n 0, 1) := by decide +kernel
theorem dJ6_bitCount_0f7a4_11 : decode cJ6_bitCount_0f7a4 11 = .ok (.ldc_w 266, 3) := by decide +kernel
theorem dJ6_bitCount_0f7a4_14 : decode cJ6_bitCount_0f7a4 14 = .ok (.iand, 1) := by decide +kernel
theorem dJ6_bitCount_0f7a4_15 : decode cJ6_bitCount_0f7a4 15 = .ok (.iload_n 0, 1) := by decide +kernel
theorem dJ6_bitCount_0f7a4_16 : decode cJ6_bitCount_0f7a4 16 = .ok (.iconst 2, 1) := by decide +kernel
theorem dJ6_bitCount_0f7a4_17 : decode cJ6_bitCount_0f7a4 17 = .ok (.iushr, 1) := by decide +kernel
theorem dJ6_bitCount_0f7a4_18 : decode cJ6_bitCount_0f7a4 18 = .ok (.ldc_w 266, 3) := by decide +kernel
theorem dJ6_bitCount_0f7a4_21 : decode cJ6_bitCount_0f7a4 21 = .ok (.iand, 1) := by decide +kernel
theorem dJ6_bitCount_0f7a4_22 : decode cJ6_bitCount_0f7a4 22 = .ok (.iadd, 1) := by decide +kernel
theorem dJ6_bitCount_0f7a4_23 : decode cJ6_bitCount_0f7a4 23 = .ok (.istore_n 0, 1) := by decide +kernel
theorem dJ6_bitCount_0f7a4_24 : decode cJ6_bitCount_0f7a4 24 = .ok (.iload_n 0, 1) := by decide +kernel
theorem dJ6_bitCount_0f7a4_25 : decode cJ6_bitCount_0f7a4 25 = .ok (.iload_n 0, 1) := by decide +kernel
theorem dJ6_bitCount_0f7a4_26 : decode cJ6_bitCount_0f7a4 26 = .ok (.iconst 4, 1) := by decide +kernel
theorem dJ6_bitCount_0f7a4_27 : decode cJ6_bitCount_0f7a4 27 = .ok (.iushr, 1) := by decide +kernel
theorem dJ6_bitCount_0f7a4_28 : decode cJ6_bitCount_0f7a4 28 = .ok (.iadd, 1) := by decide +kernel
theorem dJ6_bitCount_0f7a4_29 : decode cJ6_bitCount_0f7a4 29 = .ok (.ldc_w 267, 3) := by decide +kernel
theorem dJ6_bitCount_0f7a4_32 : decode cJ6_bitCount_0f7a4 32 = .ok (.iand, 1) := by decide +kernel
theorem dJ6_bitCount_0f7a4_33 : decode cJ6_bitCount_0f7a4 33 = .ok (.istore_n 0, 1) := by decide +kernel
theorem dJ6_bitCount_0f7a4_34 : decode cJ6_bitCount_0f7a4 34 = .ok (.iload_n 0, 1) := by decide +kernel
theorem dJ6_bitCount_0f7a4_35 : decode cJ6_bitCount_0f7a4 35 = .ok (.iload_n 0, 1) := by decide +kernel
theorem dJ6_bitCount_0f7a4_36 : decode cJ6_bitCount_0f7a4 36 = .ok (.bipush 8, 2) := by decide +kernel
theorem dJ6_bitCount_0f7a4_38 : decode cJ6_bitCount_0f7a4 38 = .ok (.iushr, 1) := by decide +kernel
theorem dJ6_bitCount_0f7a4_39 : decode cJ6_bitCount_0f7a4 39 = .ok (.iadd, 1) := by decide +kernel
theorem dJ6_bitCount_0f7a4_40 : decode cJ6_bitCount_0f7a4 40 = .ok (.istore_n 0, 1) := by decide +kernel
theorem dJ6_bitCount_0f7a4_41 : decode cJ6_bitCount_0f7a4 41 = .ok (.iload_n 0, 1) := by decide +kernel
theorem dJ6_bitCount_0f7a4_42 : decode cJ6_bitCount_0f7a4 42 = .ok (.iload_n 0, 1) := by decide +kernel
theorem dJ6_bitCount_0f7a4_43 : decode cJ6_bitCount_0f7a4 43 = .ok (.bipush 16, 2) := by decide +kernel
theorem dJ6_bitCount_0f7a4_45 : decode cJ6_bitCount_0f7a4 45 = .ok (.iushr, 1) := by decide +kernel
theorem dJ6_bitCount_0f7a4_46 : decode cJ6_bitCount_0f7a4 46 = .ok (.iadd, 1) := by decide +kernel
theorem dJ6_bitCount_0f7a4_47 : decode cJ6_bitCount_0f7a4 47 = .ok (.istore_n 0, 1) := by decide +kernel
theorem dJ6_bitCount_0f7a4_48 : decode cJ6_bitCount_0f7a4 48 = .ok (.iload_n 0, 1) := by decide +kernel
theorem dJ6_bitCount_0f7a4_49 : decode cJ6_bitCount_0f7a4 49 = .ok (.bipush 63, 2) := by decide +kernel
theorem dJ6_bitCount_0f7a4_51 : decode cJ6_bitCount_0f7a4 51 = .ok (.iand, 1) := by decide +kernel
theorem dJ6_bitCount_0f7a4_52 : decode cJ6_bitCount_0f7a4 52 = .ok (.ireturn, 1) := by decide +kernel
theorem dJ9_floorDiv_f86c9_0 : decode cJ9_floorDiv_f86c9 0 = .ok (.lload_n 0, 1) := by decide +kernel
theorem dJ9_floorDiv_f86c9_1 : decode cJ9_floorDiv_f86c9 1 = .ok (.lload_n 2, 1) := by decide +kernel
theorem dJ9_floorDiv_f86c9_2 : decode cJ9_floorDiv_f86c9 2 = .ok (.ldiv, 1) := by decide +kernel
theorem dJ9_floorDiv_f86c9_3 : decode cJ9_floorDiv_f86c9 3 = .ok (.lstore 4, 2) := by decide +kernel
theorem dJ9_floorDiv_f86c9_5 : decode cJ9_floorDiv_f86c9 5 = .ok (.lload_n 0, 1) := by decide +kernel
theorem dJ9_floorDiv_f86c9_6 : decode cJ9_floorDiv_f86c9 6 = .ok (.lload_n 2, 1) := by decide +kernel
theorem dJ9_floorDiv_f86c9_7 : decode cJ9_floorDiv_f86c9 7 = .ok (.lxor, 1) := by decide +kernel
theorem dJ9_floorDiv_f86c9_8 : decode cJ9_floorDiv_f86c9 8 = .ok (.lconst 0, 1) := by decide +kernel
theorem dJ9_floorDiv_f86c9_9 : decode cJ9_floorDiv_f86c9 9 = .ok (.lcmp, 1) := by decide +kernel
theorem dJ9_floorDiv_f86c9_10 : decode cJ9_floorDiv_f86c9 10 = .ok (.ifCond .ge 17, 3) := by decide +kernel
theorem dJ9_floorDiv_f86c9_13 : decode cJ9_floorDiv_f86c9 13 = .ok (.lload 4, 2) := by decide +kernel
theorem dJ9_floorDiv_f86c9_15 : decode cJ9_floorDiv_f86c9 15 = .ok (.lload_n 2, 1) := by decide +kernel
theorem dJ9_floorDiv_f86c9_16 : decode cJ9_floorDiv_f86c9 16 = .ok (.lmul, 1) := by decide +kernel
theorem dJ9_floorDiv_f86c9_17 : decode cJ9_floorDiv_f86c9 17 = .ok (.lload_n 0, 1) := by decide +kernel
theorem dJ9_floorDiv_f86c9_18 : decode cJ9_floorDiv_f86c9 18 = .ok (.lcmp, 1) := by decide +kernel
theorem dJ9_floorDiv_f86c9_19 : decode cJ9_floorDiv_f86c9 19 = .ok (.ifCond .eq 8, 3) := by decide +kernel
theorem dJ9_floorDiv_f86c9_22 : decode cJ9_floorDiv_f86c9 22 = .ok (.lload 4, 2) := by decide +kernel
theorem dJ9_floorDiv_f86c9_24 : decode cJ9_floorDiv_f86c9 24 = .ok (.lconst 1, 1) := by decide +kernel
theorem dJ9_floorDiv_f86c9_25 : decode cJ9_floorDiv_f86c9 25 = .ok (.lsub, 1) := by decide +kernel
theorem dJ9_floorDiv_f86c9_26 : decode cJ9_floorDiv_f86c9 26 = .ok (.lreturn, 1) := by decide +kernel
theorem dJ9_floorDiv_f86c9_27 : decode cJ9_floorDiv_f86c9 27 = .ok (.lload 4, 2) := by decide +kernel
theorem dJ9_floorDiv_f86c9_29 : decode cJ9_floorDiv_f86c9 29 = .ok (.lreturn, 1) := by decide +kernel
theorem dJ9_abs_0f7a4_0 : decode cJ9_abs_0f7a4 0 = .ok (.iload_n 0, 1) := by decide +kernel
theorem dJ9_abs_0f7a4_1 : decode cJ9_abs_0f7a4 1 = .ok (.ifCond .ge 8, 3) := by decide +kernel
theorem dJ9_abs_0f7a4_4 : decode cJ9_abs_0f7a4 4 = .ok (.iload_n 0, 1) := by decide +kernel
theorem dJ9_abs_0f7a4_5 : decode cJ9_abs_0f7a4 5 = .ok (.ineg, 1) := by decide +kernel
theorem dJ9_abs_0f7a4_6 : decode cJ9_abs_0f7a4 6 = .ok (.goto 4, 3) := by decide +kernel
theorem dJ9_abs_0f7a4_9 : decode cJ9_abs_0f7a4 9 = .ok (.iload_n 0, 1) := by decide +kernel
theorem dJ9_abs_0f7a4_10 : decode cJ9_abs_0f7a4 10 = .ok (.ireturn, 1) := by decide +kernel
theorem dJ9_max_7cf53_0 : decode cJ9_max_7cf53 0 = .ok (.iload_n 0, 1) := by decide +kernel
theorem dJ9_max_7cf53_1 : decode cJ9_max_7cf53 1 = .ok (.iload_n 1, 1) := by decide +kernel
theorem dJ9_max_7cf53_2 : decode cJ9_max_7cf53 2 = .ok (.if_icmp .lt 7, 3) := by decide +kernel
theorem dJ9_max_7cf53_5 : decode cJ9_max_7cf53 5 = .ok (.iload_n 0, 1) := by decide +kernel
theorem dJ9_max_7cf53_6 : decode cJ9_max_7cf53 6 = .ok (.goto 4, 3) := by decide +kernel
theorem dJ9_max_7cf53_9 : decode cJ9_max_7cf53 9 = .ok (.iload_n 1, 1) := by decide +kernel
theorem dJ9_max_7cf53_10 : decode cJ9_max_7cf53 10 = .ok (.ireturn, 1) := by decide +kernel
theorem dJ9_max_f86c9_0 : decode cJ9_max_f86c9 0 = .ok (.lload_n 0, 1) := by decide +kernel
theorem dJ9_max_f86c9_1 : decode cJ9_max_f86c9 1 = .ok (.lload_n 2, 1) := by decide +kernel
theorem dJ9_max_f86c9_2 : decode cJ9_max_f86c9 2 = .ok (.lcmp, 1) := by decide +kernel
theorem dJ9_max_f86c9_3 : decode cJ9_max_f86c9 3 = .ok (.ifCond .lt 7, 3) := by decide +kernel
theorem dJ9_max_f86c9_6 : decode cJ9_max_f86c9 6 = .ok (.lload_n 0, 1) := by decide +kernel
theorem dJ9_max_f86c9_7 : decode cJ9_max_f86c9 7 = .ok (.goto 4, 3) := by decide +kernel
theorem dJ9_max_f86c9_10 : decode cJ9_max_f86c9 10 = .ok (.lload_n 2, 1) := by decide +kernel
theorem dJ9_max_f86c9_11 : decode cJ9_max_f86c9 11 = .ok (.lreturn, 1) := by decide +kernel
theorem dJ9_min_7cf53_0 : decode cJ9_min_7cf53 0 = .ok (.iload_n 0, 1) := by decide +kernel
theorem dJ9_min_7cf53_1 : decode cJ9_min_7cf53 1 = .ok (.iload_n 1, 1) := by decide +kernel
theorem dJ9_min_7cf53_2 : decode cJ9_min_7cf53 2 = .ok (.if_icmp .gt 7, 3) := by decide +kernel
theorem dJ9_min_7cf53_5 : decode cJ9_min_7cf53 5 = .ok (.iload_n 0, 1) := by decide +kernel
theorem dJ9_min_7cf53_6 : decode cJ9_min_7cf53 6 = .ok (.goto 4, 3) := by decide +kernel
theorem dJ9_min_7cf53_9 : decode cJ9_min_7cf53 9 = .ok (.iload_n 1, 1) := by decide +kernel
theorem dJ9_min_7cf53_10 : decode cJ9_min_7cf53 10 = .ok (.ireturn, 1) := by decide +kernel
theorem dJ9_min_f86c9_0 : decode cJ9_min_f86c9 0 = .ok (.lload_n 0, 1) := by decide +kernel
theorem dJ9_min_f86c9_1 : decode cJ9_min_f86c9 1 = .ok (.lload_n 2, 1) := by decide +kernel
theorem dJ9_min_f86c9_2 : decode cJ9_min_f86c9 2 = .ok (.lcmp, 1) := by decide +kernel
theorem dJ9_min_f86c9_3 : decode cJ9_min_f86c9 3 = .ok (.ifCond .gt 7, 3) := by decide +kernel
theorem dJ9_min_f86c9_6 : decode cJ9_min_f86c9 6 = .ok (.lload_n 0, 1) := by decide +kernel
theorem dJ9_min_f86c9_7 : decode cJ9_min_f86c9 7 = .ok (.goto 4, 3) := by decide +kernel
theorem dJ9_min_f86c9_10 : decode cJ9_min_f86c9 10 = .ok (.lload_n 2, 1) := by decide +kernel
theorem dJ9_min_f86c9_11 : decode cJ9_min_f86c9 11 = .ok (.lreturn, 1) := by decide +kernel
