theorem dX4_rate_29 : decode cX4_rate 29 = .ok (.ireturn, 1) := by decide +kernel
theorem dX4_count_0 : decode cX4_count 0 = .ok (.iload_n 1, 1) := by decide +kernel
theorem dX4_count_1 : decode cX4_count 1 = .ok (.tableswitch 105 0 7 #[47, 52, 60, 68, 76, 84, 89, 97], 47) := by decide +kernel
theorem dX4_count_48 : decode cX4_count 48 = .ok (.aload_n 0, 1) := by decide +kernel
theorem dX4_count_49 : decode cX4_count 49 = .ok (.getfield 37, 3) := by decide +kernel
theorem dX4_count_52 : decode cX4_count 52 = .ok (.ireturn, 1) := by decide +kernel
theorem dX4_count_53 : decode cX4_count 53 = .ok (.aload_n 0, 1) := by decide +kernel
theorem dX4_count_54 : decode cX4_count 54 = .ok (.getfield 26, 3) := by decide +kernel
theorem dX4_count_57 : decode cX4_count 57 = .ok (.invokevirtual 211, 3) := by decide +kernel
theorem dX4_count_60 : decode cX4_count 60 = .ok (.ireturn, 1) := by decide +kernel
theorem dX4_count_61 : decode cX4_count 61 = .ok (.aload_n 0, 1) := by decide +kernel
theorem dX4_count_62 : decode cX4_count 62 = .ok (.getfield 26, 3) := by decide +kernel
theorem dX4_count_65 : decode cX4_count 65 = .ok (.invokevirtual 214, 3) := by decide +kernel
theorem dX4_count_68 : decode cX4_count 68 = .ok (.ireturn, 1) := by decide +kernel
theorem dX4_count_69 : decode cX4_count 69 = .ok (.aload_n 0, 1) := by decide +kernel
theorem dX4_count_70 : decode cX4_count 70 = .ok (.getfield 26, 3) := by decide +kernel
theorem dX4_count_73 : decode cX4_count 73 = .ok (.invokevirtual 217, 3) := by decide +kernel
theorem dX4_count_76 : decode cX4_count 76 = .ok (.ireturn, 1) := by decide +kernel
theorem dX4_count_77 : decode cX4_count 77 = .ok (.aload_n 0, 1) := by decide +kernel
theorem dX4_count_78 : decode cX4_count 78 = .ok (.getfield 19, 3) := by decide +kernel
theorem dX4_count_81 : decode cX4_count 81 = .ok (.invokevirtual 90, 3) := by decide +kernel
theorem dX4_count_84 : decode cX4_count 84 = .ok (.ireturn, 1) := by decide +kernel
theorem dX4_count_85 : decode cX4_count 85 = .ok (.aload_n 0, 1) := by decide +kernel
theorem dX4_count_86 : decode cX4_count 86 = .ok (.getfield 183, 3) := by decide +kernel
theorem dX4_count_89 : decode cX4_count 89 = .ok (.ireturn, 1) := by decide +kernel
theorem dX4_count_90 : decode cX4_count 90 = .ok (.aload_n 0, 1) := by decide +kernel
theorem dX4_count_91 : decode cX4_count 91 = .ok (.getfield 33, 3) := by decide +kernel
theorem dX4_count_94 : decode cX4_count 94 = .ok (.invokevirtual 181, 3) := by decide +kernel
theorem dX4_count_97 : decode cX4_count 97 = .ok (.ireturn, 1) := by decide +kernel
theorem dX4_count_98 : decode cX4_count 98 = .ok (.aload_n 0, 1) := by decide +kernel
theorem dX4_count_99 : decode cX4_count 99 = .ok (.getfield 26, 3) := by decide +kernel
theorem dX4_count_102 : decode cX4_count 102 = .ok (.invokevirtual 220, 3) := by decide +kernel
theorem dX4_count_105 : decode cX4_count 105 = .ok (.ireturn, 1) := by decide +kernel
theorem dX4_count_106 : decode cX4_count 106 = .ok (.iconst (-1), 1) := by decide +kernel
theorem dX4_count_107 : decode cX4_count 107 = .ok (.ireturn, 1) := by decide +kernel
theorem dX4_trace_0 : decode cX4_trace 0 = .ok (.aload_n 0, 1) := by decide +kernel
theorem dX4_trace_1 : decode cX4_trace 1 = .ok (.getfield 67, 3) := by decide +kernel
theorem dX4_trace_4 : decode cX4_trace 4 = .ok (.lreturn, 1) := by decide +kernel
theorem dX4_within_0 : decode cX4_within 0 = .ok (.iload_n 0, 1) := by decide +kernel
theorem dX4_within_1 : decode cX4_within 1 = .ok (.iload_n 1, 1) := by decide +kernel
theorem dX4_within_2 : decode cX4_within 2 = .ok (.if_icmp .lt 12, 3) := by decide +kernel
theorem dX4_within_5 : decode cX4_within 5 = .ok (.iload_n 0, 1) := by decide +kernel
theorem dX4_within_6 : decode cX4_within 6 = .ok (.iload_n 2, 1) := by decide +kernel
theorem dX4_within_7 : decode cX4_within 7 = .ok (.if_icmp .gt 7, 3) := by decide +kernel
theorem dX4_within_10 : decode cX4_within 10 = .ok (.iconst 1, 1) := by decide +kernel
theorem dX4_within_11 : decode cX4_within 11 = .ok (.goto 4, 3) := by decide +kernel
theorem dX4_within_14 : decode cX4_within 14 = .ok (.iconst 0, 1) := by decide +kernel
theorem dX4_within_15 : decode cX4_within 15 = .ok (.ireturn, 1) := by decide +kernel
theorem dX4_down_0 : decode cX4_down 0 = .ok (.lload_n 2, 1) := by decide +kernel
theorem dX4_down_1 : decode cX4_down 1 = .ok (.lconst 0, 1) := by decide +kernel
theorem dX4_down_2 : decode cX4_down 2 = .ok (.lcmp, 1) := by decide +kernel
theorem dX4_down_3 : decode cX4_down 3 = .ok (.ifCond .le 11, 3) := by decide +kernel
theorem dX4_down_6 : decode cX4_down 6 = .ok (.lload_n 0, 1) := by decide +kernel
theorem dX4_down_7 : decode cX4_down 7 = .ok (.lload_n 2, 1) := by decide +kernel
theorem dX4_down_8 : decode cX4_down 8 = .ok (.invokestatic 223, 3) := by decide +kernel
theorem dX4_down_11 : decode cX4_down 11 = .ok (.goto 4, 3) := by decide +kernel
theorem dX4_down_14 : decode cX4_down 14 = .ok (.lconst 0, 1) := by decide +kernel
theorem dX4_down_15 : decode cX4_down 15 = .ok (.lreturn, 1) := by decide +kernel
theorem dX4_up_0 : decode cX4_up 0 = .ok (.lload_n 2, 1) := by decide +kernel
theorem dX4_up_1 : decode cX4_up 1 = .ok (.lconst 0, 1) := by decide +kernel
theorem dX4_up_2 : decode cX4_up 2 = .ok (.lcmp, 1) := by decide +kernel
theorem dX4_up_3 : decode cX4_up 3 = .ok (.ifCond .le 13, 3) := by decide +kernel
theorem dX4_up_6 : decode cX4_up 6 = .ok (.lload_n 0, 1) := by decide +kernel
theorem dX4_up_7 : decode cX4_up 7 = .ok (.lneg, 1) := by decide +kernel
theorem dX4_up_8 : decode cX4_up 8 = .ok (.lload_n 2, 1) := by decide +kernel
theorem dX4_up_9 : decode cX4_up 9 = .ok (.invokestatic 223, 3) := by decide +kernel
theorem dX4_up_12 : decode cX4_up 12 = .ok (.lneg, 1) := by decide +kernel
theorem dX4_up_13 : decode cX4_up 13 = .ok (.goto 4, 3) := by decide +kernel
theorem dX4_up_16 : decode cX4_up 16 = .ok (.lconst 0, 1) := by decide +kernel
theorem dX4_up_17 : decode cX4_up 17 = .ok (.lreturn, 1) := by decide +kernel
theorem dX4_sineOf_0 : decode cX4_sineOf 0 = .ok (.iload_n 0, 1) := by decide +kernel
theorem dX4_sineOf_1 : decode cX4_sineOf 1 = .ok (.invokestatic 189, 3) := by decide +kernel
theorem dX4_sineOf_4 : decode cX4_sineOf 4 = .ok (.istore_n 1, 1) := by decide +kernel
theorem dX4_sineOf_5 : decode cX4_sineOf 5 = .ok (.iload_n 1, 1) := by decide +kernel
theorem dX4_sineOf_6 : decode cX4_sineOf 6 = .ok (.i2l, 1) := by decide +kernel
theorem dX4_sineOf_7 : decode cX4_sineOf 7 = .ok (.sipush 180, 3) := by decide +kernel
theorem dX4_sineOf_10 : decode cX4_sineOf 10 = .ok (.iload_n 1, 1) := by decide +kernel
theorem dX4_sineOf_11 : decode cX4_sineOf 11 = .ok (.isub, 1) := by decide +kernel
theorem dX4_sineOf_12 : decode cX4_sineOf 12 = .ok (.i2l, 1) := by decide +kernel
theorem dX4_sineOf_13 : decode cX4_sineOf 13 = .ok (.lmul, 1) := by decide +kernel
theorem dX4_sineOf_14 : decode cX4_sineOf 14 = .ok (.lstore_n 2, 1) := by decide +kernel
theorem dX4_sineOf_15 : decode cX4_sineOf 15 = .ok (.ldc2_w 227, 3) := by decide +kernel
theorem dX4_sineOf_18 : decode cX4_sineOf 18 = .ok (.lload_n 2, 1) := by decide +kernel
theorem dX4_sineOf_19 : decode cX4_sineOf 19 = .ok (.lmul, 1) := by decide +kernel
theorem dX4_sineOf_20 : decode cX4_sineOf 20 = .ok (.ldc2_w 229, 3) := by decide +kernel
theorem dX4_sineOf_23 : decode cX4_sineOf 23 = .ok (.lload_n 2, 1) := by decide +kernel
theorem dX4_sineOf_24 : decode cX4_sineOf 24 = .ok (.lsub, 1) := by decide +kernel
theorem dX4_sineOf_25 : decode cX4_sineOf 25 = .ok (.invokestatic 231, 3) := by decide +kernel
theorem dX4_sineOf_28 : decode cX4_sineOf 28 = .ok (.l2i, 1) := by decide +kernel
theorem dX4_sineOf_29 : decode cX4_sineOf 29 = .ok (.istore 4, 2) := by decide +kernel
theorem dX4_sineOf_31 : decode cX4_sineOf 31 = .ok (.iload_n 0, 1) := by decide +kernel
theorem dX4_sineOf_32 : decode cX4_sineOf 32 = .ok (.ifCond .ge 9, 3) := by decide +kernel
theorem dX4_sineOf_35 : decode cX4_sineOf 35 = .ok (.iload 4, 2) := by decide +kernel
theorem dX4_sineOf_37 : decode cX4_sineOf 37 = .ok (.ineg, 1) := by decide +kernel
theorem dX4_sineOf_38 : decode cX4_sineOf 38 = .ok (.goto 5, 3) := by decide +kernel
theorem dX4_sineOf_41 : decode cX4_sineOf 41 = .ok (.iload 4, 2) := by decide +kernel
theorem dX4_sineOf_43 : decode cX4_sineOf 43 = .ok (.ireturn, 1) := by decide +kernel
theorem dX5_init_0 : decode cX5_init 0 = .ok (.aload_n 0, 1) := by decide +kernel
theorem dX5_init_1 : decode cX5_init 1 = .ok (.invokespecial 1, 3) := by decide +kernel
theorem dX5_init_4 : decode cX5_init 4 = .ok (.aload_n 0, 1) := by decide +kernel
theorem dX5_init_5 : decode cX5_init 5 = .ok (.bipush 9, 2) := by decide +kernel
theorem dX5_init_7 : decode cX5_init 7 = .ok (.newarray .int, 2) := by decide +kernel
theorem dX5_init_9 : decode cX5_init 9 = .ok (.dup, 1) := by decide +kernel
theorem dX5_init_10 : decode cX5_init 10 = .ok (.iconst 0, 1) := by decide +kernel
theorem dX5_init_11 : decode cX5_init 11 = .ok (.bipush 12, 2) := by decide +kernel
theorem dX5_init_13 : decode cX5_init 13 = .ok (.iastore, 1) := by decide +kernel
theorem dX5_init_14 : decode cX5_init 14 = .ok (.dup, 1) := by decide +kernel
theorem dX5_init_15 : decode cX5_init 15 = .ok (.iconst 1, 1) := by decide +kernel
theorem dX5_init_16 : decode cX5_init 16 = .ok (.bipush 60, 2) := by decide +kernel
theorem dX5_init_18 : decode cX5_init 18 = .ok (.iastore, 1) := by decide +kernel
theorem dX5_init_19 : decode cX5_init 19 = .ok (.dup, 1) := by decide +kernel
theorem dX5_init_20 : decode cX5_init 20 = .ok (.iconst 2, 1) := by decide +kernel
theorem dX5_init_21 : decode cX5_init 21 = .ok (.sipush 4000, 3) := by decide +kernel
theorem dX5_init_24 : decode cX5_init 24 = .ok (.iastore, 1) := by decide +kernel
theorem dX5_init_25 : decode cX5_init 25 = .ok (.dup, 1) := by decide +kernel
theorem dX5_init_26 : decode cX5_init 26 = .ok (.iconst 3, 1) := by decide +kernel
theorem dX5_init_27 : decode cX5_init 27 = .ok (.bipush 50, 2) := by decide +kernel
theorem dX5_init_29 : decode cX5_init 29 = .ok (.iastore, 1) := by decide +kernel
theorem dX5_init_30 : decode cX5_init 30 = .ok (.dup, 1) := by decide +kernel
theorem dX5_init_31 : decode cX5_init 31 = .ok (.iconst 4, 1) := by decide +kernel
theorem dX5_init_32 : decode cX5_init 32 = .ok (.bipush 30, 2) := by decide +kernel
theorem dX5_init_34 : decode cX5_init 34 = .ok (.iastore, 1) := by decide +kernel
theorem dX5_init_35 : decode cX5_init 35 = .ok (.dup, 1) := by decide +kernel
theorem dX5_init_36 : decode cX5_init 36 = .ok (.iconst 5, 1) := by decide +kernel
theorem dX5_init_37 : decode cX5_init 37 = .ok (.bipush 40, 2) := by decide +kernel
theorem dX5_init_39 : decode cX5_init 39 = .ok (.iastore, 1) := by decide +kernel
theorem dX5_init_40 : decode cX5_init 40 = .ok (.dup, 1) := by decide +kernel
theorem dX5_init_41 : decode cX5_init 41 = .ok (.bipush 6, 2) := by decide +kernel
theorem dX5_init_43 : decode cX5_init 43 = .ok (.bipush 100, 2) := by decide +kernel
theorem dX5_init_45 : decode cX5_init 45 = .ok (.iastore, 1) := by decide +kernel
theorem dX5_init_46 : decode cX5_init 46 = .ok (.dup, 1) := by decide +kernel
theorem dX5_init_47 : decode cX5_init 47 = .ok (.bipush 7, 2) := by decide +kernel
theorem dX5_init_49 : decode cX5_init 49 = .ok (.bipush 50, 2) := by decide +kernel
theorem dX5_init_51 : decode cX5_init 51 = .ok (.iastore, 1) := by decide +kernel
theorem dX5_init_52 : decode cX5_init 52 = .ok (.dup, 1) := by decide +kernel
theorem dX5_init_53 : decode cX5_init 53 = .ok (.bipush 8, 2) := by decide +kernel
theorem dX5_init_55 : decode cX5_init 55 = .ok (.iconst 0, 1) := by decide +kernel
theorem dX5_init_56 : decode cX5_init 56 = .ok (.iastore, 1) := by decide +kernel
theorem dX5_init_57 : decode cX5_init 57 = .ok (.putfield 7, 3) := by decide +kernel
theorem dX5_init_60 : decode cX5_init 60 = .ok (.aload_n 0, 1) := by decide +kernel
theorem dX5_init_61 : decode cX5_init 61 = .ok (.iconst 5, 1) := by decide +kernel
theorem dX5_init_62 : decode cX5_init 62 = .ok (.putfield 13, 3) := by decide +kernel
theorem dX5_init_65 : decode cX5_init 65 = .ok (.aload_n 0, 1) := by decide +kernel
theorem dX5_init_66 : decode cX5_init 66 = .ok (.bipush 16, 2) := by decide +kernel
theorem dX5_init_68 : decode cX5_init 68 = .ok (.newarray .int, 2) := by decide +kernel
theorem dX5_init_70 : decode cX5_init 70 = .ok (.putfield 17, 3) := by decide +kernel
theorem dX5_init_73 : decode cX5_init 73 = .ok (.aload_n 0, 1) := by decide +kernel
theorem dX5_init_74 : decode cX5_init 74 = .ok (.bipush 16, 2) := by decide +kernel
theorem dX5_init_76 : decode cX5_init 76 = .ok (.newarray .int, 2) := by decide +kernel
theorem dX5_init_78 : decode cX5_init 78 = .ok (.putfield 20, 3) := by decide +kernel
theorem dX5_init_81 : decode cX5_init 81 = .ok (.aload_n 0, 1) := by decide +kernel
theorem dX5_init_82 : decode cX5_init 82 = .ok (.iconst 5, 1) := by decide +kernel
theorem dX5_init_83 : decode cX5_init 83 = .ok (.putfield 23, 3) := by decide +kernel
theorem dX5_init_86 : decode cX5_init 86 = .ok (.aload_n 0, 1) := by decide +kernel
theorem dX5_init_87 : decode cX5_init 87 = .ok (.iconst 3, 1) := by decide +kernel
theorem dX5_init_88 : decode cX5_init 88 = .ok (.putfield 26, 3) := by decide +kernel
theorem dX5_init_91 : decode cX5_init 91 = .ok (.aload_n 0, 1) := by decide +kernel
theorem dX5_init_92 : decode cX5_init 92 = .ok (.bipush 48, 2) := by decide +kernel
theorem dX5_init_94 : decode cX5_init 94 = .ok (.newarray .int, 2) := by decide +kernel
theorem dX5_init_96 : decode cX5_init 96 = .ok (.putfield 29, 3) := by decide +kernel
theorem dX5_init_99 : decode cX5_init 99 = .ok (.aload_n 0, 1) := by decide +kernel
theorem dX5_init_100 : decode cX5_init 100 = .ok (.bipush 48, 2) := by decide +kernel
theorem dX5_init_102 : decode cX5_init 102 = .ok (.newarray .int, 2) := by decide +kernel
theorem dX5_init_104 : decode cX5_init 104 = .ok (.putfield 32, 3) := by decide +kernel
theorem dX5_init_107 : decode cX5_init 107 = .ok (.aload_n 0, 1) := by decide +kernel
theorem dX5_init_108 : decode cX5_init 108 = .ok (.bipush 48, 2) := by decide +kernel
theorem dX5_init_110 : decode cX5_init 110 = .ok (.newarray .int, 2) := by decide +kernel
theorem dX5_init_112 : decode cX5_init 112 = .ok (.putfield 35, 3) := by decide +kernel
theorem dX5_init_115 : decode cX5_init 115 = .ok (.aload_n 0, 1) := by decide +kernel
theorem dX5_init_116 : decode cX5_init 116 = .ok (.bipush 9, 2) := by decide +kernel
theorem dX5_init_118 : decode cX5_init 118 = .ok (.newarray .int, 2) := by decide +kernel
theorem dX5_init_120 : decode cX5_init 120 = .ok (.dup, 1) := by decide +kernel
theorem dX5_init_121 : decode cX5_init 121 = .ok (.iconst 0, 1) := by decide +kernel
theorem dX5_init_122 : decode cX5_init 122 = .ok (.iconst 0, 1) := by decide +kernel
theorem dX5_init_123 : decode cX5_init 123 = .ok (.iastore, 1) := by decide +kernel
theorem dX5_init_124 : decode cX5_init 124 = .ok (.dup, 1) := by decide +kernel
theorem dX5_init_125 : decode cX5_init 125 = .ok (.iconst 1, 1) := by decide +kernel
theorem dX5_init_126 : decode cX5_init 126 = .ok (.iconst 0, 1) := by decide +kernel
theorem dX5_init_127 : decode cX5_init 127 = .ok (.iastore, 1) := by decide +kernel
theorem dX5_init_128 : decode cX5_init 128 = .ok (.dup, 1) := by decide +kernel
theorem dX5_init_129 : decode cX5_init 129 = .ok (.iconst 2, 1) := by decide +kernel
theorem dX5_init_130 : decode cX5_init 130 = .ok (.iconst 0, 1) := by decide +kernel
theorem dX5_init_131 : decode cX5_init 131 = .ok (.iastore, 1) := by decide +kernel
theorem dX5_init_132 : decode cX5_init 132 = .ok (.dup, 1) := by decide +kernel
theorem dX5_init_133 : decode cX5_init 133 = .ok (.iconst 3, 1) := by decide +kernel
theorem dX5_init_134 : decode cX5_init 134 = .ok (.iconst 0, 1) := by decide +kernel
theorem dX5_init_135 : decode cX5_init 135 = .ok (.iastore, 1) := by decide +kernel
theorem dX5_init_136 : decode cX5_init 136 = .ok (.dup, 1) := by decide +kernel
theorem dX5_init_137 : decode cX5_init 137 = .ok (.iconst 4, 1) := by decide +kernel
theorem dX5_init_138 : decode cX5_init 138 = .ok (.iconst 1, 1) := by decide +kernel
theorem dX5_init_139 : decode cX5_init 139 = .ok (.iastore, 1) := by decide +kernel
theorem dX5_init_140 : decode cX5_init 140 = .ok (.dup, 1) := by decide +kernel
theorem dX5_init_141 : decode cX5_init 141 = .ok (.iconst 5, 1) := by decide +kernel
theorem dX5_init_142 : decode cX5_init 142 = .ok (.iconst 0, 1) := by decide +kernel
theorem dX5_init_143 : decode cX5_init 143 = .ok (.iastore, 1) := by decide +kernel
theorem dX5_init_144 : decode cX5_init 144 = .ok (.dup, 1) := by decide +kernel
theorem dX5_init_145 : decode cX5_init 145 = .ok (.bipush 6, 2) := by decide +kernel
theorem dX5_init_147 : decode cX5_init 147 = .ok (.iconst 0, 1) := by decide +kernel
theorem dX5_init_148 : decode cX5_init 148 = .ok (.iastore, 1) := by decide +kernel
theorem dX5_init_149 : decode cX5_init 149 = .ok (.dup, 1) := by decide +kernel
theorem dX5_init_150 : decode cX5_init 150 = .ok (.bipush 7, 2) := by decide +kernel
theorem dX5_init_152 : decode cX5_init 152 = .ok (.iconst 0, 1) := by decide +kernel
theorem dX5_init_153 : decode cX5_init 153 = .ok (.iastore, 1) := by decide +kernel
theorem dX5_init_154 : decode cX5_init 154 = .ok (.dup, 1) := by decide +kernel
theorem dX5_init_155 : decode cX5_init 155 = .ok (.bipush 8, 2) := by decide +kernel
theorem dX5_init_157 : decode cX5_init 157 = .ok (.iconst 0, 1) := by decide +kernel
theorem dX5_init_158 : decode cX5_init 158 = .ok (.iastore, 1) := by decide +kernel
theorem dX5_init_159 : decode cX5_init 159 = .ok (.putfield 38, 3) := by decide +kernel
theorem dX5_init_162 : decode cX5_init 162 = .ok (.aload_n 0, 1) := by decide +kernel
theorem dX5_init_163 : decode cX5_init 163 = .ok (.iconst 5, 1) := by decide +kernel
theorem dX5_init_164 : decode cX5_init 164 = .ok (.newarray .int, 2) := by decide +kernel
theorem dX5_init_166 : decode cX5_init 166 = .ok (.dup, 1) := by decide +kernel
theorem dX5_init_167 : decode cX5_init 167 = .ok (.iconst 0, 1) := by decide +kernel
theorem dX5_init_168 : decode cX5_init 168 = .ok (.bipush 20, 2) := by decide +kernel
theorem dX5_init_170 : decode cX5_init 170 = .ok (.iastore, 1) := by decide +kernel
theorem dX5_init_171 : decode cX5_init 171 = .ok (.dup, 1) := by decide +kernel
theorem dX5_init_172 : decode cX5_init 172 = .ok (.iconst 1, 1) := by decide +kernel
theorem dX5_init_173 : decode cX5_init 173 = .ok (.bipush 100, 2) := by decide +kernel
theorem dX5_init_175 : decode cX5_init 175 = .ok (.iastore, 1) := by decide +kernel
theorem dX5_init_176 : decode cX5_init 176 = .ok (.dup, 1) := by decide +kernel
theorem dX5_init_177 : decode cX5_init 177 = .ok (.iconst 2, 1) := by decide +kernel
theorem dX5_init_178 : decode cX5_init 178 = .ok (.bipush 10, 2) := by decide +kernel
theorem dX5_init_180 : decode cX5_init 180 = .ok (.iastore, 1) := by decide +kernel
theorem dX5_init_181 : decode cX5_init 181 = .ok (.dup, 1) := by decide +kernel
theorem dX5_init_182 : decode cX5_init 182 = .ok (.iconst 3, 1) := by decide +kernel
theorem dX5_init_183 : decode cX5_init 183 = .ok (.sipush 1000, 3) := by decide +kernel
theorem dX5_init_186 : decode cX5_init 186 = .ok (.iastore, 1) := by decide +kernel
theorem dX5_init_187 : decode cX5_init 187 = .ok (.dup, 1) := by decide +kernel
theorem dX5_init_188 : decode cX5_init 188 = .ok (.iconst 4, 1) := by decide +kernel
theorem dX5_init_189 : decode cX5_init 189 = .ok (.bipush 40, 2) := by decide +kernel
theorem dX5_init_191 : decode cX5_init 191 = .ok (.iastore, 1) := by decide +kernel
theorem dX5_init_192 : decode cX5_init 192 = .ok (.putfield 41, 3) := by decide +kernel
theorem dX5_init_195 : decode cX5_init 195 = .ok (.aload_n 0, 1) := by decide +kernel
theorem dX5_init_196 : decode cX5_init 196 = .ok (.iconst 1, 1) := by decide +kernel
theorem dX5_init_197 : decode cX5_init 197 = .ok (.putfield 44, 3) := by decide +kernel
theorem dX5_init_200 : decode cX5_init 200 = .ok (.aload_n 0, 1) := by decide +kernel
theorem dX5_init_201 : decode cX5_init 201 = .ok (.bipush 61, 2) := by decide +kernel
theorem dX5_init_203 : decode cX5_init 203 = .ok (.newarray .int, 2) := by decide +kernel
theorem dX5_init_205 : decode cX5_init 205 = .ok (.putfield 47, 3) := by decide +kernel
theorem dX5_init_208 : decode cX5_init 208 = .ok (.aload_n 0, 1) := by decide +kernel
theorem dX5_init_209 : decode cX5_init 209 = .ok (.sipush 775, 3) := by decide +kernel
theorem dX5_init_212 : decode cX5_init 212 = .ok (.newarray .int, 2) := by decide +kernel
theorem dX5_init_214 : decode cX5_init 214 = .ok (.putfield 50, 3) := by decide +kernel
theorem dX5_init_217 : decode cX5_init 217 = .ok (.aload_n 0, 1) := by decide +kernel
theorem dX5_init_218 : decode cX5_init 218 = .ok (.bipush 48, 2) := by decide +kernel
theorem dX5_init_220 : decode cX5_init 220 = .ok (.newarray .int, 2) := by decide +kernel
theorem dX5_init_222 : decode cX5_init 222 = .ok (.putfield 53, 3) := by decide +kernel
theorem dX5_init_225 : decode cX5_init 225 = .ok (.aload_n 0, 1) := by decide +kernel
theorem dX5_init_226 : decode cX5_init 226 = .ok (.bipush 48, 2) := by decide +kernel
theorem dX5_init_228 : decode cX5_init 228 = .ok (.newarray .int, 2) := by decide +kernel
theorem dX5_init_230 : decode cX5_init 230 = .ok (.putfield 56, 3) := by decide +kernel
theorem dX5_init_233 : decode cX5_init 233 = .ok (.aload_n 0, 1) := by decide +kernel
theorem dX5_init_234 : decode cX5_init 234 = .ok (.bipush 48, 2) := by decide +kernel
theorem dX5_init_236 : decode cX5_init 236 = .ok (.newarray .int, 2) := by decide +kernel
theorem dX5_init_238 : decode cX5_init 238 = .ok (.putfield 59, 3) := by decide +kernel
theorem dX5_init_241 : decode cX5_init 241 = .ok (.aload_n 0, 1) := by decide +kernel
theorem dX5_init_242 : decode cX5_init 242 = .ok (.bipush 6, 2) := by decide +kernel
theorem dX5_init_244 : decode cX5_init 244 = .ok (.newarray .int, 2) := by decide +kernel
theorem dX5_init_246 : decode cX5_init 246 = .ok (.putfield 62, 3) := by decide +kernel
theorem dX5_init_249 : decode cX5_init 249 = .ok (.aload_n 0, 1) := by decide +kernel
theorem dX5_init_250 : decode cX5_init 250 = .ok (.bipush 6, 2) := by decide +kernel
theorem dX5_init_252 : decode cX5_init 252 = .ok (.newarray .int, 2) := by decide +kernel
theorem dX5_init_254 : decode cX5_init 254 = .ok (.putfield 65, 3) := by decide +kernel
theorem dX5_init_257 : decode cX5_init 257 = .ok (.aload_n 0, 1) := by decide +kernel
theorem dX5_init_258 : decode cX5_init 258 = .ok (.invokevirtual 68, 3) := by decide +kernel
theorem dX5_init_261 : decode cX5_init 261 = .ok (.return_, 1) := by decide +kernel
theorem dX5_in_0 : decode cX5_in 0 = .ok (.iload_n 0, 1) := by decide +kernel
theorem dX5_in_1 : decode cX5_in 1 = .ok (.iload_n 1, 1) := by decide +kernel
theorem dX5_in_2 : decode cX5_in 2 = .ok (.if_icmp .lt 12, 3) := by decide +kernel
theorem dX5_in_5 : decode cX5_in 5 = .ok (.iload_n 0, 1) := by decide +kernel
theorem dX5_in_6 : decode cX5_in 6 = .ok (.iload_n 2, 1) := by decide +kernel
theorem dX5_in_7 : decode cX5_in 7 = .ok (.if_icmp .gt 7, 3) := by decide +kernel
theorem dX5_in_10 : decode cX5_in 10 = .ok (.iconst 1, 1) := by decide +kernel
theorem dX5_in_11 : decode cX5_in 11 = .ok (.goto 4, 3) := by decide +kernel
theorem dX5_in_14 : decode cX5_in 14 = .ok (.iconst 0, 1) := by decide +kernel
theorem dX5_in_15 : decode cX5_in 15 = .ok (.ireturn, 1) := by decide +kernel
theorem dX5_size_0 : decode cX5_size 0 = .ok (.iload_n 0, 1) := by decide +kernel
theorem dX5_size_1 : decode cX5_size 1 = .ok (.ifCond .ge 8, 3) := by decide +kernel
theorem dX5_size_4 : decode cX5_size 4 = .ok (.iload_n 0, 1) := by decide +kernel
theorem dX5_size_5 : decode cX5_size 5 = .ok (.ineg, 1) := by decide +kernel
theorem dX5_size_6 : decode cX5_size 6 = .ok (.goto 4, 3) := by decide +kernel
theorem dX5_size_9 : decode cX5_size 9 = .ok (.iload_n 0, 1) := by decide +kernel
theorem dX5_size_10 : decode cX5_size 10 = .ok (.ireturn, 1) := by decide +kernel
theorem dX5_least_0 : decode cX5_least 0 = .ok (.iload_n 0, 1) := by decide +kernel
theorem dX5_least_1 : decode cX5_least 1 = .ok (.ifCond .ne 7, 3) := by decide +kernel
theorem dX5_least_4 : decode cX5_least 4 = .ok (.iconst 5, 1) := by decide +kernel
theorem dX5_least_5 : decode cX5_least 5 = .ok (.goto 49, 3) := by decide +kernel
theorem dX5_least_8 : decode cX5_least 8 = .ok (.iload_n 0, 1) := by decide +kernel
theorem dX5_least_9 : decode cX5_least 9 = .ok (.iconst 1, 1) := by decide +kernel
theorem dX5_least_10 : decode cX5_least 10 = .ok (.if_icmp .ne 8, 3) := by decide +kernel
theorem dX5_least_13 : decode cX5_least 13 = .ok (.bipush 20, 2) := by decide +kernel
theorem dX5_least_15 : decode cX5_least 15 = .ok (.goto 39, 3) := by decide +kernel
theorem dX5_least_18 : decode cX5_least 18 = .ok (.iload_n 0, 1) := by decide +kernel
theorem dX5_least_19 : decode cX5_least 19 = .ok (.iconst 2, 1) := by decide +kernel
theorem dX5_least_20 : decode cX5_least 20 = .ok (.if_icmp .ne 8, 3) := by decide +kernel
theorem dX5_least_23 : decode cX5_least 23 = .ok (.bipush 100, 2) := by decide +kernel
theorem dX5_least_25 : decode cX5_least 25 = .ok (.goto 29, 3) := by decide +kernel
theorem dX5_least_28 : decode cX5_least 28 = .ok (.iload_n 0, 1) := by decide +kernel
theorem dX5_least_29 : decode cX5_least 29 = .ok (.iconst 3, 1) := by decide +kernel
theorem dX5_least_30 : decode cX5_least 30 = .ok (.if_icmp .eq 8, 3) := by decide +kernel
theorem dX5_least_33 : decode cX5_least 33 = .ok (.iload_n 0, 1) := by decide +kernel
theorem dX5_least_34 : decode cX5_least 34 = .ok (.iconst 5, 1) := by decide +kernel
theorem dX5_least_35 : decode cX5_least 35 = .ok (.if_icmp .ne 8, 3) := by decide +kernel
theorem dX5_least_38 : decode cX5_least 38 = .ok (.bipush 10, 2) := by decide +kernel
theorem dX5_least_40 : decode cX5_least 40 = .ok (.goto 14, 3) := by decide +kernel
theorem dX5_least_43 : decode cX5_least 43 = .ok (.iload_n 0, 1) := by decide +kernel
theorem dX5_least_44 : decode cX5_least 44 = .ok (.bipush 7, 2) := by decide +kernel
theorem dX5_least_46 : decode cX5_least 46 = .ok (.if_icmp .ne 7, 3) := by decide +kernel
theorem dX5_least_49 : decode cX5_least 49 = .ok (.iconst 1, 1) := by decide +kernel
theorem dX5_least_50 : decode cX5_least 50 = .ok (.goto 4, 3) := by decide +kernel
theorem dX5_least_53 : decode cX5_least 53 = .ok (.iconst 0, 1) := by decide +kernel
theorem dX5_least_54 : decode cX5_least 54 = .ok (.ireturn, 1) := by decide +kernel
theorem dX5_most_0 : decode cX5_most 0 = .ok (.iload_n 0, 1) := by decide +kernel
theorem dX5_most_1 : decode cX5_most 1 = .ok (.ifCond .ne 8, 3) := by decide +kernel
theorem dX5_most_4 : decode cX5_most 4 = .ok (.bipush 40, 2) := by decide +kernel
theorem dX5_most_6 : decode cX5_most 6 = .ok (.goto 70, 3) := by decide +kernel
theorem dX5_most_9 : decode cX5_most 9 = .ok (.iload_n 0, 1) := by decide +kernel
theorem dX5_most_10 : decode cX5_most 10 = .ok (.iconst 1, 1) := by decide +kernel
theorem dX5_most_11 : decode cX5_most 11 = .ok (.if_icmp .eq 8, 3) := by decide +kernel
theorem dX5_most_14 : decode cX5_most 14 = .ok (.iload_n 0, 1) := by decide +kernel
theorem dX5_most_15 : decode cX5_most 15 = .ok (.iconst 3, 1) := by decide +kernel
theorem dX5_most_16 : decode cX5_most 16 = .ok (.if_icmp .ne 9, 3) := by decide +kernel
theorem dX5_most_19 : decode cX5_most 19 = .ok (.sipush 160, 3) := by decide +kernel
theorem dX5_most_22 : decode cX5_most 22 = .ok (.goto 54, 3) := by decide +kernel
theorem dX5_most_25 : decode cX5_most 25 = .ok (.iload_n 0, 1) := by decide +kernel
theorem dX5_most_26 : decode cX5_most 26 = .ok (.iconst 2, 1) := by decide +kernel
theorem dX5_most_27 : decode cX5_most 27 = .ok (.if_icmp .ne 9, 3) := by decide +kernel
theorem dX5_most_30 : decode cX5_most 30 = .ok (.sipush 9000, 3) := by decide +kernel
theorem dX5_most_33 : decode cX5_most 33 = .ok (.goto 43, 3) := by decide +kernel
theorem dX5_most_36 : decode cX5_most 36 = .ok (.iload_n 0, 1) := by decide +kernel
theorem dX5_most_37 : decode cX5_most 37 = .ok (.iconst 4, 1) := by decide +kernel
theorem dX5_most_38 : decode cX5_most 38 = .ok (.if_icmp .eq 8, 3) := by decide +kernel
theorem dX5_most_41 : decode cX5_most 41 = .ok (.iload_n 0, 1) := by decide +kernel
theorem dX5_most_42 : decode cX5_most 42 = .ok (.iconst 5, 1) := by decide +kernel
theorem dX5_most_43 : decode cX5_most 43 = .ok (.if_icmp .ne 8, 3) := by decide +kernel
theorem dX5_most_46 : decode cX5_most 46 = .ok (.bipush 60, 2) := by decide +kernel
theorem dX5_most_48 : decode cX5_most 48 = .ok (.goto 28, 3) := by decide +kernel
theorem dX5_most_51 : decode cX5_most 51 = .ok (.iload_n 0, 1) := by decide +kernel
theorem dX5_most_52 : decode cX5_most 52 = .ok (.bipush 6, 2) := by decide +kernel
theorem dX5_most_54 : decode cX5_most 54 = .ok (.if_icmp .ne 9, 3) := by decide +kernel
theorem dX5_most_57 : decode cX5_most 57 = .ok (.sipush 900, 3) := by decide +kernel
theorem dX5_most_60 : decode cX5_most 60 = .ok (.goto 16, 3) := by decide +kernel
theorem dX5_most_63 : decode cX5_most 63 = .ok (.iload_n 0, 1) := by decide +kernel
theorem dX5_most_64 : decode cX5_most 64 = .ok (.bipush 7, 2) := by decide +kernel
theorem dX5_most_66 : decode cX5_most 66 = .ok (.if_icmp .ne 9, 3) := by decide +kernel
theorem dX5_most_69 : decode cX5_most 69 = .ok (.sipush 300, 3) := by decide +kernel
theorem dX5_most_72 : decode cX5_most 72 = .ok (.goto 4, 3) := by decide +kernel
theorem dX5_most_75 : decode cX5_most 75 = .ok (.iconst 2, 1) := by decide +kernel
theorem dX5_most_76 : decode cX5_most 76 = .ok (.ireturn, 1) := by decide +kernel
theorem dX5_set_0 : decode cX5_set 0 = .ok (.iload_n 1, 1) := by decide +kernel
theorem dX5_set_1 : decode cX5_set 1 = .ok (.iconst 0, 1) := by decide +kernel
theorem dX5_set_2 : decode cX5_set 2 = .ok (.bipush 8, 2) := by decide +kernel
theorem dX5_set_4 : decode cX5_set 4 = .ok (.invokestatic 71, 3) := by decide +kernel
theorem dX5_set_7 : decode cX5_set 7 = .ok (.ifCond .eq 18, 3) := by decide +kernel
theorem dX5_set_10 : decode cX5_set 10 = .ok (.iload_n 2, 1) := by decide +kernel
theorem dX5_set_11 : decode cX5_set 11 = .ok (.iload_n 1, 1) := by decide +kernel
theorem dX5_set_12 : decode cX5_set 12 = .ok (.invokestatic 75, 3) := by decide +kernel
theorem dX5_set_15 : decode cX5_set 15 = .ok (.iload_n 1, 1) := by decide +kernel
theorem dX5_set_16 : decode cX5_set 16 = .ok (.invokestatic 79, 3) := by decide +kernel
theorem dX5_set_19 : decode cX5_set 19 = .ok (.invokestatic 71, 3) := by decide +kernel
theorem dX5_set_22 : decode cX5_set 22 = .ok (.ifCond .ne 5, 3) := by decide +kernel
theorem dX5_set_25 : decode cX5_set 25 = .ok (.iconst (-1), 1) := by decide +kernel
theorem dX5_set_26 : decode cX5_set 26 = .ok (.ireturn, 1) := by decide +kernel
theorem dX5_set_27 : decode cX5_set 27 = .ok (.aload_n 0, 1) := by decide +kernel
theorem dX5_set_28 : decode cX5_set 28 = .ok (.getfield 7, 3) := by decide +kernel
theorem dX5_set_31 : decode cX5_set 31 = .ok (.iload_n 1, 1) := by decide +kernel
theorem dX5_set_32 : decode cX5_set 32 = .ok (.iaload, 1) := by decide +kernel
theorem dX5_set_33 : decode cX5_set 33 = .ok (.istore_n 3, 1) := by decide +kernel
theorem dX5_set_34 : decode cX5_set 34 = .ok (.aload_n 0, 1) := by decide +kernel
theorem dX5_set_35 : decode cX5_set 35 = .ok (.getfield 7, 3) := by decide +kernel
theorem dX5_set_38 : decode cX5_set 38 = .ok (.iload_n 1, 1) := by decide +kernel
theorem dX5_set_39 : decode cX5_set 39 = .ok (.iload_n 2, 1) := by decide +kernel
theorem dX5_set_40 : decode cX5_set 40 = .ok (.iastore, 1) := by decide +kernel
theorem dX5_set_41 : decode cX5_set 41 = .ok (.aload_n 0, 1) := by decide +kernel
theorem dX5_set_42 : decode cX5_set 42 = .ok (.iconst 0, 1) := by decide +kernel
theorem dX5_set_43 : decode cX5_set 43 = .ok (.putfield 82, 3) := by decide +kernel
theorem dX5_set_46 : decode cX5_set 46 = .ok (.iload_n 3, 1) := by decide +kernel
theorem dX5_set_47 : decode cX5_set 47 = .ok (.ireturn, 1) := by decide +kernel
theorem dX5_wind_0 : decode cX5_wind 0 = .ok (.iload_n 1, 1) := by decide +kernel
theorem dX5_wind_1 : decode cX5_wind 1 = .ok (.bipush (-20), 2) := by decide +kernel
theorem dX5_wind_3 : decode cX5_wind 3 = .ok (.bipush 20, 2) := by decide +kernel
theorem dX5_wind_5 : decode cX5_wind 5 = .ok (.invokestatic 71, 3) := by decide +kernel
theorem dX5_wind_8 : decode cX5_wind 8 = .ok (.ifCond .ne 6, 3) := by decide +kernel
theorem dX5_wind_11 : decode cX5_wind 11 = .ok (.bipush (-100), 2) := by decide +kernel
theorem dX5_wind_13 : decode cX5_wind 13 = .ok (.ireturn, 1) := by decide +kernel
theorem dX5_wind_14 : decode cX5_wind 14 = .ok (.aload_n 0, 1) := by decide +kernel
theorem dX5_wind_15 : decode cX5_wind 15 = .ok (.getfield 85, 3) := by decide +kernel
theorem dX5_wind_18 : decode cX5_wind 18 = .ok (.istore_n 2, 1) := by decide +kernel
theorem dX5_wind_19 : decode cX5_wind 19 = .ok (.aload_n 0, 1) := by decide +kernel
theorem dX5_wind_20 : decode cX5_wind 20 = .ok (.iload_n 1, 1) := by decide +kernel
theorem dX5_wind_21 : decode cX5_wind 21 = .ok (.putfield 85, 3) := by decide +kernel
theorem dX5_wind_24 : decode cX5_wind 24 = .ok (.iload_n 2, 1) := by decide +kernel
theorem dX5_wind_25 : decode cX5_wind 25 = .ok (.ireturn, 1) := by decide +kernel
theorem dX5_sineOf_0 : decode cX5_sineOf 0 = .ok (.iload_n 0, 1) := by decide +kernel
theorem dX5_sineOf_1 : decode cX5_sineOf 1 = .ok (.invokestatic 88, 3) := by decide +kernel
theorem dX5_sineOf_4 : decode cX5_sineOf 4 = .ok (.istore_n 1, 1) := by decide +kernel
theorem dX5_sineOf_5 : decode cX5_sineOf 5 = .ok (.sipush 4000, 3) := by decide +kernel
theorem dX5_sineOf_8 : decode cX5_sineOf 8 = .ok (.iload_n 1, 1) := by decide +kernel
theorem dX5_sineOf_9 : decode cX5_sineOf 9 = .ok (.sipush 180, 3) := by decide +kernel
theorem dX5_sineOf_12 : decode cX5_sineOf 12 = .ok (.iload_n 1, 1) := by decide +kernel
theorem dX5_sineOf_13 : decode cX5_sineOf 13 = .ok (.isub, 1) := by decide +kernel
theorem dX5_sineOf_14 : decode cX5_sineOf 14 = .ok (.imul, 1) := by decide +kernel
theorem dX5_sineOf_15 : decode cX5_sineOf 15 = .ok (.imul, 1) := by decide +kernel
theorem dX5_sineOf_16 : decode cX5_sineOf 16 = .ok (.ldc 91, 2) := by decide +kernel
theorem dX5_sineOf_18 : decode cX5_sineOf 18 = .ok (.iload_n 1, 1) := by decide +kernel
theorem dX5_sineOf_19 : decode cX5_sineOf 19 = .ok (.sipush 180, 3) := by decide +kernel
theorem dX5_sineOf_22 : decode cX5_sineOf 22 = .ok (.iload_n 1, 1) := by decide +kernel
theorem dX5_sineOf_23 : decode cX5_sineOf 23 = .ok (.isub, 1) := by decide +kernel
theorem dX5_sineOf_24 : decode cX5_sineOf 24 = .ok (.imul, 1) := by decide +kernel
theorem dX5_sineOf_25 : decode cX5_sineOf 25 = .ok (.isub, 1) := by decide +kernel
theorem dX5_sineOf_26 : decode cX5_sineOf 26 = .ok (.idiv, 1) := by decide +kernel
theorem dX5_sineOf_27 : decode cX5_sineOf 27 = .ok (.istore_n 2, 1) := by decide +kernel
theorem dX5_sineOf_28 : decode cX5_sineOf 28 = .ok (.iload_n 0, 1) := by decide +kernel
theorem dX5_sineOf_29 : decode cX5_sineOf 29 = .ok (.ifCond .ge 8, 3) := by decide +kernel
theorem dX5_sineOf_32 : decode cX5_sineOf 32 = .ok (.iload_n 2, 1) := by decide +kernel
theorem dX5_sineOf_33 : decode cX5_sineOf 33 = .ok (.ineg, 1) := by decide +kernel
theorem dX5_sineOf_34 : decode cX5_sineOf 34 = .ok (.goto 4, 3) := by decide +kernel
theorem dX5_sineOf_37 : decode cX5_sineOf 37 = .ok (.iload_n 2, 1) := by decide +kernel
theorem dX5_sineOf_38 : decode cX5_sineOf 38 = .ok (.ireturn, 1) := by decide +kernel
theorem dX5_sine_0 : decode cX5_sine 0 = .ok (.iload_n 1, 1) := by decide +kernel
theorem dX5_sine_1 : decode cX5_sine 1 = .ok (.sipush (-180), 3) := by decide +kernel
theorem dX5_sine_4 : decode cX5_sine 4 = .ok (.sipush 180, 3) := by decide +kernel
theorem dX5_sine_7 : decode cX5_sine 7 = .ok (.invokestatic 71, 3) := by decide +kernel
theorem dX5_sine_10 : decode cX5_sine 10 = .ok (.ifCond .eq 10, 3) := by decide +kernel
theorem dX5_sine_13 : decode cX5_sine 13 = .ok (.iload_n 1, 1) := by decide +kernel
theorem dX5_sine_14 : decode cX5_sine 14 = .ok (.invokestatic 92, 3) := by decide +kernel
theorem dX5_sine_17 : decode cX5_sine 17 = .ok (.goto 6, 3) := by decide +kernel
theorem dX5_sine_20 : decode cX5_sine 20 = .ok (.sipush (-2000), 3) := by decide +kernel
theorem dX5_sine_23 : decode cX5_sine 23 = .ok (.ireturn, 1) := by decide +kernel
theorem dX5_givenAt_0 : decode cX5_givenAt 0 = .ok (.aload_n 0, 1) := by decide +kernel
theorem dX5_givenAt_1 : decode cX5_givenAt 1 = .ok (.getfield 7, 3) := by decide +kernel
theorem dX5_givenAt_4 : decode cX5_givenAt 4 = .ok (.iconst 2, 1) := by decide +kernel
theorem dX5_givenAt_5 : decode cX5_givenAt 5 = .ok (.iaload, 1) := by decide +kernel
theorem dX5_givenAt_6 : decode cX5_givenAt 6 = .ok (.aload_n 0, 1) := by decide +kernel
theorem dX5_givenAt_7 : decode cX5_givenAt 7 = .ok (.getfield 7, 3) := by decide +kernel
theorem dX5_givenAt_10 : decode cX5_givenAt 10 = .ok (.iconst 0, 1) := by decide +kernel
theorem dX5_givenAt_11 : decode cX5_givenAt 11 = .ok (.iaload, 1) := by decide +kernel
theorem dX5_givenAt_12 : decode cX5_givenAt 12 = .ok (.imul, 1) := by decide +kernel
theorem dX5_givenAt_13 : decode cX5_givenAt 13 = .ok (.aload_n 0, 1) := by decide +kernel
theorem dX5_givenAt_14 : decode cX5_givenAt 14 = .ok (.getfield 7, 3) := by decide +kernel
theorem dX5_givenAt_17 : decode cX5_givenAt 17 = .ok (.bipush 7, 2) := by decide +kernel
theorem dX5_givenAt_19 : decode cX5_givenAt 19 = .ok (.iaload, 1) := by decide +kernel
theorem dX5_givenAt_20 : decode cX5_givenAt 20 = .ok (.aload_n 0, 1) := by decide +kernel
theorem dX5_givenAt_21 : decode cX5_givenAt 21 = .ok (.getfield 7, 3) := by decide +kernel
theorem dX5_givenAt_24 : decode cX5_givenAt 24 = .ok (.iconst 1, 1) := by decide +kernel
theorem dX5_givenAt_25 : decode cX5_givenAt 25 = .ok (.iaload, 1) := by decide +kernel
theorem dX5_givenAt_26 : decode cX5_givenAt 26 = .ok (.imul, 1) := by decide +kernel
theorem dX5_givenAt_27 : decode cX5_givenAt 27 = .ok (.isub, 1) := by decide +kernel
theorem dX5_givenAt_28 : decode cX5_givenAt 28 = .ok (.i2l, 1) := by decide +kernel
theorem dX5_givenAt_29 : decode cX5_givenAt 29 = .ok (.iload_n 1, 1) := by decide +kernel
theorem dX5_givenAt_30 : decode cX5_givenAt 30 = .ok (.aload_n 0, 1) := by decide +kernel
theorem dX5_givenAt_31 : decode cX5_givenAt 31 = .ok (.getfield 7, 3) := by decide +kernel
theorem dX5_givenAt_34 : decode cX5_givenAt 34 = .ok (.iconst 5, 1) := by decide +kernel
theorem dX5_givenAt_35 : decode cX5_givenAt 35 = .ok (.iaload, 1) := by decide +kernel
theorem dX5_givenAt_36 : decode cX5_givenAt 36 = .ok (.isub, 1) := by decide +kernel
theorem dX5_givenAt_37 : decode cX5_givenAt 37 = .ok (.invokestatic 92, 3) := by decide +kernel
theorem dX5_givenAt_40 : decode cX5_givenAt 40 = .ok (.aload_n 0, 1) := by decide +kernel
theorem dX5_givenAt_41 : decode cX5_givenAt 41 = .ok (.getfield 7, 3) := by decide +kernel
theorem dX5_givenAt_44 : decode cX5_givenAt 44 = .ok (.iconst 5, 1) := by decide +kernel
theorem dX5_givenAt_45 : decode cX5_givenAt 45 = .ok (.iaload, 1) := by decide +kernel
theorem dX5_givenAt_46 : decode cX5_givenAt 46 = .ok (.invokestatic 92, 3) := by decide +kernel
theorem dX5_givenAt_49 : decode cX5_givenAt 49 = .ok (.iadd, 1) := by decide +kernel
theorem dX5_givenAt_50 : decode cX5_givenAt 50 = .ok (.i2l, 1) := by decide +kernel
theorem dX5_givenAt_51 : decode cX5_givenAt 51 = .ok (.lmul, 1) := by decide +kernel
theorem dX5_givenAt_52 : decode cX5_givenAt 52 = .ok (.lstore_n 2, 1) := by decide +kernel
theorem dX5_givenAt_53 : decode cX5_givenAt 53 = .ok (.lload_n 2, 1) := by decide +kernel
theorem dX5_givenAt_54 : decode cX5_givenAt 54 = .ok (.ldc2_w 95, 3) := by decide +kernel
theorem dX5_givenAt_57 : decode cX5_givenAt 57 = .ok (.ldiv, 1) := by decide +kernel
theorem dX5_givenAt_58 : decode cX5_givenAt 58 = .ok (.lstore 4, 2) := by decide +kernel
theorem dX5_givenAt_60 : decode cX5_givenAt 60 = .ok (.lload 4, 2) := by decide +kernel
theorem dX5_givenAt_62 : decode cX5_givenAt 62 = .ok (.lload_n 2, 1) := by decide +kernel
theorem dX5_givenAt_63 : decode cX5_givenAt 63 = .ok (.lconst 0, 1) := by decide +kernel
theorem dX5_givenAt_64 : decode cX5_givenAt 64 = .ok (.lcmp, 1) := by decide +kernel
theorem dX5_givenAt_65 : decode cX5_givenAt 65 = .ok (.ifCond .ge 17, 3) := by decide +kernel
theorem dX5_givenAt_68 : decode cX5_givenAt 68 = .ok (.lload_n 2, 1) := by decide +kernel
theorem dX5_givenAt_69 : decode cX5_givenAt 69 = .ok (.ldc2_w 95, 3) := by decide +kernel
theorem dX5_givenAt_72 : decode cX5_givenAt 72 = .ok (.lrem, 1) := by decide +kernel
theorem dX5_givenAt_73 : decode cX5_givenAt 73 = .ok (.lconst 0, 1) := by decide +kernel
theorem dX5_givenAt_74 : decode cX5_givenAt 74 = .ok (.lcmp, 1) := by decide +kernel
theorem dX5_givenAt_75 : decode cX5_givenAt 75 = .ok (.ifCond .eq 7, 3) := by decide +kernel
theorem dX5_givenAt_78 : decode cX5_givenAt 78 = .ok (.lconst 1, 1) := by decide +kernel
theorem dX5_givenAt_79 : decode cX5_givenAt 79 = .ok (.goto 4, 3) := by decide +kernel
theorem dX5_givenAt_82 : decode cX5_givenAt 82 = .ok (.lconst 0, 1) := by decide +kernel
theorem dX5_givenAt_83 : decode cX5_givenAt 83 = .ok (.lsub, 1) := by decide +kernel
theorem dX5_givenAt_84 : decode cX5_givenAt 84 = .ok (.lstore 4, 2) := by decide +kernel
theorem dX5_givenAt_86 : decode cX5_givenAt 86 = .ok (.lload 4, 2) := by decide +kernel
theorem dX5_givenAt_88 : decode cX5_givenAt 88 = .ok (.l2i, 1) := by decide +kernel
theorem dX5_givenAt_89 : decode cX5_givenAt 89 = .ok (.aload_n 0, 1) := by decide +kernel
theorem dX5_givenAt_90 : decode cX5_givenAt 90 = .ok (.getfield 7, 3) := by decide +kernel
theorem dX5_givenAt_93 : decode cX5_givenAt 93 = .ok (.bipush 6, 2) := by decide +kernel
theorem dX5_givenAt_95 : decode cX5_givenAt 95 = .ok (.iaload, 1) := by decide +kernel
theorem dX5_givenAt_96 : decode cX5_givenAt 96 = .ok (.iload_n 1, 1) := by decide +kernel
theorem dX5_givenAt_97 : decode cX5_givenAt 97 = .ok (.imul, 1) := by decide +kernel
theorem dX5_givenAt_98 : decode cX5_givenAt 98 = .ok (.isub, 1) := by decide +kernel
theorem dX5_givenAt_99 : decode cX5_givenAt 99 = .ok (.ireturn, 1) := by decide +kernel
theorem dX5_flightOf_0 : decode cX5_flightOf 0 = .ok (.iload_n 2, 1) := by decide +kernel
theorem dX5_flightOf_1 : decode cX5_flightOf 1 = .ok (.iload_n 2, 1) := by decide +kernel
theorem dX5_flightOf_2 : decode cX5_flightOf 2 = .ok (.iload_n 2, 1) := by decide +kernel
theorem dX5_flightOf_3 : decode cX5_flightOf 3 = .ok (.imul, 1) := by decide +kernel
theorem dX5_flightOf_4 : decode cX5_flightOf 4 = .ok (.bipush 20, 2) := by decide +kernel
theorem dX5_flightOf_6 : decode cX5_flightOf 6 = .ok (.aload_n 0, 1) := by decide +kernel
theorem dX5_flightOf_7 : decode cX5_flightOf 7 = .ok (.getfield 7, 3) := by decide +kernel
theorem dX5_flightOf_10 : decode cX5_flightOf 10 = .ok (.bipush 7, 2) := by decide +kernel
theorem dX5_flightOf_12 : decode cX5_flightOf 12 = .ok (.iaload, 1) := by decide +kernel
theorem dX5_flightOf_13 : decode cX5_flightOf 13 = .ok (.imul, 1) := by decide +kernel
theorem dX5_flightOf_14 : decode cX5_flightOf 14 = .ok (.sipush 2000, 3) := by decide +kernel
theorem dX5_flightOf_17 : decode cX5_flightOf 17 = .ok (.iadd, 1) := by decide +kernel
theorem dX5_flightOf_18 : decode cX5_flightOf 18 = .ok (.idiv, 1) := by decide +kernel
theorem dX5_flightOf_19 : decode cX5_flightOf 19 = .ok (.isub, 1) := by decide +kernel
theorem dX5_flightOf_20 : decode cX5_flightOf 20 = .ok (.istore_n 3, 1) := by decide +kernel
theorem dX5_flightOf_21 : decode cX5_flightOf 21 = .ok (.iload_n 3, 1) := by decide +kernel
theorem dX5_flightOf_22 : decode cX5_flightOf 22 = .ok (.ifCond .ge 7, 3) := by decide +kernel
theorem dX5_flightOf_25 : decode cX5_flightOf 25 = .ok (.iconst 0, 1) := by decide +kernel
theorem dX5_flightOf_26 : decode cX5_flightOf 26 = .ok (.goto 4, 3) := by decide +kernel
theorem dX5_flightOf_29 : decode cX5_flightOf 29 = .ok (.iload_n 3, 1) := by decide +kernel
theorem dX5_flightOf_30 : decode cX5_flightOf 30 = .ok (.istore_n 3, 1) := by decide +kernel
theorem dX5_flightOf_31 : decode cX5_flightOf 31 = .ok (.iload_n 1, 1) := by decide +kernel
theorem dX5_flightOf_32 : decode cX5_flightOf 32 = .ok (.ifCond .le 15, 3) := by decide +kernel
theorem dX5_flightOf_35 : decode cX5_flightOf 35 = .ok (.iload_n 3, 1) := by decide +kernel
theorem dX5_flightOf_36 : decode cX5_flightOf 36 = .ok (.iload_n 3, 1) := by decide +kernel
theorem dX5_flightOf_37 : decode cX5_flightOf 37 = .ok (.bipush 7, 2) := by decide +kernel
theorem dX5_flightOf_39 : decode cX5_flightOf 39 = .ok (.iadd, 1) := by decide +kernel
theorem dX5_flightOf_40 : decode cX5_flightOf 40 = .ok (.bipush 8, 2) := by decide +kernel
theorem dX5_flightOf_42 : decode cX5_flightOf 42 = .ok (.idiv, 1) := by decide +kernel
theorem dX5_flightOf_43 : decode cX5_flightOf 43 = .ok (.isub, 1) := by decide +kernel
theorem dX5_flightOf_44 : decode cX5_flightOf 44 = .ok (.goto 4, 3) := by decide +kernel
theorem dX5_flightOf_47 : decode cX5_flightOf 47 = .ok (.iload_n 3, 1) := by decide +kernel
theorem dX5_flightOf_48 : decode cX5_flightOf 48 = .ok (.istore_n 3, 1) := by decide +kernel
theorem dX5_flightOf_49 : decode cX5_flightOf 49 = .ok (.iload_n 1, 1) := by decide +kernel
theorem dX5_flightOf_50 : decode cX5_flightOf 50 = .ok (.iconst 2, 1) := by decide +kernel
theorem dX5_flightOf_51 : decode cX5_flightOf 51 = .ok (.if_icmp .ne 24, 3) := by decide +kernel
theorem dX5_flightOf_54 : decode cX5_flightOf 54 = .ok (.iload_n 3, 1) := by decide +kernel
theorem dX5_flightOf_55 : decode cX5_flightOf 55 = .ok (.iload_n 3, 1) := by decide +kernel
theorem dX5_flightOf_56 : decode cX5_flightOf 56 = .ok (.bipush 25, 2) := by decide +kernel
theorem dX5_flightOf_58 : decode cX5_flightOf 58 = .ok (.idiv, 1) := by decide +kernel
theorem dX5_flightOf_59 : decode cX5_flightOf 59 = .ok (.iconst 2, 1) := by decide +kernel
theorem dX5_flightOf_60 : decode cX5_flightOf 60 = .ok (.imul, 1) := by decide +kernel
theorem dX5_flightOf_61 : decode cX5_flightOf 61 = .ok (.iconst 3, 1) := by decide +kernel
theorem dX5_flightOf_62 : decode cX5_flightOf 62 = .ok (.iadd, 1) := by decide +kernel
theorem dX5_flightOf_63 : decode cX5_flightOf 63 = .ok (.isub, 1) := by decide +kernel
theorem dX5_flightOf_64 : decode cX5_flightOf 64 = .ok (.istore_n 3, 1) := by decide +kernel
theorem dX5_flightOf_65 : decode cX5_flightOf 65 = .ok (.iload_n 3, 1) := by decide +kernel
theorem dX5_flightOf_66 : decode cX5_flightOf 66 = .ok (.ifCond .ge 7, 3) := by decide +kernel
theorem dX5_flightOf_69 : decode cX5_flightOf 69 = .ok (.iconst 0, 1) := by decide +kernel
theorem dX5_flightOf_70 : decode cX5_flightOf 70 = .ok (.goto 4, 3) := by decide +kernel
theorem dX5_flightOf_73 : decode cX5_flightOf 73 = .ok (.iload_n 3, 1) := by decide +kernel
theorem dX5_flightOf_74 : decode cX5_flightOf 74 = .ok (.istore_n 3, 1) := by decide +kernel
theorem dX5_flightOf_75 : decode cX5_flightOf 75 = .ok (.iload_n 3, 1) := by decide +kernel
theorem dX5_flightOf_76 : decode cX5_flightOf 76 = .ok (.ireturn, 1) := by decide +kernel
theorem dX5_step_0 : decode cX5_step 0 = .ok (.aload_n 0, 1) := by decide +kernel
theorem dX5_step_1 : decode cX5_step 1 = .ok (.bipush (-9), 2) := by decide +kernel
theorem dX5_step_3 : decode cX5_step 3 = .ok (.putfield 97, 3) := by decide +kernel
theorem dX5_step_6 : decode cX5_step 6 = .ok (.aload_n 0, 1) := by decide +kernel
theorem dX5_step_7 : decode cX5_step 7 = .ok (.bipush (-9), 2) := by decide +kernel
theorem dX5_step_9 : decode cX5_step 9 = .ok (.putfield 100, 3) := by decide +kernel
theorem dX5_step_12 : decode cX5_step 12 = .ok (.aload_n 0, 1) := by decide +kernel
theorem dX5_step_13 : decode cX5_step 13 = .ok (.bipush (-9), 2) := by decide +kernel
theorem dX5_step_15 : decode cX5_step 15 = .ok (.putfield 103, 3) := by decide +kernel
theorem dX5_step_18 : decode cX5_step 18 = .ok (.aload_n 0, 1) := by decide +kernel
theorem dX5_step_19 : decode cX5_step 19 = .ok (.bipush (-9), 2) := by decide +kernel
theorem dX5_step_21 : decode cX5_step 21 = .ok (.putfield 106, 3) := by decide +kernel
theorem dX5_step_24 : decode cX5_step 24 = .ok (.aload_n 0, 1) := by decide +kernel
theorem dX5_step_25 : decode cX5_step 25 = .ok (.bipush (-9), 2) := by decide +kernel
theorem dX5_step_27 : decode cX5_step 27 = .ok (.putfield 109, 3) := by decide +kernel
theorem dX5_step_30 : decode cX5_step 30 = .ok (.aload_n 0, 1) := by decide +kernel
theorem dX5_step_31 : decode cX5_step 31 = .ok (.bipush (-9), 2) := by decide +kernel
theorem dX5_step_33 : decode cX5_step 33 = .ok (.putfield 112, 3) := by decide +kernel
theorem dX5_step_36 : decode cX5_step 36 = .ok (.aload_n 0, 1) := by decide +kernel
theorem dX5_step_37 : decode cX5_step 37 = .ok (.bipush (-9), 2) := by decide +kernel
theorem dX5_step_39 : decode cX5_step 39 = .ok (.putfield 115, 3) := by decide +kernel
theorem dX5_step_42 : decode cX5_step 42 = .ok (.iconst 1, 1) := by decide +kernel
theorem dX5_step_43 : decode cX5_step 43 = .ok (.istore_n 3, 1) := by decide +kernel
theorem dX5_step_44 : decode cX5_step 44 = .ok (.iload_n 3, 1) := by decide +kernel
theorem dX5_step_45 : decode cX5_step 45 = .ok (.sipush 160, 3) := by decide +kernel
theorem dX5_step_48 : decode cX5_step 48 = .ok (.if_icmp .gt 81, 3) := by decide +kernel
theorem dX5_step_51 : decode cX5_step 51 = .ok (.aload_n 0, 1) := by decide +kernel
theorem dX5_step_52 : decode cX5_step 52 = .ok (.getfield 97, 3) := by decide +kernel
theorem dX5_step_55 : decode cX5_step 55 = .ok (.bipush (-9), 2) := by decide +kernel
theorem dX5_step_57 : decode cX5_step 57 = .ok (.if_icmp .ne 72, 3) := by decide +kernel
theorem dX5_step_60 : decode cX5_step 60 = .ok (.aload_n 0, 1) := by decide +kernel
theorem dX5_step_61 : decode cX5_step 61 = .ok (.getfield 100, 3) := by decide +kernel
theorem dX5_step_64 : decode cX5_step 64 = .ok (.bipush (-9), 2) := by decide +kernel
theorem dX5_step_66 : decode cX5_step 66 = .ok (.if_icmp .ne 63, 3) := by decide +kernel
theorem dX5_step_69 : decode cX5_step 69 = .ok (.aload_n 0, 1) := by decide +kernel
theorem dX5_step_70 : decode cX5_step 70 = .ok (.iload_n 3, 1) := by decide +kernel
theorem dX5_step_71 : decode cX5_step 71 = .ok (.invokevirtual 118, 3) := by decide +kernel
theorem dX5_step_74 : decode cX5_step 74 = .ok (.istore 4, 2) := by decide +kernel
theorem dX5_step_76 : decode cX5_step 76 = .ok (.iload 4, 2) := by decide +kernel
theorem dX5_step_78 : decode cX5_step 78 = .ok (.ifCond .gt 11, 3) := by decide +kernel
theorem dX5_step_81 : decode cX5_step 81 = .ok (.aload_n 0, 1) := by decide +kernel
theorem dX5_step_82 : decode cX5_step 82 = .ok (.iload_n 3, 1) := by decide +kernel
theorem dX5_step_83 : decode cX5_step 83 = .ok (.putfield 100, 3) := by decide +kernel
theorem dX5_step_86 : decode cX5_step 86 = .ok (.goto 37, 3) := by decide +kernel
theorem dX5_step_89 : decode cX5_step 89 = .ok (.iload_n 3, 1) := by decide +kernel
theorem dX5_step_90 : decode cX5_step 90 = .ok (.aload_n 0, 1) := by decide +kernel
theorem dX5_step_91 : decode cX5_step 91 = .ok (.getfield 7, 3) := by decide +kernel
theorem dX5_step_94 : decode cX5_step 94 = .ok (.iconst 1, 1) := by decide +kernel
theorem dX5_step_95 : decode cX5_step 95 = .ok (.iaload, 1) := by decide +kernel
theorem dX5_step_96 : decode cX5_step 96 = .ok (.iconst 2, 1) := by decide +kernel
theorem dX5_step_97 : decode cX5_step 97 = .ok (.iload_n 1, 1) := by decide +kernel
theorem dX5_step_98 : decode cX5_step 98 = .ok (.imul, 1) := by decide +kernel
theorem dX5_step_99 : decode cX5_step 99 = .ok (.iadd, 1) := by decide +kernel
theorem dX5_step_100 : decode cX5_step 100 = .ok (.imul, 1) := by decide +kernel
theorem dX5_step_101 : decode cX5_step 101 = .ok (.iconst 2, 1) := by decide +kernel
theorem dX5_step_102 : decode cX5_step 102 = .ok (.iload_n 1, 1) := by decide +kernel
theorem dX5_step_103 : decode cX5_step 103 = .ok (.imul, 1) := by decide +kernel
theorem dX5_step_104 : decode cX5_step 104 = .ok (.idiv, 1) := by decide +kernel
theorem dX5_step_105 : decode cX5_step 105 = .ok (.bipush 100, 2) := by decide +kernel
theorem dX5_step_107 : decode cX5_step 107 = .ok (.iload_n 2, 1) := by decide +kernel
theorem dX5_step_108 : decode cX5_step 108 = .ok (.iadd, 1) := by decide +kernel
theorem dX5_step_109 : decode cX5_step 109 = .ok (.if_icmp .lt 14, 3) := by decide +kernel
theorem dX5_step_112 : decode cX5_step 112 = .ok (.aload_n 0, 1) := by decide +kernel
theorem dX5_step_113 : decode cX5_step 113 = .ok (.iload_n 3, 1) := by decide +kernel
theorem dX5_step_114 : decode cX5_step 114 = .ok (.putfield 97, 3) := by decide +kernel
theorem dX5_step_117 : decode cX5_step 117 = .ok (.aload_n 0, 1) := by decide +kernel
theorem dX5_step_118 : decode cX5_step 118 = .ok (.iload 4, 2) := by decide +kernel
theorem dX5_step_120 : decode cX5_step 120 = .ok (.putfield 103, 3) := by decide +kernel
theorem dX5_step_123 : decode cX5_step 123 = .ok (.iinc 3 1, 3) := by decide +kernel
theorem dX5_step_126 : decode cX5_step 126 = .ok (.goto (-82), 3) := by decide +kernel
theorem dX5_step_129 : decode cX5_step 129 = .ok (.aload_n 0, 1) := by decide +kernel
theorem dX5_step_130 : decode cX5_step 130 = .ok (.getfield 97, 3) := by decide +kernel
theorem dX5_step_133 : decode cX5_step 133 = .ok (.bipush (-9), 2) := by decide +kernel
theorem dX5_step_135 : decode cX5_step 135 = .ok (.if_icmp .ne 4, 3) := by decide +kernel
theorem dX5_step_138 : decode cX5_step 138 = .ok (.return_, 1) := by decide +kernel
theorem dX5_step_139 : decode cX5_step 139 = .ok (.aload_n 0, 1) := by decide +kernel
theorem dX5_step_140 : decode cX5_step 140 = .ok (.sipush 180, 3) := by decide +kernel
theorem dX5_step_143 : decode cX5_step 143 = .ok (.aload_n 0, 1) := by decide +kernel
theorem dX5_step_144 : decode cX5_step 144 = .ok (.getfield 97, 3) := by decide +kernel
theorem dX5_step_147 : decode cX5_step 147 = .ok (.aload_n 0, 1) := by decide +kernel
theorem dX5_step_148 : decode cX5_step 148 = .ok (.getfield 7, 3) := by decide +kernel
theorem dX5_step_151 : decode cX5_step 151 = .ok (.iconst 5, 1) := by decide +kernel
theorem dX5_step_152 : decode cX5_step 152 = .ok (.iaload, 1) := by decide +kernel
theorem dX5_step_153 : decode cX5_step 153 = .ok (.isub, 1) := by decide +kernel
theorem dX5_step_154 : decode cX5_step 154 = .ok (.isub, 1) := by decide +kernel
theorem dX5_step_155 : decode cX5_step 155 = .ok (.iload_n 2, 1) := by decide +kernel
theorem dX5_step_156 : decode cX5_step 156 = .ok (.isub, 1) := by decide +kernel
theorem dX5_step_157 : decode cX5_step 157 = .ok (.putfield 106, 3) := by decide +kernel
theorem dX5_step_160 : decode cX5_step 160 = .ok (.aload_n 0, 1) := by decide +kernel
theorem dX5_step_161 : decode cX5_step 161 = .ok (.getfield 106, 3) := by decide +kernel
theorem dX5_step_164 : decode cX5_step 164 = .ok (.iconst 1, 1) := by decide +kernel
theorem dX5_step_165 : decode cX5_step 165 = .ok (.bipush 89, 2) := by decide +kernel
theorem dX5_step_167 : decode cX5_step 167 = .ok (.invokestatic 71, 3) := by decide +kernel
theorem dX5_step_170 : decode cX5_step 170 = .ok (.ifCond .ne 4, 3) := by decide +kernel
theorem dX5_step_173 : decode cX5_step 173 = .ok (.return_, 1) := by decide +kernel
theorem dX5_step_174 : decode cX5_step 174 = .ok (.aload_n 0, 1) := by decide +kernel
theorem dX5_step_175 : decode cX5_step 175 = .ok (.getfield 7, 3) := by decide +kernel
theorem dX5_step_178 : decode cX5_step 178 = .ok (.iconst 1, 1) := by decide +kernel
theorem dX5_step_179 : decode cX5_step 179 = .ok (.iaload, 1) := by decide +kernel
theorem dX5_step_180 : decode cX5_step 180 = .ok (.iload_n 1, 1) := by decide +kernel
theorem dX5_step_181 : decode cX5_step 181 = .ok (.iadd, 1) := by decide +kernel
theorem dX5_step_182 : decode cX5_step 182 = .ok (.i2l, 1) := by decide +kernel
theorem dX5_step_183 : decode cX5_step 183 = .ok (.aload_n 0, 1) := by decide +kernel
theorem dX5_step_184 : decode cX5_step 184 = .ok (.getfield 7, 3) := by decide +kernel
theorem dX5_step_187 : decode cX5_step 187 = .ok (.iconst 1, 1) := by decide +kernel
theorem dX5_step_188 : decode cX5_step 188 = .ok (.iaload, 1) := by decide +kernel
theorem dX5_step_189 : decode cX5_step 189 = .ok (.iload_n 1, 1) := by decide +kernel
theorem dX5_step_190 : decode cX5_step 190 = .ok (.iadd, 1) := by decide +kernel
theorem dX5_step_191 : decode cX5_step 191 = .ok (.i2l, 1) := by decide +kernel
theorem dX5_step_192 : decode cX5_step 192 = .ok (.lmul, 1) := by decide +kernel
theorem dX5_step_193 : decode cX5_step 193 = .ok (.lstore_n 3, 1) := by decide +kernel
theorem dX5_step_194 : decode cX5_step 194 = .ok (.aload_n 0, 1) := by decide +kernel
theorem dX5_step_195 : decode cX5_step 195 = .ok (.ldc2_w 121, 3) := by decide +kernel
theorem dX5_step_198 : decode cX5_step 198 = .ok (.aload_n 0, 1) := by decide +kernel
theorem dX5_step_199 : decode cX5_step 199 = .ok (.getfield 103, 3) := by decide +kernel
theorem dX5_step_202 : decode cX5_step 202 = .ok (.i2l, 1) := by decide +kernel
theorem dX5_step_203 : decode cX5_step 203 = .ok (.lmul, 1) := by decide +kernel
theorem dX5_step_204 : decode cX5_step 204 = .ok (.lload_n 3, 1) := by decide +kernel
theorem dX5_step_205 : decode cX5_step 205 = .ok (.lmul, 1) := by decide +kernel
theorem dX5_step_206 : decode cX5_step 206 = .ok (.aload_n 0, 1) := by decide +kernel
theorem dX5_step_207 : decode cX5_step 207 = .ok (.getfield 7, 3) := by decide +kernel
theorem dX5_step_210 : decode cX5_step 210 = .ok (.iconst 2, 1) := by decide +kernel
theorem dX5_step_211 : decode cX5_step 211 = .ok (.iaload, 1) := by decide +kernel
theorem dX5_step_212 : decode cX5_step 212 = .ok (.i2l, 1) := by decide +kernel
theorem dX5_step_213 : decode cX5_step 213 = .ok (.aload_n 0, 1) := by decide +kernel
theorem dX5_step_214 : decode cX5_step 214 = .ok (.getfield 7, 3) := by decide +kernel
theorem dX5_step_217 : decode cX5_step 217 = .ok (.iconst 0, 1) := by decide +kernel
theorem dX5_step_218 : decode cX5_step 218 = .ok (.iaload, 1) := by decide +kernel
theorem dX5_step_219 : decode cX5_step 219 = .ok (.i2l, 1) := by decide +kernel
theorem dX5_step_220 : decode cX5_step 220 = .ok (.lmul, 1) := by decide +kernel
theorem dX5_step_221 : decode cX5_step 221 = .ok (.aload_n 0, 1) := by decide +kernel
theorem dX5_step_222 : decode cX5_step 222 = .ok (.getfield 7, 3) := by decide +kernel
theorem dX5_step_225 : decode cX5_step 225 = .ok (.iconst 0, 1) := by decide +kernel
theorem dX5_step_226 : decode cX5_step 226 = .ok (.iaload, 1) := by decide +kernel
theorem dX5_step_227 : decode cX5_step 227 = .ok (.i2l, 1) := by decide +kernel
theorem dX5_step_228 : decode cX5_step 228 = .ok (.lmul, 1) := by decide +kernel
theorem dX5_step_229 : decode cX5_step 229 = .ok (.aload_n 0, 1) := by decide +kernel
theorem dX5_step_230 : decode cX5_step 230 = .ok (.getfield 7, 3) := by decide +kernel
theorem dX5_step_233 : decode cX5_step 233 = .ok (.bipush 7, 2) := by decide +kernel
theorem dX5_step_235 : decode cX5_step 235 = .ok (.iaload, 1) := by decide +kernel
theorem dX5_step_236 : decode cX5_step 236 = .ok (.i2l, 1) := by decide +kernel
theorem dX5_step_237 : decode cX5_step 237 = .ok (.lload_n 3, 1) := by decide +kernel
theorem dX5_step_238 : decode cX5_step 238 = .ok (.lmul, 1) := by decide +kernel
theorem dX5_step_239 : decode cX5_step 239 = .ok (.ladd, 1) := by decide +kernel
theorem dX5_step_240 : decode cX5_step 240 = .ok (.ldiv, 1) := by decide +kernel
theorem dX5_step_241 : decode cX5_step 241 = .ok (.l2i, 1) := by decide +kernel
theorem dX5_step_242 : decode cX5_step 242 = .ok (.putfield 109, 3) := by decide +kernel
theorem dX5_step_245 : decode cX5_step 245 = .ok (.aload_n 0, 1) := by decide +kernel
theorem dX5_step_246 : decode cX5_step 246 = .ok (.aload_n 0, 1) := by decide +kernel
theorem dX5_step_247 : decode cX5_step 247 = .ok (.getfield 109, 3) := by decide +kernel
theorem dX5_step_250 : decode cX5_step 250 = .ok (.i2l, 1) := by decide +kernel
theorem dX5_step_251 : decode cX5_step 251 = .ok (.iconst 2, 1) := by decide +kernel
theorem dX5_step_252 : decode cX5_step 252 = .ok (.aload_n 0, 1) := by decide +kernel
theorem dX5_step_253 : decode cX5_step 253 = .ok (.getfield 106, 3) := by decide +kernel
theorem dX5_step_256 : decode cX5_step 256 = .ok (.imul, 1) := by decide +kernel
theorem dX5_step_257 : decode cX5_step 257 = .ok (.invokestatic 92, 3) := by decide +kernel
theorem dX5_step_260 : decode cX5_step 260 = .ok (.i2l, 1) := by decide +kernel
theorem dX5_step_261 : decode cX5_step 261 = .ok (.lmul, 1) := by decide +kernel
theorem dX5_step_262 : decode cX5_step 262 = .ok (.ldc2_w 123, 3) := by decide +kernel
theorem dX5_step_265 : decode cX5_step 265 = .ok (.ldiv, 1) := by decide +kernel
theorem dX5_step_266 : decode cX5_step 266 = .ok (.l2i, 1) := by decide +kernel
theorem dX5_step_267 : decode cX5_step 267 = .ok (.putfield 112, 3) := by decide +kernel
theorem dX5_step_270 : decode cX5_step 270 = .ok (.aload_n 0, 1) := by decide +kernel
theorem dX5_step_271 : decode cX5_step 271 = .ok (.aload_n 0, 1) := by decide +kernel
theorem dX5_step_272 : decode cX5_step 272 = .ok (.getfield 7, 3) := by decide +kernel
theorem dX5_step_275 : decode cX5_step 275 = .ok (.bipush 8, 2) := by decide +kernel
theorem dX5_step_277 : decode cX5_step 277 = .ok (.iaload, 1) := by decide +kernel
theorem dX5_step_278 : decode cX5_step 278 = .ok (.aload_n 0, 1) := by decide +kernel
theorem dX5_step_279 : decode cX5_step 279 = .ok (.getfield 112, 3) := by decide +kernel
theorem dX5_step_282 : decode cX5_step 282 = .ok (.invokevirtual 125, 3) := by decide +kernel
theorem dX5_step_285 : decode cX5_step 285 = .ok (.istore 5, 2) := by decide +kernel
theorem dX5_step_287 : decode cX5_step 287 = .ok (.iload 5, 2) := by decide +kernel
theorem dX5_step_289 : decode cX5_step 289 = .ok (.aload_n 0, 1) := by decide +kernel
theorem dX5_step_290 : decode cX5_step 290 = .ok (.getfield 85, 3) := by decide +kernel
theorem dX5_step_293 : decode cX5_step 293 = .ok (.iload 5, 2) := by decide +kernel
theorem dX5_step_295 : decode cX5_step 295 = .ok (.imul, 1) := by decide +kernel
theorem dX5_step_296 : decode cX5_step 296 = .ok (.bipush 100, 2) := by decide +kernel
theorem dX5_step_298 : decode cX5_step 298 = .ok (.idiv, 1) := by decide +kernel
theorem dX5_step_299 : decode cX5_step 299 = .ok (.iadd, 1) := by decide +kernel
theorem dX5_step_300 : decode cX5_step 300 = .ok (.istore 5, 2) := by decide +kernel
theorem dX5_step_302 : decode cX5_step 302 = .ok (.aload_n 0, 1) := by decide +kernel
theorem dX5_step_303 : decode cX5_step 303 = .ok (.iload 5, 2) := by decide +kernel
theorem dX5_step_305 : decode cX5_step 305 = .ok (.ifCond .ge 7, 3) := by decide +kernel
theorem dX5_step_308 : decode cX5_step 308 = .ok (.iconst 0, 1) := by decide +kernel
theorem dX5_step_309 : decode cX5_step 309 = .ok (.goto 5, 3) := by decide +kernel
theorem dX5_step_312 : decode cX5_step 312 = .ok (.iload 5, 2) := by decide +kernel
theorem dX5_step_314 : decode cX5_step 314 = .ok (.putfield 115, 3) := by decide +kernel
theorem dX5_step_317 : decode cX5_step 317 = .ok (.return_, 1) := by decide +kernel
theorem dX5_throwing_0 : decode cX5_throwing 0 = .ok (.aload_n 0, 1) := by decide +kernel
theorem dX5_throwing_1 : decode cX5_throwing 1 = .ok (.aload_n 0, 1) := by decide +kernel
theorem dX5_throwing_2 : decode cX5_throwing 2 = .ok (.getfield 7, 3) := by decide +kernel
theorem dX5_throwing_5 : decode cX5_throwing 5 = .ok (.iconst 3, 1) := by decide +kernel
theorem dX5_throwing_6 : decode cX5_throwing 6 = .ok (.iaload, 1) := by decide +kernel
theorem dX5_throwing_7 : decode cX5_throwing 7 = .ok (.aload_n 0, 1) := by decide +kernel
theorem dX5_throwing_8 : decode cX5_throwing 8 = .ok (.getfield 7, 3) := by decide +kernel
theorem dX5_throwing_11 : decode cX5_throwing 11 = .ok (.iconst 4, 1) := by decide +kernel
theorem dX5_throwing_12 : decode cX5_throwing 12 = .ok (.iaload, 1) := by decide +kernel
theorem dX5_throwing_13 : decode cX5_throwing 13 = .ok (.invokevirtual 129, 3) := by decide +kernel
theorem dX5_throwing_16 : decode cX5_throwing 16 = .ok (.iload_n 1, 1) := by decide +kernel
theorem dX5_throwing_17 : decode cX5_throwing 17 = .ok (.tableswitch 78 0 6 #[43, 48, 53, 58, 63, 68, 73], 43) := by decide +kernel
theorem dX5_throwing_60 : decode cX5_throwing 60 = .ok (.aload_n 0, 1) := by decide +kernel
theorem dX5_throwing_61 : decode cX5_throwing 61 = .ok (.getfield 97, 3) := by decide +kernel
theorem dX5_throwing_64 : decode cX5_throwing 64 = .ok (.ireturn, 1) := by decide +kernel
theorem dX5_throwing_65 : decode cX5_throwing 65 = .ok (.aload_n 0, 1) := by decide +kernel
theorem dX5_throwing_66 : decode cX5_throwing 66 = .ok (.getfield 100, 3) := by decide +kernel
theorem dX5_throwing_69 : decode cX5_throwing 69 = .ok (.ireturn, 1) := by decide +kernel
theorem dX5_throwing_70 : decode cX5_throwing 70 = .ok (.aload_n 0, 1) := by decide +kernel
theorem dX5_throwing_71 : decode cX5_throwing 71 = .ok (.getfield 103, 3) := by decide +kernel
theorem dX5_throwing_74 : decode cX5_throwing 74 = .ok (.ireturn, 1) := by decide +kernel
theorem dX5_throwing_75 : decode cX5_throwing 75 = .ok (.aload_n 0, 1) := by decide +kernel
theorem dX5_throwing_76 : decode cX5_throwing 76 = .ok (.getfield 106, 3) := by decide +kernel
theorem dX5_throwing_79 : decode cX5_throwing 79 = .ok (.ireturn, 1) := by decide +kernel
theorem dX5_throwing_80 : decode cX5_throwing 80 = .ok (.aload_n 0, 1) := by decide +kernel
theorem dX5_throwing_81 : decode cX5_throwing 81 = .ok (.getfield 109, 3) := by decide +kernel
theorem dX5_throwing_84 : decode cX5_throwing 84 = .ok (.ireturn, 1) := by decide +kernel
theorem dX5_throwing_85 : decode cX5_throwing 85 = .ok (.aload_n 0, 1) := by decide +kernel
theorem dX5_throwing_86 : decode cX5_throwing 86 = .ok (.getfield 112, 3) := by decide +kernel
theorem dX5_throwing_89 : decode cX5_throwing 89 = .ok (.ireturn, 1) := by decide +kernel
theorem dX5_throwing_90 : decode cX5_throwing 90 = .ok (.aload_n 0, 1) := by decide +kernel
theorem dX5_throwing_91 : decode cX5_throwing 91 = .ok (.getfield 115, 3) := by decide +kernel
theorem dX5_throwing_94 : decode cX5_throwing 94 = .ok (.ireturn, 1) := by decide +kernel
theorem dX5_throwing_95 : decode cX5_throwing 95 = .ok (.iconst (-1), 1) := by decide +kernel
theorem dX5_throwing_96 : decode cX5_throwing 96 = .ok (.ireturn, 1) := by decide +kernel
theorem dX5_flight_0 : decode cX5_flight 0 = .ok (.iload_n 1, 1) := by decide +kernel
theorem dX5_flight_1 : decode cX5_flight 1 = .ok (.iconst 0, 1) := by decide +kernel
theorem dX5_flight_2 : decode cX5_flight 2 = .ok (.iconst 2, 1) := by decide +kernel
theorem dX5_flight_3 : decode cX5_flight 3 = .ok (.invokestatic 71, 3) := by decide +kernel
theorem dX5_flight_6 : decode cX5_flight 6 = .ok (.ifCond .eq 14, 3) := by decide +kernel
theorem dX5_flight_9 : decode cX5_flight 9 = .ok (.iload_n 2, 1) := by decide +kernel
theorem dX5_flight_10 : decode cX5_flight 10 = .ok (.iconst 0, 1) := by decide +kernel
theorem dX5_flight_11 : decode cX5_flight 11 = .ok (.sipush 20000, 3) := by decide +kernel
theorem dX5_flight_14 : decode cX5_flight 14 = .ok (.invokestatic 71, 3) := by decide +kernel
theorem dX5_flight_17 : decode cX5_flight 17 = .ok (.ifCond .ne 5, 3) := by decide +kernel
theorem dX5_flight_20 : decode cX5_flight 20 = .ok (.iconst (-1), 1) := by decide +kernel
theorem dX5_flight_21 : decode cX5_flight 21 = .ok (.ireturn, 1) := by decide +kernel
theorem dX5_flight_22 : decode cX5_flight 22 = .ok (.aload_n 0, 1) := by decide +kernel
theorem dX5_flight_23 : decode cX5_flight 23 = .ok (.dup, 1) := by decide +kernel
theorem dX5_flight_24 : decode cX5_flight 24 = .ok (.getfield 133, 3) := by decide +kernel
theorem dX5_flight_27 : decode cX5_flight 27 = .ok (.iload_n 1, 1) := by decide +kernel
theorem dX5_flight_28 : decode cX5_flight 28 = .ok (.ifCond .ne 7, 3) := by decide +kernel
theorem dX5_flight_31 : decode cX5_flight 31 = .ok (.lconst 1, 1) := by decide +kernel
theorem dX5_flight_32 : decode cX5_flight 32 = .ok (.goto 17, 3) := by decide +kernel
theorem dX5_flight_35 : decode cX5_flight 35 = .ok (.iload_n 1, 1) := by decide +kernel
theorem dX5_flight_36 : decode cX5_flight 36 = .ok (.iconst 1, 1) := by decide +kernel
theorem dX5_flight_37 : decode cX5_flight 37 = .ok (.if_icmp .ne 9, 3) := by decide +kernel
theorem dX5_flight_40 : decode cX5_flight 40 = .ok (.ldc2_w 137, 3) := by decide +kernel
theorem dX5_flight_43 : decode cX5_flight 43 = .ok (.goto 6, 3) := by decide +kernel
theorem dX5_flight_46 : decode cX5_flight 46 = .ok (.ldc2_w 139, 3) := by decide +kernel
theorem dX5_flight_49 : decode cX5_flight 49 = .ok (.ladd, 1) := by decide +kernel
theorem dX5_flight_50 : decode cX5_flight 50 = .ok (.putfield 133, 3) := by decide +kernel
theorem dX5_flight_53 : decode cX5_flight 53 = .ok (.aload_n 0, 1) := by decide +kernel
theorem dX5_flight_54 : decode cX5_flight 54 = .ok (.iload_n 1, 1) := by decide +kernel
theorem dX5_flight_55 : decode cX5_flight 55 = .ok (.iload_n 2, 1) := by decide +kernel
theorem dX5_flight_56 : decode cX5_flight 56 = .ok (.invokevirtual 125, 3) := by decide +kernel
theorem dX5_flight_59 : decode cX5_flight 59 = .ok (.ireturn, 1) := by decide +kernel
theorem dX5_tune_0 : decode cX5_tune 0 = .ok (.iload_n 1, 1) := by decide +kernel
theorem dX5_tune_1 : decode cX5_tune 1 = .ok (.bipush 10, 2) := by decide +kernel
theorem dX5_tune_3 : decode cX5_tune 3 = .ok (.sipush 160, 3) := by decide +kernel
theorem dX5_tune_6 : decode cX5_tune 6 = .ok (.invokestatic 71, 3) := by decide +kernel
theorem dX5_tune_9 : decode cX5_tune 9 = .ok (.ifCond .eq 35, 3) := by decide +kernel
theorem dX5_tune_12 : decode cX5_tune 12 = .ok (.iload_n 2, 1) := by decide +kernel
theorem dX5_tune_13 : decode cX5_tune 13 = .ok (.iload_n 1, 1) := by decide +kernel
theorem dX5_tune_14 : decode cX5_tune 14 = .ok (.sipush 160, 3) := by decide +kernel
theorem dX5_tune_17 : decode cX5_tune 17 = .ok (.invokestatic 71, 3) := by decide +kernel
theorem dX5_tune_20 : decode cX5_tune 20 = .ok (.ifCond .eq 24, 3) := by decide +kernel
theorem dX5_tune_23 : decode cX5_tune 23 = .ok (.iload_n 3, 1) := by decide +kernel
theorem dX5_tune_24 : decode cX5_tune 24 = .ok (.iconst 0, 1) := by decide +kernel
theorem dX5_tune_25 : decode cX5_tune 25 = .ok (.sipush 2000, 3) := by decide +kernel
theorem dX5_tune_28 : decode cX5_tune 28 = .ok (.invokestatic 71, 3) := by decide +kernel
theorem dX5_tune_31 : decode cX5_tune 31 = .ok (.ifCond .eq 13, 3) := by decide +kernel
theorem dX5_tune_34 : decode cX5_tune 34 = .ok (.iload 4, 2) := by decide +kernel
theorem dX5_tune_36 : decode cX5_tune 36 = .ok (.iconst 0, 1) := by decide +kernel
theorem dX5_tune_37 : decode cX5_tune 37 = .ok (.iconst 2, 1) := by decide +kernel
theorem dX5_tune_38 : decode cX5_tune 38 = .ok (.invokestatic 71, 3) := by decide +kernel
theorem dX5_tune_41 : decode cX5_tune 41 = .ok (.ifCond .ne 5, 3) := by decide +kernel
theorem dX5_tune_44 : decode cX5_tune 44 = .ok (.iconst (-1), 1) := by decide +kernel
theorem dX5_tune_45 : decode cX5_tune 45 = .ok (.ireturn, 1) := by decide +kernel
theorem dX5_tune_46 : decode cX5_tune 46 = .ok (.bipush (-9), 2) := by decide +kernel
theorem dX5_tune_48 : decode cX5_tune 48 = .ok (.istore 5, 2) := by decide +kernel
theorem dX5_tune_50 : decode cX5_tune 50 = .ok (.bipush (-9), 2) := by decide +kernel
theorem dX5_tune_52 : decode cX5_tune 52 = .ok (.istore 6, 2) := by decide +kernel
theorem dX5_tune_54 : decode cX5_tune 54 = .ok (.bipush (-9), 2) := by decide +kernel
theorem dX5_tune_56 : decode cX5_tune 56 = .ok (.istore 7, 2) := by decide +kernel
theorem dX5_tune_58 : decode cX5_tune 58 = .ok (.iload_n 1, 1) := by decide +kernel
theorem dX5_tune_59 : decode cX5_tune 59 = .ok (.istore 8, 2) := by decide +kernel
theorem dX5_tune_61 : decode cX5_tune 61 = .ok (.iload 8, 2) := by decide +kernel
theorem dX5_tune_63 : decode cX5_tune 63 = .ok (.iload_n 2, 1) := by decide +kernel
theorem dX5_tune_64 : decode cX5_tune 64 = .ok (.if_icmp .gt 82, 3) := by decide +kernel
theorem dX5_tune_67 : decode cX5_tune 67 = .ok (.iconst 0, 1) := by decide +kernel
theorem dX5_tune_68 : decode cX5_tune 68 = .ok (.istore 9, 2) := by decide +kernel
theorem dX5_tune_70 : decode cX5_tune 70 = .ok (.iload 9, 2) := by decide +kernel
theorem dX5_tune_72 : decode cX5_tune 72 = .ok (.bipush 61, 2) := by decide +kernel
theorem dX5_tune_74 : decode cX5_tune 74 = .ok (.if_icmp .ge 66, 3) := by decide +kernel
theorem dX5_tune_77 : decode cX5_tune 77 = .ok (.aload_n 0, 1) := by decide +kernel
theorem dX5_tune_78 : decode cX5_tune 78 = .ok (.iload 8, 2) := by decide +kernel
theorem dX5_tune_80 : decode cX5_tune 80 = .ok (.iload 9, 2) := by decide +kernel
theorem dX5_tune_82 : decode cX5_tune 82 = .ok (.invokevirtual 129, 3) := by decide +kernel
theorem dX5_tune_85 : decode cX5_tune 85 = .ok (.aload_n 0, 1) := by decide +kernel
theorem dX5_tune_86 : decode cX5_tune 86 = .ok (.getfield 115, 3) := by decide +kernel
theorem dX5_tune_89 : decode cX5_tune 89 = .ok (.bipush (-9), 2) := by decide +kernel
theorem dX5_tune_91 : decode cX5_tune 91 = .ok (.if_icmp .eq 43, 3) := by decide +kernel
theorem dX5_tune_94 : decode cX5_tune 94 = .ok (.iload 5, 2) := by decide +kernel
theorem dX5_tune_96 : decode cX5_tune 96 = .ok (.bipush (-9), 2) := by decide +kernel
theorem dX5_tune_98 : decode cX5_tune 98 = .ok (.if_icmp .eq 22, 3) := by decide +kernel
theorem dX5_tune_101 : decode cX5_tune 101 = .ok (.aload_n 0, 1) := by decide +kernel
theorem dX5_tune_102 : decode cX5_tune 102 = .ok (.getfield 115, 3) := by decide +kernel
theorem dX5_tune_105 : decode cX5_tune 105 = .ok (.iload_n 3, 1) := by decide +kernel
theorem dX5_tune_106 : decode cX5_tune 106 = .ok (.isub, 1) := by decide +kernel
theorem dX5_tune_107 : decode cX5_tune 107 = .ok (.invokestatic 88, 3) := by decide +kernel
theorem dX5_tune_110 : decode cX5_tune 110 = .ok (.iload 7, 2) := by decide +kernel
theorem dX5_tune_112 : decode cX5_tune 112 = .ok (.iload_n 3, 1) := by decide +kernel
theorem dX5_tune_113 : decode cX5_tune 113 = .ok (.isub, 1) := by decide +kernel
theorem dX5_tune_114 : decode cX5_tune 114 = .ok (.invokestatic 88, 3) := by decide +kernel
theorem dX5_tune_117 : decode cX5_tune 117 = .ok (.if_icmp .ge 17, 3) := by decide +kernel
theorem dX5_tune_120 : decode cX5_tune 120 = .ok (.iload 8, 2) := by decide +kernel
theorem dX5_tune_122 : decode cX5_tune 122 = .ok (.istore 5, 2) := by decide +kernel
theorem dX5_tune_124 : decode cX5_tune 124 = .ok (.iload 9, 2) := by decide +kernel
theorem dX5_tune_126 : decode cX5_tune 126 = .ok (.istore 6, 2) := by decide +kernel
theorem dX5_tune_128 : decode cX5_tune 128 = .ok (.aload_n 0, 1) := by decide +kernel
theorem dX5_tune_129 : decode cX5_tune 129 = .ok (.getfield 115, 3) := by decide +kernel
theorem dX5_tune_132 : decode cX5_tune 132 = .ok (.istore 7, 2) := by decide +kernel
theorem dX5_tune_134 : decode cX5_tune 134 = .ok (.iinc 9 1, 3) := by decide +kernel
theorem dX5_tune_137 : decode cX5_tune 137 = .ok (.goto (-67), 3) := by decide +kernel
theorem dX5_tune_140 : decode cX5_tune 140 = .ok (.iinc 8 1, 3) := by decide +kernel
theorem dX5_tune_143 : decode cX5_tune 143 = .ok (.goto (-82), 3) := by decide +kernel
theorem dX5_tune_146 : decode cX5_tune 146 = .ok (.iload 4, 2) := by decide +kernel
theorem dX5_tune_148 : decode cX5_tune 148 = .ok (.ifCond .ne 8, 3) := by decide +kernel
theorem dX5_tune_151 : decode cX5_tune 151 = .ok (.iload 5, 2) := by decide +kernel
theorem dX5_tune_153 : decode cX5_tune 153 = .ok (.goto 16, 3) := by decide +kernel
theorem dX5_tune_156 : decode cX5_tune 156 = .ok (.iload 4, 2) := by decide +kernel
theorem dX5_tune_158 : decode cX5_tune 158 = .ok (.iconst 1, 1) := by decide +kernel
theorem dX5_tune_159 : decode cX5_tune 159 = .ok (.if_icmp .ne 8, 3) := by decide +kernel
theorem dX5_tune_162 : decode cX5_tune 162 = .ok (.iload 6, 2) := by decide +kernel
theorem dX5_tune_164 : decode cX5_tune 164 = .ok (.goto 5, 3) := by decide +kernel
theorem dX5_tune_167 : decode cX5_tune 167 = .ok (.iload 7, 2) := by decide +kernel
theorem dX5_tune_169 : decode cX5_tune 169 = .ok (.ireturn, 1) := by decide +kernel
theorem dX5_spread_0 : decode cX5_spread 0 = .ok (.iload_n 1, 1) := by decide +kernel
theorem dX5_spread_1 : decode cX5_spread 1 = .ok (.iconst 0, 1) := by decide +kernel
theorem dX5_spread_2 : decode cX5_spread 2 = .ok (.bipush 50, 2) := by decide +kernel
theorem dX5_spread_4 : decode cX5_spread 4 = .ok (.invokestatic 71, 3) := by decide +kernel
theorem dX5_spread_7 : decode cX5_spread 7 = .ok (.ifCond .ne 5, 3) := by decide +kernel
theorem dX5_spread_10 : decode cX5_spread 10 = .ok (.iconst (-1), 1) := by decide +kernel
theorem dX5_spread_11 : decode cX5_spread 11 = .ok (.ireturn, 1) := by decide +kernel
theorem dX5_spread_12 : decode cX5_spread 12 = .ok (.aload_n 0, 1) := by decide +kernel
theorem dX5_spread_13 : decode cX5_spread 13 = .ok (.getfield 13, 3) := by decide +kernel
theorem dX5_spread_16 : decode cX5_spread 16 = .ok (.istore_n 2, 1) := by decide +kernel
theorem dX5_spread_17 : decode cX5_spread 17 = .ok (.aload_n 0, 1) := by decide +kernel
theorem dX5_spread_18 : decode cX5_spread 18 = .ok (.iload_n 1, 1) := by decide +kernel
theorem dX5_spread_19 : decode cX5_spread 19 = .ok (.putfield 13, 3) := by decide +kernel
theorem dX5_spread_22 : decode cX5_spread 22 = .ok (.iload_n 2, 1) := by decide +kernel
theorem dX5_spread_23 : decode cX5_spread 23 = .ok (.ireturn, 1) := by decide +kernel
theorem dX5_shot_0 : decode cX5_shot 0 = .ok (.iload_n 1, 1) := by decide +kernel
theorem dX5_shot_1 : decode cX5_shot 1 = .ok (.iconst 0, 1) := by decide +kernel
theorem dX5_shot_2 : decode cX5_shot 2 = .ok (.bipush 60, 2) := by decide +kernel
theorem dX5_shot_4 : decode cX5_shot 4 = .ok (.invokestatic 71, 3) := by decide +kernel
theorem dX5_shot_7 : decode cX5_shot 7 = .ok (.ifCond .eq 14, 3) := by decide +kernel
theorem dX5_shot_10 : decode cX5_shot 10 = .ok (.iload_n 2, 1) := by decide +kernel
theorem dX5_shot_11 : decode cX5_shot 11 = .ok (.iconst 0, 1) := by decide +kernel
theorem dX5_shot_12 : decode cX5_shot 12 = .ok (.sipush 2000, 3) := by decide +kernel
theorem dX5_shot_15 : decode cX5_shot 15 = .ok (.invokestatic 71, 3) := by decide +kernel
theorem dX5_shot_18 : decode cX5_shot 18 = .ok (.ifCond .ne 5, 3) := by decide +kernel
theorem dX5_shot_21 : decode cX5_shot 21 = .ok (.iconst (-1), 1) := by decide +kernel
theorem dX5_shot_22 : decode cX5_shot 22 = .ok (.ireturn, 1) := by decide +kernel
theorem dX5_shot_23 : decode cX5_shot 23 = .ok (.aload_n 0, 1) := by decide +kernel
theorem dX5_shot_24 : decode cX5_shot 24 = .ok (.getfield 141, 3) := by decide +kernel
theorem dX5_shot_27 : decode cX5_shot 27 = .ok (.bipush 16, 2) := by decide +kernel
theorem dX5_shot_29 : decode cX5_shot 29 = .ok (.if_icmp .ne 6, 3) := by decide +kernel
theorem dX5_shot_32 : decode cX5_shot 32 = .ok (.bipush (-3), 2) := by decide +kernel
theorem dX5_shot_34 : decode cX5_shot 34 = .ok (.ireturn, 1) := by decide +kernel
theorem dX5_shot_35 : decode cX5_shot 35 = .ok (.aload_n 0, 1) := by decide +kernel
theorem dX5_shot_36 : decode cX5_shot 36 = .ok (.getfield 17, 3) := by decide +kernel
theorem dX5_shot_39 : decode cX5_shot 39 = .ok (.aload_n 0, 1) := by decide +kernel
theorem dX5_shot_40 : decode cX5_shot 40 = .ok (.getfield 141, 3) := by decide +kernel
theorem dX5_shot_43 : decode cX5_shot 43 = .ok (.iload_n 1, 1) := by decide +kernel
theorem dX5_shot_44 : decode cX5_shot 44 = .ok (.iastore, 1) := by decide +kernel
theorem dX5_shot_45 : decode cX5_shot 45 = .ok (.aload_n 0, 1) := by decide +kernel
theorem dX5_shot_46 : decode cX5_shot 46 = .ok (.getfield 20, 3) := by decide +kernel
theorem dX5_shot_49 : decode cX5_shot 49 = .ok (.aload_n 0, 1) := by decide +kernel
theorem dX5_shot_50 : decode cX5_shot 50 = .ok (.getfield 141, 3) := by decide +kernel
theorem dX5_shot_53 : decode cX5_shot 53 = .ok (.iload_n 2, 1) := by decide +kernel
theorem dX5_shot_54 : decode cX5_shot 54 = .ok (.iastore, 1) := by decide +kernel
theorem dX5_shot_55 : decode cX5_shot 55 = .ok (.aload_n 0, 1) := by decide +kernel
theorem dX5_shot_56 : decode cX5_shot 56 = .ok (.dup, 1) := by decide +kernel
theorem dX5_shot_57 : decode cX5_shot 57 = .ok (.getfield 141, 3) := by decide +kernel
theorem dX5_shot_60 : decode cX5_shot 60 = .ok (.iconst 1, 1) := by decide +kernel
theorem dX5_shot_61 : decode cX5_shot 61 = .ok (.iadd, 1) := by decide +kernel
theorem dX5_shot_62 : decode cX5_shot 62 = .ok (.putfield 141, 3) := by decide +kernel
theorem dX5_shot_65 : decode cX5_shot 65 = .ok (.aload_n 0, 1) := by decide +kernel
theorem dX5_shot_66 : decode cX5_shot 66 = .ok (.getfield 141, 3) := by decide +kernel
theorem dX5_shot_69 : decode cX5_shot 69 = .ok (.ireturn, 1) := by decide +kernel
theorem dX5_clear_0 : decode cX5_clear 0 = .ok (.aload_n 0, 1) := by decide +kernel
theorem dX5_clear_1 : decode cX5_clear 1 = .ok (.getfield 141, 3) := by decide +kernel
theorem dX5_clear_4 : decode cX5_clear 4 = .ok (.istore_n 1, 1) := by decide +kernel
theorem dX5_clear_5 : decode cX5_clear 5 = .ok (.aload_n 0, 1) := by decide +kernel
theorem dX5_clear_6 : decode cX5_clear 6 = .ok (.iconst 0, 1) := by decide +kernel
theorem dX5_clear_7 : decode cX5_clear 7 = .ok (.putfield 141, 3) := by decide +kernel
theorem dX5_clear_10 : decode cX5_clear 10 = .ok (.iload_n 1, 1) := by decide +kernel
theorem dX5_clear_11 : decode cX5_clear 11 = .ok (.ireturn, 1) := by decide +kernel
theorem dX5_lands_0 : decode cX5_lands 0 = .ok (.iload_n 0, 1) := by decide +kernel
theorem dX5_lands_1 : decode cX5_lands 1 = .ok (.bipush 85, 2) := by decide +kernel
theorem dX5_lands_3 : decode cX5_lands 3 = .ok (.iload_n 1, 1) := by decide +kernel
theorem dX5_lands_4 : decode cX5_lands 4 = .ok (.bipush 25, 2) := by decide +kernel
theorem dX5_lands_6 : decode cX5_lands 6 = .ok (.idiv, 1) := by decide +kernel
theorem dX5_lands_7 : decode cX5_lands 7 = .ok (.iadd, 1) := by decide +kernel
theorem dX5_lands_8 : decode cX5_lands 8 = .ok (.imul, 1) := by decide +kernel
theorem dX5_lands_9 : decode cX5_lands 9 = .ok (.bipush 100, 2) := by decide +kernel
theorem dX5_lands_11 : decode cX5_lands 11 = .ok (.idiv, 1) := by decide +kernel
theorem dX5_lands_12 : decode cX5_lands 12 = .ok (.iload_n 1, 1) := by decide +kernel
theorem dX5_lands_13 : decode cX5_lands 13 = .ok (.bipush 25, 2) := by decide +kernel
theorem dX5_lands_15 : decode cX5_lands 15 = .ok (.irem, 1) := by decide +kernel
theorem dX5_lands_16 : decode cX5_lands 16 = .ok (.iadd, 1) := by decide +kernel
theorem dX5_lands_17 : decode cX5_lands 17 = .ok (.bipush 12, 2) := by decide +kernel
theorem dX5_lands_19 : decode cX5_lands 19 = .ok (.isub, 1) := by decide +kernel
theorem dX5_lands_20 : decode cX5_lands 20 = .ok (.ireturn, 1) := by decide +kernel
theorem dX5_findLeft_0 : decode cX5_findLeft 0 = .ok (.iconst 0, 1) := by decide +kernel
theorem dX5_findLeft_1 : decode cX5_findLeft 1 = .ok (.istore_n 1, 1) := by decide +kernel
theorem dX5_findLeft_2 : decode cX5_findLeft 2 = .ok (.iload_n 1, 1) := by decide +kernel
theorem dX5_findLeft_3 : decode cX5_findLeft 3 = .ok (.bipush 61, 2) := by decide +kernel
theorem dX5_findLeft_5 : decode cX5_findLeft 5 = .ok (.if_icmp .ge 30, 3) := by decide +kernel
theorem dX5_findLeft_8 : decode cX5_findLeft 8 = .ok (.aload_n 0, 1) := by decide +kernel
theorem dX5_findLeft_9 : decode cX5_findLeft 9 = .ok (.aload_n 0, 1) := by decide +kernel
theorem dX5_findLeft_10 : decode cX5_findLeft 10 = .ok (.getfield 7, 3) := by decide +kernel
theorem dX5_findLeft_13 : decode cX5_findLeft 13 = .ok (.iconst 3, 1) := by decide +kernel
theorem dX5_findLeft_14 : decode cX5_findLeft 14 = .ok (.iaload, 1) := by decide +kernel
theorem dX5_findLeft_15 : decode cX5_findLeft 15 = .ok (.iload_n 1, 1) := by decide +kernel
theorem dX5_findLeft_16 : decode cX5_findLeft 16 = .ok (.invokevirtual 129, 3) := by decide +kernel
theorem dX5_findLeft_19 : decode cX5_findLeft 19 = .ok (.aload_n 0, 1) := by decide +kernel
theorem dX5_findLeft_20 : decode cX5_findLeft 20 = .ok (.getfield 47, 3) := by decide +kernel
theorem dX5_findLeft_23 : decode cX5_findLeft 23 = .ok (.iload_n 1, 1) := by decide +kernel
theorem dX5_findLeft_24 : decode cX5_findLeft 24 = .ok (.aload_n 0, 1) := by decide +kernel
theorem dX5_findLeft_25 : decode cX5_findLeft 25 = .ok (.getfield 115, 3) := by decide +kernel
theorem dX5_findLeft_28 : decode cX5_findLeft 28 = .ok (.iastore, 1) := by decide +kernel
theorem dX5_findLeft_29 : decode cX5_findLeft 29 = .ok (.iinc 1 1, 3) := by decide +kernel
theorem dX5_findLeft_32 : decode cX5_findLeft 32 = .ok (.goto (-30), 3) := by decide +kernel
theorem dX5_findLeft_35 : decode cX5_findLeft 35 = .ok (.iconst 0, 1) := by decide +kernel
theorem dX5_findLeft_36 : decode cX5_findLeft 36 = .ok (.istore_n 1, 1) := by decide +kernel
theorem dX5_findLeft_37 : decode cX5_findLeft 37 = .ok (.iconst 0, 1) := by decide +kernel
theorem dX5_findLeft_38 : decode cX5_findLeft 38 = .ok (.istore_n 2, 1) := by decide +kernel
theorem dX5_findLeft_39 : decode cX5_findLeft 39 = .ok (.iload_n 2, 1) := by decide +kernel
theorem dX5_findLeft_40 : decode cX5_findLeft 40 = .ok (.sipush 775, 3) := by decide +kernel
theorem dX5_findLeft_43 : decode cX5_findLeft 43 = .ok (.if_icmp .ge 100, 3) := by decide +kernel
theorem dX5_findLeft_46 : decode cX5_findLeft 46 = .ok (.aload_n 0, 1) := by decide +kernel
theorem dX5_findLeft_47 : decode cX5_findLeft 47 = .ok (.getfield 50, 3) := by decide +kernel
theorem dX5_findLeft_50 : decode cX5_findLeft 50 = .ok (.iload_n 2, 1) := by decide +kernel
theorem dX5_findLeft_51 : decode cX5_findLeft 51 = .ok (.iconst 1, 1) := by decide +kernel
theorem dX5_findLeft_52 : decode cX5_findLeft 52 = .ok (.iastore, 1) := by decide +kernel
theorem dX5_findLeft_53 : decode cX5_findLeft 53 = .ok (.iconst 0, 1) := by decide +kernel
theorem dX5_findLeft_54 : decode cX5_findLeft 54 = .ok (.istore_n 3, 1) := by decide +kernel
theorem dX5_findLeft_55 : decode cX5_findLeft 55 = .ok (.iload_n 3, 1) := by decide +kernel
theorem dX5_findLeft_56 : decode cX5_findLeft 56 = .ok (.aload_n 0, 1) := by decide +kernel
theorem dX5_findLeft_57 : decode cX5_findLeft 57 = .ok (.getfield 141, 3) := by decide +kernel
theorem dX5_findLeft_60 : decode cX5_findLeft 60 = .ok (.if_icmp .ge 68, 3) := by decide +kernel
theorem dX5_findLeft_63 : decode cX5_findLeft 63 = .ok (.aload_n 0, 1) := by decide +kernel
theorem dX5_findLeft_64 : decode cX5_findLeft 64 = .ok (.getfield 47, 3) := by decide +kernel
theorem dX5_findLeft_67 : decode cX5_findLeft 67 = .ok (.aload_n 0, 1) := by decide +kernel
theorem dX5_findLeft_68 : decode cX5_findLeft 68 = .ok (.getfield 17, 3) := by decide +kernel
theorem dX5_findLeft_71 : decode cX5_findLeft 71 = .ok (.iload_n 3, 1) := by decide +kernel
theorem dX5_findLeft_72 : decode cX5_findLeft 72 = .ok (.iaload, 1) := by decide +kernel
theorem dX5_findLeft_73 : decode cX5_findLeft 73 = .ok (.iaload, 1) := by decide +kernel
theorem dX5_findLeft_74 : decode cX5_findLeft 74 = .ok (.istore 4, 2) := by decide +kernel
theorem dX5_findLeft_76 : decode cX5_findLeft 76 = .ok (.aload_n 0, 1) := by decide +kernel
theorem dX5_findLeft_77 : decode cX5_findLeft 77 = .ok (.getfield 50, 3) := by decide +kernel
theorem dX5_findLeft_80 : decode cX5_findLeft 80 = .ok (.iload_n 2, 1) := by decide +kernel
theorem dX5_findLeft_81 : decode cX5_findLeft 81 = .ok (.iload 4, 2) := by decide +kernel
theorem dX5_findLeft_83 : decode cX5_findLeft 83 = .ok (.bipush (-9), 2) := by decide +kernel
theorem dX5_findLeft_85 : decode cX5_findLeft 85 = .ok (.if_icmp .eq 26, 3) := by decide +kernel
theorem dX5_findLeft_88 : decode cX5_findLeft 88 = .ok (.iload 4, 2) := by decide +kernel
theorem dX5_findLeft_90 : decode cX5_findLeft 90 = .ok (.iload_n 2, 1) := by decide +kernel
theorem dX5_findLeft_91 : decode cX5_findLeft 91 = .ok (.invokestatic 144, 3) := by decide +kernel
theorem dX5_findLeft_94 : decode cX5_findLeft 94 = .ok (.aload_n 0, 1) := by decide +kernel
theorem dX5_findLeft_95 : decode cX5_findLeft 95 = .ok (.getfield 20, 3) := by decide +kernel
theorem dX5_findLeft_98 : decode cX5_findLeft 98 = .ok (.iload_n 3, 1) := by decide +kernel
theorem dX5_findLeft_99 : decode cX5_findLeft 99 = .ok (.iaload, 1) := by decide +kernel
theorem dX5_findLeft_100 : decode cX5_findLeft 100 = .ok (.isub, 1) := by decide +kernel
theorem dX5_findLeft_101 : decode cX5_findLeft 101 = .ok (.invokestatic 88, 3) := by decide +kernel
theorem dX5_findLeft_104 : decode cX5_findLeft 104 = .ok (.aload_n 0, 1) := by decide +kernel
theorem dX5_findLeft_105 : decode cX5_findLeft 105 = .ok (.getfield 13, 3) := by decide +kernel
theorem dX5_findLeft_108 : decode cX5_findLeft 108 = .ok (.if_icmp .le 7, 3) := by decide +kernel
theorem dX5_findLeft_111 : decode cX5_findLeft 111 = .ok (.iconst 0, 1) := by decide +kernel
theorem dX5_findLeft_112 : decode cX5_findLeft 112 = .ok (.goto 9, 3) := by decide +kernel
theorem dX5_findLeft_115 : decode cX5_findLeft 115 = .ok (.aload_n 0, 1) := by decide +kernel
theorem dX5_findLeft_116 : decode cX5_findLeft 116 = .ok (.getfield 50, 3) := by decide +kernel
theorem dX5_findLeft_119 : decode cX5_findLeft 119 = .ok (.iload_n 2, 1) := by decide +kernel
theorem dX5_findLeft_120 : decode cX5_findLeft 120 = .ok (.iaload, 1) := by decide +kernel
theorem dX5_findLeft_121 : decode cX5_findLeft 121 = .ok (.iastore, 1) := by decide +kernel
theorem dX5_findLeft_122 : decode cX5_findLeft 122 = .ok (.iinc 3 1, 3) := by decide +kernel
theorem dX5_findLeft_125 : decode cX5_findLeft 125 = .ok (.goto (-70), 3) := by decide +kernel
theorem dX5_findLeft_128 : decode cX5_findLeft 128 = .ok (.iload_n 1, 1) := by decide +kernel
theorem dX5_findLeft_129 : decode cX5_findLeft 129 = .ok (.aload_n 0, 1) := by decide +kernel
theorem dX5_findLeft_130 : decode cX5_findLeft 130 = .ok (.getfield 50, 3) := by decide +kernel
theorem dX5_findLeft_133 : decode cX5_findLeft 133 = .ok (.iload_n 2, 1) := by decide +kernel
theorem dX5_findLeft_134 : decode cX5_findLeft 134 = .ok (.iaload, 1) := by decide +kernel
theorem dX5_findLeft_135 : decode cX5_findLeft 135 = .ok (.iadd, 1) := by decide +kernel
theorem dX5_findLeft_136 : decode cX5_findLeft 136 = .ok (.istore_n 1, 1) := by decide +kernel
theorem dX5_findLeft_137 : decode cX5_findLeft 137 = .ok (.iinc 2 1, 3) := by decide +kernel
theorem dX5_findLeft_140 : decode cX5_findLeft 140 = .ok (.goto (-101), 3) := by decide +kernel
theorem dX5_findLeft_143 : decode cX5_findLeft 143 = .ok (.iload_n 1, 1) := by decide +kernel
theorem dX5_findLeft_144 : decode cX5_findLeft 144 = .ok (.ireturn, 1) := by decide +kernel
theorem dX5_left_0 : decode cX5_left 0 = .ok (.aload_n 0, 1) := by decide +kernel
theorem dX5_left_1 : decode cX5_left 1 = .ok (.invokevirtual 147, 3) := by decide +kernel
theorem dX5_left_4 : decode cX5_left 4 = .ok (.ireturn, 1) := by decide +kernel
theorem dX5_spanOf_0 : decode cX5_spanOf 0 = .ok (.sipush (-1000), 3) := by decide +kernel
theorem dX5_spanOf_3 : decode cX5_spanOf 3 = .ok (.istore_n 3, 1) := by decide +kernel
theorem dX5_spanOf_4 : decode cX5_spanOf 4 = .ok (.iconst 0, 1) := by decide +kernel
theorem dX5_spanOf_5 : decode cX5_spanOf 5 = .ok (.istore 4, 2) := by decide +kernel
theorem dX5_spanOf_7 : decode cX5_spanOf 7 = .ok (.iload 4, 2) := by decide +kernel
theorem dX5_spanOf_9 : decode cX5_spanOf 9 = .ok (.sipush 775, 3) := by decide +kernel
theorem dX5_spanOf_12 : decode cX5_spanOf 12 = .ok (.if_icmp .ge 77, 3) := by decide +kernel
theorem dX5_spanOf_15 : decode cX5_spanOf 15 = .ok (.aload_n 0, 1) := by decide +kernel
theorem dX5_spanOf_16 : decode cX5_spanOf 16 = .ok (.getfield 50, 3) := by decide +kernel
theorem dX5_spanOf_19 : decode cX5_spanOf 19 = .ok (.iload 4, 2) := by decide +kernel
theorem dX5_spanOf_21 : decode cX5_spanOf 21 = .ok (.iaload, 1) := by decide +kernel
theorem dX5_spanOf_22 : decode cX5_spanOf 22 = .ok (.iconst 1, 1) := by decide +kernel
theorem dX5_spanOf_23 : decode cX5_spanOf 23 = .ok (.if_icmp .ne 60, 3) := by decide +kernel
theorem dX5_spanOf_26 : decode cX5_spanOf 26 = .ok (.aload_n 0, 1) := by decide +kernel
theorem dX5_spanOf_27 : decode cX5_spanOf 27 = .ok (.getfield 47, 3) := by decide +kernel
theorem dX5_spanOf_30 : decode cX5_spanOf 30 = .ok (.iload_n 1, 1) := by decide +kernel
theorem dX5_spanOf_31 : decode cX5_spanOf 31 = .ok (.iaload, 1) := by decide +kernel
theorem dX5_spanOf_32 : decode cX5_spanOf 32 = .ok (.bipush (-9), 2) := by decide +kernel
theorem dX5_spanOf_34 : decode cX5_spanOf 34 = .ok (.if_icmp .eq 49, 3) := by decide +kernel
theorem dX5_spanOf_37 : decode cX5_spanOf 37 = .ok (.aload_n 0, 1) := by decide +kernel
theorem dX5_spanOf_38 : decode cX5_spanOf 38 = .ok (.getfield 47, 3) := by decide +kernel
theorem dX5_spanOf_41 : decode cX5_spanOf 41 = .ok (.iload_n 1, 1) := by decide +kernel
theorem dX5_spanOf_42 : decode cX5_spanOf 42 = .ok (.iaload, 1) := by decide +kernel
theorem dX5_spanOf_43 : decode cX5_spanOf 43 = .ok (.iload 4, 2) := by decide +kernel
theorem dX5_spanOf_45 : decode cX5_spanOf 45 = .ok (.invokestatic 144, 3) := by decide +kernel
theorem dX5_spanOf_48 : decode cX5_spanOf 48 = .ok (.istore 5, 2) := by decide +kernel
theorem dX5_spanOf_50 : decode cX5_spanOf 50 = .ok (.iload_n 3, 1) := by decide +kernel
theorem dX5_spanOf_51 : decode cX5_spanOf 51 = .ok (.sipush (-1000), 3) := by decide +kernel
theorem dX5_spanOf_54 : decode cX5_spanOf 54 = .ok (.if_icmp .eq 22, 3) := by decide +kernel
theorem dX5_spanOf_57 : decode cX5_spanOf 57 = .ok (.iload_n 2, 1) := by decide +kernel
theorem dX5_spanOf_58 : decode cX5_spanOf 58 = .ok (.ifCond .eq 12, 3) := by decide +kernel
theorem dX5_spanOf_61 : decode cX5_spanOf 61 = .ok (.iload 5, 2) := by decide +kernel
theorem dX5_spanOf_63 : decode cX5_spanOf 63 = .ok (.iload_n 3, 1) := by decide +kernel
theorem dX5_spanOf_64 : decode cX5_spanOf 64 = .ok (.if_icmp .le 17, 3) := by decide +kernel
theorem dX5_spanOf_67 : decode cX5_spanOf 67 = .ok (.goto 9, 3) := by decide +kernel
theorem dX5_spanOf_70 : decode cX5_spanOf 70 = .ok (.iload 5, 2) := by decide +kernel
theorem dX5_spanOf_72 : decode cX5_spanOf 72 = .ok (.iload_n 3, 1) := by decide +kernel
theorem dX5_spanOf_73 : decode cX5_spanOf 73 = .ok (.if_icmp .ge 8, 3) := by decide +kernel
theorem dX5_spanOf_76 : decode cX5_spanOf 76 = .ok (.iload 5, 2) := by decide +kernel
theorem dX5_spanOf_78 : decode cX5_spanOf 78 = .ok (.goto 4, 3) := by decide +kernel
theorem dX5_spanOf_81 : decode cX5_spanOf 81 = .ok (.iload_n 3, 1) := by decide +kernel
theorem dX5_spanOf_82 : decode cX5_spanOf 82 = .ok (.istore_n 3, 1) := by decide +kernel
theorem dX5_spanOf_83 : decode cX5_spanOf 83 = .ok (.iinc 4 1, 3) := by decide +kernel
theorem dX5_spanOf_86 : decode cX5_spanOf 86 = .ok (.goto (-79), 3) := by decide +kernel
theorem dX5_spanOf_89 : decode cX5_spanOf 89 = .ok (.iload_n 3, 1) := by decide +kernel
theorem dX5_spanOf_90 : decode cX5_spanOf 90 = .ok (.ireturn, 1) := by decide +kernel
theorem dX5_span_0 : decode cX5_span 0 = .ok (.iload_n 1, 1) := by decide +kernel
theorem dX5_span_1 : decode cX5_span 1 = .ok (.iconst 0, 1) := by decide +kernel
theorem dX5_span_2 : decode cX5_span 2 = .ok (.bipush 60, 2) := by decide +kernel
theorem dX5_span_4 : decode cX5_span 4 = .ok (.invokestatic 71, 3) := by decide +kernel
theorem dX5_span_7 : decode cX5_span 7 = .ok (.ifCond .eq 12, 3) := by decide +kernel
theorem dX5_span_10 : decode cX5_span 10 = .ok (.iload_n 2, 1) := by decide +kernel
theorem dX5_span_11 : decode cX5_span 11 = .ok (.iconst 0, 1) := by decide +kernel
theorem dX5_span_12 : decode cX5_span 12 = .ok (.iconst 1, 1) := by decide +kernel
theorem dX5_span_13 : decode cX5_span 13 = .ok (.invokestatic 71, 3) := by decide +kernel
theorem dX5_span_16 : decode cX5_span 16 = .ok (.ifCond .ne 7, 3) := by decide +kernel
theorem dX5_span_19 : decode cX5_span 19 = .ok (.sipush (-2000), 3) := by decide +kernel
theorem dX5_span_22 : decode cX5_span 22 = .ok (.ireturn, 1) := by decide +kernel
theorem dX5_span_23 : decode cX5_span 23 = .ok (.aload_n 0, 1) := by decide +kernel
theorem dX5_span_24 : decode cX5_span 24 = .ok (.invokevirtual 147, 3) := by decide +kernel
theorem dX5_span_27 : decode cX5_span 27 = .ok (.ifCond .ne 9, 3) := by decide +kernel
theorem dX5_span_30 : decode cX5_span 30 = .ok (.sipush (-1000), 3) := by decide +kernel
theorem dX5_span_33 : decode cX5_span 33 = .ok (.goto 18, 3) := by decide +kernel
theorem dX5_span_36 : decode cX5_span 36 = .ok (.aload_n 0, 1) := by decide +kernel
theorem dX5_span_37 : decode cX5_span 37 = .ok (.iload_n 1, 1) := by decide +kernel
theorem dX5_span_38 : decode cX5_span 38 = .ok (.iload_n 2, 1) := by decide +kernel
theorem dX5_span_39 : decode cX5_span 39 = .ok (.iconst 1, 1) := by decide +kernel
theorem dX5_span_40 : decode cX5_span 40 = .ok (.if_icmp .ne 7, 3) := by decide +kernel
theorem dX5_span_43 : decode cX5_span 43 = .ok (.iconst 1, 1) := by decide +kernel
theorem dX5_span_44 : decode cX5_span 44 = .ok (.goto 4, 3) := by decide +kernel
theorem dX5_span_47 : decode cX5_span 47 = .ok (.iconst 0, 1) := by decide +kernel
theorem dX5_span_48 : decode cX5_span 48 = .ok (.invokevirtual 151, 3) := by decide +kernel
theorem dX5_span_51 : decode cX5_span 51 = .ok (.ireturn, 1) := by decide +kernel
theorem dX5_next_0 : decode cX5_next 0 = .ok (.aload_n 0, 1) := by decide +kernel
theorem dX5_next_1 : decode cX5_next 1 = .ok (.invokevirtual 147, 3) := by decide +kernel
theorem dX5_next_4 : decode cX5_next 4 = .ok (.ifCond .ne 6, 3) := by decide +kernel
theorem dX5_next_7 : decode cX5_next 7 = .ok (.bipush (-9), 2) := by decide +kernel
theorem dX5_next_9 : decode cX5_next 9 = .ok (.ireturn, 1) := by decide +kernel
theorem dX5_next_10 : decode cX5_next 10 = .ok (.bipush (-9), 2) := by decide +kernel
theorem dX5_next_12 : decode cX5_next 12 = .ok (.istore_n 1, 1) := by decide +kernel
theorem dX5_next_13 : decode cX5_next 13 = .ok (.iconst (-1), 1) := by decide +kernel
theorem dX5_next_14 : decode cX5_next 14 = .ok (.istore_n 2, 1) := by decide +kernel
theorem dX5_next_15 : decode cX5_next 15 = .ok (.iconst 0, 1) := by decide +kernel
theorem dX5_next_16 : decode cX5_next 16 = .ok (.istore_n 3, 1) := by decide +kernel
theorem dX5_next_17 : decode cX5_next 17 = .ok (.iload_n 3, 1) := by decide +kernel
theorem dX5_next_18 : decode cX5_next 18 = .ok (.bipush 61, 2) := by decide +kernel
theorem dX5_next_20 : decode cX5_next 20 = .ok (.if_icmp .ge 64, 3) := by decide +kernel
theorem dX5_next_23 : decode cX5_next 23 = .ok (.aload_n 0, 1) := by decide +kernel
theorem dX5_next_24 : decode cX5_next 24 = .ok (.getfield 47, 3) := by decide +kernel
theorem dX5_next_27 : decode cX5_next 27 = .ok (.iload_n 3, 1) := by decide +kernel
theorem dX5_next_28 : decode cX5_next 28 = .ok (.iaload, 1) := by decide +kernel
theorem dX5_next_29 : decode cX5_next 29 = .ok (.bipush (-9), 2) := by decide +kernel
theorem dX5_next_31 : decode cX5_next 31 = .ok (.if_icmp .ne 7, 3) := by decide +kernel
theorem dX5_next_34 : decode cX5_next 34 = .ok (.iconst (-1), 1) := by decide +kernel
theorem dX5_next_35 : decode cX5_next 35 = .ok (.goto 16, 3) := by decide +kernel
theorem dX5_next_38 : decode cX5_next 38 = .ok (.aload_n 0, 1) := by decide +kernel
theorem dX5_next_39 : decode cX5_next 39 = .ok (.iload_n 3, 1) := by decide +kernel
theorem dX5_next_40 : decode cX5_next 40 = .ok (.iconst 1, 1) := by decide +kernel
theorem dX5_next_41 : decode cX5_next 41 = .ok (.invokevirtual 151, 3) := by decide +kernel
theorem dX5_next_44 : decode cX5_next 44 = .ok (.aload_n 0, 1) := by decide +kernel
theorem dX5_next_45 : decode cX5_next 45 = .ok (.iload_n 3, 1) := by decide +kernel
theorem dX5_next_46 : decode cX5_next 46 = .ok (.iconst 0, 1) := by decide +kernel
theorem dX5_next_47 : decode cX5_next 47 = .ok (.invokevirtual 151, 3) := by decide +kernel
theorem dX5_next_50 : decode cX5_next 50 = .ok (.isub, 1) := by decide +kernel
theorem dX5_next_51 : decode cX5_next 51 = .ok (.istore 4, 2) := by decide +kernel
theorem dX5_next_53 : decode cX5_next 53 = .ok (.iload 4, 2) := by decide +kernel
theorem dX5_next_55 : decode cX5_next 55 = .ok (.iload_n 2, 1) := by decide +kernel
theorem dX5_next_56 : decode cX5_next 56 = .ok (.if_icmp .le 7, 3) := by decide +kernel
theorem dX5_next_59 : decode cX5_next 59 = .ok (.iload_n 3, 1) := by decide +kernel
theorem dX5_next_60 : decode cX5_next 60 = .ok (.goto 4, 3) := by decide +kernel
theorem dX5_next_63 : decode cX5_next 63 = .ok (.iload_n 1, 1) := by decide +kernel
theorem dX5_next_64 : decode cX5_next 64 = .ok (.istore_n 1, 1) := by decide +kernel
theorem dX5_next_65 : decode cX5_next 65 = .ok (.iload 4, 2) := by decide +kernel
theorem dX5_next_67 : decode cX5_next 67 = .ok (.iload_n 2, 1) := by decide +kernel
theorem dX5_next_68 : decode cX5_next 68 = .ok (.if_icmp .le 8, 3) := by decide +kernel
theorem dX5_next_71 : decode cX5_next 71 = .ok (.iload 4, 2) := by decide +kernel
theorem dX5_next_73 : decode cX5_next 73 = .ok (.goto 4, 3) := by decide +kernel
theorem dX5_next_76 : decode cX5_next 76 = .ok (.iload_n 2, 1) := by decide +kernel
theorem dX5_next_77 : decode cX5_next 77 = .ok (.istore_n 2, 1) := by decide +kernel
theorem dX5_next_78 : decode cX5_next 78 = .ok (.iinc 3 1, 3) := by decide +kernel
theorem dX5_next_81 : decode cX5_next 81 = .ok (.goto (-64), 3) := by decide +kernel
theorem dX5_next_84 : decode cX5_next 84 = .ok (.iload_n 1, 1) := by decide +kernel
theorem dX5_next_85 : decode cX5_next 85 = .ok (.ireturn, 1) := by decide +kernel
theorem dX5_surest_0 : decode cX5_surest 0 = .ok (.iload_n 1, 1) := by decide +kernel
theorem dX5_surest_1 : decode cX5_surest 1 = .ok (.iconst 0, 1) := by decide +kernel
theorem dX5_surest_2 : decode cX5_surest 2 = .ok (.sipush 2000, 3) := by decide +kernel
theorem dX5_surest_5 : decode cX5_surest 5 = .ok (.invokestatic 71, 3) := by decide +kernel
theorem dX5_surest_8 : decode cX5_surest 8 = .ok (.ifCond .eq 12, 3) := by decide +kernel
theorem dX5_surest_11 : decode cX5_surest 11 = .ok (.iload_n 2, 1) := by decide +kernel
theorem dX5_surest_12 : decode cX5_surest 12 = .ok (.iconst 0, 1) := by decide +kernel
theorem dX5_surest_13 : decode cX5_surest 13 = .ok (.iconst 1, 1) := by decide +kernel
theorem dX5_surest_14 : decode cX5_surest 14 = .ok (.invokestatic 71, 3) := by decide +kernel
theorem dX5_surest_17 : decode cX5_surest 17 = .ok (.ifCond .ne 5, 3) := by decide +kernel
theorem dX5_surest_20 : decode cX5_surest 20 = .ok (.iconst (-1), 1) := by decide +kernel
theorem dX5_surest_21 : decode cX5_surest 21 = .ok (.ireturn, 1) := by decide +kernel
theorem dX5_surest_22 : decode cX5_surest 22 = .ok (.aload_n 0, 1) := by decide +kernel
theorem dX5_surest_23 : decode cX5_surest 23 = .ok (.invokevirtual 147, 3) := by decide +kernel
theorem dX5_surest_26 : decode cX5_surest 26 = .ok (.ifCond .ne 6, 3) := by decide +kernel
theorem dX5_surest_29 : decode cX5_surest 29 = .ok (.bipush (-9), 2) := by decide +kernel
theorem dX5_surest_31 : decode cX5_surest 31 = .ok (.ireturn, 1) := by decide +kernel
theorem dX5_surest_32 : decode cX5_surest 32 = .ok (.bipush (-9), 2) := by decide +kernel
theorem dX5_surest_34 : decode cX5_surest 34 = .ok (.istore_n 3, 1) := by decide +kernel
theorem dX5_surest_35 : decode cX5_surest 35 = .ok (.bipush (-9), 2) := by decide +kernel
theorem dX5_surest_37 : decode cX5_surest 37 = .ok (.istore 4, 2) := by decide +kernel
theorem dX5_surest_39 : decode cX5_surest 39 = .ok (.iconst 0, 1) := by decide +kernel
theorem dX5_surest_40 : decode cX5_surest 40 = .ok (.istore 5, 2) := by decide +kernel
theorem dX5_surest_42 : decode cX5_surest 42 = .ok (.iload 5, 2) := by decide +kernel
theorem dX5_surest_44 : decode cX5_surest 44 = .ok (.bipush 61, 2) := by decide +kernel
theorem dX5_surest_46 : decode cX5_surest 46 = .ok (.if_icmp .ge 85, 3) := by decide +kernel
theorem dX5_surest_49 : decode cX5_surest 49 = .ok (.aload_n 0, 1) := by decide +kernel
theorem dX5_surest_50 : decode cX5_surest 50 = .ok (.getfield 47, 3) := by decide +kernel
theorem dX5_surest_53 : decode cX5_surest 53 = .ok (.iload 5, 2) := by decide +kernel
theorem dX5_surest_55 : decode cX5_surest 55 = .ok (.iaload, 1) := by decide +kernel
theorem dX5_surest_56 : decode cX5_surest 56 = .ok (.bipush (-9), 2) := by decide +kernel
theorem dX5_surest_58 : decode cX5_surest 58 = .ok (.if_icmp .eq 67, 3) := by decide +kernel
theorem dX5_surest_61 : decode cX5_surest 61 = .ok (.aload_n 0, 1) := by decide +kernel
theorem dX5_surest_62 : decode cX5_surest 62 = .ok (.iload 5, 2) := by decide +kernel
theorem dX5_surest_64 : decode cX5_surest 64 = .ok (.iconst 1, 1) := by decide +kernel
theorem dX5_surest_65 : decode cX5_surest 65 = .ok (.invokevirtual 151, 3) := by decide +kernel
theorem dX5_surest_68 : decode cX5_surest 68 = .ok (.iload_n 1, 1) := by decide +kernel
theorem dX5_surest_69 : decode cX5_surest 69 = .ok (.isub, 1) := by decide +kernel
theorem dX5_surest_70 : decode cX5_surest 70 = .ok (.invokestatic 88, 3) := by decide +kernel
theorem dX5_surest_73 : decode cX5_surest 73 = .ok (.istore 6, 2) := by decide +kernel
theorem dX5_surest_75 : decode cX5_surest 75 = .ok (.aload_n 0, 1) := by decide +kernel
theorem dX5_surest_76 : decode cX5_surest 76 = .ok (.iload 5, 2) := by decide +kernel
theorem dX5_surest_78 : decode cX5_surest 78 = .ok (.iconst 0, 1) := by decide +kernel
theorem dX5_surest_79 : decode cX5_surest 79 = .ok (.invokevirtual 151, 3) := by decide +kernel
theorem dX5_surest_82 : decode cX5_surest 82 = .ok (.iload_n 1, 1) := by decide +kernel
theorem dX5_surest_83 : decode cX5_surest 83 = .ok (.isub, 1) := by decide +kernel
theorem dX5_surest_84 : decode cX5_surest 84 = .ok (.invokestatic 88, 3) := by decide +kernel
theorem dX5_surest_87 : decode cX5_surest 87 = .ok (.istore 7, 2) := by decide +kernel
theorem dX5_surest_89 : decode cX5_surest 89 = .ok (.iload 6, 2) := by decide +kernel
theorem dX5_surest_91 : decode cX5_surest 91 = .ok (.iload 7, 2) := by decide +kernel
theorem dX5_surest_93 : decode cX5_surest 93 = .ok (.if_icmp .le 8, 3) := by decide +kernel
theorem dX5_surest_96 : decode cX5_surest 96 = .ok (.iload 6, 2) := by decide +kernel
theorem dX5_surest_98 : decode cX5_surest 98 = .ok (.goto 5, 3) := by decide +kernel
theorem dX5_surest_101 : decode cX5_surest 101 = .ok (.iload 7, 2) := by decide +kernel
theorem dX5_surest_103 : decode cX5_surest 103 = .ok (.istore 8, 2) := by decide +kernel
theorem dX5_surest_105 : decode cX5_surest 105 = .ok (.iload_n 3, 1) := by decide +kernel
theorem dX5_surest_106 : decode cX5_surest 106 = .ok (.bipush (-9), 2) := by decide +kernel
theorem dX5_surest_108 : decode cX5_surest 108 = .ok (.if_icmp .eq 10, 3) := by decide +kernel
theorem dX5_surest_111 : decode cX5_surest 111 = .ok (.iload 8, 2) := by decide +kernel
theorem dX5_surest_113 : decode cX5_surest 113 = .ok (.iload 4, 2) := by decide +kernel
theorem dX5_surest_115 : decode cX5_surest 115 = .ok (.if_icmp .ge 10, 3) := by decide +kernel
theorem dX5_surest_118 : decode cX5_surest 118 = .ok (.iload 5, 2) := by decide +kernel
theorem dX5_surest_120 : decode cX5_surest 120 = .ok (.istore_n 3, 1) := by decide +kernel
theorem dX5_surest_121 : decode cX5_surest 121 = .ok (.iload 8, 2) := by decide +kernel
theorem dX5_surest_123 : decode cX5_surest 123 = .ok (.istore 4, 2) := by decide +kernel
theorem dX5_surest_125 : decode cX5_surest 125 = .ok (.iinc 5 1, 3) := by decide +kernel
theorem dX5_surest_128 : decode cX5_surest 128 = .ok (.goto (-86), 3) := by decide +kernel
theorem dX5_surest_131 : decode cX5_surest 131 = .ok (.iload_n 2, 1) := by decide +kernel
theorem dX5_surest_132 : decode cX5_surest 132 = .ok (.ifCond .ne 7, 3) := by decide +kernel
theorem dX5_surest_135 : decode cX5_surest 135 = .ok (.iload_n 3, 1) := by decide +kernel
theorem dX5_surest_136 : decode cX5_surest 136 = .ok (.goto 5, 3) := by decide +kernel
theorem dX5_surest_139 : decode cX5_surest 139 = .ok (.iload 4, 2) := by decide +kernel
theorem dX5_surest_141 : decode cX5_surest 141 = .ok (.ireturn, 1) := by decide +kernel
theorem dX5_newWall_0 : decode cX5_newWall 0 = .ok (.iconst 0, 1) := by decide +kernel
theorem dX5_newWall_1 : decode cX5_newWall 1 = .ok (.istore_n 1, 1) := by decide +kernel
theorem dX5_newWall_2 : decode cX5_newWall 2 = .ok (.iload_n 1, 1) := by decide +kernel
theorem dX5_newWall_3 : decode cX5_newWall 3 = .ok (.bipush 48, 2) := by decide +kernel
theorem dX5_newWall_5 : decode cX5_newWall 5 = .ok (.if_icmp .ge 31, 3) := by decide +kernel
theorem dX5_newWall_8 : decode cX5_newWall 8 = .ok (.aload_n 0, 1) := by decide +kernel
theorem dX5_newWall_9 : decode cX5_newWall 9 = .ok (.getfield 29, 3) := by decide +kernel
theorem dX5_newWall_12 : decode cX5_newWall 12 = .ok (.iload_n 1, 1) := by decide +kernel
theorem dX5_newWall_13 : decode cX5_newWall 13 = .ok (.iconst 1, 1) := by decide +kernel
theorem dX5_newWall_14 : decode cX5_newWall 14 = .ok (.iastore, 1) := by decide +kernel
theorem dX5_newWall_15 : decode cX5_newWall 15 = .ok (.aload_n 0, 1) := by decide +kernel
theorem dX5_newWall_16 : decode cX5_newWall 16 = .ok (.getfield 32, 3) := by decide +kernel
theorem dX5_newWall_19 : decode cX5_newWall 19 = .ok (.iload_n 1, 1) := by decide +kernel
theorem dX5_newWall_20 : decode cX5_newWall 20 = .ok (.bipush 10, 2) := by decide +kernel
theorem dX5_newWall_22 : decode cX5_newWall 22 = .ok (.iastore, 1) := by decide +kernel
theorem dX5_newWall_23 : decode cX5_newWall 23 = .ok (.aload_n 0, 1) := by decide +kernel
theorem dX5_newWall_24 : decode cX5_newWall 24 = .ok (.getfield 35, 3) := by decide +kernel
theorem dX5_newWall_27 : decode cX5_newWall 27 = .ok (.iload_n 1, 1) := by decide +kernel
theorem dX5_newWall_28 : decode cX5_newWall 28 = .ok (.iconst 0, 1) := by decide +kernel
theorem dX5_newWall_29 : decode cX5_newWall 29 = .ok (.iastore, 1) := by decide +kernel
theorem dX5_newWall_30 : decode cX5_newWall 30 = .ok (.iinc 1 1, 3) := by decide +kernel
theorem dX5_newWall_33 : decode cX5_newWall 33 = .ok (.goto (-31), 3) := by decide +kernel
theorem dX5_newWall_36 : decode cX5_newWall 36 = .ok (.return_, 1) := by decide +kernel
theorem dX5_wall_0 : decode cX5_wall 0 = .ok (.iload_n 1, 1) := by decide +kernel
theorem dX5_wall_1 : decode cX5_wall 1 = .ok (.iconst 1, 1) := by decide +kernel
theorem dX5_wall_2 : decode cX5_wall 2 = .ok (.bipush 8, 2) := by decide +kernel
theorem dX5_wall_4 : decode cX5_wall 4 = .ok (.invokestatic 71, 3) := by decide +kernel
theorem dX5_wall_7 : decode cX5_wall 7 = .ok (.ifCond .eq 13, 3) := by decide +kernel
theorem dX5_wall_10 : decode cX5_wall 10 = .ok (.iload_n 2, 1) := by decide +kernel
theorem dX5_wall_11 : decode cX5_wall 11 = .ok (.iconst 1, 1) := by decide +kernel
theorem dX5_wall_12 : decode cX5_wall 12 = .ok (.bipush 6, 2) := by decide +kernel
theorem dX5_wall_14 : decode cX5_wall 14 = .ok (.invokestatic 71, 3) := by decide +kernel
theorem dX5_wall_17 : decode cX5_wall 17 = .ok (.ifCond .ne 5, 3) := by decide +kernel
theorem dX5_wall_20 : decode cX5_wall 20 = .ok (.iconst (-1), 1) := by decide +kernel
theorem dX5_wall_21 : decode cX5_wall 21 = .ok (.ireturn, 1) := by decide +kernel
theorem dX5_wall_22 : decode cX5_wall 22 = .ok (.aload_n 0, 1) := by decide +kernel
theorem dX5_wall_23 : decode cX5_wall 23 = .ok (.iload_n 1, 1) := by decide +kernel
theorem dX5_wall_24 : decode cX5_wall 24 = .ok (.putfield 23, 3) := by decide +kernel
theorem dX5_wall_27 : decode cX5_wall 27 = .ok (.aload_n 0, 1) := by decide +kernel
theorem dX5_wall_28 : decode cX5_wall 28 = .ok (.iload_n 2, 1) := by decide +kernel
theorem dX5_wall_29 : decode cX5_wall 29 = .ok (.putfield 26, 3) := by decide +kernel
theorem dX5_wall_32 : decode cX5_wall 32 = .ok (.aload_n 0, 1) := by decide +kernel
theorem dX5_wall_33 : decode cX5_wall 33 = .ok (.invokevirtual 68, 3) := by decide +kernel
theorem dX5_wall_36 : decode cX5_wall 36 = .ok (.iload_n 1, 1) := by decide +kernel
theorem dX5_wall_37 : decode cX5_wall 37 = .ok (.iload_n 2, 1) := by decide +kernel
theorem dX5_wall_38 : decode cX5_wall 38 = .ok (.imul, 1) := by decide +kernel
theorem dX5_wall_39 : decode cX5_wall 39 = .ok (.ireturn, 1) := by decide +kernel
theorem dX5_isCell_0 : decode cX5_isCell 0 = .ok (.iload_n 1, 1) := by decide +kernel
theorem dX5_isCell_1 : decode cX5_isCell 1 = .ok (.iconst 0, 1) := by decide +kernel
theorem dX5_isCell_2 : decode cX5_isCell 2 = .ok (.aload_n 0, 1) := by decide +kernel
theorem dX5_isCell_3 : decode cX5_isCell 3 = .ok (.getfield 23, 3) := by decide +kernel
theorem dX5_isCell_6 : decode cX5_isCell 6 = .ok (.iconst 1, 1) := by decide +kernel
theorem dX5_isCell_7 : decode cX5_isCell 7 = .ok (.isub, 1) := by decide +kernel
theorem dX5_isCell_8 : decode cX5_isCell 8 = .ok (.invokestatic 71, 3) := by decide +kernel
theorem dX5_isCell_11 : decode cX5_isCell 11 = .ok (.ifCond .eq 21, 3) := by decide +kernel
theorem dX5_isCell_14 : decode cX5_isCell 14 = .ok (.iload_n 2, 1) := by decide +kernel
theorem dX5_isCell_15 : decode cX5_isCell 15 = .ok (.iconst 0, 1) := by decide +kernel
theorem dX5_isCell_16 : decode cX5_isCell 16 = .ok (.aload_n 0, 1) := by decide +kernel
theorem dX5_isCell_17 : decode cX5_isCell 17 = .ok (.getfield 26, 3) := by decide +kernel
theorem dX5_isCell_20 : decode cX5_isCell 20 = .ok (.iconst 1, 1) := by decide +kernel
theorem dX5_isCell_21 : decode cX5_isCell 21 = .ok (.isub, 1) := by decide +kernel
theorem dX5_isCell_22 : decode cX5_isCell 22 = .ok (.invokestatic 71, 3) := by decide +kernel
theorem dX5_isCell_25 : decode cX5_isCell 25 = .ok (.ifCond .eq 7, 3) := by decide +kernel
theorem dX5_isCell_28 : decode cX5_isCell 28 = .ok (.iconst 1, 1) := by decide +kernel
theorem dX5_isCell_29 : decode cX5_isCell 29 = .ok (.goto 4, 3) := by decide +kernel
theorem dX5_isCell_32 : decode cX5_isCell 32 = .ok (.iconst 0, 1) := by decide +kernel
theorem dX5_isCell_33 : decode cX5_isCell 33 = .ok (.ireturn, 1) := by decide +kernel
theorem dX5_strength_0 : decode cX5_strength 0 = .ok (.aload_n 0, 1) := by decide +kernel
theorem dX5_strength_1 : decode cX5_strength 1 = .ok (.iload_n 1, 1) := by decide +kernel
theorem dX5_strength_2 : decode cX5_strength 2 = .ok (.iload_n 2, 1) := by decide +kernel
theorem dX5_strength_3 : decode cX5_strength 3 = .ok (.invokevirtual 155, 3) := by decide +kernel
theorem dX5_strength_6 : decode cX5_strength 6 = .ok (.ifCond .eq 13, 3) := by decide +kernel
theorem dX5_strength_9 : decode cX5_strength 9 = .ok (.iload_n 3, 1) := by decide +kernel
theorem dX5_strength_10 : decode cX5_strength 10 = .ok (.iconst 1, 1) := by decide +kernel
theorem dX5_strength_11 : decode cX5_strength 11 = .ok (.bipush 99, 2) := by decide +kernel
theorem dX5_strength_13 : decode cX5_strength 13 = .ok (.invokestatic 71, 3) := by decide +kernel
theorem dX5_strength_16 : decode cX5_strength 16 = .ok (.ifCond .ne 5, 3) := by decide +kernel
theorem dX5_strength_19 : decode cX5_strength 19 = .ok (.iconst (-1), 1) := by decide +kernel
theorem dX5_strength_20 : decode cX5_strength 20 = .ok (.ireturn, 1) := by decide +kernel
theorem dX5_strength_21 : decode cX5_strength 21 = .ok (.iload_n 1, 1) := by decide +kernel
theorem dX5_strength_22 : decode cX5_strength 22 = .ok (.aload_n 0, 1) := by decide +kernel
theorem dX5_strength_23 : decode cX5_strength 23 = .ok (.getfield 23, 3) := by decide +kernel
theorem dX5_strength_26 : decode cX5_strength 26 = .ok (.iload_n 2, 1) := by decide +kernel
theorem dX5_strength_27 : decode cX5_strength 27 = .ok (.imul, 1) := by decide +kernel
theorem dX5_strength_28 : decode cX5_strength 28 = .ok (.iadd, 1) := by decide +kernel
theorem dX5_strength_29 : decode cX5_strength 29 = .ok (.istore 4, 2) := by decide +kernel
theorem dX5_strength_31 : decode cX5_strength 31 = .ok (.aload_n 0, 1) := by decide +kernel
theorem dX5_strength_32 : decode cX5_strength 32 = .ok (.getfield 29, 3) := by decide +kernel
theorem dX5_strength_35 : decode cX5_strength 35 = .ok (.iload 4, 2) := by decide +kernel
theorem dX5_strength_37 : decode cX5_strength 37 = .ok (.iaload, 1) := by decide +kernel
theorem dX5_strength_38 : decode cX5_strength 38 = .ok (.ifCond .ne 6, 3) := by decide +kernel
theorem dX5_strength_41 : decode cX5_strength 41 = .ok (.bipush (-2), 2) := by decide +kernel
theorem dX5_strength_43 : decode cX5_strength 43 = .ok (.ireturn, 1) := by decide +kernel
theorem dX5_strength_44 : decode cX5_strength 44 = .ok (.aload_n 0, 1) := by decide +kernel
theorem dX5_strength_45 : decode cX5_strength 45 = .ok (.getfield 32, 3) := by decide +kernel
theorem dX5_strength_48 : decode cX5_strength 48 = .ok (.iload 4, 2) := by decide +kernel
theorem dX5_strength_50 : decode cX5_strength 50 = .ok (.iaload, 1) := by decide +kernel
theorem dX5_strength_51 : decode cX5_strength 51 = .ok (.istore 5, 2) := by decide +kernel
theorem dX5_strength_53 : decode cX5_strength 53 = .ok (.aload_n 0, 1) := by decide +kernel
theorem dX5_strength_54 : decode cX5_strength 54 = .ok (.getfield 32, 3) := by decide +kernel
theorem dX5_strength_57 : decode cX5_strength 57 = .ok (.iload 4, 2) := by decide +kernel
theorem dX5_strength_59 : decode cX5_strength 59 = .ok (.iload_n 3, 1) := by decide +kernel
theorem dX5_strength_60 : decode cX5_strength 60 = .ok (.iastore, 1) := by decide +kernel
theorem dX5_strength_61 : decode cX5_strength 61 = .ok (.iload 5, 2) := by decide +kernel
theorem dX5_strength_63 : decode cX5_strength 63 = .ok (.ireturn, 1) := by decide +kernel
theorem dX5_prop_0 : decode cX5_prop 0 = .ok (.aload_n 0, 1) := by decide +kernel
theorem dX5_prop_1 : decode cX5_prop 1 = .ok (.iload_n 1, 1) := by decide +kernel
theorem dX5_prop_2 : decode cX5_prop 2 = .ok (.iload_n 2, 1) := by decide +kernel
theorem dX5_prop_3 : decode cX5_prop 3 = .ok (.invokevirtual 155, 3) := by decide +kernel
theorem dX5_prop_6 : decode cX5_prop 6 = .ok (.ifCond .ne 5, 3) := by decide +kernel
theorem dX5_prop_9 : decode cX5_prop 9 = .ok (.iconst (-1), 1) := by decide +kernel
theorem dX5_prop_10 : decode cX5_prop 10 = .ok (.ireturn, 1) := by decide +kernel
theorem dX5_prop_11 : decode cX5_prop 11 = .ok (.iload_n 1, 1) := by decide +kernel
theorem dX5_prop_12 : decode cX5_prop 12 = .ok (.aload_n 0, 1) := by decide +kernel
theorem dX5_prop_13 : decode cX5_prop 13 = .ok (.getfield 23, 3) := by decide +kernel
theorem dX5_prop_16 : decode cX5_prop 16 = .ok (.iload_n 2, 1) := by decide +kernel
theorem dX5_prop_17 : decode cX5_prop 17 = .ok (.imul, 1) := by decide +kernel
theorem dX5_prop_18 : decode cX5_prop 18 = .ok (.iadd, 1) := by decide +kernel
theorem dX5_prop_19 : decode cX5_prop 19 = .ok (.istore_n 3, 1) := by decide +kernel
theorem dX5_prop_20 : decode cX5_prop 20 = .ok (.aload_n 0, 1) := by decide +kernel
theorem dX5_prop_21 : decode cX5_prop 21 = .ok (.getfield 29, 3) := by decide +kernel
theorem dX5_prop_24 : decode cX5_prop 24 = .ok (.iload_n 3, 1) := by decide +kernel
theorem dX5_prop_25 : decode cX5_prop 25 = .ok (.iaload, 1) := by decide +kernel
theorem dX5_prop_26 : decode cX5_prop 26 = .ok (.ifCond .ne 6, 3) := by decide +kernel
theorem dX5_prop_29 : decode cX5_prop 29 = .ok (.bipush (-2), 2) := by decide +kernel
theorem dX5_prop_31 : decode cX5_prop 31 = .ok (.ireturn, 1) := by decide +kernel
theorem dX5_prop_32 : decode cX5_prop 32 = .ok (.aload_n 0, 1) := by decide +kernel
theorem dX5_prop_33 : decode cX5_prop 33 = .ok (.getfield 35, 3) := by decide +kernel
theorem dX5_prop_36 : decode cX5_prop 36 = .ok (.iload_n 3, 1) := by decide +kernel
theorem dX5_prop_37 : decode cX5_prop 37 = .ok (.iaload, 1) := by decide +kernel
theorem dX5_prop_38 : decode cX5_prop 38 = .ok (.istore 4, 2) := by decide +kernel
theorem dX5_prop_40 : decode cX5_prop 40 = .ok (.aload_n 0, 1) := by decide +kernel
theorem dX5_prop_41 : decode cX5_prop 41 = .ok (.getfield 35, 3) := by decide +kernel
theorem dX5_prop_44 : decode cX5_prop 44 = .ok (.iload_n 3, 1) := by decide +kernel
theorem dX5_prop_45 : decode cX5_prop 45 = .ok (.iconst 1, 1) := by decide +kernel
theorem dX5_prop_46 : decode cX5_prop 46 = .ok (.iastore, 1) := by decide +kernel
theorem dX5_prop_47 : decode cX5_prop 47 = .ok (.iload 4, 2) := by decide +kernel
theorem dX5_prop_49 : decode cX5_prop 49 = .ok (.ireturn, 1) := by decide +kernel
theorem dX5_keep_0 : decode cX5_keep 0 = .ok (.iconst 0, 1) := by decide +kernel
theorem dX5_keep_1 : decode cX5_keep 1 = .ok (.istore_n 1, 1) := by decide +kernel
theorem dX5_keep_2 : decode cX5_keep 2 = .ok (.iload_n 1, 1) := by decide +kernel
theorem dX5_keep_3 : decode cX5_keep 3 = .ok (.bipush 48, 2) := by decide +kernel
theorem dX5_keep_5 : decode cX5_keep 5 = .ok (.if_icmp .ge 45, 3) := by decide +kernel
theorem dX5_keep_8 : decode cX5_keep 8 = .ok (.aload_n 0, 1) := by decide +kernel
theorem dX5_keep_9 : decode cX5_keep 9 = .ok (.getfield 53, 3) := by decide +kernel
theorem dX5_keep_12 : decode cX5_keep 12 = .ok (.iload_n 1, 1) := by decide +kernel
theorem dX5_keep_13 : decode cX5_keep 13 = .ok (.aload_n 0, 1) := by decide +kernel
theorem dX5_keep_14 : decode cX5_keep 14 = .ok (.getfield 29, 3) := by decide +kernel
theorem dX5_keep_17 : decode cX5_keep 17 = .ok (.iload_n 1, 1) := by decide +kernel
theorem dX5_keep_18 : decode cX5_keep 18 = .ok (.iaload, 1) := by decide +kernel
theorem dX5_keep_19 : decode cX5_keep 19 = .ok (.iastore, 1) := by decide +kernel
theorem dX5_keep_20 : decode cX5_keep 20 = .ok (.aload_n 0, 1) := by decide +kernel
theorem dX5_keep_21 : decode cX5_keep 21 = .ok (.getfield 56, 3) := by decide +kernel
theorem dX5_keep_24 : decode cX5_keep 24 = .ok (.iload_n 1, 1) := by decide +kernel
