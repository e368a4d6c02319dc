theorem dX0_init_0 : decode cX0_init 0 = .ok (.aload_n 0, 1) := by decide +kernel
theorem dX0_init_1 : decode cX0_init 1 = .ok (.invokespecial 3, 3) := by decide +kernel
theorem dX0_init_4 : decode cX0_init 4 = .ok (.aload_n 0, 1) := by decide +kernel
theorem dX0_init_5 : decode cX0_init 5 = .ok (.bipush 61, 2) := by decide +kernel
theorem dX0_init_7 : decode cX0_init 7 = .ok (.newarray .int, 2) := by decide +kernel
theorem dX0_init_9 : decode cX0_init 9 = .ok (.putfield 11, 3) := by decide +kernel
theorem dX0_init_12 : decode cX0_init 12 = .ok (.aload_n 0, 1) := by decide +kernel
theorem dX0_init_13 : decode cX0_init 13 = .ok (.bipush 16, 2) := by decide +kernel
theorem dX0_init_15 : decode cX0_init 15 = .ok (.newarray .int, 2) := by decide +kernel
theorem dX0_init_17 : decode cX0_init 17 = .ok (.putfield 17, 3) := by decide +kernel
theorem dX0_init_20 : decode cX0_init 20 = .ok (.aload_n 0, 1) := by decide +kernel
theorem dX0_init_21 : decode cX0_init 21 = .ok (.bipush 16, 2) := by decide +kernel
theorem dX0_init_23 : decode cX0_init 23 = .ok (.newarray .int, 2) := by decide +kernel
theorem dX0_init_25 : decode cX0_init 25 = .ok (.putfield 20, 3) := by decide +kernel
theorem dX0_init_28 : decode cX0_init 28 = .ok (.aload_n 0, 1) := by decide +kernel
theorem dX0_init_29 : decode cX0_init 29 = .ok (.bipush 31, 2) := by decide +kernel
theorem dX0_init_31 : decode cX0_init 31 = .ok (.newarray .int, 2) := by decide +kernel
theorem dX0_init_33 : decode cX0_init 33 = .ok (.putfield 23, 3) := by decide +kernel
theorem dX0_init_36 : decode cX0_init 36 = .ok (.aload_n 0, 1) := by decide +kernel
theorem dX0_init_37 : decode cX0_init 37 = .ok (.bipush 31, 2) := by decide +kernel
theorem dX0_init_39 : decode cX0_init 39 = .ok (.newarray .int, 2) := by decide +kernel
theorem dX0_init_41 : decode cX0_init 41 = .ok (.putfield 26, 3) := by decide +kernel
theorem dX0_init_44 : decode cX0_init 44 = .ok (.aload_n 0, 1) := by decide +kernel
theorem dX0_init_45 : decode cX0_init 45 = .ok (.iconst 5, 1) := by decide +kernel
theorem dX0_init_46 : decode cX0_init 46 = .ok (.putfield 29, 3) := by decide +kernel
theorem dX0_init_49 : decode cX0_init 49 = .ok (.return_, 1) := by decide +kernel
theorem dX0_putSpread_0 : decode cX0_putSpread 0 = .ok (.aload_n 0, 1) := by decide +kernel
theorem dX0_putSpread_1 : decode cX0_putSpread 1 = .ok (.getfield 29, 3) := by decide +kernel
theorem dX0_putSpread_4 : decode cX0_putSpread 4 = .ok (.istore_n 2, 1) := by decide +kernel
theorem dX0_putSpread_5 : decode cX0_putSpread 5 = .ok (.aload_n 0, 1) := by decide +kernel
theorem dX0_putSpread_6 : decode cX0_putSpread 6 = .ok (.iload_n 1, 1) := by decide +kernel
theorem dX0_putSpread_7 : decode cX0_putSpread 7 = .ok (.putfield 29, 3) := by decide +kernel
theorem dX0_putSpread_10 : decode cX0_putSpread 10 = .ok (.iload_n 2, 1) := by decide +kernel
theorem dX0_putSpread_11 : decode cX0_putSpread 11 = .ok (.ireturn, 1) := by decide +kernel
theorem dX0_tell_0 : decode cX0_tell 0 = .ok (.aload_n 0, 1) := by decide +kernel
theorem dX0_tell_1 : decode cX0_tell 1 = .ok (.getfield 33, 3) := by decide +kernel
theorem dX0_tell_4 : decode cX0_tell 4 = .ok (.aload_n 0, 1) := by decide +kernel
theorem dX0_tell_5 : decode cX0_tell 5 = .ok (.getfield 17, 3) := by decide +kernel
theorem dX0_tell_8 : decode cX0_tell 8 = .ok (.arraylength, 1) := by decide +kernel
theorem dX0_tell_9 : decode cX0_tell 9 = .ok (.if_icmp .ge 15, 3) := by decide +kernel
theorem dX0_tell_12 : decode cX0_tell 12 = .ok (.aload_n 0, 1) := by decide +kernel
theorem dX0_tell_13 : decode cX0_tell 13 = .ok (.getfield 33, 3) := by decide +kernel
theorem dX0_tell_16 : decode cX0_tell 16 = .ok (.aload_n 0, 1) := by decide +kernel
theorem dX0_tell_17 : decode cX0_tell 17 = .ok (.getfield 20, 3) := by decide +kernel
theorem dX0_tell_20 : decode cX0_tell 20 = .ok (.arraylength, 1) := by decide +kernel
theorem dX0_tell_21 : decode cX0_tell 21 = .ok (.if_icmp .lt 5, 3) := by decide +kernel
theorem dX0_tell_24 : decode cX0_tell 24 = .ok (.iconst 0, 1) := by decide +kernel
theorem dX0_tell_25 : decode cX0_tell 25 = .ok (.ireturn, 1) := by decide +kernel
theorem dX0_tell_26 : decode cX0_tell 26 = .ok (.aload_n 0, 1) := by decide +kernel
theorem dX0_tell_27 : decode cX0_tell 27 = .ok (.getfield 17, 3) := by decide +kernel
theorem dX0_tell_30 : decode cX0_tell 30 = .ok (.aload_n 0, 1) := by decide +kernel
theorem dX0_tell_31 : decode cX0_tell 31 = .ok (.getfield 33, 3) := by decide +kernel
theorem dX0_tell_34 : decode cX0_tell 34 = .ok (.iload_n 1, 1) := by decide +kernel
theorem dX0_tell_35 : decode cX0_tell 35 = .ok (.iastore, 1) := by decide +kernel
theorem dX0_tell_36 : decode cX0_tell 36 = .ok (.aload_n 0, 1) := by decide +kernel
theorem dX0_tell_37 : decode cX0_tell 37 = .ok (.getfield 20, 3) := by decide +kernel
theorem dX0_tell_40 : decode cX0_tell 40 = .ok (.aload_n 0, 1) := by decide +kernel
theorem dX0_tell_41 : decode cX0_tell 41 = .ok (.getfield 33, 3) := by decide +kernel
theorem dX0_tell_44 : decode cX0_tell 44 = .ok (.iload_n 2, 1) := by decide +kernel
theorem dX0_tell_45 : decode cX0_tell 45 = .ok (.iastore, 1) := by decide +kernel
theorem dX0_tell_46 : decode cX0_tell 46 = .ok (.aload_n 0, 1) := by decide +kernel
theorem dX0_tell_47 : decode cX0_tell 47 = .ok (.dup, 1) := by decide +kernel
theorem dX0_tell_48 : decode cX0_tell 48 = .ok (.getfield 33, 3) := by decide +kernel
theorem dX0_tell_51 : decode cX0_tell 51 = .ok (.iconst 1, 1) := by decide +kernel
theorem dX0_tell_52 : decode cX0_tell 52 = .ok (.iadd, 1) := by decide +kernel
theorem dX0_tell_53 : decode cX0_tell 53 = .ok (.putfield 33, 3) := by decide +kernel
theorem dX0_tell_56 : decode cX0_tell 56 = .ok (.iconst 1, 1) := by decide +kernel
theorem dX0_tell_57 : decode cX0_tell 57 = .ok (.ireturn, 1) := by decide +kernel
theorem dX0_told_0 : decode cX0_told 0 = .ok (.aload_n 0, 1) := by decide +kernel
theorem dX0_told_1 : decode cX0_told 1 = .ok (.getfield 33, 3) := by decide +kernel
theorem dX0_told_4 : decode cX0_told 4 = .ok (.ireturn, 1) := by decide +kernel
theorem dX0_forgetShots_0 : decode cX0_forgetShots 0 = .ok (.aload_n 0, 1) := by decide +kernel
theorem dX0_forgetShots_1 : decode cX0_forgetShots 1 = .ok (.getfield 33, 3) := by decide +kernel
theorem dX0_forgetShots_4 : decode cX0_forgetShots 4 = .ok (.istore_n 1, 1) := by decide +kernel
theorem dX0_forgetShots_5 : decode cX0_forgetShots 5 = .ok (.aload_n 0, 1) := by decide +kernel
theorem dX0_forgetShots_6 : decode cX0_forgetShots 6 = .ok (.iconst 0, 1) := by decide +kernel
theorem dX0_forgetShots_7 : decode cX0_forgetShots 7 = .ok (.putfield 33, 3) := by decide +kernel
theorem dX0_forgetShots_10 : decode cX0_forgetShots 10 = .ok (.iload_n 1, 1) := by decide +kernel
theorem dX0_forgetShots_11 : decode cX0_forgetShots 11 = .ok (.ireturn, 1) := by decide +kernel
theorem dX0_study_0 : decode cX0_study 0 = .ok (.aload_n 1, 1) := by decide +kernel
theorem dX0_study_1 : decode cX0_study 1 = .ok (.invokevirtual 36, 3) := by decide +kernel
theorem dX0_study_4 : decode cX0_study 4 = .ok (.istore_n 2, 1) := by decide +kernel
theorem dX0_study_5 : decode cX0_study 5 = .ok (.iconst 0, 1) := by decide +kernel
theorem dX0_study_6 : decode cX0_study 6 = .ok (.istore_n 3, 1) := by decide +kernel
theorem dX0_study_7 : decode cX0_study 7 = .ok (.iload_n 3, 1) := by decide +kernel
theorem dX0_study_8 : decode cX0_study 8 = .ok (.aload_n 0, 1) := by decide +kernel
theorem dX0_study_9 : decode cX0_study 9 = .ok (.getfield 11, 3) := by decide +kernel
theorem dX0_study_12 : decode cX0_study 12 = .ok (.arraylength, 1) := by decide +kernel
theorem dX0_study_13 : decode cX0_study 13 = .ok (.if_icmp .ge 21, 3) := by decide +kernel
theorem dX0_study_16 : decode cX0_study 16 = .ok (.aload_n 0, 1) := by decide +kernel
theorem dX0_study_17 : decode cX0_study 17 = .ok (.getfield 11, 3) := by decide +kernel
theorem dX0_study_20 : decode cX0_study 20 = .ok (.iload_n 3, 1) := by decide +kernel
theorem dX0_study_21 : decode cX0_study 21 = .ok (.aload_n 1, 1) := by decide +kernel
theorem dX0_study_22 : decode cX0_study 22 = .ok (.iload_n 2, 1) := by decide +kernel
theorem dX0_study_23 : decode cX0_study 23 = .ok (.iload_n 3, 1) := by decide +kernel
theorem dX0_study_24 : decode cX0_study 24 = .ok (.invokevirtual 40, 3) := by decide +kernel
theorem dX0_study_27 : decode cX0_study 27 = .ok (.iastore, 1) := by decide +kernel
theorem dX0_study_28 : decode cX0_study 28 = .ok (.iinc 3 1, 3) := by decide +kernel
theorem dX0_study_31 : decode cX0_study 31 = .ok (.goto (-24), 3) := by decide +kernel
theorem dX0_study_34 : decode cX0_study 34 = .ok (.iconst 0, 1) := by decide +kernel
theorem dX0_study_35 : decode cX0_study 35 = .ok (.istore_n 3, 1) := by decide +kernel
theorem dX0_study_36 : decode cX0_study 36 = .ok (.iload_n 3, 1) := by decide +kernel
theorem dX0_study_37 : decode cX0_study 37 = .ok (.bipush 31, 2) := by decide +kernel
theorem dX0_study_39 : decode cX0_study 39 = .ok (.if_icmp .ge 62, 3) := by decide +kernel
theorem dX0_study_42 : decode cX0_study 42 = .ok (.aload_n 0, 1) := by decide +kernel
theorem dX0_study_43 : decode cX0_study 43 = .ok (.getfield 23, 3) := by decide +kernel
theorem dX0_study_46 : decode cX0_study 46 = .ok (.iload_n 3, 1) := by decide +kernel
theorem dX0_study_47 : decode cX0_study 47 = .ok (.bipush (-12), 2) := by decide +kernel
theorem dX0_study_49 : decode cX0_study 49 = .ok (.iastore, 1) := by decide +kernel
theorem dX0_study_50 : decode cX0_study 50 = .ok (.aload_n 0, 1) := by decide +kernel
theorem dX0_study_51 : decode cX0_study 51 = .ok (.getfield 26, 3) := by decide +kernel
theorem dX0_study_54 : decode cX0_study 54 = .ok (.iload_n 3, 1) := by decide +kernel
theorem dX0_study_55 : decode cX0_study 55 = .ok (.bipush 12, 2) := by decide +kernel
theorem dX0_study_57 : decode cX0_study 57 = .ok (.iastore, 1) := by decide +kernel
theorem dX0_study_58 : decode cX0_study 58 = .ok (.iconst 0, 1) := by decide +kernel
theorem dX0_study_59 : decode cX0_study 59 = .ok (.istore 4, 2) := by decide +kernel
theorem dX0_study_61 : decode cX0_study 61 = .ok (.iload 4, 2) := by decide +kernel
theorem dX0_study_63 : decode cX0_study 63 = .ok (.aload_n 0, 1) := by decide +kernel
theorem dX0_study_64 : decode cX0_study 64 = .ok (.getfield 33, 3) := by decide +kernel
theorem dX0_study_67 : decode cX0_study 67 = .ok (.if_icmp .ge 28, 3) := by decide +kernel
theorem dX0_study_70 : decode cX0_study 70 = .ok (.aload_n 0, 1) := by decide +kernel
theorem dX0_study_71 : decode cX0_study 71 = .ok (.iload_n 3, 1) := by decide +kernel
theorem dX0_study_72 : decode cX0_study 72 = .ok (.aload_n 0, 1) := by decide +kernel
theorem dX0_study_73 : decode cX0_study 73 = .ok (.getfield 17, 3) := by decide +kernel
theorem dX0_study_76 : decode cX0_study 76 = .ok (.iload 4, 2) := by decide +kernel
theorem dX0_study_78 : decode cX0_study 78 = .ok (.iaload, 1) := by decide +kernel
theorem dX0_study_79 : decode cX0_study 79 = .ok (.aload_n 0, 1) := by decide +kernel
theorem dX0_study_80 : decode cX0_study 80 = .ok (.getfield 20, 3) := by decide +kernel
theorem dX0_study_83 : decode cX0_study 83 = .ok (.iload 4, 2) := by decide +kernel
theorem dX0_study_85 : decode cX0_study 85 = .ok (.iaload, 1) := by decide +kernel
theorem dX0_study_86 : decode cX0_study 86 = .ok (.invokevirtual 44, 3) := by decide +kernel
theorem dX0_study_89 : decode cX0_study 89 = .ok (.iinc 4 1, 3) := by decide +kernel
theorem dX0_study_92 : decode cX0_study 92 = .ok (.goto (-31), 3) := by decide +kernel
theorem dX0_study_95 : decode cX0_study 95 = .ok (.iinc 3 1, 3) := by decide +kernel
theorem dX0_study_98 : decode cX0_study 98 = .ok (.goto (-62), 3) := by decide +kernel
theorem dX0_study_101 : decode cX0_study 101 = .ok (.return_, 1) := by decide +kernel
theorem dX0_bear_0 : decode cX0_bear 0 = .ok (.aload_n 0, 1) := by decide +kernel
theorem dX0_bear_1 : decode cX0_bear 1 = .ok (.getfield 11, 3) := by decide +kernel
theorem dX0_bear_4 : decode cX0_bear 4 = .ok (.iload_n 2, 1) := by decide +kernel
theorem dX0_bear_5 : decode cX0_bear 5 = .ok (.iaload, 1) := by decide +kernel
theorem dX0_bear_6 : decode cX0_bear 6 = .ok (.bipush (-9), 2) := by decide +kernel
theorem dX0_bear_8 : decode cX0_bear 8 = .ok (.if_icmp .ne 12, 3) := by decide +kernel
theorem dX0_bear_11 : decode cX0_bear 11 = .ok (.aload_n 0, 1) := by decide +kernel
theorem dX0_bear_12 : decode cX0_bear 12 = .ok (.getfield 26, 3) := by decide +kernel
theorem dX0_bear_15 : decode cX0_bear 15 = .ok (.iload_n 1, 1) := by decide +kernel
theorem dX0_bear_16 : decode cX0_bear 16 = .ok (.bipush (-13), 2) := by decide +kernel
theorem dX0_bear_18 : decode cX0_bear 18 = .ok (.iastore, 1) := by decide +kernel
theorem dX0_bear_19 : decode cX0_bear 19 = .ok (.return_, 1) := by decide +kernel
theorem dX0_bear_20 : decode cX0_bear 20 = .ok (.iload_n 3, 1) := by decide +kernel
theorem dX0_bear_21 : decode cX0_bear 21 = .ok (.aload_n 0, 1) := by decide +kernel
theorem dX0_bear_22 : decode cX0_bear 22 = .ok (.iload_n 1, 1) := by decide +kernel
theorem dX0_bear_23 : decode cX0_bear 23 = .ok (.iload_n 2, 1) := by decide +kernel
theorem dX0_bear_24 : decode cX0_bear 24 = .ok (.invokevirtual 48, 3) := by decide +kernel
theorem dX0_bear_27 : decode cX0_bear 27 = .ok (.isub, 1) := by decide +kernel
theorem dX0_bear_28 : decode cX0_bear 28 = .ok (.istore 4, 2) := by decide +kernel
theorem dX0_bear_30 : decode cX0_bear 30 = .ok (.aload_n 0, 1) := by decide +kernel
theorem dX0_bear_31 : decode cX0_bear 31 = .ok (.getfield 23, 3) := by decide +kernel
theorem dX0_bear_34 : decode cX0_bear 34 = .ok (.iload_n 1, 1) := by decide +kernel
theorem dX0_bear_35 : decode cX0_bear 35 = .ok (.aload_n 0, 1) := by decide +kernel
theorem dX0_bear_36 : decode cX0_bear 36 = .ok (.getfield 23, 3) := by decide +kernel
theorem dX0_bear_39 : decode cX0_bear 39 = .ok (.iload_n 1, 1) := by decide +kernel
theorem dX0_bear_40 : decode cX0_bear 40 = .ok (.iaload, 1) := by decide +kernel
theorem dX0_bear_41 : decode cX0_bear 41 = .ok (.iload 4, 2) := by decide +kernel
theorem dX0_bear_43 : decode cX0_bear 43 = .ok (.aload_n 0, 1) := by decide +kernel
theorem dX0_bear_44 : decode cX0_bear 44 = .ok (.getfield 29, 3) := by decide +kernel
theorem dX0_bear_47 : decode cX0_bear 47 = .ok (.isub, 1) := by decide +kernel
theorem dX0_bear_48 : decode cX0_bear 48 = .ok (.invokestatic 51, 3) := by decide +kernel
theorem dX0_bear_51 : decode cX0_bear 51 = .ok (.iastore, 1) := by decide +kernel
theorem dX0_bear_52 : decode cX0_bear 52 = .ok (.aload_n 0, 1) := by decide +kernel
theorem dX0_bear_53 : decode cX0_bear 53 = .ok (.getfield 26, 3) := by decide +kernel
theorem dX0_bear_56 : decode cX0_bear 56 = .ok (.iload_n 1, 1) := by decide +kernel
theorem dX0_bear_57 : decode cX0_bear 57 = .ok (.aload_n 0, 1) := by decide +kernel
theorem dX0_bear_58 : decode cX0_bear 58 = .ok (.getfield 26, 3) := by decide +kernel
theorem dX0_bear_61 : decode cX0_bear 61 = .ok (.iload_n 1, 1) := by decide +kernel
theorem dX0_bear_62 : decode cX0_bear 62 = .ok (.iaload, 1) := by decide +kernel
theorem dX0_bear_63 : decode cX0_bear 63 = .ok (.iload 4, 2) := by decide +kernel
theorem dX0_bear_65 : decode cX0_bear 65 = .ok (.aload_n 0, 1) := by decide +kernel
theorem dX0_bear_66 : decode cX0_bear 66 = .ok (.getfield 29, 3) := by decide +kernel
theorem dX0_bear_69 : decode cX0_bear 69 = .ok (.iadd, 1) := by decide +kernel
theorem dX0_bear_70 : decode cX0_bear 70 = .ok (.invokestatic 56, 3) := by decide +kernel
theorem dX0_bear_73 : decode cX0_bear 73 = .ok (.iastore, 1) := by decide +kernel
theorem dX0_bear_74 : decode cX0_bear 74 = .ok (.return_, 1) := by decide +kernel
theorem dX0_scaled_0 : decode cX0_scaled 0 = .ok (.aload_n 0, 1) := by decide +kernel
theorem dX0_scaled_1 : decode cX0_scaled 1 = .ok (.getfield 11, 3) := by decide +kernel
theorem dX0_scaled_4 : decode cX0_scaled 4 = .ok (.iload_n 2, 1) := by decide +kernel
theorem dX0_scaled_5 : decode cX0_scaled 5 = .ok (.iaload, 1) := by decide +kernel
theorem dX0_scaled_6 : decode cX0_scaled 6 = .ok (.i2l, 1) := by decide +kernel
theorem dX0_scaled_7 : decode cX0_scaled 7 = .ok (.bipush 85, 2) := by decide +kernel
theorem dX0_scaled_9 : decode cX0_scaled 9 = .ok (.iload_n 1, 1) := by decide +kernel
theorem dX0_scaled_10 : decode cX0_scaled 10 = .ok (.iadd, 1) := by decide +kernel
theorem dX0_scaled_11 : decode cX0_scaled 11 = .ok (.i2l, 1) := by decide +kernel
theorem dX0_scaled_12 : decode cX0_scaled 12 = .ok (.lmul, 1) := by decide +kernel
theorem dX0_scaled_13 : decode cX0_scaled 13 = .ok (.ldc2_w 59, 3) := by decide +kernel
theorem dX0_scaled_16 : decode cX0_scaled 16 = .ok (.invokestatic 61, 3) := by decide +kernel
theorem dX0_scaled_19 : decode cX0_scaled 19 = .ok (.l2i, 1) := by decide +kernel
theorem dX0_scaled_20 : decode cX0_scaled 20 = .ok (.ireturn, 1) := by decide +kernel
theorem dX0_isLeft_0 : decode cX0_isLeft 0 = .ok (.aload_n 0, 1) := by decide +kernel
theorem dX0_isLeft_1 : decode cX0_isLeft 1 = .ok (.getfield 23, 3) := by decide +kernel
theorem dX0_isLeft_4 : decode cX0_isLeft 4 = .ok (.iload_n 1, 1) := by decide +kernel
theorem dX0_isLeft_5 : decode cX0_isLeft 5 = .ok (.iaload, 1) := by decide +kernel
theorem dX0_isLeft_6 : decode cX0_isLeft 6 = .ok (.aload_n 0, 1) := by decide +kernel
theorem dX0_isLeft_7 : decode cX0_isLeft 7 = .ok (.getfield 26, 3) := by decide +kernel
theorem dX0_isLeft_10 : decode cX0_isLeft 10 = .ok (.iload_n 1, 1) := by decide +kernel
theorem dX0_isLeft_11 : decode cX0_isLeft 11 = .ok (.iaload, 1) := by decide +kernel
theorem dX0_isLeft_12 : decode cX0_isLeft 12 = .ok (.if_icmp .gt 7, 3) := by decide +kernel
theorem dX0_isLeft_15 : decode cX0_isLeft 15 = .ok (.iconst 1, 1) := by decide +kernel
theorem dX0_isLeft_16 : decode cX0_isLeft 16 = .ok (.goto 4, 3) := by decide +kernel
theorem dX0_isLeft_19 : decode cX0_isLeft 19 = .ok (.iconst 0, 1) := by decide +kernel
theorem dX0_isLeft_20 : decode cX0_isLeft 20 = .ok (.ireturn, 1) := by decide +kernel
theorem dX0_pairsLeft_0 : decode cX0_pairsLeft 0 = .ok (.iconst 0, 1) := by decide +kernel
theorem dX0_pairsLeft_1 : decode cX0_pairsLeft 1 = .ok (.istore_n 1, 1) := by decide +kernel
theorem dX0_pairsLeft_2 : decode cX0_pairsLeft 2 = .ok (.iconst 0, 1) := by decide +kernel
theorem dX0_pairsLeft_3 : decode cX0_pairsLeft 3 = .ok (.istore_n 2, 1) := by decide +kernel
theorem dX0_pairsLeft_4 : decode cX0_pairsLeft 4 = .ok (.iload_n 2, 1) := by decide +kernel
theorem dX0_pairsLeft_5 : decode cX0_pairsLeft 5 = .ok (.bipush 31, 2) := by decide +kernel
theorem dX0_pairsLeft_7 : decode cX0_pairsLeft 7 = .ok (.if_icmp .ge 39, 3) := by decide +kernel
theorem dX0_pairsLeft_10 : decode cX0_pairsLeft 10 = .ok (.iload_n 1, 1) := by decide +kernel
theorem dX0_pairsLeft_11 : decode cX0_pairsLeft 11 = .ok (.aload_n 0, 1) := by decide +kernel
theorem dX0_pairsLeft_12 : decode cX0_pairsLeft 12 = .ok (.iload_n 2, 1) := by decide +kernel
theorem dX0_pairsLeft_13 : decode cX0_pairsLeft 13 = .ok (.invokevirtual 65, 3) := by decide +kernel
theorem dX0_pairsLeft_16 : decode cX0_pairsLeft 16 = .ok (.ifCond .eq 21, 3) := by decide +kernel
theorem dX0_pairsLeft_19 : decode cX0_pairsLeft 19 = .ok (.aload_n 0, 1) := by decide +kernel
theorem dX0_pairsLeft_20 : decode cX0_pairsLeft 20 = .ok (.getfield 26, 3) := by decide +kernel
theorem dX0_pairsLeft_23 : decode cX0_pairsLeft 23 = .ok (.iload_n 2, 1) := by decide +kernel
theorem dX0_pairsLeft_24 : decode cX0_pairsLeft 24 = .ok (.iaload, 1) := by decide +kernel
theorem dX0_pairsLeft_25 : decode cX0_pairsLeft 25 = .ok (.aload_n 0, 1) := by decide +kernel
theorem dX0_pairsLeft_26 : decode cX0_pairsLeft 26 = .ok (.getfield 23, 3) := by decide +kernel
theorem dX0_pairsLeft_29 : decode cX0_pairsLeft 29 = .ok (.iload_n 2, 1) := by decide +kernel
theorem dX0_pairsLeft_30 : decode cX0_pairsLeft 30 = .ok (.iaload, 1) := by decide +kernel
theorem dX0_pairsLeft_31 : decode cX0_pairsLeft 31 = .ok (.isub, 1) := by decide +kernel
theorem dX0_pairsLeft_32 : decode cX0_pairsLeft 32 = .ok (.iconst 1, 1) := by decide +kernel
theorem dX0_pairsLeft_33 : decode cX0_pairsLeft 33 = .ok (.iadd, 1) := by decide +kernel
theorem dX0_pairsLeft_34 : decode cX0_pairsLeft 34 = .ok (.goto 4, 3) := by decide +kernel
theorem dX0_pairsLeft_37 : decode cX0_pairsLeft 37 = .ok (.iconst 0, 1) := by decide +kernel
theorem dX0_pairsLeft_38 : decode cX0_pairsLeft 38 = .ok (.iadd, 1) := by decide +kernel
theorem dX0_pairsLeft_39 : decode cX0_pairsLeft 39 = .ok (.istore_n 1, 1) := by decide +kernel
theorem dX0_pairsLeft_40 : decode cX0_pairsLeft 40 = .ok (.iinc 2 1, 3) := by decide +kernel
theorem dX0_pairsLeft_43 : decode cX0_pairsLeft 43 = .ok (.goto (-39), 3) := by decide +kernel
theorem dX0_pairsLeft_46 : decode cX0_pairsLeft 46 = .ok (.iload_n 1, 1) := by decide +kernel
theorem dX0_pairsLeft_47 : decode cX0_pairsLeft 47 = .ok (.ireturn, 1) := by decide +kernel
theorem dX0_places_0 : decode cX0_places 0 = .ok (.aload_n 0, 1) := by decide +kernel
theorem dX0_places_1 : decode cX0_places 1 = .ok (.getfield 11, 3) := by decide +kernel
theorem dX0_places_4 : decode cX0_places 4 = .ok (.iload_n 1, 1) := by decide +kernel
theorem dX0_places_5 : decode cX0_places 5 = .ok (.iaload, 1) := by decide +kernel
theorem dX0_places_6 : decode cX0_places 6 = .ok (.bipush (-9), 2) := by decide +kernel
theorem dX0_places_8 : decode cX0_places 8 = .ok (.if_icmp .eq 14, 3) := by decide +kernel
theorem dX0_places_11 : decode cX0_places 11 = .ok (.aload_n 0, 1) := by decide +kernel
theorem dX0_places_12 : decode cX0_places 12 = .ok (.invokevirtual 69, 3) := by decide +kernel
theorem dX0_places_15 : decode cX0_places 15 = .ok (.ifCond .le 7, 3) := by decide +kernel
theorem dX0_places_18 : decode cX0_places 18 = .ok (.iconst 1, 1) := by decide +kernel
theorem dX0_places_19 : decode cX0_places 19 = .ok (.goto 4, 3) := by decide +kernel
theorem dX0_places_22 : decode cX0_places 22 = .ok (.iconst 0, 1) := by decide +kernel
theorem dX0_places_23 : decode cX0_places 23 = .ok (.ireturn, 1) := by decide +kernel
theorem dX0_leastPlace_0 : decode cX0_leastPlace 0 = .ok (.ldc 72, 2) := by decide +kernel
theorem dX0_leastPlace_2 : decode cX0_leastPlace 2 = .ok (.istore_n 2, 1) := by decide +kernel
theorem dX0_leastPlace_3 : decode cX0_leastPlace 3 = .ok (.iconst 0, 1) := by decide +kernel
theorem dX0_leastPlace_4 : decode cX0_leastPlace 4 = .ok (.istore_n 3, 1) := by decide +kernel
theorem dX0_leastPlace_5 : decode cX0_leastPlace 5 = .ok (.iload_n 3, 1) := by decide +kernel
theorem dX0_leastPlace_6 : decode cX0_leastPlace 6 = .ok (.bipush 31, 2) := by decide +kernel
theorem dX0_leastPlace_8 : decode cX0_leastPlace 8 = .ok (.if_icmp .ge 35, 3) := by decide +kernel
theorem dX0_leastPlace_11 : decode cX0_leastPlace 11 = .ok (.aload_n 0, 1) := by decide +kernel
theorem dX0_leastPlace_12 : decode cX0_leastPlace 12 = .ok (.iload_n 3, 1) := by decide +kernel
theorem dX0_leastPlace_13 : decode cX0_leastPlace 13 = .ok (.invokevirtual 65, 3) := by decide +kernel
theorem dX0_leastPlace_16 : decode cX0_leastPlace 16 = .ok (.ifCond .eq 21, 3) := by decide +kernel
theorem dX0_leastPlace_19 : decode cX0_leastPlace 19 = .ok (.iload_n 2, 1) := by decide +kernel
theorem dX0_leastPlace_20 : decode cX0_leastPlace 20 = .ok (.aload_n 0, 1) := by decide +kernel
theorem dX0_leastPlace_21 : decode cX0_leastPlace 21 = .ok (.iload_n 3, 1) := by decide +kernel
theorem dX0_leastPlace_22 : decode cX0_leastPlace 22 = .ok (.iload_n 1, 1) := by decide +kernel
theorem dX0_leastPlace_23 : decode cX0_leastPlace 23 = .ok (.invokevirtual 48, 3) := by decide +kernel
theorem dX0_leastPlace_26 : decode cX0_leastPlace 26 = .ok (.aload_n 0, 1) := by decide +kernel
theorem dX0_leastPlace_27 : decode cX0_leastPlace 27 = .ok (.getfield 23, 3) := by decide +kernel
theorem dX0_leastPlace_30 : decode cX0_leastPlace 30 = .ok (.iload_n 3, 1) := by decide +kernel
theorem dX0_leastPlace_31 : decode cX0_leastPlace 31 = .ok (.iaload, 1) := by decide +kernel
theorem dX0_leastPlace_32 : decode cX0_leastPlace 32 = .ok (.iadd, 1) := by decide +kernel
theorem dX0_leastPlace_33 : decode cX0_leastPlace 33 = .ok (.invokestatic 56, 3) := by decide +kernel
theorem dX0_leastPlace_36 : decode cX0_leastPlace 36 = .ok (.istore_n 2, 1) := by decide +kernel
theorem dX0_leastPlace_37 : decode cX0_leastPlace 37 = .ok (.iinc 3 1, 3) := by decide +kernel
theorem dX0_leastPlace_40 : decode cX0_leastPlace 40 = .ok (.goto (-35), 3) := by decide +kernel
theorem dX0_leastPlace_43 : decode cX0_leastPlace 43 = .ok (.iload_n 2, 1) := by decide +kernel
theorem dX0_leastPlace_44 : decode cX0_leastPlace 44 = .ok (.ireturn, 1) := by decide +kernel
theorem dX0_greatestPlace_0 : decode cX0_greatestPlace 0 = .ok (.ldc 73, 2) := by decide +kernel
theorem dX0_greatestPlace_2 : decode cX0_greatestPlace 2 = .ok (.istore_n 2, 1) := by decide +kernel
theorem dX0_greatestPlace_3 : decode cX0_greatestPlace 3 = .ok (.iconst 0, 1) := by decide +kernel
theorem dX0_greatestPlace_4 : decode cX0_greatestPlace 4 = .ok (.istore_n 3, 1) := by decide +kernel
theorem dX0_greatestPlace_5 : decode cX0_greatestPlace 5 = .ok (.iload_n 3, 1) := by decide +kernel
theorem dX0_greatestPlace_6 : decode cX0_greatestPlace 6 = .ok (.bipush 31, 2) := by decide +kernel
theorem dX0_greatestPlace_8 : decode cX0_greatestPlace 8 = .ok (.if_icmp .ge 35, 3) := by decide +kernel
theorem dX0_greatestPlace_11 : decode cX0_greatestPlace 11 = .ok (.aload_n 0, 1) := by decide +kernel
theorem dX0_greatestPlace_12 : decode cX0_greatestPlace 12 = .ok (.iload_n 3, 1) := by decide +kernel
theorem dX0_greatestPlace_13 : decode cX0_greatestPlace 13 = .ok (.invokevirtual 65, 3) := by decide +kernel
theorem dX0_greatestPlace_16 : decode cX0_greatestPlace 16 = .ok (.ifCond .eq 21, 3) := by decide +kernel
theorem dX0_greatestPlace_19 : decode cX0_greatestPlace 19 = .ok (.iload_n 2, 1) := by decide +kernel
theorem dX0_greatestPlace_20 : decode cX0_greatestPlace 20 = .ok (.aload_n 0, 1) := by decide +kernel
theorem dX0_greatestPlace_21 : decode cX0_greatestPlace 21 = .ok (.iload_n 3, 1) := by decide +kernel
theorem dX0_greatestPlace_22 : decode cX0_greatestPlace 22 = .ok (.iload_n 1, 1) := by decide +kernel
theorem dX0_greatestPlace_23 : decode cX0_greatestPlace 23 = .ok (.invokevirtual 48, 3) := by decide +kernel
theorem dX0_greatestPlace_26 : decode cX0_greatestPlace 26 = .ok (.aload_n 0, 1) := by decide +kernel
theorem dX0_greatestPlace_27 : decode cX0_greatestPlace 27 = .ok (.getfield 26, 3) := by decide +kernel
theorem dX0_greatestPlace_30 : decode cX0_greatestPlace 30 = .ok (.iload_n 3, 1) := by decide +kernel
theorem dX0_greatestPlace_31 : decode cX0_greatestPlace 31 = .ok (.iaload, 1) := by decide +kernel
theorem dX0_greatestPlace_32 : decode cX0_greatestPlace 32 = .ok (.iadd, 1) := by decide +kernel
theorem dX0_greatestPlace_33 : decode cX0_greatestPlace 33 = .ok (.invokestatic 51, 3) := by decide +kernel
theorem dX0_greatestPlace_36 : decode cX0_greatestPlace 36 = .ok (.istore_n 2, 1) := by decide +kernel
theorem dX0_greatestPlace_37 : decode cX0_greatestPlace 37 = .ok (.iinc 3 1, 3) := by decide +kernel
theorem dX0_greatestPlace_40 : decode cX0_greatestPlace 40 = .ok (.goto (-35), 3) := by decide +kernel
theorem dX0_greatestPlace_43 : decode cX0_greatestPlace 43 = .ok (.iload_n 2, 1) := by decide +kernel
theorem dX0_greatestPlace_44 : decode cX0_greatestPlace 44 = .ok (.ireturn, 1) := by decide +kernel
theorem dX0_widestHook_0 : decode cX0_widestHook 0 = .ok (.bipush (-9), 2) := by decide +kernel
theorem dX0_widestHook_2 : decode cX0_widestHook 2 = .ok (.istore_n 1, 1) := by decide +kernel
theorem dX0_widestHook_3 : decode cX0_widestHook 3 = .ok (.iconst (-1), 1) := by decide +kernel
theorem dX0_widestHook_4 : decode cX0_widestHook 4 = .ok (.istore_n 2, 1) := by decide +kernel
theorem dX0_widestHook_5 : decode cX0_widestHook 5 = .ok (.iconst 0, 1) := by decide +kernel
theorem dX0_widestHook_6 : decode cX0_widestHook 6 = .ok (.istore_n 3, 1) := by decide +kernel
theorem dX0_widestHook_7 : decode cX0_widestHook 7 = .ok (.iload_n 3, 1) := by decide +kernel
theorem dX0_widestHook_8 : decode cX0_widestHook 8 = .ok (.aload_n 0, 1) := by decide +kernel
theorem dX0_widestHook_9 : decode cX0_widestHook 9 = .ok (.getfield 11, 3) := by decide +kernel
theorem dX0_widestHook_12 : decode cX0_widestHook 12 = .ok (.arraylength, 1) := by decide +kernel
theorem dX0_widestHook_13 : decode cX0_widestHook 13 = .ok (.if_icmp .ge 45, 3) := by decide +kernel
theorem dX0_widestHook_16 : decode cX0_widestHook 16 = .ok (.aload_n 0, 1) := by decide +kernel
theorem dX0_widestHook_17 : decode cX0_widestHook 17 = .ok (.iload_n 3, 1) := by decide +kernel
theorem dX0_widestHook_18 : decode cX0_widestHook 18 = .ok (.invokevirtual 74, 3) := by decide +kernel
theorem dX0_widestHook_21 : decode cX0_widestHook 21 = .ok (.ifCond .eq 17, 3) := by decide +kernel
theorem dX0_widestHook_24 : decode cX0_widestHook 24 = .ok (.aload_n 0, 1) := by decide +kernel
theorem dX0_widestHook_25 : decode cX0_widestHook 25 = .ok (.iload_n 3, 1) := by decide +kernel
theorem dX0_widestHook_26 : decode cX0_widestHook 26 = .ok (.invokevirtual 77, 3) := by decide +kernel
theorem dX0_widestHook_29 : decode cX0_widestHook 29 = .ok (.aload_n 0, 1) := by decide +kernel
theorem dX0_widestHook_30 : decode cX0_widestHook 30 = .ok (.iload_n 3, 1) := by decide +kernel
theorem dX0_widestHook_31 : decode cX0_widestHook 31 = .ok (.invokevirtual 81, 3) := by decide +kernel
theorem dX0_widestHook_34 : decode cX0_widestHook 34 = .ok (.isub, 1) := by decide +kernel
theorem dX0_widestHook_35 : decode cX0_widestHook 35 = .ok (.goto 4, 3) := by decide +kernel
theorem dX0_widestHook_38 : decode cX0_widestHook 38 = .ok (.iconst (-1), 1) := by decide +kernel
theorem dX0_widestHook_39 : decode cX0_widestHook 39 = .ok (.istore 4, 2) := by decide +kernel
theorem dX0_widestHook_41 : decode cX0_widestHook 41 = .ok (.iload 4, 2) := by decide +kernel
theorem dX0_widestHook_43 : decode cX0_widestHook 43 = .ok (.iload_n 2, 1) := by decide +kernel
theorem dX0_widestHook_44 : decode cX0_widestHook 44 = .ok (.if_icmp .le 8, 3) := by decide +kernel
theorem dX0_widestHook_47 : decode cX0_widestHook 47 = .ok (.iload 4, 2) := by decide +kernel
theorem dX0_widestHook_49 : decode cX0_widestHook 49 = .ok (.istore_n 2, 1) := by decide +kernel
theorem dX0_widestHook_50 : decode cX0_widestHook 50 = .ok (.iload_n 3, 1) := by decide +kernel
theorem dX0_widestHook_51 : decode cX0_widestHook 51 = .ok (.istore_n 1, 1) := by decide +kernel
theorem dX0_widestHook_52 : decode cX0_widestHook 52 = .ok (.iinc 3 1, 3) := by decide +kernel
theorem dX0_widestHook_55 : decode cX0_widestHook 55 = .ok (.goto (-48), 3) := by decide +kernel
theorem dX0_widestHook_58 : decode cX0_widestHook 58 = .ok (.iload_n 1, 1) := by decide +kernel
theorem dX0_widestHook_59 : decode cX0_widestHook 59 = .ok (.ireturn, 1) := by decide +kernel
theorem dX0_farthestMiss_0 : decode cX0_farthestMiss 0 = .ok (.aload_n 0, 1) := by decide +kernel
theorem dX0_farthestMiss_1 : decode cX0_farthestMiss 1 = .ok (.iload_n 1, 1) := by decide +kernel
theorem dX0_farthestMiss_2 : decode cX0_farthestMiss 2 = .ok (.invokevirtual 81, 3) := by decide +kernel
theorem dX0_farthestMiss_5 : decode cX0_farthestMiss 5 = .ok (.iload_n 2, 1) := by decide +kernel
theorem dX0_farthestMiss_6 : decode cX0_farthestMiss 6 = .ok (.isub, 1) := by decide +kernel
theorem dX0_farthestMiss_7 : decode cX0_farthestMiss 7 = .ok (.invokestatic 84, 3) := by decide +kernel
theorem dX0_farthestMiss_10 : decode cX0_farthestMiss 10 = .ok (.aload_n 0, 1) := by decide +kernel
theorem dX0_farthestMiss_11 : decode cX0_farthestMiss 11 = .ok (.iload_n 1, 1) := by decide +kernel
theorem dX0_farthestMiss_12 : decode cX0_farthestMiss 12 = .ok (.invokevirtual 77, 3) := by decide +kernel
theorem dX0_farthestMiss_15 : decode cX0_farthestMiss 15 = .ok (.iload_n 2, 1) := by decide +kernel
theorem dX0_farthestMiss_16 : decode cX0_farthestMiss 16 = .ok (.isub, 1) := by decide +kernel
theorem dX0_farthestMiss_17 : decode cX0_farthestMiss 17 = .ok (.invokestatic 84, 3) := by decide +kernel
theorem dX0_farthestMiss_20 : decode cX0_farthestMiss 20 = .ok (.invokestatic 51, 3) := by decide +kernel
theorem dX0_farthestMiss_23 : decode cX0_farthestMiss 23 = .ok (.ireturn, 1) := by decide +kernel
theorem dX0_surestHook_0 : decode cX0_surestHook 0 = .ok (.bipush (-9), 2) := by decide +kernel
theorem dX0_surestHook_2 : decode cX0_surestHook 2 = .ok (.istore_n 2, 1) := by decide +kernel
theorem dX0_surestHook_3 : decode cX0_surestHook 3 = .ok (.ldc 72, 2) := by decide +kernel
theorem dX0_surestHook_5 : decode cX0_surestHook 5 = .ok (.istore_n 3, 1) := by decide +kernel
theorem dX0_surestHook_6 : decode cX0_surestHook 6 = .ok (.iconst 0, 1) := by decide +kernel
theorem dX0_surestHook_7 : decode cX0_surestHook 7 = .ok (.istore 4, 2) := by decide +kernel
theorem dX0_surestHook_9 : decode cX0_surestHook 9 = .ok (.iload 4, 2) := by decide +kernel
theorem dX0_surestHook_11 : decode cX0_surestHook 11 = .ok (.aload_n 0, 1) := by decide +kernel
theorem dX0_surestHook_12 : decode cX0_surestHook 12 = .ok (.getfield 11, 3) := by decide +kernel
theorem dX0_surestHook_15 : decode cX0_surestHook 15 = .ok (.arraylength, 1) := by decide +kernel
theorem dX0_surestHook_16 : decode cX0_surestHook 16 = .ok (.if_icmp .ge 44, 3) := by decide +kernel
theorem dX0_surestHook_19 : decode cX0_surestHook 19 = .ok (.aload_n 0, 1) := by decide +kernel
theorem dX0_surestHook_20 : decode cX0_surestHook 20 = .ok (.iload 4, 2) := by decide +kernel
theorem dX0_surestHook_22 : decode cX0_surestHook 22 = .ok (.invokevirtual 74, 3) := by decide +kernel
theorem dX0_surestHook_25 : decode cX0_surestHook 25 = .ok (.ifCond .eq 13, 3) := by decide +kernel
theorem dX0_surestHook_28 : decode cX0_surestHook 28 = .ok (.aload_n 0, 1) := by decide +kernel
theorem dX0_surestHook_29 : decode cX0_surestHook 29 = .ok (.iload 4, 2) := by decide +kernel
theorem dX0_surestHook_31 : decode cX0_surestHook 31 = .ok (.iload_n 1, 1) := by decide +kernel
theorem dX0_surestHook_32 : decode cX0_surestHook 32 = .ok (.invokevirtual 87, 3) := by decide +kernel
theorem dX0_surestHook_35 : decode cX0_surestHook 35 = .ok (.goto 5, 3) := by decide +kernel
theorem dX0_surestHook_38 : decode cX0_surestHook 38 = .ok (.ldc 72, 2) := by decide +kernel
theorem dX0_surestHook_40 : decode cX0_surestHook 40 = .ok (.istore 5, 2) := by decide +kernel
theorem dX0_surestHook_42 : decode cX0_surestHook 42 = .ok (.iload 5, 2) := by decide +kernel
theorem dX0_surestHook_44 : decode cX0_surestHook 44 = .ok (.iload_n 3, 1) := by decide +kernel
theorem dX0_surestHook_45 : decode cX0_surestHook 45 = .ok (.if_icmp .ge 9, 3) := by decide +kernel
theorem dX0_surestHook_48 : decode cX0_surestHook 48 = .ok (.iload 5, 2) := by decide +kernel
theorem dX0_surestHook_50 : decode cX0_surestHook 50 = .ok (.istore_n 3, 1) := by decide +kernel
theorem dX0_surestHook_51 : decode cX0_surestHook 51 = .ok (.iload 4, 2) := by decide +kernel
theorem dX0_surestHook_53 : decode cX0_surestHook 53 = .ok (.istore_n 2, 1) := by decide +kernel
theorem dX0_surestHook_54 : decode cX0_surestHook 54 = .ok (.iinc 4 1, 3) := by decide +kernel
theorem dX0_surestHook_57 : decode cX0_surestHook 57 = .ok (.goto (-48), 3) := by decide +kernel
theorem dX0_surestHook_60 : decode cX0_surestHook 60 = .ok (.iload_n 2, 1) := by decide +kernel
theorem dX0_surestHook_61 : decode cX0_surestHook 61 = .ok (.ireturn, 1) := by decide +kernel
theorem dX1_init_0 : decode cX1_init 0 = .ok (.aload_n 0, 1) := by decide +kernel
theorem dX1_init_1 : decode cX1_init 1 = .ok (.invokespecial 5, 3) := by decide +kernel
theorem dX1_init_4 : decode cX1_init 4 = .ok (.aload_n 0, 1) := by decide +kernel
theorem dX1_init_5 : decode cX1_init 5 = .ok (.bipush 9, 2) := by decide +kernel
theorem dX1_init_7 : decode cX1_init 7 = .ok (.newarray .int, 2) := by decide +kernel
theorem dX1_init_9 : decode cX1_init 9 = .ok (.dup, 1) := by decide +kernel
theorem dX1_init_10 : decode cX1_init 10 = .ok (.iconst 0, 1) := by decide +kernel
theorem dX1_init_11 : decode cX1_init 11 = .ok (.bipush 12, 2) := by decide +kernel
theorem dX1_init_13 : decode cX1_init 13 = .ok (.iastore, 1) := by decide +kernel
theorem dX1_init_14 : decode cX1_init 14 = .ok (.dup, 1) := by decide +kernel
theorem dX1_init_15 : decode cX1_init 15 = .ok (.iconst 1, 1) := by decide +kernel
theorem dX1_init_16 : decode cX1_init 16 = .ok (.bipush 60, 2) := by decide +kernel
theorem dX1_init_18 : decode cX1_init 18 = .ok (.iastore, 1) := by decide +kernel
theorem dX1_init_19 : decode cX1_init 19 = .ok (.dup, 1) := by decide +kernel
theorem dX1_init_20 : decode cX1_init 20 = .ok (.iconst 2, 1) := by decide +kernel
theorem dX1_init_21 : decode cX1_init 21 = .ok (.sipush 4000, 3) := by decide +kernel
theorem dX1_init_24 : decode cX1_init 24 = .ok (.iastore, 1) := by decide +kernel
theorem dX1_init_25 : decode cX1_init 25 = .ok (.dup, 1) := by decide +kernel
theorem dX1_init_26 : decode cX1_init 26 = .ok (.iconst 3, 1) := by decide +kernel
theorem dX1_init_27 : decode cX1_init 27 = .ok (.bipush 50, 2) := by decide +kernel
theorem dX1_init_29 : decode cX1_init 29 = .ok (.iastore, 1) := by decide +kernel
theorem dX1_init_30 : decode cX1_init 30 = .ok (.dup, 1) := by decide +kernel
theorem dX1_init_31 : decode cX1_init 31 = .ok (.iconst 4, 1) := by decide +kernel
theorem dX1_init_32 : decode cX1_init 32 = .ok (.bipush 30, 2) := by decide +kernel
theorem dX1_init_34 : decode cX1_init 34 = .ok (.iastore, 1) := by decide +kernel
theorem dX1_init_35 : decode cX1_init 35 = .ok (.dup, 1) := by decide +kernel
theorem dX1_init_36 : decode cX1_init 36 = .ok (.iconst 5, 1) := by decide +kernel
theorem dX1_init_37 : decode cX1_init 37 = .ok (.bipush 40, 2) := by decide +kernel
theorem dX1_init_39 : decode cX1_init 39 = .ok (.iastore, 1) := by decide +kernel
theorem dX1_init_40 : decode cX1_init 40 = .ok (.dup, 1) := by decide +kernel
theorem dX1_init_41 : decode cX1_init 41 = .ok (.bipush 6, 2) := by decide +kernel
theorem dX1_init_43 : decode cX1_init 43 = .ok (.bipush 100, 2) := by decide +kernel
theorem dX1_init_45 : decode cX1_init 45 = .ok (.iastore, 1) := by decide +kernel
theorem dX1_init_46 : decode cX1_init 46 = .ok (.dup, 1) := by decide +kernel
theorem dX1_init_47 : decode cX1_init 47 = .ok (.bipush 7, 2) := by decide +kernel
theorem dX1_init_49 : decode cX1_init 49 = .ok (.bipush 50, 2) := by decide +kernel
theorem dX1_init_51 : decode cX1_init 51 = .ok (.iastore, 1) := by decide +kernel
theorem dX1_init_52 : decode cX1_init 52 = .ok (.dup, 1) := by decide +kernel
theorem dX1_init_53 : decode cX1_init 53 = .ok (.bipush 8, 2) := by decide +kernel
theorem dX1_init_55 : decode cX1_init 55 = .ok (.iconst 0, 1) := by decide +kernel
theorem dX1_init_56 : decode cX1_init 56 = .ok (.iastore, 1) := by decide +kernel
theorem dX1_init_57 : decode cX1_init 57 = .ok (.putfield 11, 3) := by decide +kernel
theorem dX1_init_60 : decode cX1_init 60 = .ok (.aload_n 0, 1) := by decide +kernel
theorem dX1_init_61 : decode cX1_init 61 = .ok (.sipush 161, 3) := by decide +kernel
theorem dX1_init_64 : decode cX1_init 64 = .ok (.newarray .int, 2) := by decide +kernel
theorem dX1_init_66 : decode cX1_init 66 = .ok (.putfield 15, 3) := by decide +kernel
theorem dX1_init_69 : decode cX1_init 69 = .ok (.aload_n 0, 1) := by decide +kernel
theorem dX1_init_70 : decode cX1_init 70 = .ok (.bipush 7, 2) := by decide +kernel
theorem dX1_init_72 : decode cX1_init 72 = .ok (.newarray .int, 2) := by decide +kernel
theorem dX1_init_74 : decode cX1_init 74 = .ok (.putfield 18, 3) := by decide +kernel
theorem dX1_init_77 : decode cX1_init 77 = .ok (.aload_n 0, 1) := by decide +kernel
theorem dX1_init_78 : decode cX1_init 78 = .ok (.iconst 3, 1) := by decide +kernel
theorem dX1_init_79 : decode cX1_init 79 = .ok (.newarray .int, 2) := by decide +kernel
theorem dX1_init_81 : decode cX1_init 81 = .ok (.putfield 21, 3) := by decide +kernel
theorem dX1_init_84 : decode cX1_init 84 = .ok (.aload_n 0, 1) := by decide +kernel
theorem dX1_init_85 : decode cX1_init 85 = .ok (.invokevirtual 24, 3) := by decide +kernel
theorem dX1_init_88 : decode cX1_init 88 = .ok (.return_, 1) := by decide +kernel
theorem dX1_takes_0 : decode cX1_takes 0 = .ok (.iload_n 1, 1) := by decide +kernel
theorem dX1_takes_1 : decode cX1_takes 1 = .ok (.iconst 0, 1) := by decide +kernel
theorem dX1_takes_2 : decode cX1_takes 2 = .ok (.bipush 8, 2) := by decide +kernel
theorem dX1_takes_4 : decode cX1_takes 4 = .ok (.invokestatic 27, 3) := by decide +kernel
theorem dX1_takes_7 : decode cX1_takes 7 = .ok (.ifCond .eq 24, 3) := by decide +kernel
theorem dX1_takes_10 : decode cX1_takes 10 = .ok (.iload_n 2, 1) := by decide +kernel
theorem dX1_takes_11 : decode cX1_takes 11 = .ok (.getstatic 31, 3) := by decide +kernel
theorem dX1_takes_14 : decode cX1_takes 14 = .ok (.iload_n 1, 1) := by decide +kernel
theorem dX1_takes_15 : decode cX1_takes 15 = .ok (.iaload, 1) := by decide +kernel
theorem dX1_takes_16 : decode cX1_takes 16 = .ok (.getstatic 34, 3) := by decide +kernel
theorem dX1_takes_19 : decode cX1_takes 19 = .ok (.iload_n 1, 1) := by decide +kernel
theorem dX1_takes_20 : decode cX1_takes 20 = .ok (.iaload, 1) := by decide +kernel
theorem dX1_takes_21 : decode cX1_takes 21 = .ok (.invokestatic 27, 3) := by decide +kernel
theorem dX1_takes_24 : decode cX1_takes 24 = .ok (.ifCond .eq 7, 3) := by decide +kernel
theorem dX1_takes_27 : decode cX1_takes 27 = .ok (.iconst 1, 1) := by decide +kernel
theorem dX1_takes_28 : decode cX1_takes 28 = .ok (.goto 4, 3) := by decide +kernel
theorem dX1_takes_31 : decode cX1_takes 31 = .ok (.iconst 0, 1) := by decide +kernel
theorem dX1_takes_32 : decode cX1_takes 32 = .ok (.ireturn, 1) := by decide +kernel
theorem dX1_put_0 : decode cX1_put 0 = .ok (.aload_n 0, 1) := by decide +kernel
theorem dX1_put_1 : decode cX1_put 1 = .ok (.iload_n 1, 1) := by decide +kernel
theorem dX1_put_2 : decode cX1_put 2 = .ok (.iload_n 2, 1) := by decide +kernel
theorem dX1_put_3 : decode cX1_put 3 = .ok (.invokevirtual 37, 3) := by decide +kernel
theorem dX1_put_6 : decode cX1_put 6 = .ok (.ifCond .ne 5, 3) := by decide +kernel
theorem dX1_put_9 : decode cX1_put 9 = .ok (.iconst (-1), 1) := by decide +kernel
theorem dX1_put_10 : decode cX1_put 10 = .ok (.ireturn, 1) := by decide +kernel
theorem dX1_put_11 : decode cX1_put 11 = .ok (.aload_n 0, 1) := by decide +kernel
theorem dX1_put_12 : decode cX1_put 12 = .ok (.getfield 11, 3) := by decide +kernel
theorem dX1_put_15 : decode cX1_put 15 = .ok (.iload_n 1, 1) := by decide +kernel
theorem dX1_put_16 : decode cX1_put 16 = .ok (.iaload, 1) := by decide +kernel
theorem dX1_put_17 : decode cX1_put 17 = .ok (.istore_n 3, 1) := by decide +kernel
theorem dX1_put_18 : decode cX1_put 18 = .ok (.aload_n 0, 1) := by decide +kernel
theorem dX1_put_19 : decode cX1_put 19 = .ok (.getfield 11, 3) := by decide +kernel
theorem dX1_put_22 : decode cX1_put 22 = .ok (.iload_n 1, 1) := by decide +kernel
theorem dX1_put_23 : decode cX1_put 23 = .ok (.iload_n 2, 1) := by decide +kernel
theorem dX1_put_24 : decode cX1_put 24 = .ok (.iastore, 1) := by decide +kernel
theorem dX1_put_25 : decode cX1_put 25 = .ok (.aload_n 0, 1) := by decide +kernel
theorem dX1_put_26 : decode cX1_put 26 = .ok (.invokevirtual 24, 3) := by decide +kernel
theorem dX1_put_29 : decode cX1_put 29 = .ok (.iload_n 3, 1) := by decide +kernel
theorem dX1_put_30 : decode cX1_put 30 = .ok (.ireturn, 1) := by decide +kernel
theorem dX1_putWind_0 : decode cX1_putWind 0 = .ok (.aload_n 0, 1) := by decide +kernel
theorem dX1_putWind_1 : decode cX1_putWind 1 = .ok (.getfield 41, 3) := by decide +kernel
theorem dX1_putWind_4 : decode cX1_putWind 4 = .ok (.istore_n 2, 1) := by decide +kernel
theorem dX1_putWind_5 : decode cX1_putWind 5 = .ok (.aload_n 0, 1) := by decide +kernel
theorem dX1_putWind_6 : decode cX1_putWind 6 = .ok (.iload_n 1, 1) := by decide +kernel
theorem dX1_putWind_7 : decode cX1_putWind 7 = .ok (.putfield 41, 3) := by decide +kernel
theorem dX1_putWind_10 : decode cX1_putWind 10 = .ok (.iload_n 2, 1) := by decide +kernel
theorem dX1_putWind_11 : decode cX1_putWind 11 = .ok (.ireturn, 1) := by decide +kernel
theorem dX1_turnBeam_0 : decode cX1_turnBeam 0 = .ok (.aload_n 0, 1) := by decide +kernel
theorem dX1_turnBeam_1 : decode cX1_turnBeam 1 = .ok (.getfield 11, 3) := by decide +kernel
theorem dX1_turnBeam_4 : decode cX1_turnBeam 4 = .ok (.iconst 2, 1) := by decide +kernel
theorem dX1_turnBeam_5 : decode cX1_turnBeam 5 = .ok (.iaload, 1) := by decide +kernel
theorem dX1_turnBeam_6 : decode cX1_turnBeam 6 = .ok (.i2l, 1) := by decide +kernel
theorem dX1_turnBeam_7 : decode cX1_turnBeam 7 = .ok (.aload_n 0, 1) := by decide +kernel
theorem dX1_turnBeam_8 : decode cX1_turnBeam 8 = .ok (.getfield 11, 3) := by decide +kernel
theorem dX1_turnBeam_11 : decode cX1_turnBeam 11 = .ok (.iconst 0, 1) := by decide +kernel
theorem dX1_turnBeam_12 : decode cX1_turnBeam 12 = .ok (.iaload, 1) := by decide +kernel
theorem dX1_turnBeam_13 : decode cX1_turnBeam 13 = .ok (.i2l, 1) := by decide +kernel
theorem dX1_turnBeam_14 : decode cX1_turnBeam 14 = .ok (.lmul, 1) := by decide +kernel
theorem dX1_turnBeam_15 : decode cX1_turnBeam 15 = .ok (.aload_n 0, 1) := by decide +kernel
theorem dX1_turnBeam_16 : decode cX1_turnBeam 16 = .ok (.getfield 11, 3) := by decide +kernel
theorem dX1_turnBeam_19 : decode cX1_turnBeam 19 = .ok (.bipush 7, 2) := by decide +kernel
theorem dX1_turnBeam_21 : decode cX1_turnBeam 21 = .ok (.iaload, 1) := by decide +kernel
theorem dX1_turnBeam_22 : decode cX1_turnBeam 22 = .ok (.i2l, 1) := by decide +kernel
theorem dX1_turnBeam_23 : decode cX1_turnBeam 23 = .ok (.aload_n 0, 1) := by decide +kernel
theorem dX1_turnBeam_24 : decode cX1_turnBeam 24 = .ok (.getfield 11, 3) := by decide +kernel
theorem dX1_turnBeam_27 : decode cX1_turnBeam 27 = .ok (.iconst 1, 1) := by decide +kernel
theorem dX1_turnBeam_28 : decode cX1_turnBeam 28 = .ok (.iaload, 1) := by decide +kernel
theorem dX1_turnBeam_29 : decode cX1_turnBeam 29 = .ok (.i2l, 1) := by decide +kernel
theorem dX1_turnBeam_30 : decode cX1_turnBeam 30 = .ok (.lmul, 1) := by decide +kernel
theorem dX1_turnBeam_31 : decode cX1_turnBeam 31 = .ok (.lsub, 1) := by decide +kernel
theorem dX1_turnBeam_32 : decode cX1_turnBeam 32 = .ok (.lstore_n 1, 1) := by decide +kernel
theorem dX1_turnBeam_33 : decode cX1_turnBeam 33 = .ok (.aload_n 0, 1) := by decide +kernel
theorem dX1_turnBeam_34 : decode cX1_turnBeam 34 = .ok (.getfield 11, 3) := by decide +kernel
theorem dX1_turnBeam_37 : decode cX1_turnBeam 37 = .ok (.iconst 5, 1) := by decide +kernel
theorem dX1_turnBeam_38 : decode cX1_turnBeam 38 = .ok (.iaload, 1) := by decide +kernel
theorem dX1_turnBeam_39 : decode cX1_turnBeam 39 = .ok (.invokestatic 45, 3) := by decide +kernel
theorem dX1_turnBeam_42 : decode cX1_turnBeam 42 = .ok (.istore_n 3, 1) := by decide +kernel
theorem dX1_turnBeam_43 : decode cX1_turnBeam 43 = .ok (.aload_n 0, 1) := by decide +kernel
theorem dX1_turnBeam_44 : decode cX1_turnBeam 44 = .ok (.sipush 161, 3) := by decide +kernel
theorem dX1_turnBeam_47 : decode cX1_turnBeam 47 = .ok (.putfield 49, 3) := by decide +kernel
theorem dX1_turnBeam_50 : decode cX1_turnBeam 50 = .ok (.sipush 160, 3) := by decide +kernel
theorem dX1_turnBeam_53 : decode cX1_turnBeam 53 = .ok (.istore 4, 2) := by decide +kernel
theorem dX1_turnBeam_55 : decode cX1_turnBeam 55 = .ok (.iload 4, 2) := by decide +kernel
theorem dX1_turnBeam_57 : decode cX1_turnBeam 57 = .ok (.iconst 1, 1) := by decide +kernel
theorem dX1_turnBeam_58 : decode cX1_turnBeam 58 = .ok (.if_icmp .lt 71, 3) := by decide +kernel
theorem dX1_turnBeam_61 : decode cX1_turnBeam 61 = .ok (.iload 4, 2) := by decide +kernel
theorem dX1_turnBeam_63 : decode cX1_turnBeam 63 = .ok (.aload_n 0, 1) := by decide +kernel
theorem dX1_turnBeam_64 : decode cX1_turnBeam 64 = .ok (.getfield 11, 3) := by decide +kernel
theorem dX1_turnBeam_67 : decode cX1_turnBeam 67 = .ok (.iconst 5, 1) := by decide +kernel
theorem dX1_turnBeam_68 : decode cX1_turnBeam 68 = .ok (.iaload, 1) := by decide +kernel
theorem dX1_turnBeam_69 : decode cX1_turnBeam 69 = .ok (.isub, 1) := by decide +kernel
theorem dX1_turnBeam_70 : decode cX1_turnBeam 70 = .ok (.invokestatic 45, 3) := by decide +kernel
theorem dX1_turnBeam_73 : decode cX1_turnBeam 73 = .ok (.iload_n 3, 1) := by decide +kernel
theorem dX1_turnBeam_74 : decode cX1_turnBeam 74 = .ok (.iadd, 1) := by decide +kernel
theorem dX1_turnBeam_75 : decode cX1_turnBeam 75 = .ok (.istore 5, 2) := by decide +kernel
theorem dX1_turnBeam_77 : decode cX1_turnBeam 77 = .ok (.aload_n 0, 1) := by decide +kernel
theorem dX1_turnBeam_78 : decode cX1_turnBeam 78 = .ok (.getfield 15, 3) := by decide +kernel
theorem dX1_turnBeam_81 : decode cX1_turnBeam 81 = .ok (.iload 4, 2) := by decide +kernel
theorem dX1_turnBeam_83 : decode cX1_turnBeam 83 = .ok (.lload_n 1, 1) := by decide +kernel
theorem dX1_turnBeam_84 : decode cX1_turnBeam 84 = .ok (.iload 5, 2) := by decide +kernel
theorem dX1_turnBeam_86 : decode cX1_turnBeam 86 = .ok (.i2l, 1) := by decide +kernel
theorem dX1_turnBeam_87 : decode cX1_turnBeam 87 = .ok (.lmul, 1) := by decide +kernel
theorem dX1_turnBeam_88 : decode cX1_turnBeam 88 = .ok (.ldc2_w 52, 3) := by decide +kernel
theorem dX1_turnBeam_91 : decode cX1_turnBeam 91 = .ok (.invokestatic 54, 3) := by decide +kernel
theorem dX1_turnBeam_94 : decode cX1_turnBeam 94 = .ok (.l2i, 1) := by decide +kernel
theorem dX1_turnBeam_95 : decode cX1_turnBeam 95 = .ok (.aload_n 0, 1) := by decide +kernel
theorem dX1_turnBeam_96 : decode cX1_turnBeam 96 = .ok (.getfield 11, 3) := by decide +kernel
theorem dX1_turnBeam_99 : decode cX1_turnBeam 99 = .ok (.bipush 6, 2) := by decide +kernel
theorem dX1_turnBeam_101 : decode cX1_turnBeam 101 = .ok (.iaload, 1) := by decide +kernel
theorem dX1_turnBeam_102 : decode cX1_turnBeam 102 = .ok (.iload 4, 2) := by decide +kernel
theorem dX1_turnBeam_104 : decode cX1_turnBeam 104 = .ok (.imul, 1) := by decide +kernel
theorem dX1_turnBeam_105 : decode cX1_turnBeam 105 = .ok (.isub, 1) := by decide +kernel
theorem dX1_turnBeam_106 : decode cX1_turnBeam 106 = .ok (.iastore, 1) := by decide +kernel
theorem dX1_turnBeam_107 : decode cX1_turnBeam 107 = .ok (.aload_n 0, 1) := by decide +kernel
theorem dX1_turnBeam_108 : decode cX1_turnBeam 108 = .ok (.getfield 15, 3) := by decide +kernel
theorem dX1_turnBeam_111 : decode cX1_turnBeam 111 = .ok (.iload 4, 2) := by decide +kernel
theorem dX1_turnBeam_113 : decode cX1_turnBeam 113 = .ok (.iaload, 1) := by decide +kernel
theorem dX1_turnBeam_114 : decode cX1_turnBeam 114 = .ok (.ifCond .gt 9, 3) := by decide +kernel
theorem dX1_turnBeam_117 : decode cX1_turnBeam 117 = .ok (.aload_n 0, 1) := by decide +kernel
theorem dX1_turnBeam_118 : decode cX1_turnBeam 118 = .ok (.iload 4, 2) := by decide +kernel
theorem dX1_turnBeam_120 : decode cX1_turnBeam 120 = .ok (.putfield 49, 3) := by decide +kernel
theorem dX1_turnBeam_123 : decode cX1_turnBeam 123 = .ok (.iinc 4 (-1), 3) := by decide +kernel
theorem dX1_turnBeam_126 : decode cX1_turnBeam 126 = .ok (.goto (-71), 3) := by decide +kernel
theorem dX1_turnBeam_129 : decode cX1_turnBeam 129 = .ok (.return_, 1) := by decide +kernel
theorem dX1_turnOfRelease_0 : decode cX1_turnOfRelease 0 = .ok (.ldc2_w 58, 3) := by decide +kernel
theorem dX1_turnOfRelease_3 : decode cX1_turnOfRelease 3 = .ok (.iload_n 2, 1) := by decide +kernel
theorem dX1_turnOfRelease_4 : decode cX1_turnOfRelease 4 = .ok (.i2l, 1) := by decide +kernel
theorem dX1_turnOfRelease_5 : decode cX1_turnOfRelease 5 = .ok (.ladd, 1) := by decide +kernel
theorem dX1_turnOfRelease_6 : decode cX1_turnOfRelease 6 = .ok (.ldc2_w 60, 3) := by decide +kernel
theorem dX1_turnOfRelease_9 : decode cX1_turnOfRelease 9 = .ok (.lmul, 1) := by decide +kernel
theorem dX1_turnOfRelease_10 : decode cX1_turnOfRelease 10 = .ok (.iload_n 1, 1) := by decide +kernel
theorem dX1_turnOfRelease_11 : decode cX1_turnOfRelease 11 = .ok (.i2l, 1) := by decide +kernel
theorem dX1_turnOfRelease_12 : decode cX1_turnOfRelease 12 = .ok (.lmul, 1) := by decide +kernel
theorem dX1_turnOfRelease_13 : decode cX1_turnOfRelease 13 = .ok (.lstore_n 3, 1) := by decide +kernel
theorem dX1_turnOfRelease_14 : decode cX1_turnOfRelease 14 = .ok (.lload_n 3, 1) := by decide +kernel
theorem dX1_turnOfRelease_15 : decode cX1_turnOfRelease 15 = .ok (.aload_n 0, 1) := by decide +kernel
theorem dX1_turnOfRelease_16 : decode cX1_turnOfRelease 16 = .ok (.getfield 11, 3) := by decide +kernel
theorem dX1_turnOfRelease_19 : decode cX1_turnOfRelease 19 = .ok (.iconst 1, 1) := by decide +kernel
theorem dX1_turnOfRelease_20 : decode cX1_turnOfRelease 20 = .ok (.iaload, 1) := by decide +kernel
theorem dX1_turnOfRelease_21 : decode cX1_turnOfRelease 21 = .ok (.i2l, 1) := by decide +kernel
theorem dX1_turnOfRelease_22 : decode cX1_turnOfRelease 22 = .ok (.ldc2_w 60, 3) := by decide +kernel
theorem dX1_turnOfRelease_25 : decode cX1_turnOfRelease 25 = .ok (.iload_n 1, 1) := by decide +kernel
theorem dX1_turnOfRelease_26 : decode cX1_turnOfRelease 26 = .ok (.i2l, 1) := by decide +kernel
theorem dX1_turnOfRelease_27 : decode cX1_turnOfRelease 27 = .ok (.lmul, 1) := by decide +kernel
theorem dX1_turnOfRelease_28 : decode cX1_turnOfRelease 28 = .ok (.ladd, 1) := by decide +kernel
theorem dX1_turnOfRelease_29 : decode cX1_turnOfRelease 29 = .ok (.invokestatic 62, 3) := by decide +kernel
theorem dX1_turnOfRelease_32 : decode cX1_turnOfRelease 32 = .ok (.lstore 5, 2) := by decide +kernel
theorem dX1_turnOfRelease_34 : decode cX1_turnOfRelease 34 = .ok (.lload 5, 2) := by decide +kernel
theorem dX1_turnOfRelease_36 : decode cX1_turnOfRelease 36 = .ok (.lconst 1, 1) := by decide +kernel
theorem dX1_turnOfRelease_37 : decode cX1_turnOfRelease 37 = .ok (.lcmp, 1) := by decide +kernel
theorem dX1_turnOfRelease_38 : decode cX1_turnOfRelease 38 = .ok (.ifCond .lt 18, 3) := by decide +kernel
theorem dX1_turnOfRelease_41 : decode cX1_turnOfRelease 41 = .ok (.lload 5, 2) := by decide +kernel
theorem dX1_turnOfRelease_43 : decode cX1_turnOfRelease 43 = .ok (.ldc2_w 65, 3) := by decide +kernel
theorem dX1_turnOfRelease_46 : decode cX1_turnOfRelease 46 = .ok (.lcmp, 1) := by decide +kernel
theorem dX1_turnOfRelease_47 : decode cX1_turnOfRelease 47 = .ok (.ifCond .gt 9, 3) := by decide +kernel
theorem dX1_turnOfRelease_50 : decode cX1_turnOfRelease 50 = .ok (.lload 5, 2) := by decide +kernel
theorem dX1_turnOfRelease_52 : decode cX1_turnOfRelease 52 = .ok (.l2i, 1) := by decide +kernel
theorem dX1_turnOfRelease_53 : decode cX1_turnOfRelease 53 = .ok (.goto 6, 3) := by decide +kernel
theorem dX1_turnOfRelease_56 : decode cX1_turnOfRelease 56 = .ok (.sipush 161, 3) := by decide +kernel
theorem dX1_turnOfRelease_59 : decode cX1_turnOfRelease 59 = .ok (.ireturn, 1) := by decide +kernel
theorem dX1_slingNow_0 : decode cX1_slingNow 0 = .ok (.aload_n 0, 1) := by decide +kernel
theorem dX1_slingNow_1 : decode cX1_slingNow 1 = .ok (.getfield 11, 3) := by decide +kernel
theorem dX1_slingNow_4 : decode cX1_slingNow 4 = .ok (.iconst 3, 1) := by decide +kernel
theorem dX1_slingNow_5 : decode cX1_slingNow 5 = .ok (.iaload, 1) := by decide +kernel
theorem dX1_slingNow_6 : decode cX1_slingNow 6 = .ok (.ireturn, 1) := by decide +kernel
theorem dX1_reckonOwn_0 : decode cX1_reckonOwn 0 = .ok (.aload_n 0, 1) := by decide +kernel
theorem dX1_reckonOwn_1 : decode cX1_reckonOwn 1 = .ok (.aload_n 0, 1) := by decide +kernel
theorem dX1_reckonOwn_2 : decode cX1_reckonOwn 2 = .ok (.getfield 11, 3) := by decide +kernel
theorem dX1_reckonOwn_5 : decode cX1_reckonOwn 5 = .ok (.iconst 3, 1) := by decide +kernel
theorem dX1_reckonOwn_6 : decode cX1_reckonOwn 6 = .ok (.iaload, 1) := by decide +kernel
theorem dX1_reckonOwn_7 : decode cX1_reckonOwn 7 = .ok (.aload_n 0, 1) := by decide +kernel
theorem dX1_reckonOwn_8 : decode cX1_reckonOwn 8 = .ok (.getfield 11, 3) := by decide +kernel
theorem dX1_reckonOwn_11 : decode cX1_reckonOwn 11 = .ok (.iconst 4, 1) := by decide +kernel
theorem dX1_reckonOwn_12 : decode cX1_reckonOwn 12 = .ok (.iaload, 1) := by decide +kernel
theorem dX1_reckonOwn_13 : decode cX1_reckonOwn 13 = .ok (.invokevirtual 67, 3) := by decide +kernel
theorem dX1_reckonOwn_16 : decode cX1_reckonOwn 16 = .ok (.ireturn, 1) := by decide +kernel
theorem dX1_reckon_0 : decode cX1_reckon 0 = .ok (.iconst 0, 1) := by decide +kernel
theorem dX1_reckon_1 : decode cX1_reckon 1 = .ok (.istore_n 3, 1) := by decide +kernel
theorem dX1_reckon_2 : decode cX1_reckon 2 = .ok (.iload_n 3, 1) := by decide +kernel
theorem dX1_reckon_3 : decode cX1_reckon 3 = .ok (.aload_n 0, 1) := by decide +kernel
theorem dX1_reckon_4 : decode cX1_reckon 4 = .ok (.getfield 18, 3) := by decide +kernel
theorem dX1_reckon_7 : decode cX1_reckon 7 = .ok (.arraylength, 1) := by decide +kernel
theorem dX1_reckon_8 : decode cX1_reckon 8 = .ok (.if_icmp .ge 17, 3) := by decide +kernel
theorem dX1_reckon_11 : decode cX1_reckon 11 = .ok (.aload_n 0, 1) := by decide +kernel
theorem dX1_reckon_12 : decode cX1_reckon 12 = .ok (.getfield 18, 3) := by decide +kernel
theorem dX1_reckon_15 : decode cX1_reckon 15 = .ok (.iload_n 3, 1) := by decide +kernel
theorem dX1_reckon_16 : decode cX1_reckon 16 = .ok (.bipush (-9), 2) := by decide +kernel
theorem dX1_reckon_18 : decode cX1_reckon 18 = .ok (.iastore, 1) := by decide +kernel
theorem dX1_reckon_19 : decode cX1_reckon 19 = .ok (.iinc 3 1, 3) := by decide +kernel
theorem dX1_reckon_22 : decode cX1_reckon 22 = .ok (.goto (-20), 3) := by decide +kernel
theorem dX1_reckon_25 : decode cX1_reckon 25 = .ok (.aload_n 0, 1) := by decide +kernel
theorem dX1_reckon_26 : decode cX1_reckon 26 = .ok (.iload_n 1, 1) := by decide +kernel
theorem dX1_reckon_27 : decode cX1_reckon 27 = .ok (.iload_n 2, 1) := by decide +kernel
theorem dX1_reckon_28 : decode cX1_reckon 28 = .ok (.invokevirtual 71, 3) := by decide +kernel
theorem dX1_reckon_31 : decode cX1_reckon 31 = .ok (.istore_n 3, 1) := by decide +kernel
theorem dX1_reckon_32 : decode cX1_reckon 32 = .ok (.aload_n 0, 1) := by decide +kernel
theorem dX1_reckon_33 : decode cX1_reckon 33 = .ok (.getfield 49, 3) := by decide +kernel
theorem dX1_reckon_36 : decode cX1_reckon 36 = .ok (.sipush 161, 3) := by decide +kernel
theorem dX1_reckon_39 : decode cX1_reckon 39 = .ok (.if_icmp .ge 24, 3) := by decide +kernel
theorem dX1_reckon_42 : decode cX1_reckon 42 = .ok (.aload_n 0, 1) := by decide +kernel
theorem dX1_reckon_43 : decode cX1_reckon 43 = .ok (.getfield 49, 3) := by decide +kernel
theorem dX1_reckon_46 : decode cX1_reckon 46 = .ok (.iload_n 3, 1) := by decide +kernel
theorem dX1_reckon_47 : decode cX1_reckon 47 = .ok (.if_icmp .gt 16, 3) := by decide +kernel
theorem dX1_reckon_50 : decode cX1_reckon 50 = .ok (.aload_n 0, 1) := by decide +kernel
theorem dX1_reckon_51 : decode cX1_reckon 51 = .ok (.getfield 18, 3) := by decide +kernel
theorem dX1_reckon_54 : decode cX1_reckon 54 = .ok (.iconst 1, 1) := by decide +kernel
theorem dX1_reckon_55 : decode cX1_reckon 55 = .ok (.aload_n 0, 1) := by decide +kernel
theorem dX1_reckon_56 : decode cX1_reckon 56 = .ok (.getfield 49, 3) := by decide +kernel
theorem dX1_reckon_59 : decode cX1_reckon 59 = .ok (.iastore, 1) := by decide +kernel
theorem dX1_reckon_60 : decode cX1_reckon 60 = .ok (.goto 17, 3) := by decide +kernel
theorem dX1_reckon_63 : decode cX1_reckon 63 = .ok (.iload_n 3, 1) := by decide +kernel
theorem dX1_reckon_64 : decode cX1_reckon 64 = .ok (.sipush 161, 3) := by decide +kernel
theorem dX1_reckon_67 : decode cX1_reckon 67 = .ok (.if_icmp .ge 10, 3) := by decide +kernel
theorem dX1_reckon_70 : decode cX1_reckon 70 = .ok (.aload_n 0, 1) := by decide +kernel
theorem dX1_reckon_71 : decode cX1_reckon 71 = .ok (.iload_n 3, 1) := by decide +kernel
theorem dX1_reckon_72 : decode cX1_reckon 72 = .ok (.iload_n 1, 1) := by decide +kernel
theorem dX1_reckon_73 : decode cX1_reckon 73 = .ok (.iload_n 2, 1) := by decide +kernel
theorem dX1_reckon_74 : decode cX1_reckon 74 = .ok (.invokevirtual 74, 3) := by decide +kernel
theorem dX1_reckon_77 : decode cX1_reckon 77 = .ok (.aload_n 0, 1) := by decide +kernel
theorem dX1_reckon_78 : decode cX1_reckon 78 = .ok (.getfield 18, 3) := by decide +kernel
theorem dX1_reckon_81 : decode cX1_reckon 81 = .ok (.bipush 6, 2) := by decide +kernel
theorem dX1_reckon_83 : decode cX1_reckon 83 = .ok (.iaload, 1) := by decide +kernel
theorem dX1_reckon_84 : decode cX1_reckon 84 = .ok (.ireturn, 1) := by decide +kernel
theorem dX1_reckonRelease_0 : decode cX1_reckonRelease 0 = .ok (.sipush 180, 3) := by decide +kernel
theorem dX1_reckonRelease_3 : decode cX1_reckonRelease 3 = .ok (.iload_n 1, 1) := by decide +kernel
theorem dX1_reckonRelease_4 : decode cX1_reckonRelease 4 = .ok (.aload_n 0, 1) := by decide +kernel
theorem dX1_reckonRelease_5 : decode cX1_reckonRelease 5 = .ok (.getfield 11, 3) := by decide +kernel
theorem dX1_reckonRelease_8 : decode cX1_reckonRelease 8 = .ok (.iconst 5, 1) := by decide +kernel
theorem dX1_reckonRelease_9 : decode cX1_reckonRelease 9 = .ok (.iaload, 1) := by decide +kernel
theorem dX1_reckonRelease_10 : decode cX1_reckonRelease 10 = .ok (.isub, 1) := by decide +kernel
theorem dX1_reckonRelease_11 : decode cX1_reckonRelease 11 = .ok (.isub, 1) := by decide +kernel
theorem dX1_reckonRelease_12 : decode cX1_reckonRelease 12 = .ok (.iload_n 3, 1) := by decide +kernel
theorem dX1_reckonRelease_13 : decode cX1_reckonRelease 13 = .ok (.isub, 1) := by decide +kernel
theorem dX1_reckonRelease_14 : decode cX1_reckonRelease 14 = .ok (.istore 4, 2) := by decide +kernel
theorem dX1_reckonRelease_16 : decode cX1_reckonRelease 16 = .ok (.aload_n 0, 1) := by decide +kernel
theorem dX1_reckonRelease_17 : decode cX1_reckonRelease 17 = .ok (.getfield 18, 3) := by decide +kernel
theorem dX1_reckonRelease_20 : decode cX1_reckonRelease 20 = .ok (.iconst 0, 1) := by decide +kernel
theorem dX1_reckonRelease_21 : decode cX1_reckonRelease 21 = .ok (.iload_n 1, 1) := by decide +kernel
theorem dX1_reckonRelease_22 : decode cX1_reckonRelease 22 = .ok (.iastore, 1) := by decide +kernel
theorem dX1_reckonRelease_23 : decode cX1_reckonRelease 23 = .ok (.aload_n 0, 1) := by decide +kernel
theorem dX1_reckonRelease_24 : decode cX1_reckonRelease 24 = .ok (.getfield 18, 3) := by decide +kernel
theorem dX1_reckonRelease_27 : decode cX1_reckonRelease 27 = .ok (.iconst 2, 1) := by decide +kernel
theorem dX1_reckonRelease_28 : decode cX1_reckonRelease 28 = .ok (.aload_n 0, 1) := by decide +kernel
theorem dX1_reckonRelease_29 : decode cX1_reckonRelease 29 = .ok (.getfield 15, 3) := by decide +kernel
theorem dX1_reckonRelease_32 : decode cX1_reckonRelease 32 = .ok (.iload_n 1, 1) := by decide +kernel
theorem dX1_reckonRelease_33 : decode cX1_reckonRelease 33 = .ok (.iaload, 1) := by decide +kernel
theorem dX1_reckonRelease_34 : decode cX1_reckonRelease 34 = .ok (.iastore, 1) := by decide +kernel
theorem dX1_reckonRelease_35 : decode cX1_reckonRelease 35 = .ok (.aload_n 0, 1) := by decide +kernel
theorem dX1_reckonRelease_36 : decode cX1_reckonRelease 36 = .ok (.getfield 18, 3) := by decide +kernel
theorem dX1_reckonRelease_39 : decode cX1_reckonRelease 39 = .ok (.iconst 3, 1) := by decide +kernel
theorem dX1_reckonRelease_40 : decode cX1_reckonRelease 40 = .ok (.iload 4, 2) := by decide +kernel
theorem dX1_reckonRelease_42 : decode cX1_reckonRelease 42 = .ok (.iastore, 1) := by decide +kernel
theorem dX1_reckonRelease_43 : decode cX1_reckonRelease 43 = .ok (.iload 4, 2) := by decide +kernel
theorem dX1_reckonRelease_45 : decode cX1_reckonRelease 45 = .ok (.iconst 1, 1) := by decide +kernel
theorem dX1_reckonRelease_46 : decode cX1_reckonRelease 46 = .ok (.bipush 89, 2) := by decide +kernel
theorem dX1_reckonRelease_48 : decode cX1_reckonRelease 48 = .ok (.invokestatic 27, 3) := by decide +kernel
theorem dX1_reckonRelease_51 : decode cX1_reckonRelease 51 = .ok (.ifCond .ne 4, 3) := by decide +kernel
theorem dX1_reckonRelease_54 : decode cX1_reckonRelease 54 = .ok (.return_, 1) := by decide +kernel
theorem dX1_reckonRelease_55 : decode cX1_reckonRelease 55 = .ok (.aload_n 0, 1) := by decide +kernel
theorem dX1_reckonRelease_56 : decode cX1_reckonRelease 56 = .ok (.aload_n 0, 1) := by decide +kernel
theorem dX1_reckonRelease_57 : decode cX1_reckonRelease 57 = .ok (.getfield 15, 3) := by decide +kernel
theorem dX1_reckonRelease_60 : decode cX1_reckonRelease 60 = .ok (.iload_n 1, 1) := by decide +kernel
theorem dX1_reckonRelease_61 : decode cX1_reckonRelease 61 = .ok (.iaload, 1) := by decide +kernel
theorem dX1_reckonRelease_62 : decode cX1_reckonRelease 62 = .ok (.iload_n 2, 1) := by decide +kernel
theorem dX1_reckonRelease_63 : decode cX1_reckonRelease 63 = .ok (.invokevirtual 78, 3) := by decide +kernel
theorem dX1_reckonRelease_66 : decode cX1_reckonRelease 66 = .ok (.lstore 5, 2) := by decide +kernel
theorem dX1_reckonRelease_68 : decode cX1_reckonRelease 68 = .ok (.lload 5, 2) := by decide +kernel
theorem dX1_reckonRelease_70 : decode cX1_reckonRelease 70 = .ok (.iconst 2, 1) := by decide +kernel
theorem dX1_reckonRelease_71 : decode cX1_reckonRelease 71 = .ok (.iload 4, 2) := by decide +kernel
theorem dX1_reckonRelease_73 : decode cX1_reckonRelease 73 = .ok (.imul, 1) := by decide +kernel
theorem dX1_reckonRelease_74 : decode cX1_reckonRelease 74 = .ok (.invokestatic 45, 3) := by decide +kernel
theorem dX1_reckonRelease_77 : decode cX1_reckonRelease 77 = .ok (.i2l, 1) := by decide +kernel
theorem dX1_reckonRelease_78 : decode cX1_reckonRelease 78 = .ok (.lmul, 1) := by decide +kernel
theorem dX1_reckonRelease_79 : decode cX1_reckonRelease 79 = .ok (.ldc2_w 82, 3) := by decide +kernel
theorem dX1_reckonRelease_82 : decode cX1_reckonRelease 82 = .ok (.invokestatic 54, 3) := by decide +kernel
theorem dX1_reckonRelease_85 : decode cX1_reckonRelease 85 = .ok (.lstore 7, 2) := by decide +kernel
theorem dX1_reckonRelease_87 : decode cX1_reckonRelease 87 = .ok (.aload_n 0, 1) := by decide +kernel
theorem dX1_reckonRelease_88 : decode cX1_reckonRelease 88 = .ok (.getfield 18, 3) := by decide +kernel
theorem dX1_reckonRelease_91 : decode cX1_reckonRelease 91 = .ok (.iconst 4, 1) := by decide +kernel
theorem dX1_reckonRelease_92 : decode cX1_reckonRelease 92 = .ok (.lload 5, 2) := by decide +kernel
theorem dX1_reckonRelease_94 : decode cX1_reckonRelease 94 = .ok (.l2i, 1) := by decide +kernel
theorem dX1_reckonRelease_95 : decode cX1_reckonRelease 95 = .ok (.iastore, 1) := by decide +kernel
theorem dX1_reckonRelease_96 : decode cX1_reckonRelease 96 = .ok (.aload_n 0, 1) := by decide +kernel
theorem dX1_reckonRelease_97 : decode cX1_reckonRelease 97 = .ok (.getfield 18, 3) := by decide +kernel
theorem dX1_reckonRelease_100 : decode cX1_reckonRelease 100 = .ok (.iconst 5, 1) := by decide +kernel
theorem dX1_reckonRelease_101 : decode cX1_reckonRelease 101 = .ok (.lload 7, 2) := by decide +kernel
theorem dX1_reckonRelease_103 : decode cX1_reckonRelease 103 = .ok (.l2i, 1) := by decide +kernel
theorem dX1_reckonRelease_104 : decode cX1_reckonRelease 104 = .ok (.iastore, 1) := by decide +kernel
theorem dX1_reckonRelease_105 : decode cX1_reckonRelease 105 = .ok (.aload_n 0, 1) := by decide +kernel
theorem dX1_reckonRelease_106 : decode cX1_reckonRelease 106 = .ok (.aload_n 0, 1) := by decide +kernel
theorem dX1_reckonRelease_107 : decode cX1_reckonRelease 107 = .ok (.getfield 11, 3) := by decide +kernel
theorem dX1_reckonRelease_110 : decode cX1_reckonRelease 110 = .ok (.bipush 8, 2) := by decide +kernel
theorem dX1_reckonRelease_112 : decode cX1_reckonRelease 112 = .ok (.iaload, 1) := by decide +kernel
theorem dX1_reckonRelease_113 : decode cX1_reckonRelease 113 = .ok (.lload 7, 2) := by decide +kernel
theorem dX1_reckonRelease_115 : decode cX1_reckonRelease 115 = .ok (.l2i, 1) := by decide +kernel
theorem dX1_reckonRelease_116 : decode cX1_reckonRelease 116 = .ok (.invokevirtual 84, 3) := by decide +kernel
theorem dX1_reckonRelease_119 : decode cX1_reckonRelease 119 = .ok (.istore 9, 2) := by decide +kernel
theorem dX1_reckonRelease_121 : decode cX1_reckonRelease 121 = .ok (.aload_n 0, 1) := by decide +kernel
theorem dX1_reckonRelease_122 : decode cX1_reckonRelease 122 = .ok (.getfield 18, 3) := by decide +kernel
theorem dX1_reckonRelease_125 : decode cX1_reckonRelease 125 = .ok (.bipush 6, 2) := by decide +kernel
theorem dX1_reckonRelease_127 : decode cX1_reckonRelease 127 = .ok (.iconst 0, 1) := by decide +kernel
theorem dX1_reckonRelease_128 : decode cX1_reckonRelease 128 = .ok (.iload 9, 2) := by decide +kernel
theorem dX1_reckonRelease_130 : decode cX1_reckonRelease 130 = .ok (.aload_n 0, 1) := by decide +kernel
theorem dX1_reckonRelease_131 : decode cX1_reckonRelease 131 = .ok (.getfield 41, 3) := by decide +kernel
theorem dX1_reckonRelease_134 : decode cX1_reckonRelease 134 = .ok (.iload 9, 2) := by decide +kernel
theorem dX1_reckonRelease_136 : decode cX1_reckonRelease 136 = .ok (.imul, 1) := by decide +kernel
theorem dX1_reckonRelease_137 : decode cX1_reckonRelease 137 = .ok (.bipush 100, 2) := by decide +kernel
theorem dX1_reckonRelease_139 : decode cX1_reckonRelease 139 = .ok (.idiv, 1) := by decide +kernel
theorem dX1_reckonRelease_140 : decode cX1_reckonRelease 140 = .ok (.iadd, 1) := by decide +kernel
theorem dX1_reckonRelease_141 : decode cX1_reckonRelease 141 = .ok (.invokestatic 87, 3) := by decide +kernel
theorem dX1_reckonRelease_144 : decode cX1_reckonRelease 144 = .ok (.iastore, 1) := by decide +kernel
theorem dX1_reckonRelease_145 : decode cX1_reckonRelease 145 = .ok (.return_, 1) := by decide +kernel
theorem dX1_speedFor_0 : decode cX1_speedFor 0 = .ok (.aload_n 0, 1) := by decide +kernel
theorem dX1_speedFor_1 : decode cX1_speedFor 1 = .ok (.getfield 11, 3) := by decide +kernel
theorem dX1_speedFor_4 : decode cX1_speedFor 4 = .ok (.iconst 1, 1) := by decide +kernel
theorem dX1_speedFor_5 : decode cX1_speedFor 5 = .ok (.iaload, 1) := by decide +kernel
theorem dX1_speedFor_6 : decode cX1_speedFor 6 = .ok (.iload_n 2, 1) := by decide +kernel
theorem dX1_speedFor_7 : decode cX1_speedFor 7 = .ok (.iadd, 1) := by decide +kernel
theorem dX1_speedFor_8 : decode cX1_speedFor 8 = .ok (.i2l, 1) := by decide +kernel
theorem dX1_speedFor_9 : decode cX1_speedFor 9 = .ok (.lstore_n 3, 1) := by decide +kernel
theorem dX1_speedFor_10 : decode cX1_speedFor 10 = .ok (.lload_n 3, 1) := by decide +kernel
theorem dX1_speedFor_11 : decode cX1_speedFor 11 = .ok (.lload_n 3, 1) := by decide +kernel
theorem dX1_speedFor_12 : decode cX1_speedFor 12 = .ok (.lmul, 1) := by decide +kernel
theorem dX1_speedFor_13 : decode cX1_speedFor 13 = .ok (.lstore 5, 2) := by decide +kernel
theorem dX1_speedFor_15 : decode cX1_speedFor 15 = .ok (.aload_n 0, 1) := by decide +kernel
theorem dX1_speedFor_16 : decode cX1_speedFor 16 = .ok (.getfield 11, 3) := by decide +kernel
theorem dX1_speedFor_19 : decode cX1_speedFor 19 = .ok (.iconst 2, 1) := by decide +kernel
theorem dX1_speedFor_20 : decode cX1_speedFor 20 = .ok (.iaload, 1) := by decide +kernel
theorem dX1_speedFor_21 : decode cX1_speedFor 21 = .ok (.i2l, 1) := by decide +kernel
theorem dX1_speedFor_22 : decode cX1_speedFor 22 = .ok (.aload_n 0, 1) := by decide +kernel
theorem dX1_speedFor_23 : decode cX1_speedFor 23 = .ok (.getfield 11, 3) := by decide +kernel
theorem dX1_speedFor_26 : decode cX1_speedFor 26 = .ok (.iconst 0, 1) := by decide +kernel
theorem dX1_speedFor_27 : decode cX1_speedFor 27 = .ok (.iaload, 1) := by decide +kernel
theorem dX1_speedFor_28 : decode cX1_speedFor 28 = .ok (.i2l, 1) := by decide +kernel
theorem dX1_speedFor_29 : decode cX1_speedFor 29 = .ok (.lmul, 1) := by decide +kernel
theorem dX1_speedFor_30 : decode cX1_speedFor 30 = .ok (.aload_n 0, 1) := by decide +kernel
theorem dX1_speedFor_31 : decode cX1_speedFor 31 = .ok (.getfield 11, 3) := by decide +kernel
theorem dX1_speedFor_34 : decode cX1_speedFor 34 = .ok (.iconst 0, 1) := by decide +kernel
theorem dX1_speedFor_35 : decode cX1_speedFor 35 = .ok (.iaload, 1) := by decide +kernel
theorem dX1_speedFor_36 : decode cX1_speedFor 36 = .ok (.i2l, 1) := by decide +kernel
theorem dX1_speedFor_37 : decode cX1_speedFor 37 = .ok (.lmul, 1) := by decide +kernel
theorem dX1_speedFor_38 : decode cX1_speedFor 38 = .ok (.aload_n 0, 1) := by decide +kernel
theorem dX1_speedFor_39 : decode cX1_speedFor 39 = .ok (.getfield 11, 3) := by decide +kernel
theorem dX1_speedFor_42 : decode cX1_speedFor 42 = .ok (.bipush 7, 2) := by decide +kernel
theorem dX1_speedFor_44 : decode cX1_speedFor 44 = .ok (.iaload, 1) := by decide +kernel
theorem dX1_speedFor_45 : decode cX1_speedFor 45 = .ok (.i2l, 1) := by decide +kernel
theorem dX1_speedFor_46 : decode cX1_speedFor 46 = .ok (.lload 5, 2) := by decide +kernel
theorem dX1_speedFor_48 : decode cX1_speedFor 48 = .ok (.lmul, 1) := by decide +kernel
theorem dX1_speedFor_49 : decode cX1_speedFor 49 = .ok (.ladd, 1) := by decide +kernel
theorem dX1_speedFor_50 : decode cX1_speedFor 50 = .ok (.lstore 7, 2) := by decide +kernel
theorem dX1_speedFor_52 : decode cX1_speedFor 52 = .ok (.ldc2_w 60, 3) := by decide +kernel
theorem dX1_speedFor_55 : decode cX1_speedFor 55 = .ok (.iload_n 1, 1) := by decide +kernel
theorem dX1_speedFor_56 : decode cX1_speedFor 56 = .ok (.i2l, 1) := by decide +kernel
theorem dX1_speedFor_57 : decode cX1_speedFor 57 = .ok (.lmul, 1) := by decide +kernel
theorem dX1_speedFor_58 : decode cX1_speedFor 58 = .ok (.lload 5, 2) := by decide +kernel
theorem dX1_speedFor_60 : decode cX1_speedFor 60 = .ok (.lmul, 1) := by decide +kernel
theorem dX1_speedFor_61 : decode cX1_speedFor 61 = .ok (.lload 7, 2) := by decide +kernel
theorem dX1_speedFor_63 : decode cX1_speedFor 63 = .ok (.invokestatic 54, 3) := by decide +kernel
theorem dX1_speedFor_66 : decode cX1_speedFor 66 = .ok (.lreturn, 1) := by decide +kernel
theorem dX1_flightOf_0 : decode cX1_flightOf 0 = .ok (.lconst 0, 1) := by decide +kernel
theorem dX1_flightOf_1 : decode cX1_flightOf 1 = .ok (.iload_n 2, 1) := by decide +kernel
theorem dX1_flightOf_2 : decode cX1_flightOf 2 = .ok (.i2l, 1) := by decide +kernel
theorem dX1_flightOf_3 : decode cX1_flightOf 3 = .ok (.iload_n 2, 1) := by decide +kernel
theorem dX1_flightOf_4 : decode cX1_flightOf 4 = .ok (.i2l, 1) := by decide +kernel
theorem dX1_flightOf_5 : decode cX1_flightOf 5 = .ok (.iload_n 2, 1) := by decide +kernel
theorem dX1_flightOf_6 : decode cX1_flightOf 6 = .ok (.i2l, 1) := by decide +kernel
theorem dX1_flightOf_7 : decode cX1_flightOf 7 = .ok (.lmul, 1) := by decide +kernel
theorem dX1_flightOf_8 : decode cX1_flightOf 8 = .ok (.ldc2_w 92, 3) := by decide +kernel
theorem dX1_flightOf_11 : decode cX1_flightOf 11 = .ok (.aload_n 0, 1) := by decide +kernel
theorem dX1_flightOf_12 : decode cX1_flightOf 12 = .ok (.getfield 11, 3) := by decide +kernel
theorem dX1_flightOf_15 : decode cX1_flightOf 15 = .ok (.bipush 7, 2) := by decide +kernel
theorem dX1_flightOf_17 : decode cX1_flightOf 17 = .ok (.iaload, 1) := by decide +kernel
theorem dX1_flightOf_18 : decode cX1_flightOf 18 = .ok (.i2l, 1) := by decide +kernel
theorem dX1_flightOf_19 : decode cX1_flightOf 19 = .ok (.lmul, 1) := by decide +kernel
theorem dX1_flightOf_20 : decode cX1_flightOf 20 = .ok (.ldc2_w 94, 3) := by decide +kernel
theorem dX1_flightOf_23 : decode cX1_flightOf 23 = .ok (.ladd, 1) := by decide +kernel
theorem dX1_flightOf_24 : decode cX1_flightOf 24 = .ok (.invokestatic 54, 3) := by decide +kernel
theorem dX1_flightOf_27 : decode cX1_flightOf 27 = .ok (.lsub, 1) := by decide +kernel
theorem dX1_flightOf_28 : decode cX1_flightOf 28 = .ok (.invokestatic 96, 3) := by decide +kernel
theorem dX1_flightOf_31 : decode cX1_flightOf 31 = .ok (.lstore_n 3, 1) := by decide +kernel
theorem dX1_flightOf_32 : decode cX1_flightOf 32 = .ok (.iload_n 1, 1) := by decide +kernel
theorem dX1_flightOf_33 : decode cX1_flightOf 33 = .ok (.iconst 1, 1) := by decide +kernel
theorem dX1_flightOf_34 : decode cX1_flightOf 34 = .ok (.if_icmp .lt 13, 3) := by decide +kernel
theorem dX1_flightOf_37 : decode cX1_flightOf 37 = .ok (.lload_n 3, 1) := by decide +kernel
theorem dX1_flightOf_38 : decode cX1_flightOf 38 = .ok (.lload_n 3, 1) := by decide +kernel
theorem dX1_flightOf_39 : decode cX1_flightOf 39 = .ok (.ldc2_w 98, 3) := by decide +kernel
theorem dX1_flightOf_42 : decode cX1_flightOf 42 = .ok (.invokestatic 62, 3) := by decide +kernel
theorem dX1_flightOf_45 : decode cX1_flightOf 45 = .ok (.lsub, 1) := by decide +kernel
theorem dX1_flightOf_46 : decode cX1_flightOf 46 = .ok (.lstore_n 3, 1) := by decide +kernel
theorem dX1_flightOf_47 : decode cX1_flightOf 47 = .ok (.iload_n 1, 1) := by decide +kernel
theorem dX1_flightOf_48 : decode cX1_flightOf 48 = .ok (.iconst 2, 1) := by decide +kernel
theorem dX1_flightOf_49 : decode cX1_flightOf 49 = .ok (.if_icmp .lt 25, 3) := by decide +kernel
theorem dX1_flightOf_52 : decode cX1_flightOf 52 = .ok (.lconst 0, 1) := by decide +kernel
theorem dX1_flightOf_53 : decode cX1_flightOf 53 = .ok (.lload_n 3, 1) := by decide +kernel
theorem dX1_flightOf_54 : decode cX1_flightOf 54 = .ok (.ldc2_w 60, 3) := by decide +kernel
theorem dX1_flightOf_57 : decode cX1_flightOf 57 = .ok (.lload_n 3, 1) := by decide +kernel
theorem dX1_flightOf_58 : decode cX1_flightOf 58 = .ok (.ldc2_w 100, 3) := by decide +kernel
theorem dX1_flightOf_61 : decode cX1_flightOf 61 = .ok (.invokestatic 54, 3) := by decide +kernel
theorem dX1_flightOf_64 : decode cX1_flightOf 64 = .ok (.lmul, 1) := by decide +kernel
theorem dX1_flightOf_65 : decode cX1_flightOf 65 = .ok (.lsub, 1) := by decide +kernel
theorem dX1_flightOf_66 : decode cX1_flightOf 66 = .ok (.ldc2_w 102, 3) := by decide +kernel
theorem dX1_flightOf_69 : decode cX1_flightOf 69 = .ok (.lsub, 1) := by decide +kernel
theorem dX1_flightOf_70 : decode cX1_flightOf 70 = .ok (.invokestatic 96, 3) := by decide +kernel
theorem dX1_flightOf_73 : decode cX1_flightOf 73 = .ok (.lstore_n 3, 1) := by decide +kernel
theorem dX1_flightOf_74 : decode cX1_flightOf 74 = .ok (.lload_n 3, 1) := by decide +kernel
theorem dX1_flightOf_75 : decode cX1_flightOf 75 = .ok (.l2i, 1) := by decide +kernel
theorem dX1_flightOf_76 : decode cX1_flightOf 76 = .ok (.ireturn, 1) := by decide +kernel
theorem dX1_bodiesAsked_0 : decode cX1_bodiesAsked 0 = .ok (.iload_n 0, 1) := by decide +kernel
theorem dX1_bodiesAsked_1 : decode cX1_bodiesAsked 1 = .ok (.lookupswitch 32 #[(0, 27), (1, 29)], 27) := by decide +kernel
theorem dX1_bodiesAsked_28 : decode cX1_bodiesAsked 28 = .ok (.iconst 1, 1) := by decide +kernel
theorem dX1_bodiesAsked_29 : decode cX1_bodiesAsked 29 = .ok (.ireturn, 1) := by decide +kernel
theorem dX1_bodiesAsked_30 : decode cX1_bodiesAsked 30 = .ok (.bipush 11, 2) := by decide +kernel
theorem dX1_bodiesAsked_32 : decode cX1_bodiesAsked 32 = .ok (.ireturn, 1) := by decide +kernel
theorem dX1_bodiesAsked_33 : decode cX1_bodiesAsked 33 = .ok (.bipush 111, 2) := by decide +kernel
theorem dX1_bodiesAsked_35 : decode cX1_bodiesAsked 35 = .ok (.ireturn, 1) := by decide +kernel
theorem dX1_reckoned_0 : decode cX1_reckoned 0 = .ok (.iload_n 1, 1) := by decide +kernel
theorem dX1_reckoned_1 : decode cX1_reckoned 1 = .ok (.iconst 0, 1) := by decide +kernel
theorem dX1_reckoned_2 : decode cX1_reckoned 2 = .ok (.bipush 6, 2) := by decide +kernel
theorem dX1_reckoned_4 : decode cX1_reckoned 4 = .ok (.invokestatic 27, 3) := by decide +kernel
theorem dX1_reckoned_7 : decode cX1_reckoned 7 = .ok (.ifCond .eq 12, 3) := by decide +kernel
theorem dX1_reckoned_10 : decode cX1_reckoned 10 = .ok (.aload_n 0, 1) := by decide +kernel
theorem dX1_reckoned_11 : decode cX1_reckoned 11 = .ok (.getfield 18, 3) := by decide +kernel
theorem dX1_reckoned_14 : decode cX1_reckoned 14 = .ok (.iload_n 1, 1) := by decide +kernel
theorem dX1_reckoned_15 : decode cX1_reckoned 15 = .ok (.iaload, 1) := by decide +kernel
theorem dX1_reckoned_16 : decode cX1_reckoned 16 = .ok (.goto 4, 3) := by decide +kernel
theorem dX1_reckoned_19 : decode cX1_reckoned 19 = .ok (.iconst (-1), 1) := by decide +kernel
theorem dX1_reckoned_20 : decode cX1_reckoned 20 = .ok (.ireturn, 1) := by decide +kernel
theorem dX1_tuneTo_0 : decode cX1_tuneTo 0 = .ok (.aload_n 0, 1) := by decide +kernel
theorem dX1_tuneTo_1 : decode cX1_tuneTo 1 = .ok (.bipush (-9), 2) := by decide +kernel
theorem dX1_tuneTo_3 : decode cX1_tuneTo 3 = .ok (.bipush (-9), 2) := by decide +kernel
theorem dX1_tuneTo_5 : decode cX1_tuneTo 5 = .ok (.bipush (-9), 2) := by decide +kernel
theorem dX1_tuneTo_7 : decode cX1_tuneTo 7 = .ok (.invokevirtual 104, 3) := by decide +kernel
theorem dX1_tuneTo_10 : decode cX1_tuneTo 10 = .ok (.ldc 107, 2) := by decide +kernel
theorem dX1_tuneTo_12 : decode cX1_tuneTo 12 = .ok (.istore 4, 2) := by decide +kernel
theorem dX1_tuneTo_14 : decode cX1_tuneTo 14 = .ok (.iload_n 1, 1) := by decide +kernel
theorem dX1_tuneTo_15 : decode cX1_tuneTo 15 = .ok (.istore 5, 2) := by decide +kernel
theorem dX1_tuneTo_17 : decode cX1_tuneTo 17 = .ok (.iload 5, 2) := by decide +kernel
theorem dX1_tuneTo_19 : decode cX1_tuneTo 19 = .ok (.iload_n 2, 1) := by decide +kernel
theorem dX1_tuneTo_20 : decode cX1_tuneTo 20 = .ok (.if_icmp .gt 72, 3) := by decide +kernel
theorem dX1_tuneTo_23 : decode cX1_tuneTo 23 = .ok (.iconst 0, 1) := by decide +kernel
theorem dX1_tuneTo_24 : decode cX1_tuneTo 24 = .ok (.istore 6, 2) := by decide +kernel
theorem dX1_tuneTo_26 : decode cX1_tuneTo 26 = .ok (.iload 6, 2) := by decide +kernel
theorem dX1_tuneTo_28 : decode cX1_tuneTo 28 = .ok (.bipush 60, 2) := by decide +kernel
theorem dX1_tuneTo_30 : decode cX1_tuneTo 30 = .ok (.if_icmp .gt 56, 3) := by decide +kernel
theorem dX1_tuneTo_33 : decode cX1_tuneTo 33 = .ok (.aload_n 0, 1) := by decide +kernel
theorem dX1_tuneTo_34 : decode cX1_tuneTo 34 = .ok (.iload 5, 2) := by decide +kernel
theorem dX1_tuneTo_36 : decode cX1_tuneTo 36 = .ok (.iload 6, 2) := by decide +kernel
theorem dX1_tuneTo_38 : decode cX1_tuneTo 38 = .ok (.invokevirtual 67, 3) := by decide +kernel
theorem dX1_tuneTo_41 : decode cX1_tuneTo 41 = .ok (.istore 7, 2) := by decide +kernel
theorem dX1_tuneTo_43 : decode cX1_tuneTo 43 = .ok (.iload 7, 2) := by decide +kernel
theorem dX1_tuneTo_45 : decode cX1_tuneTo 45 = .ok (.iload_n 3, 1) := by decide +kernel
theorem dX1_tuneTo_46 : decode cX1_tuneTo 46 = .ok (.isub, 1) := by decide +kernel
theorem dX1_tuneTo_47 : decode cX1_tuneTo 47 = .ok (.invokestatic 108, 3) := by decide +kernel
theorem dX1_tuneTo_50 : decode cX1_tuneTo 50 = .ok (.istore 8, 2) := by decide +kernel
theorem dX1_tuneTo_52 : decode cX1_tuneTo 52 = .ok (.iload 7, 2) := by decide +kernel
theorem dX1_tuneTo_54 : decode cX1_tuneTo 54 = .ok (.bipush (-9), 2) := by decide +kernel
theorem dX1_tuneTo_56 : decode cX1_tuneTo 56 = .ok (.if_icmp .eq 24, 3) := by decide +kernel
theorem dX1_tuneTo_59 : decode cX1_tuneTo 59 = .ok (.iload 8, 2) := by decide +kernel
theorem dX1_tuneTo_61 : decode cX1_tuneTo 61 = .ok (.iload 4, 2) := by decide +kernel
theorem dX1_tuneTo_63 : decode cX1_tuneTo 63 = .ok (.if_icmp .ge 17, 3) := by decide +kernel
theorem dX1_tuneTo_66 : decode cX1_tuneTo 66 = .ok (.iload 8, 2) := by decide +kernel
theorem dX1_tuneTo_68 : decode cX1_tuneTo 68 = .ok (.istore 4, 2) := by decide +kernel
theorem dX1_tuneTo_70 : decode cX1_tuneTo 70 = .ok (.aload_n 0, 1) := by decide +kernel
theorem dX1_tuneTo_71 : decode cX1_tuneTo 71 = .ok (.iload 5, 2) := by decide +kernel
theorem dX1_tuneTo_73 : decode cX1_tuneTo 73 = .ok (.iload 6, 2) := by decide +kernel
theorem dX1_tuneTo_75 : decode cX1_tuneTo 75 = .ok (.iload 7, 2) := by decide +kernel
theorem dX1_tuneTo_77 : decode cX1_tuneTo 77 = .ok (.invokevirtual 104, 3) := by decide +kernel
theorem dX1_tuneTo_80 : decode cX1_tuneTo 80 = .ok (.iinc 6 1, 3) := by decide +kernel
theorem dX1_tuneTo_83 : decode cX1_tuneTo 83 = .ok (.goto (-57), 3) := by decide +kernel
theorem dX1_tuneTo_86 : decode cX1_tuneTo 86 = .ok (.iinc 5 1, 3) := by decide +kernel
theorem dX1_tuneTo_89 : decode cX1_tuneTo 89 = .ok (.goto (-72), 3) := by decide +kernel
theorem dX1_tuneTo_92 : decode cX1_tuneTo 92 = .ok (.return_, 1) := by decide +kernel
theorem dX1_keepTuning_0 : decode cX1_keepTuning 0 = .ok (.aload_n 0, 1) := by decide +kernel
theorem dX1_keepTuning_1 : decode cX1_keepTuning 1 = .ok (.getfield 21, 3) := by decide +kernel
theorem dX1_keepTuning_4 : decode cX1_keepTuning 4 = .ok (.iconst 0, 1) := by decide +kernel
theorem dX1_keepTuning_5 : decode cX1_keepTuning 5 = .ok (.iload_n 1, 1) := by decide +kernel
theorem dX1_keepTuning_6 : decode cX1_keepTuning 6 = .ok (.iastore, 1) := by decide +kernel
theorem dX1_keepTuning_7 : decode cX1_keepTuning 7 = .ok (.aload_n 0, 1) := by decide +kernel
theorem dX1_keepTuning_8 : decode cX1_keepTuning 8 = .ok (.getfield 21, 3) := by decide +kernel
theorem dX1_keepTuning_11 : decode cX1_keepTuning 11 = .ok (.iconst 1, 1) := by decide +kernel
theorem dX1_keepTuning_12 : decode cX1_keepTuning 12 = .ok (.iload_n 2, 1) := by decide +kernel
theorem dX1_keepTuning_13 : decode cX1_keepTuning 13 = .ok (.iastore, 1) := by decide +kernel
theorem dX1_keepTuning_14 : decode cX1_keepTuning 14 = .ok (.aload_n 0, 1) := by decide +kernel
theorem dX1_keepTuning_15 : decode cX1_keepTuning 15 = .ok (.getfield 21, 3) := by decide +kernel
theorem dX1_keepTuning_18 : decode cX1_keepTuning 18 = .ok (.iconst 2, 1) := by decide +kernel
theorem dX1_keepTuning_19 : decode cX1_keepTuning 19 = .ok (.iload_n 3, 1) := by decide +kernel
theorem dX1_keepTuning_20 : decode cX1_keepTuning 20 = .ok (.iastore, 1) := by decide +kernel
theorem dX1_keepTuning_21 : decode cX1_keepTuning 21 = .ok (.return_, 1) := by decide +kernel
theorem dX1_tuned_0 : decode cX1_tuned 0 = .ok (.iload_n 1, 1) := by decide +kernel
theorem dX1_tuned_1 : decode cX1_tuned 1 = .ok (.iconst 0, 1) := by decide +kernel
theorem dX1_tuned_2 : decode cX1_tuned 2 = .ok (.iconst 2, 1) := by decide +kernel
theorem dX1_tuned_3 : decode cX1_tuned 3 = .ok (.invokestatic 27, 3) := by decide +kernel
theorem dX1_tuned_6 : decode cX1_tuned 6 = .ok (.ifCond .eq 12, 3) := by decide +kernel
theorem dX1_tuned_9 : decode cX1_tuned 9 = .ok (.aload_n 0, 1) := by decide +kernel
theorem dX1_tuned_10 : decode cX1_tuned 10 = .ok (.getfield 21, 3) := by decide +kernel
theorem dX1_tuned_13 : decode cX1_tuned 13 = .ok (.iload_n 1, 1) := by decide +kernel
theorem dX1_tuned_14 : decode cX1_tuned 14 = .ok (.iaload, 1) := by decide +kernel
theorem dX1_tuned_15 : decode cX1_tuned 15 = .ok (.goto 4, 3) := by decide +kernel
theorem dX1_tuned_18 : decode cX1_tuned 18 = .ok (.iconst (-1), 1) := by decide +kernel
theorem dX1_tuned_19 : decode cX1_tuned 19 = .ok (.ireturn, 1) := by decide +kernel
theorem dX1_forceAt_0 : decode cX1_forceAt 0 = .ok (.ldc2_w 111, 3) := by decide +kernel
theorem dX1_forceAt_3 : decode cX1_forceAt 3 = .ok (.aload_n 0, 1) := by decide +kernel
theorem dX1_forceAt_4 : decode cX1_forceAt 4 = .ok (.getfield 11, 3) := by decide +kernel
theorem dX1_forceAt_7 : decode cX1_forceAt 7 = .ok (.bipush 7, 2) := by decide +kernel
theorem dX1_forceAt_9 : decode cX1_forceAt 9 = .ok (.iaload, 1) := by decide +kernel
theorem dX1_forceAt_10 : decode cX1_forceAt 10 = .ok (.i2l, 1) := by decide +kernel
theorem dX1_forceAt_11 : decode cX1_forceAt 11 = .ok (.iload_n 1, 1) := by decide +kernel
theorem dX1_forceAt_12 : decode cX1_forceAt 12 = .ok (.i2l, 1) := by decide +kernel
theorem dX1_forceAt_13 : decode cX1_forceAt 13 = .ok (.lmul, 1) := by decide +kernel
theorem dX1_forceAt_14 : decode cX1_forceAt 14 = .ok (.ldc2_w 113, 3) := by decide +kernel
theorem dX1_forceAt_17 : decode cX1_forceAt 17 = .ok (.invokestatic 54, 3) := by decide +kernel
theorem dX1_forceAt_20 : decode cX1_forceAt 20 = .ok (.lconst 1, 1) := by decide +kernel
theorem dX1_forceAt_21 : decode cX1_forceAt 21 = .ok (.ladd, 1) := by decide +kernel
theorem dX1_forceAt_22 : decode cX1_forceAt 22 = .ok (.invokestatic 115, 3) := by decide +kernel
theorem dX1_forceAt_25 : decode cX1_forceAt 25 = .ok (.l2i, 1) := by decide +kernel
theorem dX1_forceAt_26 : decode cX1_forceAt 26 = .ok (.ireturn, 1) := by decide +kernel
theorem dX1_turnsOfShot_0 : decode cX1_turnsOfShot 0 = .ok (.aload_n 0, 1) := by decide +kernel
theorem dX1_turnsOfShot_1 : decode cX1_turnsOfShot 1 = .ok (.getfield 11, 3) := by decide +kernel
theorem dX1_turnsOfShot_4 : decode cX1_turnsOfShot 4 = .ok (.iconst 2, 1) := by decide +kernel
theorem dX1_turnsOfShot_5 : decode cX1_turnsOfShot 5 = .ok (.iaload, 1) := by decide +kernel
theorem dX1_turnsOfShot_6 : decode cX1_turnsOfShot 6 = .ok (.i2l, 1) := by decide +kernel
theorem dX1_turnsOfShot_7 : decode cX1_turnsOfShot 7 = .ok (.aload_n 0, 1) := by decide +kernel
theorem dX1_turnsOfShot_8 : decode cX1_turnsOfShot 8 = .ok (.getfield 11, 3) := by decide +kernel
theorem dX1_turnsOfShot_11 : decode cX1_turnsOfShot 11 = .ok (.iconst 0, 1) := by decide +kernel
theorem dX1_turnsOfShot_12 : decode cX1_turnsOfShot 12 = .ok (.iaload, 1) := by decide +kernel
theorem dX1_turnsOfShot_13 : decode cX1_turnsOfShot 13 = .ok (.i2l, 1) := by decide +kernel
theorem dX1_turnsOfShot_14 : decode cX1_turnsOfShot 14 = .ok (.lmul, 1) := by decide +kernel
theorem dX1_turnsOfShot_15 : decode cX1_turnsOfShot 15 = .ok (.ldc2_w 52, 3) := by decide +kernel
theorem dX1_turnsOfShot_18 : decode cX1_turnsOfShot 18 = .ok (.invokestatic 62, 3) := by decide +kernel
theorem dX1_turnsOfShot_21 : decode cX1_turnsOfShot 21 = .ok (.l2i, 1) := by decide +kernel
theorem dX1_turnsOfShot_22 : decode cX1_turnsOfShot 22 = .ok (.ireturn, 1) := by decide +kernel
theorem dX2_init_0 : decode cX2_init 0 = .ok (.aload_n 0, 1) := by decide +kernel
theorem dX2_init_1 : decode cX2_init 1 = .ok (.invokespecial 3, 3) := by decide +kernel
theorem dX2_init_4 : decode cX2_init 4 = .ok (.aload_n 0, 1) := by decide +kernel
theorem dX2_init_5 : decode cX2_init 5 = .ok (.iconst 5, 1) := by decide +kernel
theorem dX2_init_6 : decode cX2_init 6 = .ok (.newarray .int, 2) := by decide +kernel
theorem dX2_init_8 : decode cX2_init 8 = .ok (.dup, 1) := by decide +kernel
theorem dX2_init_9 : decode cX2_init 9 = .ok (.iconst 0, 1) := by decide +kernel
theorem dX2_init_10 : decode cX2_init 10 = .ok (.bipush 20, 2) := by decide +kernel
theorem dX2_init_12 : decode cX2_init 12 = .ok (.iastore, 1) := by decide +kernel
theorem dX2_init_13 : decode cX2_init 13 = .ok (.dup, 1) := by decide +kernel
theorem dX2_init_14 : decode cX2_init 14 = .ok (.iconst 1, 1) := by decide +kernel
theorem dX2_init_15 : decode cX2_init 15 = .ok (.bipush 100, 2) := by decide +kernel
theorem dX2_init_17 : decode cX2_init 17 = .ok (.iastore, 1) := by decide +kernel
theorem dX2_init_18 : decode cX2_init 18 = .ok (.dup, 1) := by decide +kernel
theorem dX2_init_19 : decode cX2_init 19 = .ok (.iconst 2, 1) := by decide +kernel
theorem dX2_init_20 : decode cX2_init 20 = .ok (.bipush 10, 2) := by decide +kernel
theorem dX2_init_22 : decode cX2_init 22 = .ok (.iastore, 1) := by decide +kernel
theorem dX2_init_23 : decode cX2_init 23 = .ok (.dup, 1) := by decide +kernel
theorem dX2_init_24 : decode cX2_init 24 = .ok (.iconst 3, 1) := by decide +kernel
theorem dX2_init_25 : decode cX2_init 25 = .ok (.sipush 1000, 3) := by decide +kernel
theorem dX2_init_28 : decode cX2_init 28 = .ok (.iastore, 1) := by decide +kernel
theorem dX2_init_29 : decode cX2_init 29 = .ok (.dup, 1) := by decide +kernel
theorem dX2_init_30 : decode cX2_init 30 = .ok (.iconst 4, 1) := by decide +kernel
theorem dX2_init_31 : decode cX2_init 31 = .ok (.bipush 40, 2) := by decide +kernel
theorem dX2_init_33 : decode cX2_init 33 = .ok (.iastore, 1) := by decide +kernel
theorem dX2_init_34 : decode cX2_init 34 = .ok (.putfield 9, 3) := by decide +kernel
theorem dX2_init_37 : decode cX2_init 37 = .ok (.aload_n 0, 1) := by decide +kernel
theorem dX2_init_38 : decode cX2_init 38 = .ok (.iconst 1, 1) := by decide +kernel
theorem dX2_init_39 : decode cX2_init 39 = .ok (.putfield 15, 3) := by decide +kernel
theorem dX2_init_42 : decode cX2_init 42 = .ok (.return_, 1) := by decide +kernel
theorem dX2_takes_0 : decode cX2_takes 0 = .ok (.iload_n 1, 1) := by decide +kernel
theorem dX2_takes_1 : decode cX2_takes 1 = .ok (.iconst 0, 1) := by decide +kernel
theorem dX2_takes_2 : decode cX2_takes 2 = .ok (.iconst 4, 1) := by decide +kernel
theorem dX2_takes_3 : decode cX2_takes 3 = .ok (.invokestatic 19, 3) := by decide +kernel
theorem dX2_takes_6 : decode cX2_takes 6 = .ok (.ifCond .eq 24, 3) := by decide +kernel
theorem dX2_takes_9 : decode cX2_takes 9 = .ok (.iload_n 2, 1) := by decide +kernel
theorem dX2_takes_10 : decode cX2_takes 10 = .ok (.getstatic 23, 3) := by decide +kernel
theorem dX2_takes_13 : decode cX2_takes 13 = .ok (.iload_n 1, 1) := by decide +kernel
theorem dX2_takes_14 : decode cX2_takes 14 = .ok (.iaload, 1) := by decide +kernel
theorem dX2_takes_15 : decode cX2_takes 15 = .ok (.getstatic 26, 3) := by decide +kernel
theorem dX2_takes_18 : decode cX2_takes 18 = .ok (.iload_n 1, 1) := by decide +kernel
theorem dX2_takes_19 : decode cX2_takes 19 = .ok (.iaload, 1) := by decide +kernel
theorem dX2_takes_20 : decode cX2_takes 20 = .ok (.invokestatic 19, 3) := by decide +kernel
theorem dX2_takes_23 : decode cX2_takes 23 = .ok (.ifCond .eq 7, 3) := by decide +kernel
theorem dX2_takes_26 : decode cX2_takes 26 = .ok (.iconst 1, 1) := by decide +kernel
theorem dX2_takes_27 : decode cX2_takes 27 = .ok (.goto 4, 3) := by decide +kernel
theorem dX2_takes_30 : decode cX2_takes 30 = .ok (.iconst 0, 1) := by decide +kernel
theorem dX2_takes_31 : decode cX2_takes 31 = .ok (.ireturn, 1) := by decide +kernel
theorem dX2_put_0 : decode cX2_put 0 = .ok (.aload_n 0, 1) := by decide +kernel
theorem dX2_put_1 : decode cX2_put 1 = .ok (.iload_n 1, 1) := by decide +kernel
theorem dX2_put_2 : decode cX2_put 2 = .ok (.iload_n 2, 1) := by decide +kernel
theorem dX2_put_3 : decode cX2_put 3 = .ok (.invokevirtual 29, 3) := by decide +kernel
theorem dX2_put_6 : decode cX2_put 6 = .ok (.ifCond .ne 5, 3) := by decide +kernel
theorem dX2_put_9 : decode cX2_put 9 = .ok (.iconst (-1), 1) := by decide +kernel
theorem dX2_put_10 : decode cX2_put 10 = .ok (.ireturn, 1) := by decide +kernel
theorem dX2_put_11 : decode cX2_put 11 = .ok (.aload_n 0, 1) := by decide +kernel
theorem dX2_put_12 : decode cX2_put 12 = .ok (.getfield 9, 3) := by decide +kernel
theorem dX2_put_15 : decode cX2_put 15 = .ok (.iload_n 1, 1) := by decide +kernel
theorem dX2_put_16 : decode cX2_put 16 = .ok (.iaload, 1) := by decide +kernel
theorem dX2_put_17 : decode cX2_put 17 = .ok (.istore_n 3, 1) := by decide +kernel
theorem dX2_put_18 : decode cX2_put 18 = .ok (.aload_n 0, 1) := by decide +kernel
theorem dX2_put_19 : decode cX2_put 19 = .ok (.getfield 9, 3) := by decide +kernel
theorem dX2_put_22 : decode cX2_put 22 = .ok (.iload_n 1, 1) := by decide +kernel
theorem dX2_put_23 : decode cX2_put 23 = .ok (.iload_n 2, 1) := by decide +kernel
theorem dX2_put_24 : decode cX2_put 24 = .ok (.iastore, 1) := by decide +kernel
theorem dX2_put_25 : decode cX2_put 25 = .ok (.iload_n 3, 1) := by decide +kernel
theorem dX2_put_26 : decode cX2_put 26 = .ok (.ireturn, 1) := by decide +kernel
theorem dX2_stones_0 : decode cX2_stones 0 = .ok (.aload_n 0, 1) := by decide +kernel
theorem dX2_stones_1 : decode cX2_stones 1 = .ok (.getfield 9, 3) := by decide +kernel
theorem dX2_stones_4 : decode cX2_stones 4 = .ok (.iconst 1, 1) := by decide +kernel
theorem dX2_stones_5 : decode cX2_stones 5 = .ok (.iaload, 1) := by decide +kernel
theorem dX2_stones_6 : decode cX2_stones 6 = .ok (.ireturn, 1) := by decide +kernel
theorem dX2_spendStone_0 : decode cX2_spendStone 0 = .ok (.aload_n 0, 1) := by decide +kernel
theorem dX2_spendStone_1 : decode cX2_spendStone 1 = .ok (.getfield 9, 3) := by decide +kernel
theorem dX2_spendStone_4 : decode cX2_spendStone 4 = .ok (.iconst 1, 1) := by decide +kernel
theorem dX2_spendStone_5 : decode cX2_spendStone 5 = .ok (.iconst 0, 1) := by decide +kernel
theorem dX2_spendStone_6 : decode cX2_spendStone 6 = .ok (.aload_n 0, 1) := by decide +kernel
theorem dX2_spendStone_7 : decode cX2_spendStone 7 = .ok (.getfield 9, 3) := by decide +kernel
theorem dX2_spendStone_10 : decode cX2_spendStone 10 = .ok (.iconst 1, 1) := by decide +kernel
theorem dX2_spendStone_11 : decode cX2_spendStone 11 = .ok (.iaload, 1) := by decide +kernel
theorem dX2_spendStone_12 : decode cX2_spendStone 12 = .ok (.iconst 1, 1) := by decide +kernel
theorem dX2_spendStone_13 : decode cX2_spendStone 13 = .ok (.isub, 1) := by decide +kernel
theorem dX2_spendStone_14 : decode cX2_spendStone 14 = .ok (.invokestatic 33, 3) := by decide +kernel
theorem dX2_spendStone_17 : decode cX2_spendStone 17 = .ok (.iastore, 1) := by decide +kernel
theorem dX2_spendStone_18 : decode cX2_spendStone 18 = .ok (.return_, 1) := by decide +kernel
theorem dX2_putWet_0 : decode cX2_putWet 0 = .ok (.aload_n 0, 1) := by decide +kernel
theorem dX2_putWet_1 : decode cX2_putWet 1 = .ok (.iload_n 1, 1) := by decide +kernel
theorem dX2_putWet_2 : decode cX2_putWet 2 = .ok (.putfield 15, 3) := by decide +kernel
theorem dX2_putWet_5 : decode cX2_putWet 5 = .ok (.aload_n 0, 1) := by decide +kernel
theorem dX2_putWet_6 : decode cX2_putWet 6 = .ok (.iload_n 2, 1) := by decide +kernel
theorem dX2_putWet_7 : decode cX2_putWet 7 = .ok (.putfield 39, 3) := by decide +kernel
theorem dX2_putWet_10 : decode cX2_putWet 10 = .ok (.return_, 1) := by decide +kernel
theorem dX2_isWet_0 : decode cX2_isWet 0 = .ok (.aload_n 0, 1) := by decide +kernel
theorem dX2_isWet_1 : decode cX2_isWet 1 = .ok (.getfield 15, 3) := by decide +kernel
theorem dX2_isWet_4 : decode cX2_isWet 4 = .ok (.ifCond .le 12, 3) := by decide +kernel
theorem dX2_isWet_7 : decode cX2_isWet 7 = .ok (.iload_n 1, 1) := by decide +kernel
theorem dX2_isWet_8 : decode cX2_isWet 8 = .ok (.aload_n 0, 1) := by decide +kernel
theorem dX2_isWet_9 : decode cX2_isWet 9 = .ok (.getfield 15, 3) := by decide +kernel
theorem dX2_isWet_12 : decode cX2_isWet 12 = .ok (.irem, 1) := by decide +kernel
theorem dX2_isWet_13 : decode cX2_isWet 13 = .ok (.goto 4, 3) := by decide +kernel
theorem dX2_isWet_16 : decode cX2_isWet 16 = .ok (.iconst 0, 1) := by decide +kernel
theorem dX2_isWet_17 : decode cX2_isWet 17 = .ok (.istore_n 2, 1) := by decide +kernel
theorem dX2_isWet_18 : decode cX2_isWet 18 = .ok (.aload_n 0, 1) := by decide +kernel
theorem dX2_isWet_19 : decode cX2_isWet 19 = .ok (.getfield 39, 3) := by decide +kernel
theorem dX2_isWet_22 : decode cX2_isWet 22 = .ok (.iload_n 2, 1) := by decide +kernel
theorem dX2_isWet_23 : decode cX2_isWet 23 = .ok (.ishr, 1) := by decide +kernel
theorem dX2_isWet_24 : decode cX2_isWet 24 = .ok (.iconst 1, 1) := by decide +kernel
theorem dX2_isWet_25 : decode cX2_isWet 25 = .ok (.iand, 1) := by decide +kernel
theorem dX2_isWet_26 : decode cX2_isWet 26 = .ok (.ifCond .eq 7, 3) := by decide +kernel
theorem dX2_isWet_29 : decode cX2_isWet 29 = .ok (.iconst 1, 1) := by decide +kernel
theorem dX2_isWet_30 : decode cX2_isWet 30 = .ok (.goto 4, 3) := by decide +kernel
theorem dX2_isWet_33 : decode cX2_isWet 33 = .ok (.iconst 0, 1) := by decide +kernel
theorem dX2_isWet_34 : decode cX2_isWet 34 = .ok (.ireturn, 1) := by decide +kernel
theorem dX2_wholeDays_0 : decode cX2_wholeDays 0 = .ok (.aload_n 0, 1) := by decide +kernel
theorem dX2_wholeDays_1 : decode cX2_wholeDays 1 = .ok (.getfield 9, 3) := by decide +kernel
theorem dX2_wholeDays_4 : decode cX2_wholeDays 4 = .ok (.iconst 3, 1) := by decide +kernel
theorem dX2_wholeDays_5 : decode cX2_wholeDays 5 = .ok (.iaload, 1) := by decide +kernel
theorem dX2_wholeDays_6 : decode cX2_wholeDays 6 = .ok (.istore 4, 2) := by decide +kernel
theorem dX2_wholeDays_8 : decode cX2_wholeDays 8 = .ok (.aload_n 0, 1) := by decide +kernel
theorem dX2_wholeDays_9 : decode cX2_wholeDays 9 = .ok (.getfield 9, 3) := by decide +kernel
theorem dX2_wholeDays_12 : decode cX2_wholeDays 12 = .ok (.iconst 1, 1) := by decide +kernel
theorem dX2_wholeDays_13 : decode cX2_wholeDays 13 = .ok (.iaload, 1) := by decide +kernel
theorem dX2_wholeDays_14 : decode cX2_wholeDays 14 = .ok (.istore 5, 2) := by decide +kernel
theorem dX2_wholeDays_16 : decode cX2_wholeDays 16 = .ok (.aload_n 0, 1) := by decide +kernel
theorem dX2_wholeDays_17 : decode cX2_wholeDays 17 = .ok (.getfield 9, 3) := by decide +kernel
theorem dX2_wholeDays_20 : decode cX2_wholeDays 20 = .ok (.iconst 2, 1) := by decide +kernel
theorem dX2_wholeDays_21 : decode cX2_wholeDays 21 = .ok (.iaload, 1) := by decide +kernel
theorem dX2_wholeDays_22 : decode cX2_wholeDays 22 = .ok (.istore 6, 2) := by decide +kernel
theorem dX2_wholeDays_24 : decode cX2_wholeDays 24 = .ok (.iconst 0, 1) := by decide +kernel
theorem dX2_wholeDays_25 : decode cX2_wholeDays 25 = .ok (.istore 7, 2) := by decide +kernel
theorem dX2_wholeDays_27 : decode cX2_wholeDays 27 = .ok (.iconst 0, 1) := by decide +kernel
theorem dX2_wholeDays_28 : decode cX2_wholeDays 28 = .ok (.istore 8, 2) := by decide +kernel
theorem dX2_wholeDays_30 : decode cX2_wholeDays 30 = .ok (.iload 8, 2) := by decide +kernel
theorem dX2_wholeDays_32 : decode cX2_wholeDays 32 = .ok (.iload_n 3, 1) := by decide +kernel
theorem dX2_wholeDays_33 : decode cX2_wholeDays 33 = .ok (.if_icmp .ge 141, 3) := by decide +kernel
theorem dX2_wholeDays_36 : decode cX2_wholeDays 36 = .ok (.aload_n 0, 1) := by decide +kernel
theorem dX2_wholeDays_37 : decode cX2_wholeDays 37 = .ok (.iload 8, 2) := by decide +kernel
theorem dX2_wholeDays_39 : decode cX2_wholeDays 39 = .ok (.invokevirtual 42, 3) := by decide +kernel
theorem dX2_wholeDays_42 : decode cX2_wholeDays 42 = .ok (.istore 9, 2) := by decide +kernel
theorem dX2_wholeDays_44 : decode cX2_wholeDays 44 = .ok (.iload 9, 2) := by decide +kernel
theorem dX2_wholeDays_46 : decode cX2_wholeDays 46 = .ok (.ifCond .eq 17, 3) := by decide +kernel
theorem dX2_wholeDays_49 : decode cX2_wholeDays 49 = .ok (.iload_n 2, 1) := by decide +kernel
theorem dX2_wholeDays_50 : decode cX2_wholeDays 50 = .ok (.iload_n 2, 1) := by decide +kernel
theorem dX2_wholeDays_51 : decode cX2_wholeDays 51 = .ok (.i2l, 1) := by decide +kernel
theorem dX2_wholeDays_52 : decode cX2_wholeDays 52 = .ok (.ldc2_w 46, 3) := by decide +kernel
theorem dX2_wholeDays_55 : decode cX2_wholeDays 55 = .ok (.invokestatic 48, 3) := by decide +kernel
theorem dX2_wholeDays_58 : decode cX2_wholeDays 58 = .ok (.l2i, 1) := by decide +kernel
theorem dX2_wholeDays_59 : decode cX2_wholeDays 59 = .ok (.iadd, 1) := by decide +kernel
theorem dX2_wholeDays_60 : decode cX2_wholeDays 60 = .ok (.goto 4, 3) := by decide +kernel
theorem dX2_wholeDays_63 : decode cX2_wholeDays 63 = .ok (.iload_n 2, 1) := by decide +kernel
theorem dX2_wholeDays_64 : decode cX2_wholeDays 64 = .ok (.istore 10, 2) := by decide +kernel
theorem dX2_wholeDays_66 : decode cX2_wholeDays 66 = .ok (.iload 4, 2) := by decide +kernel
theorem dX2_wholeDays_68 : decode cX2_wholeDays 68 = .ok (.aload_n 0, 1) := by decide +kernel
theorem dX2_wholeDays_69 : decode cX2_wholeDays 69 = .ok (.getfield 9, 3) := by decide +kernel
theorem dX2_wholeDays_72 : decode cX2_wholeDays 72 = .ok (.iconst 0, 1) := by decide +kernel
theorem dX2_wholeDays_73 : decode cX2_wholeDays 73 = .ok (.iaload, 1) := by decide +kernel
theorem dX2_wholeDays_74 : decode cX2_wholeDays 74 = .ok (.isub, 1) := by decide +kernel
theorem dX2_wholeDays_75 : decode cX2_wholeDays 75 = .ok (.istore 4, 2) := by decide +kernel
theorem dX2_wholeDays_77 : decode cX2_wholeDays 77 = .ok (.iload 4, 2) := by decide +kernel
theorem dX2_wholeDays_79 : decode cX2_wholeDays 79 = .ok (.ifCond .lt 25, 3) := by decide +kernel
theorem dX2_wholeDays_82 : decode cX2_wholeDays 82 = .ok (.iload_n 1, 1) := by decide +kernel
theorem dX2_wholeDays_83 : decode cX2_wholeDays 83 = .ok (.iload 10, 2) := by decide +kernel
theorem dX2_wholeDays_85 : decode cX2_wholeDays 85 = .ok (.imul, 1) := by decide +kernel
theorem dX2_wholeDays_86 : decode cX2_wholeDays 86 = .ok (.bipush 30, 2) := by decide +kernel
theorem dX2_wholeDays_88 : decode cX2_wholeDays 88 = .ok (.aload_n 0, 1) := by decide +kernel
theorem dX2_wholeDays_89 : decode cX2_wholeDays 89 = .ok (.getfield 9, 3) := by decide +kernel
theorem dX2_wholeDays_92 : decode cX2_wholeDays 92 = .ok (.iconst 0, 1) := by decide +kernel
theorem dX2_wholeDays_93 : decode cX2_wholeDays 93 = .ok (.iaload, 1) := by decide +kernel
theorem dX2_wholeDays_94 : decode cX2_wholeDays 94 = .ok (.imul, 1) := by decide +kernel
theorem dX2_wholeDays_95 : decode cX2_wholeDays 95 = .ok (.if_icmp .gt 9, 3) := by decide +kernel
theorem dX2_wholeDays_98 : decode cX2_wholeDays 98 = .ok (.iload_n 1, 1) := by decide +kernel
theorem dX2_wholeDays_99 : decode cX2_wholeDays 99 = .ok (.iload 5, 2) := by decide +kernel
theorem dX2_wholeDays_101 : decode cX2_wholeDays 101 = .ok (.if_icmp .le 6, 3) := by decide +kernel
theorem dX2_wholeDays_104 : decode cX2_wholeDays 104 = .ok (.iload 8, 2) := by decide +kernel
theorem dX2_wholeDays_106 : decode cX2_wholeDays 106 = .ok (.ireturn, 1) := by decide +kernel
theorem dX2_wholeDays_107 : decode cX2_wholeDays 107 = .ok (.iload 5, 2) := by decide +kernel
theorem dX2_wholeDays_109 : decode cX2_wholeDays 109 = .ok (.iload_n 1, 1) := by decide +kernel
theorem dX2_wholeDays_110 : decode cX2_wholeDays 110 = .ok (.isub, 1) := by decide +kernel
theorem dX2_wholeDays_111 : decode cX2_wholeDays 111 = .ok (.istore 5, 2) := by decide +kernel
theorem dX2_wholeDays_113 : decode cX2_wholeDays 113 = .ok (.iconst 0, 1) := by decide +kernel
theorem dX2_wholeDays_114 : decode cX2_wholeDays 114 = .ok (.istore 11, 2) := by decide +kernel
theorem dX2_wholeDays_116 : decode cX2_wholeDays 116 = .ok (.iload 11, 2) := by decide +kernel
theorem dX2_wholeDays_118 : decode cX2_wholeDays 118 = .ok (.iload_n 1, 1) := by decide +kernel
theorem dX2_wholeDays_119 : decode cX2_wholeDays 119 = .ok (.if_icmp .ge 41, 3) := by decide +kernel
theorem dX2_wholeDays_122 : decode cX2_wholeDays 122 = .ok (.iload 7, 2) := by decide +kernel
theorem dX2_wholeDays_124 : decode cX2_wholeDays 124 = .ok (.iload 9, 2) := by decide +kernel
theorem dX2_wholeDays_126 : decode cX2_wholeDays 126 = .ok (.ifCond .eq 7, 3) := by decide +kernel
theorem dX2_wholeDays_129 : decode cX2_wholeDays 129 = .ok (.iconst 2, 1) := by decide +kernel
theorem dX2_wholeDays_130 : decode cX2_wholeDays 130 = .ok (.goto 4, 3) := by decide +kernel
theorem dX2_wholeDays_133 : decode cX2_wholeDays 133 = .ok (.iconst 1, 1) := by decide +kernel
theorem dX2_wholeDays_134 : decode cX2_wholeDays 134 = .ok (.iadd, 1) := by decide +kernel
theorem dX2_wholeDays_135 : decode cX2_wholeDays 135 = .ok (.istore 7, 2) := by decide +kernel
theorem dX2_wholeDays_137 : decode cX2_wholeDays 137 = .ok (.iload 7, 2) := by decide +kernel
theorem dX2_wholeDays_139 : decode cX2_wholeDays 139 = .ok (.aload_n 0, 1) := by decide +kernel
theorem dX2_wholeDays_140 : decode cX2_wholeDays 140 = .ok (.getfield 9, 3) := by decide +kernel
theorem dX2_wholeDays_143 : decode cX2_wholeDays 143 = .ok (.iconst 4, 1) := by decide +kernel
theorem dX2_wholeDays_144 : decode cX2_wholeDays 144 = .ok (.iaload, 1) := by decide +kernel
theorem dX2_wholeDays_145 : decode cX2_wholeDays 145 = .ok (.if_icmp .lt 9, 3) := by decide +kernel
theorem dX2_wholeDays_148 : decode cX2_wholeDays 148 = .ok (.iconst 0, 1) := by decide +kernel
theorem dX2_wholeDays_149 : decode cX2_wholeDays 149 = .ok (.istore 7, 2) := by decide +kernel
theorem dX2_wholeDays_151 : decode cX2_wholeDays 151 = .ok (.iinc 6 (-3), 3) := by decide +kernel
theorem dX2_wholeDays_154 : decode cX2_wholeDays 154 = .ok (.iinc 11 1, 3) := by decide +kernel
theorem dX2_wholeDays_157 : decode cX2_wholeDays 157 = .ok (.goto (-41), 3) := by decide +kernel
theorem dX2_wholeDays_160 : decode cX2_wholeDays 160 = .ok (.iload 6, 2) := by decide +kernel
theorem dX2_wholeDays_162 : decode cX2_wholeDays 162 = .ok (.ifCond .ge 6, 3) := by decide +kernel
theorem dX2_wholeDays_165 : decode cX2_wholeDays 165 = .ok (.iload 8, 2) := by decide +kernel
theorem dX2_wholeDays_167 : decode cX2_wholeDays 167 = .ok (.ireturn, 1) := by decide +kernel
theorem dX2_wholeDays_168 : decode cX2_wholeDays 168 = .ok (.iinc 8 1, 3) := by decide +kernel
theorem dX2_wholeDays_171 : decode cX2_wholeDays 171 = .ok (.goto (-141), 3) := by decide +kernel
theorem dX2_wholeDays_174 : decode cX2_wholeDays 174 = .ok (.iload_n 3, 1) := by decide +kernel
theorem dX2_wholeDays_175 : decode cX2_wholeDays 175 = .ok (.ireturn, 1) := by decide +kernel
theorem dX2_bestRate_0 : decode cX2_bestRate 0 = .ok (.bipush 60, 2) := by decide +kernel
theorem dX2_bestRate_2 : decode cX2_bestRate 2 = .ok (.istore_n 3, 1) := by decide +kernel
theorem dX2_bestRate_3 : decode cX2_bestRate 3 = .ok (.iload_n 3, 1) := by decide +kernel
theorem dX2_bestRate_4 : decode cX2_bestRate 4 = .ok (.ifCond .lt 22, 3) := by decide +kernel
theorem dX2_bestRate_7 : decode cX2_bestRate 7 = .ok (.aload_n 0, 1) := by decide +kernel
theorem dX2_bestRate_8 : decode cX2_bestRate 8 = .ok (.iload_n 3, 1) := by decide +kernel
theorem dX2_bestRate_9 : decode cX2_bestRate 9 = .ok (.iload_n 2, 1) := by decide +kernel
theorem dX2_bestRate_10 : decode cX2_bestRate 10 = .ok (.iload_n 1, 1) := by decide +kernel
theorem dX2_bestRate_11 : decode cX2_bestRate 11 = .ok (.invokevirtual 52, 3) := by decide +kernel
theorem dX2_bestRate_14 : decode cX2_bestRate 14 = .ok (.iload_n 1, 1) := by decide +kernel
theorem dX2_bestRate_15 : decode cX2_bestRate 15 = .ok (.if_icmp .ne 5, 3) := by decide +kernel
theorem dX2_bestRate_18 : decode cX2_bestRate 18 = .ok (.iload_n 3, 1) := by decide +kernel
theorem dX2_bestRate_19 : decode cX2_bestRate 19 = .ok (.ireturn, 1) := by decide +kernel
theorem dX2_bestRate_20 : decode cX2_bestRate 20 = .ok (.iinc 3 (-1), 3) := by decide +kernel
theorem dX2_bestRate_23 : decode cX2_bestRate 23 = .ok (.goto (-20), 3) := by decide +kernel
theorem dX2_bestRate_26 : decode cX2_bestRate 26 = .ok (.bipush (-9), 2) := by decide +kernel
theorem dX2_bestRate_28 : decode cX2_bestRate 28 = .ok (.ireturn, 1) := by decide +kernel
theorem dX3_init_0 : decode cX3_init 0 = .ok (.aload_n 0, 1) := by decide +kernel
theorem dX3_init_1 : decode cX3_init 1 = .ok (.invokespecial 3, 3) := by decide +kernel
theorem dX3_init_4 : decode cX3_init 4 = .ok (.aload_n 0, 1) := by decide +kernel
theorem dX3_init_5 : decode cX3_init 5 = .ok (.bipush 48, 2) := by decide +kernel
theorem dX3_init_7 : decode cX3_init 7 = .ok (.newarray .int, 2) := by decide +kernel
theorem dX3_init_9 : decode cX3_init 9 = .ok (.putfield 11, 3) := by decide +kernel
theorem dX3_init_12 : decode cX3_init 12 = .ok (.aload_n 0, 1) := by decide +kernel
theorem dX3_init_13 : decode cX3_init 13 = .ok (.bipush 8, 2) := by decide +kernel
theorem dX3_init_15 : decode cX3_init 15 = .ok (.newarray .int, 2) := by decide +kernel
theorem dX3_init_17 : decode cX3_init 17 = .ok (.putfield 15, 3) := by decide +kernel
theorem dX3_init_20 : decode cX3_init 20 = .ok (.aload_n 0, 1) := by decide +kernel
theorem dX3_init_21 : decode cX3_init 21 = .ok (.bipush 8, 2) := by decide +kernel
theorem dX3_init_23 : decode cX3_init 23 = .ok (.newarray .int, 2) := by decide +kernel
theorem dX3_init_25 : decode cX3_init 25 = .ok (.putfield 18, 3) := by decide +kernel
theorem dX3_init_28 : decode cX3_init 28 = .ok (.aload_n 0, 1) := by decide +kernel
theorem dX3_init_29 : decode cX3_init 29 = .ok (.bipush 9, 2) := by decide +kernel
theorem dX3_init_31 : decode cX3_init 31 = .ok (.newarray .int, 2) := by decide +kernel
theorem dX3_init_33 : decode cX3_init 33 = .ok (.putfield 21, 3) := by decide +kernel
theorem dX3_init_36 : decode cX3_init 36 = .ok (.aload_n 0, 1) := by decide +kernel
theorem dX3_init_37 : decode cX3_init 37 = .ok (.getfield 21, 3) := by decide +kernel
theorem dX3_init_40 : decode cX3_init 40 = .ok (.iconst 4, 1) := by decide +kernel
theorem dX3_init_41 : decode cX3_init 41 = .ok (.iconst 1, 1) := by decide +kernel
theorem dX3_init_42 : decode cX3_init 42 = .ok (.iastore, 1) := by decide +kernel
theorem dX3_init_43 : decode cX3_init 43 = .ok (.aload_n 0, 1) := by decide +kernel
theorem dX3_init_44 : decode cX3_init 44 = .ok (.iconst 5, 1) := by decide +kernel
theorem dX3_init_45 : decode cX3_init 45 = .ok (.iconst 3, 1) := by decide +kernel
theorem dX3_init_46 : decode cX3_init 46 = .ok (.invokevirtual 24, 3) := by decide +kernel
theorem dX3_init_49 : decode cX3_init 49 = .ok (.return_, 1) := by decide +kernel
theorem dX3_build_0 : decode cX3_build 0 = .ok (.aload_n 0, 1) := by decide +kernel
theorem dX3_build_1 : decode cX3_build 1 = .ok (.iload_n 1, 1) := by decide +kernel
theorem dX3_build_2 : decode cX3_build 2 = .ok (.putfield 28, 3) := by decide +kernel
theorem dX3_build_5 : decode cX3_build 5 = .ok (.aload_n 0, 1) := by decide +kernel
theorem dX3_build_6 : decode cX3_build 6 = .ok (.iload_n 2, 1) := by decide +kernel
theorem dX3_build_7 : decode cX3_build 7 = .ok (.putfield 32, 3) := by decide +kernel
theorem dX3_build_10 : decode cX3_build 10 = .ok (.iconst 0, 1) := by decide +kernel
theorem dX3_build_11 : decode cX3_build 11 = .ok (.istore_n 3, 1) := by decide +kernel
theorem dX3_build_12 : decode cX3_build 12 = .ok (.iload_n 3, 1) := by decide +kernel
theorem dX3_build_13 : decode cX3_build 13 = .ok (.aload_n 0, 1) := by decide +kernel
theorem dX3_build_14 : decode cX3_build 14 = .ok (.getfield 11, 3) := by decide +kernel
theorem dX3_build_17 : decode cX3_build 17 = .ok (.arraylength, 1) := by decide +kernel
theorem dX3_build_18 : decode cX3_build 18 = .ok (.if_icmp .ge 17, 3) := by decide +kernel
theorem dX3_build_21 : decode cX3_build 21 = .ok (.aload_n 0, 1) := by decide +kernel
theorem dX3_build_22 : decode cX3_build 22 = .ok (.getfield 11, 3) := by decide +kernel
theorem dX3_build_25 : decode cX3_build 25 = .ok (.iload_n 3, 1) := by decide +kernel
theorem dX3_build_26 : decode cX3_build 26 = .ok (.bipush 10, 2) := by decide +kernel
theorem dX3_build_28 : decode cX3_build 28 = .ok (.iastore, 1) := by decide +kernel
theorem dX3_build_29 : decode cX3_build 29 = .ok (.iinc 3 1, 3) := by decide +kernel
theorem dX3_build_32 : decode cX3_build 32 = .ok (.goto (-20), 3) := by decide +kernel
theorem dX3_build_35 : decode cX3_build 35 = .ok (.iconst 0, 1) := by decide +kernel
theorem dX3_build_36 : decode cX3_build 36 = .ok (.istore_n 3, 1) := by decide +kernel
theorem dX3_build_37 : decode cX3_build 37 = .ok (.iload_n 3, 1) := by decide +kernel
theorem dX3_build_38 : decode cX3_build 38 = .ok (.bipush 8, 2) := by decide +kernel
theorem dX3_build_40 : decode cX3_build 40 = .ok (.if_icmp .ge 36, 3) := by decide +kernel
theorem dX3_build_43 : decode cX3_build 43 = .ok (.aload_n 0, 1) := by decide +kernel
theorem dX3_build_44 : decode cX3_build 44 = .ok (.getfield 15, 3) := by decide +kernel
theorem dX3_build_47 : decode cX3_build 47 = .ok (.iload_n 3, 1) := by decide +kernel
theorem dX3_build_48 : decode cX3_build 48 = .ok (.iload_n 3, 1) := by decide +kernel
theorem dX3_build_49 : decode cX3_build 49 = .ok (.iload_n 1, 1) := by decide +kernel
theorem dX3_build_50 : decode cX3_build 50 = .ok (.if_icmp .ge 11, 3) := by decide +kernel
theorem dX3_build_53 : decode cX3_build 53 = .ok (.iconst 1, 1) := by decide +kernel
theorem dX3_build_54 : decode cX3_build 54 = .ok (.iload_n 2, 1) := by decide +kernel
theorem dX3_build_55 : decode cX3_build 55 = .ok (.ishl, 1) := by decide +kernel
theorem dX3_build_56 : decode cX3_build 56 = .ok (.iconst 1, 1) := by decide +kernel
theorem dX3_build_57 : decode cX3_build 57 = .ok (.isub, 1) := by decide +kernel
theorem dX3_build_58 : decode cX3_build 58 = .ok (.goto 4, 3) := by decide +kernel
theorem dX3_build_61 : decode cX3_build 61 = .ok (.iconst 0, 1) := by decide +kernel
theorem dX3_build_62 : decode cX3_build 62 = .ok (.iastore, 1) := by decide +kernel
theorem dX3_build_63 : decode cX3_build 63 = .ok (.aload_n 0, 1) := by decide +kernel
theorem dX3_build_64 : decode cX3_build 64 = .ok (.getfield 18, 3) := by decide +kernel
theorem dX3_build_67 : decode cX3_build 67 = .ok (.iload_n 3, 1) := by decide +kernel
theorem dX3_build_68 : decode cX3_build 68 = .ok (.iconst 0, 1) := by decide +kernel
theorem dX3_build_69 : decode cX3_build 69 = .ok (.iastore, 1) := by decide +kernel
theorem dX3_build_70 : decode cX3_build 70 = .ok (.iinc 3 1, 3) := by decide +kernel
theorem dX3_build_73 : decode cX3_build 73 = .ok (.goto (-36), 3) := by decide +kernel
theorem dX3_build_76 : decode cX3_build 76 = .ok (.return_, 1) := by decide +kernel
theorem dX3_wide_0 : decode cX3_wide 0 = .ok (.aload_n 0, 1) := by decide +kernel
theorem dX3_wide_1 : decode cX3_wide 1 = .ok (.getfield 28, 3) := by decide +kernel
theorem dX3_wide_4 : decode cX3_wide 4 = .ok (.ireturn, 1) := by decide +kernel
theorem dX3_high_0 : decode cX3_high 0 = .ok (.aload_n 0, 1) := by decide +kernel
theorem dX3_high_1 : decode cX3_high 1 = .ok (.getfield 32, 3) := by decide +kernel
theorem dX3_high_4 : decode cX3_high 4 = .ok (.ireturn, 1) := by decide +kernel
theorem dX3_has_0 : decode cX3_has 0 = .ok (.iload_n 1, 1) := by decide +kernel
theorem dX3_has_1 : decode cX3_has 1 = .ok (.ifCond .lt 27, 3) := by decide +kernel
theorem dX3_has_4 : decode cX3_has 4 = .ok (.iload_n 1, 1) := by decide +kernel
theorem dX3_has_5 : decode cX3_has 5 = .ok (.aload_n 0, 1) := by decide +kernel
theorem dX3_has_6 : decode cX3_has 6 = .ok (.getfield 28, 3) := by decide +kernel
theorem dX3_has_9 : decode cX3_has 9 = .ok (.if_icmp .ge 19, 3) := by decide +kernel
theorem dX3_has_12 : decode cX3_has 12 = .ok (.iload_n 2, 1) := by decide +kernel
theorem dX3_has_13 : decode cX3_has 13 = .ok (.ifCond .lt 15, 3) := by decide +kernel
theorem dX3_has_16 : decode cX3_has 16 = .ok (.iload_n 2, 1) := by decide +kernel
theorem dX3_has_17 : decode cX3_has 17 = .ok (.aload_n 0, 1) := by decide +kernel
theorem dX3_has_18 : decode cX3_has 18 = .ok (.getfield 32, 3) := by decide +kernel
theorem dX3_has_21 : decode cX3_has 21 = .ok (.if_icmp .ge 7, 3) := by decide +kernel
theorem dX3_has_24 : decode cX3_has 24 = .ok (.iconst 1, 1) := by decide +kernel
theorem dX3_has_25 : decode cX3_has 25 = .ok (.goto 4, 3) := by decide +kernel
theorem dX3_has_28 : decode cX3_has 28 = .ok (.iconst 0, 1) := by decide +kernel
theorem dX3_has_29 : decode cX3_has 29 = .ok (.ireturn, 1) := by decide +kernel
theorem dX3_place_0 : decode cX3_place 0 = .ok (.iload_n 0, 1) := by decide +kernel
theorem dX3_place_1 : decode cX3_place 1 = .ok (.bipush 6, 2) := by decide +kernel
theorem dX3_place_3 : decode cX3_place 3 = .ok (.imul, 1) := by decide +kernel
theorem dX3_place_4 : decode cX3_place 4 = .ok (.iload_n 1, 1) := by decide +kernel
theorem dX3_place_5 : decode cX3_place 5 = .ok (.iadd, 1) := by decide +kernel
theorem dX3_place_6 : decode cX3_place 6 = .ok (.ireturn, 1) := by decide +kernel
theorem dX3_holds_0 : decode cX3_holds 0 = .ok (.iload_n 0, 1) := by decide +kernel
theorem dX3_holds_1 : decode cX3_holds 1 = .ok (.iload_n 1, 1) := by decide +kernel
theorem dX3_holds_2 : decode cX3_holds 2 = .ok (.ishr, 1) := by decide +kernel
theorem dX3_holds_3 : decode cX3_holds 3 = .ok (.iconst 1, 1) := by decide +kernel
theorem dX3_holds_4 : decode cX3_holds 4 = .ok (.iand, 1) := by decide +kernel
theorem dX3_holds_5 : decode cX3_holds 5 = .ok (.ifCond .eq 7, 3) := by decide +kernel
theorem dX3_holds_8 : decode cX3_holds 8 = .ok (.iconst 1, 1) := by decide +kernel
theorem dX3_holds_9 : decode cX3_holds 9 = .ok (.goto 4, 3) := by decide +kernel
theorem dX3_holds_12 : decode cX3_holds 12 = .ok (.iconst 0, 1) := by decide +kernel
theorem dX3_holds_13 : decode cX3_holds 13 = .ok (.ireturn, 1) := by decide +kernel
theorem dX3_stands_0 : decode cX3_stands 0 = .ok (.aload_n 0, 1) := by decide +kernel
theorem dX3_stands_1 : decode cX3_stands 1 = .ok (.iload_n 1, 1) := by decide +kernel
theorem dX3_stands_2 : decode cX3_stands 2 = .ok (.iload_n 2, 1) := by decide +kernel
theorem dX3_stands_3 : decode cX3_stands 3 = .ok (.invokevirtual 35, 3) := by decide +kernel
theorem dX3_stands_6 : decode cX3_stands 6 = .ok (.ifCond .eq 20, 3) := by decide +kernel
theorem dX3_stands_9 : decode cX3_stands 9 = .ok (.aload_n 0, 1) := by decide +kernel
theorem dX3_stands_10 : decode cX3_stands 10 = .ok (.getfield 15, 3) := by decide +kernel
theorem dX3_stands_13 : decode cX3_stands 13 = .ok (.iload_n 1, 1) := by decide +kernel
theorem dX3_stands_14 : decode cX3_stands 14 = .ok (.iaload, 1) := by decide +kernel
theorem dX3_stands_15 : decode cX3_stands 15 = .ok (.iload_n 2, 1) := by decide +kernel
theorem dX3_stands_16 : decode cX3_stands 16 = .ok (.invokestatic 39, 3) := by decide +kernel
theorem dX3_stands_19 : decode cX3_stands 19 = .ok (.ifCond .eq 7, 3) := by decide +kernel
theorem dX3_stands_22 : decode cX3_stands 22 = .ok (.iconst 1, 1) := by decide +kernel
theorem dX3_stands_23 : decode cX3_stands 23 = .ok (.goto 4, 3) := by decide +kernel
theorem dX3_stands_26 : decode cX3_stands 26 = .ok (.iconst 0, 1) := by decide +kernel
theorem dX3_stands_27 : decode cX3_stands 27 = .ok (.ireturn, 1) := by decide +kernel
theorem dX3_isPropped_0 : decode cX3_isPropped 0 = .ok (.aload_n 0, 1) := by decide +kernel
theorem dX3_isPropped_1 : decode cX3_isPropped 1 = .ok (.iload_n 1, 1) := by decide +kernel
theorem dX3_isPropped_2 : decode cX3_isPropped 2 = .ok (.iload_n 2, 1) := by decide +kernel
theorem dX3_isPropped_3 : decode cX3_isPropped 3 = .ok (.invokevirtual 35, 3) := by decide +kernel
theorem dX3_isPropped_6 : decode cX3_isPropped 6 = .ok (.ifCond .eq 20, 3) := by decide +kernel
theorem dX3_isPropped_9 : decode cX3_isPropped 9 = .ok (.aload_n 0, 1) := by decide +kernel
theorem dX3_isPropped_10 : decode cX3_isPropped 10 = .ok (.getfield 18, 3) := by decide +kernel
theorem dX3_isPropped_13 : decode cX3_isPropped 13 = .ok (.iload_n 1, 1) := by decide +kernel
theorem dX3_isPropped_14 : decode cX3_isPropped 14 = .ok (.iaload, 1) := by decide +kernel
theorem dX3_isPropped_15 : decode cX3_isPropped 15 = .ok (.iload_n 2, 1) := by decide +kernel
theorem dX3_isPropped_16 : decode cX3_isPropped 16 = .ok (.invokestatic 39, 3) := by decide +kernel
theorem dX3_isPropped_19 : decode cX3_isPropped 19 = .ok (.ifCond .eq 7, 3) := by decide +kernel
theorem dX3_isPropped_22 : decode cX3_isPropped 22 = .ok (.iconst 1, 1) := by decide +kernel
theorem dX3_isPropped_23 : decode cX3_isPropped 23 = .ok (.goto 4, 3) := by decide +kernel
theorem dX3_isPropped_26 : decode cX3_isPropped 26 = .ok (.iconst 0, 1) := by decide +kernel
theorem dX3_isPropped_27 : decode cX3_isPropped 27 = .ok (.ireturn, 1) := by decide +kernel
theorem dX3_strengthAt_0 : decode cX3_strengthAt 0 = .ok (.aload_n 0, 1) := by decide +kernel
theorem dX3_strengthAt_1 : decode cX3_strengthAt 1 = .ok (.iload_n 1, 1) := by decide +kernel
theorem dX3_strengthAt_2 : decode cX3_strengthAt 2 = .ok (.iload_n 2, 1) := by decide +kernel
theorem dX3_strengthAt_3 : decode cX3_strengthAt 3 = .ok (.invokevirtual 35, 3) := by decide +kernel
theorem dX3_strengthAt_6 : decode cX3_strengthAt 6 = .ok (.ifCond .eq 16, 3) := by decide +kernel
theorem dX3_strengthAt_9 : decode cX3_strengthAt 9 = .ok (.aload_n 0, 1) := by decide +kernel
theorem dX3_strengthAt_10 : decode cX3_strengthAt 10 = .ok (.getfield 11, 3) := by decide +kernel
theorem dX3_strengthAt_13 : decode cX3_strengthAt 13 = .ok (.iload_n 1, 1) := by decide +kernel
theorem dX3_strengthAt_14 : decode cX3_strengthAt 14 = .ok (.iload_n 2, 1) := by decide +kernel
theorem dX3_strengthAt_15 : decode cX3_strengthAt 15 = .ok (.invokestatic 42, 3) := by decide +kernel
theorem dX3_strengthAt_18 : decode cX3_strengthAt 18 = .ok (.iaload, 1) := by decide +kernel
theorem dX3_strengthAt_19 : decode cX3_strengthAt 19 = .ok (.goto 4, 3) := by decide +kernel
theorem dX3_strengthAt_22 : decode cX3_strengthAt 22 = .ok (.iconst (-1), 1) := by decide +kernel
theorem dX3_strengthAt_23 : decode cX3_strengthAt 23 = .ok (.ireturn, 1) := by decide +kernel
theorem dX3_putStrength_0 : decode cX3_putStrength 0 = .ok (.aload_n 0, 1) := by decide +kernel
theorem dX3_putStrength_1 : decode cX3_putStrength 1 = .ok (.iload_n 1, 1) := by decide +kernel
theorem dX3_putStrength_2 : decode cX3_putStrength 2 = .ok (.iload_n 2, 1) := by decide +kernel
theorem dX3_putStrength_3 : decode cX3_putStrength 3 = .ok (.invokevirtual 35, 3) := by decide +kernel
theorem dX3_putStrength_6 : decode cX3_putStrength 6 = .ok (.ifCond .ne 5, 3) := by decide +kernel
theorem dX3_putStrength_9 : decode cX3_putStrength 9 = .ok (.iconst (-1), 1) := by decide +kernel
theorem dX3_putStrength_10 : decode cX3_putStrength 10 = .ok (.ireturn, 1) := by decide +kernel
theorem dX3_putStrength_11 : decode cX3_putStrength 11 = .ok (.aload_n 0, 1) := by decide +kernel
theorem dX3_putStrength_12 : decode cX3_putStrength 12 = .ok (.getfield 11, 3) := by decide +kernel
theorem dX3_putStrength_15 : decode cX3_putStrength 15 = .ok (.iload_n 1, 1) := by decide +kernel
theorem dX3_putStrength_16 : decode cX3_putStrength 16 = .ok (.iload_n 2, 1) := by decide +kernel
theorem dX3_putStrength_17 : decode cX3_putStrength 17 = .ok (.invokestatic 42, 3) := by decide +kernel
theorem dX3_putStrength_20 : decode cX3_putStrength 20 = .ok (.iaload, 1) := by decide +kernel
theorem dX3_putStrength_21 : decode cX3_putStrength 21 = .ok (.istore 4, 2) := by decide +kernel
theorem dX3_putStrength_23 : decode cX3_putStrength 23 = .ok (.aload_n 0, 1) := by decide +kernel
theorem dX3_putStrength_24 : decode cX3_putStrength 24 = .ok (.getfield 11, 3) := by decide +kernel
theorem dX3_putStrength_27 : decode cX3_putStrength 27 = .ok (.iload_n 1, 1) := by decide +kernel
theorem dX3_putStrength_28 : decode cX3_putStrength 28 = .ok (.iload_n 2, 1) := by decide +kernel
theorem dX3_putStrength_29 : decode cX3_putStrength 29 = .ok (.invokestatic 42, 3) := by decide +kernel
theorem dX3_putStrength_32 : decode cX3_putStrength 32 = .ok (.iload_n 3, 1) := by decide +kernel
theorem dX3_putStrength_33 : decode cX3_putStrength 33 = .ok (.iastore, 1) := by decide +kernel
theorem dX3_putStrength_34 : decode cX3_putStrength 34 = .ok (.iload 4, 2) := by decide +kernel
theorem dX3_putStrength_36 : decode cX3_putStrength 36 = .ok (.ireturn, 1) := by decide +kernel
theorem dX3_putProp_0 : decode cX3_putProp 0 = .ok (.aload_n 0, 1) := by decide +kernel
theorem dX3_putProp_1 : decode cX3_putProp 1 = .ok (.iload_n 1, 1) := by decide +kernel
theorem dX3_putProp_2 : decode cX3_putProp 2 = .ok (.iload_n 2, 1) := by decide +kernel
theorem dX3_putProp_3 : decode cX3_putProp 3 = .ok (.invokevirtual 35, 3) := by decide +kernel
theorem dX3_putProp_6 : decode cX3_putProp 6 = .ok (.ifCond .ne 5, 3) := by decide +kernel
theorem dX3_putProp_9 : decode cX3_putProp 9 = .ok (.iconst (-1), 1) := by decide +kernel
theorem dX3_putProp_10 : decode cX3_putProp 10 = .ok (.ireturn, 1) := by decide +kernel
theorem dX3_putProp_11 : decode cX3_putProp 11 = .ok (.aload_n 0, 1) := by decide +kernel
theorem dX3_putProp_12 : decode cX3_putProp 12 = .ok (.getfield 18, 3) := by decide +kernel
theorem dX3_putProp_15 : decode cX3_putProp 15 = .ok (.iload_n 1, 1) := by decide +kernel
theorem dX3_putProp_16 : decode cX3_putProp 16 = .ok (.iaload, 1) := by decide +kernel
theorem dX3_putProp_17 : decode cX3_putProp 17 = .ok (.iload_n 2, 1) := by decide +kernel
