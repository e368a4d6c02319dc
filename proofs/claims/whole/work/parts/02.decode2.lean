theorem dX3_putProp_18 : decode cX3_putProp 18 = .ok (.invokestatic 39, 3) := by decide +kernel
theorem dX3_putProp_21 : decode cX3_putProp 21 = .ok (.ifCond .eq 7, 3) := by decide +kernel
theorem dX3_putProp_24 : decode cX3_putProp 24 = .ok (.iconst 1, 1) := by decide +kernel
theorem dX3_putProp_25 : decode cX3_putProp 25 = .ok (.goto 4, 3) := by decide +kernel
theorem dX3_putProp_28 : decode cX3_putProp 28 = .ok (.iconst 0, 1) := by decide +kernel
theorem dX3_putProp_29 : decode cX3_putProp 29 = .ok (.istore_n 3, 1) := by decide +kernel
theorem dX3_putProp_30 : decode cX3_putProp 30 = .ok (.aload_n 0, 1) := by decide +kernel
theorem dX3_putProp_31 : decode cX3_putProp 31 = .ok (.getfield 18, 3) := by decide +kernel
theorem dX3_putProp_34 : decode cX3_putProp 34 = .ok (.iload_n 1, 1) := by decide +kernel
theorem dX3_putProp_35 : decode cX3_putProp 35 = .ok (.dup2, 1) := by decide +kernel
theorem dX3_putProp_36 : decode cX3_putProp 36 = .ok (.iaload, 1) := by decide +kernel
theorem dX3_putProp_37 : decode cX3_putProp 37 = .ok (.iconst 1, 1) := by decide +kernel
theorem dX3_putProp_38 : decode cX3_putProp 38 = .ok (.iload_n 2, 1) := by decide +kernel
theorem dX3_putProp_39 : decode cX3_putProp 39 = .ok (.ishl, 1) := by decide +kernel
theorem dX3_putProp_40 : decode cX3_putProp 40 = .ok (.ior, 1) := by decide +kernel
theorem dX3_putProp_41 : decode cX3_putProp 41 = .ok (.iastore, 1) := by decide +kernel
theorem dX3_putProp_42 : decode cX3_putProp 42 = .ok (.iload_n 3, 1) := by decide +kernel
theorem dX3_putProp_43 : decode cX3_putProp 43 = .ok (.ireturn, 1) := by decide +kernel
theorem dX3_strike_0 : decode cX3_strike 0 = .ok (.aload_n 0, 1) := by decide +kernel
theorem dX3_strike_1 : decode cX3_strike 1 = .ok (.iload_n 1, 1) := by decide +kernel
theorem dX3_strike_2 : decode cX3_strike 2 = .ok (.iload_n 2, 1) := by decide +kernel
theorem dX3_strike_3 : decode cX3_strike 3 = .ok (.invokevirtual 46, 3) := by decide +kernel
theorem dX3_strike_6 : decode cX3_strike 6 = .ok (.ifCond .ne 5, 3) := by decide +kernel
theorem dX3_strike_9 : decode cX3_strike 9 = .ok (.iconst 0, 1) := by decide +kernel
theorem dX3_strike_10 : decode cX3_strike 10 = .ok (.ireturn, 1) := by decide +kernel
theorem dX3_strike_11 : decode cX3_strike 11 = .ok (.aload_n 0, 1) := by decide +kernel
theorem dX3_strike_12 : decode cX3_strike 12 = .ok (.getfield 15, 3) := by decide +kernel
theorem dX3_strike_15 : decode cX3_strike 15 = .ok (.iload_n 1, 1) := by decide +kernel
theorem dX3_strike_16 : decode cX3_strike 16 = .ok (.iaload, 1) := by decide +kernel
theorem dX3_strike_17 : decode cX3_strike 17 = .ok (.invokestatic 49, 3) := by decide +kernel
theorem dX3_strike_20 : decode cX3_strike 20 = .ok (.istore 4, 2) := by decide +kernel
theorem dX3_strike_22 : decode cX3_strike 22 = .ok (.iload_n 1, 1) := by decide +kernel
theorem dX3_strike_23 : decode cX3_strike 23 = .ok (.iload_n 2, 1) := by decide +kernel
theorem dX3_strike_24 : decode cX3_strike 24 = .ok (.invokestatic 42, 3) := by decide +kernel
theorem dX3_strike_27 : decode cX3_strike 27 = .ok (.istore 5, 2) := by decide +kernel
theorem dX3_strike_29 : decode cX3_strike 29 = .ok (.aload_n 0, 1) := by decide +kernel
theorem dX3_strike_30 : decode cX3_strike 30 = .ok (.getfield 11, 3) := by decide +kernel
theorem dX3_strike_33 : decode cX3_strike 33 = .ok (.iload 5, 2) := by decide +kernel
theorem dX3_strike_35 : decode cX3_strike 35 = .ok (.dup2, 1) := by decide +kernel
theorem dX3_strike_36 : decode cX3_strike 36 = .ok (.iaload, 1) := by decide +kernel
theorem dX3_strike_37 : decode cX3_strike 37 = .ok (.iload_n 3, 1) := by decide +kernel
theorem dX3_strike_38 : decode cX3_strike 38 = .ok (.isub, 1) := by decide +kernel
theorem dX3_strike_39 : decode cX3_strike 39 = .ok (.iastore, 1) := by decide +kernel
theorem dX3_strike_40 : decode cX3_strike 40 = .ok (.aload_n 0, 1) := by decide +kernel
theorem dX3_strike_41 : decode cX3_strike 41 = .ok (.getfield 18, 3) := by decide +kernel
theorem dX3_strike_44 : decode cX3_strike 44 = .ok (.iload_n 1, 1) := by decide +kernel
theorem dX3_strike_45 : decode cX3_strike 45 = .ok (.dup2, 1) := by decide +kernel
theorem dX3_strike_46 : decode cX3_strike 46 = .ok (.iaload, 1) := by decide +kernel
theorem dX3_strike_47 : decode cX3_strike 47 = .ok (.iconst 1, 1) := by decide +kernel
theorem dX3_strike_48 : decode cX3_strike 48 = .ok (.iload_n 2, 1) := by decide +kernel
theorem dX3_strike_49 : decode cX3_strike 49 = .ok (.ishl, 1) := by decide +kernel
theorem dX3_strike_50 : decode cX3_strike 50 = .ok (.iconst (-1), 1) := by decide +kernel
theorem dX3_strike_51 : decode cX3_strike 51 = .ok (.ixor, 1) := by decide +kernel
theorem dX3_strike_52 : decode cX3_strike 52 = .ok (.iand, 1) := by decide +kernel
theorem dX3_strike_53 : decode cX3_strike 53 = .ok (.iastore, 1) := by decide +kernel
theorem dX3_strike_54 : decode cX3_strike 54 = .ok (.aload_n 0, 1) := by decide +kernel
theorem dX3_strike_55 : decode cX3_strike 55 = .ok (.getfield 11, 3) := by decide +kernel
theorem dX3_strike_58 : decode cX3_strike 58 = .ok (.iload 5, 2) := by decide +kernel
theorem dX3_strike_60 : decode cX3_strike 60 = .ok (.iaload, 1) := by decide +kernel
theorem dX3_strike_61 : decode cX3_strike 61 = .ok (.ifCond .gt 17, 3) := by decide +kernel
theorem dX3_strike_64 : decode cX3_strike 64 = .ok (.aload_n 0, 1) := by decide +kernel
theorem dX3_strike_65 : decode cX3_strike 65 = .ok (.getfield 15, 3) := by decide +kernel
theorem dX3_strike_68 : decode cX3_strike 68 = .ok (.iload_n 1, 1) := by decide +kernel
theorem dX3_strike_69 : decode cX3_strike 69 = .ok (.dup2, 1) := by decide +kernel
theorem dX3_strike_70 : decode cX3_strike 70 = .ok (.iaload, 1) := by decide +kernel
theorem dX3_strike_71 : decode cX3_strike 71 = .ok (.iconst 1, 1) := by decide +kernel
theorem dX3_strike_72 : decode cX3_strike 72 = .ok (.iload_n 2, 1) := by decide +kernel
theorem dX3_strike_73 : decode cX3_strike 73 = .ok (.ishl, 1) := by decide +kernel
theorem dX3_strike_74 : decode cX3_strike 74 = .ok (.iconst (-1), 1) := by decide +kernel
theorem dX3_strike_75 : decode cX3_strike 75 = .ok (.ixor, 1) := by decide +kernel
theorem dX3_strike_76 : decode cX3_strike 76 = .ok (.iand, 1) := by decide +kernel
theorem dX3_strike_77 : decode cX3_strike 77 = .ok (.iastore, 1) := by decide +kernel
theorem dX3_strike_78 : decode cX3_strike 78 = .ok (.aload_n 0, 1) := by decide +kernel
theorem dX3_strike_79 : decode cX3_strike 79 = .ok (.iload_n 1, 1) := by decide +kernel
theorem dX3_strike_80 : decode cX3_strike 80 = .ok (.invokevirtual 55, 3) := by decide +kernel
theorem dX3_strike_83 : decode cX3_strike 83 = .ok (.iload 4, 2) := by decide +kernel
theorem dX3_strike_85 : decode cX3_strike 85 = .ok (.aload_n 0, 1) := by decide +kernel
theorem dX3_strike_86 : decode cX3_strike 86 = .ok (.getfield 15, 3) := by decide +kernel
theorem dX3_strike_89 : decode cX3_strike 89 = .ok (.iload_n 1, 1) := by decide +kernel
theorem dX3_strike_90 : decode cX3_strike 90 = .ok (.iaload, 1) := by decide +kernel
theorem dX3_strike_91 : decode cX3_strike 91 = .ok (.invokestatic 49, 3) := by decide +kernel
theorem dX3_strike_94 : decode cX3_strike 94 = .ok (.isub, 1) := by decide +kernel
theorem dX3_strike_95 : decode cX3_strike 95 = .ok (.ireturn, 1) := by decide +kernel
theorem dX3_dropUnheld_0 : decode cX3_dropUnheld 0 = .ok (.iconst 1, 1) := by decide +kernel
theorem dX3_dropUnheld_1 : decode cX3_dropUnheld 1 = .ok (.istore_n 2, 1) := by decide +kernel
theorem dX3_dropUnheld_2 : decode cX3_dropUnheld 2 = .ok (.iload_n 2, 1) := by decide +kernel
theorem dX3_dropUnheld_3 : decode cX3_dropUnheld 3 = .ok (.aload_n 0, 1) := by decide +kernel
theorem dX3_dropUnheld_4 : decode cX3_dropUnheld 4 = .ok (.getfield 32, 3) := by decide +kernel
theorem dX3_dropUnheld_7 : decode cX3_dropUnheld 7 = .ok (.if_icmp .ge 51, 3) := by decide +kernel
theorem dX3_dropUnheld_10 : decode cX3_dropUnheld 10 = .ok (.aload_n 0, 1) := by decide +kernel
theorem dX3_dropUnheld_11 : decode cX3_dropUnheld 11 = .ok (.getfield 15, 3) := by decide +kernel
theorem dX3_dropUnheld_14 : decode cX3_dropUnheld 14 = .ok (.iload_n 1, 1) := by decide +kernel
theorem dX3_dropUnheld_15 : decode cX3_dropUnheld 15 = .ok (.iaload, 1) := by decide +kernel
theorem dX3_dropUnheld_16 : decode cX3_dropUnheld 16 = .ok (.iload_n 2, 1) := by decide +kernel
theorem dX3_dropUnheld_17 : decode cX3_dropUnheld 17 = .ok (.iconst 1, 1) := by decide +kernel
theorem dX3_dropUnheld_18 : decode cX3_dropUnheld 18 = .ok (.isub, 1) := by decide +kernel
theorem dX3_dropUnheld_19 : decode cX3_dropUnheld 19 = .ok (.invokestatic 39, 3) := by decide +kernel
theorem dX3_dropUnheld_22 : decode cX3_dropUnheld 22 = .ok (.ifCond .ne 30, 3) := by decide +kernel
theorem dX3_dropUnheld_25 : decode cX3_dropUnheld 25 = .ok (.aload_n 0, 1) := by decide +kernel
theorem dX3_dropUnheld_26 : decode cX3_dropUnheld 26 = .ok (.getfield 18, 3) := by decide +kernel
theorem dX3_dropUnheld_29 : decode cX3_dropUnheld 29 = .ok (.iload_n 1, 1) := by decide +kernel
theorem dX3_dropUnheld_30 : decode cX3_dropUnheld 30 = .ok (.iaload, 1) := by decide +kernel
theorem dX3_dropUnheld_31 : decode cX3_dropUnheld 31 = .ok (.iload_n 2, 1) := by decide +kernel
theorem dX3_dropUnheld_32 : decode cX3_dropUnheld 32 = .ok (.invokestatic 39, 3) := by decide +kernel
theorem dX3_dropUnheld_35 : decode cX3_dropUnheld 35 = .ok (.ifCond .ne 17, 3) := by decide +kernel
theorem dX3_dropUnheld_38 : decode cX3_dropUnheld 38 = .ok (.aload_n 0, 1) := by decide +kernel
theorem dX3_dropUnheld_39 : decode cX3_dropUnheld 39 = .ok (.getfield 15, 3) := by decide +kernel
theorem dX3_dropUnheld_42 : decode cX3_dropUnheld 42 = .ok (.iload_n 1, 1) := by decide +kernel
theorem dX3_dropUnheld_43 : decode cX3_dropUnheld 43 = .ok (.dup2, 1) := by decide +kernel
theorem dX3_dropUnheld_44 : decode cX3_dropUnheld 44 = .ok (.iaload, 1) := by decide +kernel
theorem dX3_dropUnheld_45 : decode cX3_dropUnheld 45 = .ok (.iconst 1, 1) := by decide +kernel
theorem dX3_dropUnheld_46 : decode cX3_dropUnheld 46 = .ok (.iload_n 2, 1) := by decide +kernel
theorem dX3_dropUnheld_47 : decode cX3_dropUnheld 47 = .ok (.ishl, 1) := by decide +kernel
theorem dX3_dropUnheld_48 : decode cX3_dropUnheld 48 = .ok (.iconst (-1), 1) := by decide +kernel
theorem dX3_dropUnheld_49 : decode cX3_dropUnheld 49 = .ok (.ixor, 1) := by decide +kernel
theorem dX3_dropUnheld_50 : decode cX3_dropUnheld 50 = .ok (.iand, 1) := by decide +kernel
theorem dX3_dropUnheld_51 : decode cX3_dropUnheld 51 = .ok (.iastore, 1) := by decide +kernel
theorem dX3_dropUnheld_52 : decode cX3_dropUnheld 52 = .ok (.iinc 2 1, 3) := by decide +kernel
theorem dX3_dropUnheld_55 : decode cX3_dropUnheld 55 = .ok (.goto (-53), 3) := by decide +kernel
theorem dX3_dropUnheld_58 : decode cX3_dropUnheld 58 = .ok (.return_, 1) := by decide +kernel
theorem dX3_putLevel_0 : decode cX3_putLevel 0 = .ok (.aload_n 0, 1) := by decide +kernel
theorem dX3_putLevel_1 : decode cX3_putLevel 1 = .ok (.getfield 59, 3) := by decide +kernel
theorem dX3_putLevel_4 : decode cX3_putLevel 4 = .ok (.istore_n 2, 1) := by decide +kernel
theorem dX3_putLevel_5 : decode cX3_putLevel 5 = .ok (.aload_n 0, 1) := by decide +kernel
theorem dX3_putLevel_6 : decode cX3_putLevel 6 = .ok (.iload_n 1, 1) := by decide +kernel
theorem dX3_putLevel_7 : decode cX3_putLevel 7 = .ok (.putfield 59, 3) := by decide +kernel
theorem dX3_putLevel_10 : decode cX3_putLevel 10 = .ok (.iload_n 2, 1) := by decide +kernel
theorem dX3_putLevel_11 : decode cX3_putLevel 11 = .ok (.ireturn, 1) := by decide +kernel
theorem dX3_isOpen_0 : decode cX3_isOpen 0 = .ok (.aload_n 0, 1) := by decide +kernel
theorem dX3_isOpen_1 : decode cX3_isOpen 1 = .ok (.getfield 15, 3) := by decide +kernel
theorem dX3_isOpen_4 : decode cX3_isOpen 4 = .ok (.iload_n 1, 1) := by decide +kernel
theorem dX3_isOpen_5 : decode cX3_isOpen 5 = .ok (.iaload, 1) := by decide +kernel
theorem dX3_isOpen_6 : decode cX3_isOpen 6 = .ok (.invokestatic 49, 3) := by decide +kernel
theorem dX3_isOpen_9 : decode cX3_isOpen 9 = .ok (.aload_n 0, 1) := by decide +kernel
theorem dX3_isOpen_10 : decode cX3_isOpen 10 = .ok (.getfield 59, 3) := by decide +kernel
theorem dX3_isOpen_13 : decode cX3_isOpen 13 = .ok (.if_icmp .gt 7, 3) := by decide +kernel
theorem dX3_isOpen_16 : decode cX3_isOpen 16 = .ok (.iconst 1, 1) := by decide +kernel
theorem dX3_isOpen_17 : decode cX3_isOpen 17 = .ok (.goto 4, 3) := by decide +kernel
theorem dX3_isOpen_20 : decode cX3_isOpen 20 = .ok (.iconst 0, 1) := by decide +kernel
theorem dX3_isOpen_21 : decode cX3_isOpen 21 = .ok (.ireturn, 1) := by decide +kernel
theorem dX3_firstOpen_0 : decode cX3_firstOpen 0 = .ok (.iconst 0, 1) := by decide +kernel
theorem dX3_firstOpen_1 : decode cX3_firstOpen 1 = .ok (.istore_n 1, 1) := by decide +kernel
theorem dX3_firstOpen_2 : decode cX3_firstOpen 2 = .ok (.iload_n 1, 1) := by decide +kernel
theorem dX3_firstOpen_3 : decode cX3_firstOpen 3 = .ok (.aload_n 0, 1) := by decide +kernel
theorem dX3_firstOpen_4 : decode cX3_firstOpen 4 = .ok (.getfield 28, 3) := by decide +kernel
theorem dX3_firstOpen_7 : decode cX3_firstOpen 7 = .ok (.if_icmp .ge 19, 3) := by decide +kernel
theorem dX3_firstOpen_10 : decode cX3_firstOpen 10 = .ok (.aload_n 0, 1) := by decide +kernel
theorem dX3_firstOpen_11 : decode cX3_firstOpen 11 = .ok (.iload_n 1, 1) := by decide +kernel
theorem dX3_firstOpen_12 : decode cX3_firstOpen 12 = .ok (.invokevirtual 62, 3) := by decide +kernel
theorem dX3_firstOpen_15 : decode cX3_firstOpen 15 = .ok (.ifCond .eq 5, 3) := by decide +kernel
theorem dX3_firstOpen_18 : decode cX3_firstOpen 18 = .ok (.iload_n 1, 1) := by decide +kernel
theorem dX3_firstOpen_19 : decode cX3_firstOpen 19 = .ok (.ireturn, 1) := by decide +kernel
theorem dX3_firstOpen_20 : decode cX3_firstOpen 20 = .ok (.iinc 1 1, 3) := by decide +kernel
theorem dX3_firstOpen_23 : decode cX3_firstOpen 23 = .ok (.goto (-21), 3) := by decide +kernel
theorem dX3_firstOpen_26 : decode cX3_firstOpen 26 = .ok (.bipush (-9), 2) := by decide +kernel
theorem dX3_firstOpen_28 : decode cX3_firstOpen 28 = .ok (.ireturn, 1) := by decide +kernel
theorem dX3_openColumns_0 : decode cX3_openColumns 0 = .ok (.iconst 0, 1) := by decide +kernel
theorem dX3_openColumns_1 : decode cX3_openColumns 1 = .ok (.istore_n 1, 1) := by decide +kernel
theorem dX3_openColumns_2 : decode cX3_openColumns 2 = .ok (.iconst 0, 1) := by decide +kernel
theorem dX3_openColumns_3 : decode cX3_openColumns 3 = .ok (.istore_n 2, 1) := by decide +kernel
theorem dX3_openColumns_4 : decode cX3_openColumns 4 = .ok (.iload_n 2, 1) := by decide +kernel
theorem dX3_openColumns_5 : decode cX3_openColumns 5 = .ok (.aload_n 0, 1) := by decide +kernel
theorem dX3_openColumns_6 : decode cX3_openColumns 6 = .ok (.getfield 28, 3) := by decide +kernel
theorem dX3_openColumns_9 : decode cX3_openColumns 9 = .ok (.if_icmp .ge 25, 3) := by decide +kernel
theorem dX3_openColumns_12 : decode cX3_openColumns 12 = .ok (.iload_n 1, 1) := by decide +kernel
theorem dX3_openColumns_13 : decode cX3_openColumns 13 = .ok (.aload_n 0, 1) := by decide +kernel
theorem dX3_openColumns_14 : decode cX3_openColumns 14 = .ok (.iload_n 2, 1) := by decide +kernel
theorem dX3_openColumns_15 : decode cX3_openColumns 15 = .ok (.invokevirtual 62, 3) := by decide +kernel
theorem dX3_openColumns_18 : decode cX3_openColumns 18 = .ok (.ifCond .eq 7, 3) := by decide +kernel
theorem dX3_openColumns_21 : decode cX3_openColumns 21 = .ok (.iconst 1, 1) := by decide +kernel
theorem dX3_openColumns_22 : decode cX3_openColumns 22 = .ok (.goto 4, 3) := by decide +kernel
theorem dX3_openColumns_25 : decode cX3_openColumns 25 = .ok (.iconst 0, 1) := by decide +kernel
theorem dX3_openColumns_26 : decode cX3_openColumns 26 = .ok (.iadd, 1) := by decide +kernel
theorem dX3_openColumns_27 : decode cX3_openColumns 27 = .ok (.istore_n 1, 1) := by decide +kernel
theorem dX3_openColumns_28 : decode cX3_openColumns 28 = .ok (.iinc 2 1, 3) := by decide +kernel
theorem dX3_openColumns_31 : decode cX3_openColumns 31 = .ok (.goto (-27), 3) := by decide +kernel
theorem dX3_openColumns_34 : decode cX3_openColumns 34 = .ok (.iload_n 1, 1) := by decide +kernel
theorem dX3_openColumns_35 : decode cX3_openColumns 35 = .ok (.ireturn, 1) := by decide +kernel
theorem dX3_standingCells_0 : decode cX3_standingCells 0 = .ok (.iconst 0, 1) := by decide +kernel
theorem dX3_standingCells_1 : decode cX3_standingCells 1 = .ok (.istore_n 1, 1) := by decide +kernel
theorem dX3_standingCells_2 : decode cX3_standingCells 2 = .ok (.iconst 0, 1) := by decide +kernel
theorem dX3_standingCells_3 : decode cX3_standingCells 3 = .ok (.istore_n 2, 1) := by decide +kernel
theorem dX3_standingCells_4 : decode cX3_standingCells 4 = .ok (.iload_n 2, 1) := by decide +kernel
theorem dX3_standingCells_5 : decode cX3_standingCells 5 = .ok (.aload_n 0, 1) := by decide +kernel
theorem dX3_standingCells_6 : decode cX3_standingCells 6 = .ok (.getfield 28, 3) := by decide +kernel
theorem dX3_standingCells_9 : decode cX3_standingCells 9 = .ok (.if_icmp .ge 21, 3) := by decide +kernel
theorem dX3_standingCells_12 : decode cX3_standingCells 12 = .ok (.iload_n 1, 1) := by decide +kernel
theorem dX3_standingCells_13 : decode cX3_standingCells 13 = .ok (.aload_n 0, 1) := by decide +kernel
theorem dX3_standingCells_14 : decode cX3_standingCells 14 = .ok (.getfield 15, 3) := by decide +kernel
theorem dX3_standingCells_17 : decode cX3_standingCells 17 = .ok (.iload_n 2, 1) := by decide +kernel
theorem dX3_standingCells_18 : decode cX3_standingCells 18 = .ok (.iaload, 1) := by decide +kernel
theorem dX3_standingCells_19 : decode cX3_standingCells 19 = .ok (.invokestatic 49, 3) := by decide +kernel
theorem dX3_standingCells_22 : decode cX3_standingCells 22 = .ok (.iadd, 1) := by decide +kernel
theorem dX3_standingCells_23 : decode cX3_standingCells 23 = .ok (.istore_n 1, 1) := by decide +kernel
theorem dX3_standingCells_24 : decode cX3_standingCells 24 = .ok (.iinc 2 1, 3) := by decide +kernel
theorem dX3_standingCells_27 : decode cX3_standingCells 27 = .ok (.goto (-23), 3) := by decide +kernel
theorem dX3_standingCells_30 : decode cX3_standingCells 30 = .ok (.iload_n 1, 1) := by decide +kernel
theorem dX3_standingCells_31 : decode cX3_standingCells 31 = .ok (.ireturn, 1) := by decide +kernel
theorem dX3_soonestColumn_0 : decode cX3_soonestColumn 0 = .ok (.iconst 0, 1) := by decide +kernel
theorem dX3_soonestColumn_1 : decode cX3_soonestColumn 1 = .ok (.istore_n 2, 1) := by decide +kernel
theorem dX3_soonestColumn_2 : decode cX3_soonestColumn 2 = .ok (.iconst 1, 1) := by decide +kernel
theorem dX3_soonestColumn_3 : decode cX3_soonestColumn 3 = .ok (.istore_n 3, 1) := by decide +kernel
theorem dX3_soonestColumn_4 : decode cX3_soonestColumn 4 = .ok (.iload_n 3, 1) := by decide +kernel
theorem dX3_soonestColumn_5 : decode cX3_soonestColumn 5 = .ok (.aload_n 0, 1) := by decide +kernel
theorem dX3_soonestColumn_6 : decode cX3_soonestColumn 6 = .ok (.getfield 28, 3) := by decide +kernel
theorem dX3_soonestColumn_9 : decode cX3_soonestColumn 9 = .ok (.if_icmp .ge 26, 3) := by decide +kernel
theorem dX3_soonestColumn_12 : decode cX3_soonestColumn 12 = .ok (.aload_n 0, 1) := by decide +kernel
theorem dX3_soonestColumn_13 : decode cX3_soonestColumn 13 = .ok (.iload_n 3, 1) := by decide +kernel
theorem dX3_soonestColumn_14 : decode cX3_soonestColumn 14 = .ok (.iload_n 1, 1) := by decide +kernel
theorem dX3_soonestColumn_15 : decode cX3_soonestColumn 15 = .ok (.invokevirtual 66, 3) := by decide +kernel
theorem dX3_soonestColumn_18 : decode cX3_soonestColumn 18 = .ok (.aload_n 0, 1) := by decide +kernel
theorem dX3_soonestColumn_19 : decode cX3_soonestColumn 19 = .ok (.iload_n 2, 1) := by decide +kernel
theorem dX3_soonestColumn_20 : decode cX3_soonestColumn 20 = .ok (.iload_n 1, 1) := by decide +kernel
theorem dX3_soonestColumn_21 : decode cX3_soonestColumn 21 = .ok (.invokevirtual 66, 3) := by decide +kernel
theorem dX3_soonestColumn_24 : decode cX3_soonestColumn 24 = .ok (.if_icmp .ge 5, 3) := by decide +kernel
theorem dX3_soonestColumn_27 : decode cX3_soonestColumn 27 = .ok (.iload_n 3, 1) := by decide +kernel
theorem dX3_soonestColumn_28 : decode cX3_soonestColumn 28 = .ok (.istore_n 2, 1) := by decide +kernel
theorem dX3_soonestColumn_29 : decode cX3_soonestColumn 29 = .ok (.iinc 3 1, 3) := by decide +kernel
theorem dX3_soonestColumn_32 : decode cX3_soonestColumn 32 = .ok (.goto (-28), 3) := by decide +kernel
theorem dX3_soonestColumn_35 : decode cX3_soonestColumn 35 = .ok (.iload_n 2, 1) := by decide +kernel
theorem dX3_soonestColumn_36 : decode cX3_soonestColumn 36 = .ok (.ireturn, 1) := by decide +kernel
theorem dX3_hitsToOpen_0 : decode cX3_hitsToOpen 0 = .ok (.iload_n 1, 1) := by decide +kernel
theorem dX3_hitsToOpen_1 : decode cX3_hitsToOpen 1 = .ok (.iconst 0, 1) := by decide +kernel
theorem dX3_hitsToOpen_2 : decode cX3_hitsToOpen 2 = .ok (.aload_n 0, 1) := by decide +kernel
theorem dX3_hitsToOpen_3 : decode cX3_hitsToOpen 3 = .ok (.getfield 28, 3) := by decide +kernel
theorem dX3_hitsToOpen_6 : decode cX3_hitsToOpen 6 = .ok (.iconst 1, 1) := by decide +kernel
theorem dX3_hitsToOpen_7 : decode cX3_hitsToOpen 7 = .ok (.isub, 1) := by decide +kernel
theorem dX3_hitsToOpen_8 : decode cX3_hitsToOpen 8 = .ok (.invokestatic 69, 3) := by decide +kernel
theorem dX3_hitsToOpen_11 : decode cX3_hitsToOpen 11 = .ok (.ifCond .ne 5, 3) := by decide +kernel
theorem dX3_hitsToOpen_14 : decode cX3_hitsToOpen 14 = .ok (.iconst (-1), 1) := by decide +kernel
theorem dX3_hitsToOpen_15 : decode cX3_hitsToOpen 15 = .ok (.ireturn, 1) := by decide +kernel
theorem dX3_hitsToOpen_16 : decode cX3_hitsToOpen 16 = .ok (.ldc 73, 2) := by decide +kernel
theorem dX3_hitsToOpen_18 : decode cX3_hitsToOpen 18 = .ok (.istore_n 3, 1) := by decide +kernel
theorem dX3_hitsToOpen_19 : decode cX3_hitsToOpen 19 = .ok (.iconst 0, 1) := by decide +kernel
theorem dX3_hitsToOpen_20 : decode cX3_hitsToOpen 20 = .ok (.istore 4, 2) := by decide +kernel
theorem dX3_hitsToOpen_22 : decode cX3_hitsToOpen 22 = .ok (.iload 4, 2) := by decide +kernel
theorem dX3_hitsToOpen_24 : decode cX3_hitsToOpen 24 = .ok (.iconst 1, 1) := by decide +kernel
theorem dX3_hitsToOpen_25 : decode cX3_hitsToOpen 25 = .ok (.aload_n 0, 1) := by decide +kernel
theorem dX3_hitsToOpen_26 : decode cX3_hitsToOpen 26 = .ok (.getfield 32, 3) := by decide +kernel
theorem dX3_hitsToOpen_29 : decode cX3_hitsToOpen 29 = .ok (.ishl, 1) := by decide +kernel
theorem dX3_hitsToOpen_30 : decode cX3_hitsToOpen 30 = .ok (.if_icmp .ge 60, 3) := by decide +kernel
theorem dX3_hitsToOpen_33 : decode cX3_hitsToOpen 33 = .ok (.iload 4, 2) := by decide +kernel
theorem dX3_hitsToOpen_35 : decode cX3_hitsToOpen 35 = .ok (.aload_n 0, 1) := by decide +kernel
theorem dX3_hitsToOpen_36 : decode cX3_hitsToOpen 36 = .ok (.getfield 15, 3) := by decide +kernel
theorem dX3_hitsToOpen_39 : decode cX3_hitsToOpen 39 = .ok (.iload_n 1, 1) := by decide +kernel
theorem dX3_hitsToOpen_40 : decode cX3_hitsToOpen 40 = .ok (.iaload, 1) := by decide +kernel
theorem dX3_hitsToOpen_41 : decode cX3_hitsToOpen 41 = .ok (.iconst (-1), 1) := by decide +kernel
theorem dX3_hitsToOpen_42 : decode cX3_hitsToOpen 42 = .ok (.ixor, 1) := by decide +kernel
theorem dX3_hitsToOpen_43 : decode cX3_hitsToOpen 43 = .ok (.iand, 1) := by decide +kernel
theorem dX3_hitsToOpen_44 : decode cX3_hitsToOpen 44 = .ok (.ifCond .ne 7, 3) := by decide +kernel
theorem dX3_hitsToOpen_47 : decode cX3_hitsToOpen 47 = .ok (.iconst 1, 1) := by decide +kernel
theorem dX3_hitsToOpen_48 : decode cX3_hitsToOpen 48 = .ok (.goto 4, 3) := by decide +kernel
theorem dX3_hitsToOpen_51 : decode cX3_hitsToOpen 51 = .ok (.iconst 0, 1) := by decide +kernel
theorem dX3_hitsToOpen_52 : decode cX3_hitsToOpen 52 = .ok (.istore 5, 2) := by decide +kernel
theorem dX3_hitsToOpen_54 : decode cX3_hitsToOpen 54 = .ok (.iload 5, 2) := by decide +kernel
theorem dX3_hitsToOpen_56 : decode cX3_hitsToOpen 56 = .ok (.ifCond .eq 28, 3) := by decide +kernel
theorem dX3_hitsToOpen_59 : decode cX3_hitsToOpen 59 = .ok (.iload 4, 2) := by decide +kernel
theorem dX3_hitsToOpen_61 : decode cX3_hitsToOpen 61 = .ok (.invokestatic 49, 3) := by decide +kernel
theorem dX3_hitsToOpen_64 : decode cX3_hitsToOpen 64 = .ok (.aload_n 0, 1) := by decide +kernel
theorem dX3_hitsToOpen_65 : decode cX3_hitsToOpen 65 = .ok (.getfield 59, 3) := by decide +kernel
theorem dX3_hitsToOpen_68 : decode cX3_hitsToOpen 68 = .ok (.if_icmp .gt 16, 3) := by decide +kernel
theorem dX3_hitsToOpen_71 : decode cX3_hitsToOpen 71 = .ok (.iload_n 3, 1) := by decide +kernel
theorem dX3_hitsToOpen_72 : decode cX3_hitsToOpen 72 = .ok (.aload_n 0, 1) := by decide +kernel
theorem dX3_hitsToOpen_73 : decode cX3_hitsToOpen 73 = .ok (.iload_n 1, 1) := by decide +kernel
theorem dX3_hitsToOpen_74 : decode cX3_hitsToOpen 74 = .ok (.iload 4, 2) := by decide +kernel
theorem dX3_hitsToOpen_76 : decode cX3_hitsToOpen 76 = .ok (.iload_n 2, 1) := by decide +kernel
theorem dX3_hitsToOpen_77 : decode cX3_hitsToOpen 77 = .ok (.invokevirtual 74, 3) := by decide +kernel
theorem dX3_hitsToOpen_80 : decode cX3_hitsToOpen 80 = .ok (.invokestatic 78, 3) := by decide +kernel
theorem dX3_hitsToOpen_83 : decode cX3_hitsToOpen 83 = .ok (.istore_n 3, 1) := by decide +kernel
theorem dX3_hitsToOpen_84 : decode cX3_hitsToOpen 84 = .ok (.iinc 4 1, 3) := by decide +kernel
theorem dX3_hitsToOpen_87 : decode cX3_hitsToOpen 87 = .ok (.goto (-65), 3) := by decide +kernel
theorem dX3_hitsToOpen_90 : decode cX3_hitsToOpen 90 = .ok (.iload_n 3, 1) := by decide +kernel
theorem dX3_hitsToOpen_91 : decode cX3_hitsToOpen 91 = .ok (.ireturn, 1) := by decide +kernel
theorem dX3_hitsToKeep_0 : decode cX3_hitsToKeep 0 = .ok (.iconst 0, 1) := by decide +kernel
theorem dX3_hitsToKeep_1 : decode cX3_hitsToKeep 1 = .ok (.istore 4, 2) := by decide +kernel
theorem dX3_hitsToKeep_3 : decode cX3_hitsToKeep 3 = .ok (.iconst 0, 1) := by decide +kernel
theorem dX3_hitsToKeep_4 : decode cX3_hitsToKeep 4 = .ok (.istore 5, 2) := by decide +kernel
theorem dX3_hitsToKeep_6 : decode cX3_hitsToKeep 6 = .ok (.iload 5, 2) := by decide +kernel
theorem dX3_hitsToKeep_8 : decode cX3_hitsToKeep 8 = .ok (.aload_n 0, 1) := by decide +kernel
theorem dX3_hitsToKeep_9 : decode cX3_hitsToKeep 9 = .ok (.getfield 32, 3) := by decide +kernel
theorem dX3_hitsToKeep_12 : decode cX3_hitsToKeep 12 = .ok (.if_icmp .ge 135, 3) := by decide +kernel
theorem dX3_hitsToKeep_15 : decode cX3_hitsToKeep 15 = .ok (.iload 5, 2) := by decide +kernel
theorem dX3_hitsToKeep_17 : decode cX3_hitsToKeep 17 = .ok (.ifCond .le 18, 3) := by decide +kernel
theorem dX3_hitsToKeep_20 : decode cX3_hitsToKeep 20 = .ok (.iload_n 2, 1) := by decide +kernel
theorem dX3_hitsToKeep_21 : decode cX3_hitsToKeep 21 = .ok (.iload 5, 2) := by decide +kernel
theorem dX3_hitsToKeep_23 : decode cX3_hitsToKeep 23 = .ok (.iconst 1, 1) := by decide +kernel
theorem dX3_hitsToKeep_24 : decode cX3_hitsToKeep 24 = .ok (.isub, 1) := by decide +kernel
theorem dX3_hitsToKeep_25 : decode cX3_hitsToKeep 25 = .ok (.invokestatic 39, 3) := by decide +kernel
theorem dX3_hitsToKeep_28 : decode cX3_hitsToKeep 28 = .ok (.ifCond .ne 7, 3) := by decide +kernel
theorem dX3_hitsToKeep_31 : decode cX3_hitsToKeep 31 = .ok (.iconst 1, 1) := by decide +kernel
theorem dX3_hitsToKeep_32 : decode cX3_hitsToKeep 32 = .ok (.goto 4, 3) := by decide +kernel
theorem dX3_hitsToKeep_35 : decode cX3_hitsToKeep 35 = .ok (.iconst 0, 1) := by decide +kernel
theorem dX3_hitsToKeep_36 : decode cX3_hitsToKeep 36 = .ok (.istore 6, 2) := by decide +kernel
theorem dX3_hitsToKeep_38 : decode cX3_hitsToKeep 38 = .ok (.iload 6, 2) := by decide +kernel
theorem dX3_hitsToKeep_40 : decode cX3_hitsToKeep 40 = .ok (.ifCond .eq 21, 3) := by decide +kernel
theorem dX3_hitsToKeep_43 : decode cX3_hitsToKeep 43 = .ok (.aload_n 0, 1) := by decide +kernel
theorem dX3_hitsToKeep_44 : decode cX3_hitsToKeep 44 = .ok (.getfield 18, 3) := by decide +kernel
theorem dX3_hitsToKeep_47 : decode cX3_hitsToKeep 47 = .ok (.iload_n 1, 1) := by decide +kernel
theorem dX3_hitsToKeep_48 : decode cX3_hitsToKeep 48 = .ok (.iaload, 1) := by decide +kernel
theorem dX3_hitsToKeep_49 : decode cX3_hitsToKeep 49 = .ok (.iload 5, 2) := by decide +kernel
theorem dX3_hitsToKeep_51 : decode cX3_hitsToKeep 51 = .ok (.invokestatic 39, 3) := by decide +kernel
theorem dX3_hitsToKeep_54 : decode cX3_hitsToKeep 54 = .ok (.ifCond .ne 7, 3) := by decide +kernel
theorem dX3_hitsToKeep_57 : decode cX3_hitsToKeep 57 = .ok (.iconst 1, 1) := by decide +kernel
theorem dX3_hitsToKeep_58 : decode cX3_hitsToKeep 58 = .ok (.goto 4, 3) := by decide +kernel
theorem dX3_hitsToKeep_61 : decode cX3_hitsToKeep 61 = .ok (.iconst 0, 1) := by decide +kernel
theorem dX3_hitsToKeep_62 : decode cX3_hitsToKeep 62 = .ok (.istore 7, 2) := by decide +kernel
theorem dX3_hitsToKeep_64 : decode cX3_hitsToKeep 64 = .ok (.iload_n 2, 1) := by decide +kernel
theorem dX3_hitsToKeep_65 : decode cX3_hitsToKeep 65 = .ok (.iload 5, 2) := by decide +kernel
theorem dX3_hitsToKeep_67 : decode cX3_hitsToKeep 67 = .ok (.invokestatic 39, 3) := by decide +kernel
theorem dX3_hitsToKeep_70 : decode cX3_hitsToKeep 70 = .ok (.ifCond .eq 11, 3) := by decide +kernel
theorem dX3_hitsToKeep_73 : decode cX3_hitsToKeep 73 = .ok (.iload 7, 2) := by decide +kernel
theorem dX3_hitsToKeep_75 : decode cX3_hitsToKeep 75 = .ok (.ifCond .eq 6, 3) := by decide +kernel
theorem dX3_hitsToKeep_78 : decode cX3_hitsToKeep 78 = .ok (.ldc 73, 2) := by decide +kernel
theorem dX3_hitsToKeep_80 : decode cX3_hitsToKeep 80 = .ok (.ireturn, 1) := by decide +kernel
theorem dX3_hitsToKeep_81 : decode cX3_hitsToKeep 81 = .ok (.aload_n 0, 1) := by decide +kernel
theorem dX3_hitsToKeep_82 : decode cX3_hitsToKeep 82 = .ok (.getfield 15, 3) := by decide +kernel
theorem dX3_hitsToKeep_85 : decode cX3_hitsToKeep 85 = .ok (.iload_n 1, 1) := by decide +kernel
theorem dX3_hitsToKeep_86 : decode cX3_hitsToKeep 86 = .ok (.iaload, 1) := by decide +kernel
theorem dX3_hitsToKeep_87 : decode cX3_hitsToKeep 87 = .ok (.iload 5, 2) := by decide +kernel
theorem dX3_hitsToKeep_89 : decode cX3_hitsToKeep 89 = .ok (.invokestatic 39, 3) := by decide +kernel
theorem dX3_hitsToKeep_92 : decode cX3_hitsToKeep 92 = .ok (.ifCond .eq 49, 3) := by decide +kernel
theorem dX3_hitsToKeep_95 : decode cX3_hitsToKeep 95 = .ok (.iload_n 2, 1) := by decide +kernel
theorem dX3_hitsToKeep_96 : decode cX3_hitsToKeep 96 = .ok (.iload 5, 2) := by decide +kernel
theorem dX3_hitsToKeep_98 : decode cX3_hitsToKeep 98 = .ok (.invokestatic 39, 3) := by decide +kernel
theorem dX3_hitsToKeep_101 : decode cX3_hitsToKeep 101 = .ok (.ifCond .ne 40, 3) := by decide +kernel
theorem dX3_hitsToKeep_104 : decode cX3_hitsToKeep 104 = .ok (.iload 7, 2) := by decide +kernel
theorem dX3_hitsToKeep_106 : decode cX3_hitsToKeep 106 = .ok (.ifCond .ne 35, 3) := by decide +kernel
theorem dX3_hitsToKeep_109 : decode cX3_hitsToKeep 109 = .ok (.iload 4, 2) := by decide +kernel
theorem dX3_hitsToKeep_111 : decode cX3_hitsToKeep 111 = .ok (.iload 6, 2) := by decide +kernel
theorem dX3_hitsToKeep_113 : decode cX3_hitsToKeep 113 = .ok (.ifCond .eq 7, 3) := by decide +kernel
theorem dX3_hitsToKeep_116 : decode cX3_hitsToKeep 116 = .ok (.iconst 1, 1) := by decide +kernel
theorem dX3_hitsToKeep_117 : decode cX3_hitsToKeep 117 = .ok (.goto 21, 3) := by decide +kernel
theorem dX3_hitsToKeep_120 : decode cX3_hitsToKeep 120 = .ok (.aload_n 0, 1) := by decide +kernel
theorem dX3_hitsToKeep_121 : decode cX3_hitsToKeep 121 = .ok (.getfield 11, 3) := by decide +kernel
theorem dX3_hitsToKeep_124 : decode cX3_hitsToKeep 124 = .ok (.iload_n 1, 1) := by decide +kernel
theorem dX3_hitsToKeep_125 : decode cX3_hitsToKeep 125 = .ok (.iload 5, 2) := by decide +kernel
theorem dX3_hitsToKeep_127 : decode cX3_hitsToKeep 127 = .ok (.invokestatic 42, 3) := by decide +kernel
theorem dX3_hitsToKeep_130 : decode cX3_hitsToKeep 130 = .ok (.iaload, 1) := by decide +kernel
theorem dX3_hitsToKeep_131 : decode cX3_hitsToKeep 131 = .ok (.i2l, 1) := by decide +kernel
theorem dX3_hitsToKeep_132 : decode cX3_hitsToKeep 132 = .ok (.iload_n 3, 1) := by decide +kernel
theorem dX3_hitsToKeep_133 : decode cX3_hitsToKeep 133 = .ok (.i2l, 1) := by decide +kernel
theorem dX3_hitsToKeep_134 : decode cX3_hitsToKeep 134 = .ok (.invokestatic 83, 3) := by decide +kernel
theorem dX3_hitsToKeep_137 : decode cX3_hitsToKeep 137 = .ok (.l2i, 1) := by decide +kernel
theorem dX3_hitsToKeep_138 : decode cX3_hitsToKeep 138 = .ok (.iadd, 1) := by decide +kernel
theorem dX3_hitsToKeep_139 : decode cX3_hitsToKeep 139 = .ok (.istore 4, 2) := by decide +kernel
theorem dX3_hitsToKeep_141 : decode cX3_hitsToKeep 141 = .ok (.iinc 5 1, 3) := by decide +kernel
theorem dX3_hitsToKeep_144 : decode cX3_hitsToKeep 144 = .ok (.goto (-138), 3) := by decide +kernel
theorem dX3_hitsToKeep_147 : decode cX3_hitsToKeep 147 = .ok (.iload 4, 2) := by decide +kernel
theorem dX3_hitsToKeep_149 : decode cX3_hitsToKeep 149 = .ok (.ireturn, 1) := by decide +kernel
theorem dX3_weightPlace_0 : decode cX3_weightPlace 0 = .ok (.iconst 4, 1) := by decide +kernel
theorem dX3_weightPlace_1 : decode cX3_weightPlace 1 = .ok (.iload_n 0, 1) := by decide +kernel
theorem dX3_weightPlace_2 : decode cX3_weightPlace 2 = .ok (.iadd, 1) := by decide +kernel
theorem dX3_weightPlace_3 : decode cX3_weightPlace 3 = .ok (.iconst 3, 1) := by decide +kernel
theorem dX3_weightPlace_4 : decode cX3_weightPlace 4 = .ok (.iload_n 1, 1) := by decide +kernel
theorem dX3_weightPlace_5 : decode cX3_weightPlace 5 = .ok (.imul, 1) := by decide +kernel
theorem dX3_weightPlace_6 : decode cX3_weightPlace 6 = .ok (.iadd, 1) := by decide +kernel
theorem dX3_weightPlace_7 : decode cX3_weightPlace 7 = .ok (.ireturn, 1) := by decide +kernel
theorem dX3_putWeight_0 : decode cX3_putWeight 0 = .ok (.iload_n 1, 1) := by decide +kernel
theorem dX3_putWeight_1 : decode cX3_putWeight 1 = .ok (.iload_n 2, 1) := by decide +kernel
theorem dX3_putWeight_2 : decode cX3_putWeight 2 = .ok (.invokestatic 87, 3) := by decide +kernel
theorem dX3_putWeight_5 : decode cX3_putWeight 5 = .ok (.istore 4, 2) := by decide +kernel
theorem dX3_putWeight_7 : decode cX3_putWeight 7 = .ok (.iload 4, 2) := by decide +kernel
theorem dX3_putWeight_9 : decode cX3_putWeight 9 = .ok (.iconst 0, 1) := by decide +kernel
theorem dX3_putWeight_10 : decode cX3_putWeight 10 = .ok (.aload_n 0, 1) := by decide +kernel
theorem dX3_putWeight_11 : decode cX3_putWeight 11 = .ok (.getfield 21, 3) := by decide +kernel
theorem dX3_putWeight_14 : decode cX3_putWeight 14 = .ok (.arraylength, 1) := by decide +kernel
theorem dX3_putWeight_15 : decode cX3_putWeight 15 = .ok (.iconst 1, 1) := by decide +kernel
theorem dX3_putWeight_16 : decode cX3_putWeight 16 = .ok (.isub, 1) := by decide +kernel
theorem dX3_putWeight_17 : decode cX3_putWeight 17 = .ok (.invokestatic 69, 3) := by decide +kernel
theorem dX3_putWeight_20 : decode cX3_putWeight 20 = .ok (.ifCond .ne 5, 3) := by decide +kernel
theorem dX3_putWeight_23 : decode cX3_putWeight 23 = .ok (.iconst (-1), 1) := by decide +kernel
theorem dX3_putWeight_24 : decode cX3_putWeight 24 = .ok (.ireturn, 1) := by decide +kernel
theorem dX3_putWeight_25 : decode cX3_putWeight 25 = .ok (.aload_n 0, 1) := by decide +kernel
theorem dX3_putWeight_26 : decode cX3_putWeight 26 = .ok (.getfield 21, 3) := by decide +kernel
theorem dX3_putWeight_29 : decode cX3_putWeight 29 = .ok (.iload 4, 2) := by decide +kernel
theorem dX3_putWeight_31 : decode cX3_putWeight 31 = .ok (.iaload, 1) := by decide +kernel
theorem dX3_putWeight_32 : decode cX3_putWeight 32 = .ok (.istore 5, 2) := by decide +kernel
theorem dX3_putWeight_34 : decode cX3_putWeight 34 = .ok (.aload_n 0, 1) := by decide +kernel
theorem dX3_putWeight_35 : decode cX3_putWeight 35 = .ok (.getfield 21, 3) := by decide +kernel
theorem dX3_putWeight_38 : decode cX3_putWeight 38 = .ok (.iload 4, 2) := by decide +kernel
theorem dX3_putWeight_40 : decode cX3_putWeight 40 = .ok (.iload_n 3, 1) := by decide +kernel
theorem dX3_putWeight_41 : decode cX3_putWeight 41 = .ok (.iastore, 1) := by decide +kernel
theorem dX3_putWeight_42 : decode cX3_putWeight 42 = .ok (.iload 5, 2) := by decide +kernel
theorem dX3_putWeight_44 : decode cX3_putWeight 44 = .ok (.ireturn, 1) := by decide +kernel
theorem dX3_worthOf_0 : decode cX3_worthOf 0 = .ok (.iconst 0, 1) := by decide +kernel
theorem dX3_worthOf_1 : decode cX3_worthOf 1 = .ok (.istore 4, 2) := by decide +kernel
theorem dX3_worthOf_3 : decode cX3_worthOf 3 = .ok (.iconst (-1), 1) := by decide +kernel
theorem dX3_worthOf_4 : decode cX3_worthOf 4 = .ok (.istore 5, 2) := by decide +kernel
theorem dX3_worthOf_6 : decode cX3_worthOf 6 = .ok (.iload 5, 2) := by decide +kernel
theorem dX3_worthOf_8 : decode cX3_worthOf 8 = .ok (.iconst 1, 1) := by decide +kernel
theorem dX3_worthOf_9 : decode cX3_worthOf 9 = .ok (.if_icmp .gt 55, 3) := by decide +kernel
theorem dX3_worthOf_12 : decode cX3_worthOf 12 = .ok (.iconst (-1), 1) := by decide +kernel
theorem dX3_worthOf_13 : decode cX3_worthOf 13 = .ok (.istore 6, 2) := by decide +kernel
theorem dX3_worthOf_15 : decode cX3_worthOf 15 = .ok (.iload 6, 2) := by decide +kernel
theorem dX3_worthOf_17 : decode cX3_worthOf 17 = .ok (.iconst 1, 1) := by decide +kernel
theorem dX3_worthOf_18 : decode cX3_worthOf 18 = .ok (.if_icmp .gt 40, 3) := by decide +kernel
theorem dX3_worthOf_21 : decode cX3_worthOf 21 = .ok (.iload 4, 2) := by decide +kernel
theorem dX3_worthOf_23 : decode cX3_worthOf 23 = .ok (.aload_n 0, 1) := by decide +kernel
theorem dX3_worthOf_24 : decode cX3_worthOf 24 = .ok (.getfield 21, 3) := by decide +kernel
theorem dX3_worthOf_27 : decode cX3_worthOf 27 = .ok (.iload 6, 2) := by decide +kernel
theorem dX3_worthOf_29 : decode cX3_worthOf 29 = .ok (.iload 5, 2) := by decide +kernel
theorem dX3_worthOf_31 : decode cX3_worthOf 31 = .ok (.invokestatic 87, 3) := by decide +kernel
theorem dX3_worthOf_34 : decode cX3_worthOf 34 = .ok (.iaload, 1) := by decide +kernel
theorem dX3_worthOf_35 : decode cX3_worthOf 35 = .ok (.aload_n 0, 1) := by decide +kernel
theorem dX3_worthOf_36 : decode cX3_worthOf 36 = .ok (.iload_n 1, 1) := by decide +kernel
theorem dX3_worthOf_37 : decode cX3_worthOf 37 = .ok (.iload 6, 2) := by decide +kernel
theorem dX3_worthOf_39 : decode cX3_worthOf 39 = .ok (.iadd, 1) := by decide +kernel
theorem dX3_worthOf_40 : decode cX3_worthOf 40 = .ok (.iload_n 2, 1) := by decide +kernel
theorem dX3_worthOf_41 : decode cX3_worthOf 41 = .ok (.iload 5, 2) := by decide +kernel
theorem dX3_worthOf_43 : decode cX3_worthOf 43 = .ok (.iadd, 1) := by decide +kernel
theorem dX3_worthOf_44 : decode cX3_worthOf 44 = .ok (.iload_n 3, 1) := by decide +kernel
theorem dX3_worthOf_45 : decode cX3_worthOf 45 = .ok (.invokevirtual 90, 3) := by decide +kernel
theorem dX3_worthOf_48 : decode cX3_worthOf 48 = .ok (.imul, 1) := by decide +kernel
theorem dX3_worthOf_49 : decode cX3_worthOf 49 = .ok (.iadd, 1) := by decide +kernel
theorem dX3_worthOf_50 : decode cX3_worthOf 50 = .ok (.istore 4, 2) := by decide +kernel
theorem dX3_worthOf_52 : decode cX3_worthOf 52 = .ok (.iinc 6 1, 3) := by decide +kernel
theorem dX3_worthOf_55 : decode cX3_worthOf 55 = .ok (.goto (-40), 3) := by decide +kernel
theorem dX3_worthOf_58 : decode cX3_worthOf 58 = .ok (.iinc 5 1, 3) := by decide +kernel
theorem dX3_worthOf_61 : decode cX3_worthOf 61 = .ok (.goto (-55), 3) := by decide +kernel
theorem dX3_worthOf_64 : decode cX3_worthOf 64 = .ok (.iload 4, 2) := by decide +kernel
theorem dX3_worthOf_66 : decode cX3_worthOf 66 = .ok (.ireturn, 1) := by decide +kernel
theorem dX3_fallsBy_0 : decode cX3_fallsBy 0 = .ok (.aload_n 0, 1) := by decide +kernel
theorem dX3_fallsBy_1 : decode cX3_fallsBy 1 = .ok (.iload_n 1, 1) := by decide +kernel
theorem dX3_fallsBy_2 : decode cX3_fallsBy 2 = .ok (.iload_n 2, 1) := by decide +kernel
theorem dX3_fallsBy_3 : decode cX3_fallsBy 3 = .ok (.invokevirtual 46, 3) := by decide +kernel
theorem dX3_fallsBy_6 : decode cX3_fallsBy 6 = .ok (.ifCond .ne 5, 3) := by decide +kernel
theorem dX3_fallsBy_9 : decode cX3_fallsBy 9 = .ok (.iconst 0, 1) := by decide +kernel
theorem dX3_fallsBy_10 : decode cX3_fallsBy 10 = .ok (.ireturn, 1) := by decide +kernel
theorem dX3_fallsBy_11 : decode cX3_fallsBy 11 = .ok (.aload_n 0, 1) := by decide +kernel
theorem dX3_fallsBy_12 : decode cX3_fallsBy 12 = .ok (.getfield 15, 3) := by decide +kernel
theorem dX3_fallsBy_15 : decode cX3_fallsBy 15 = .ok (.iload_n 1, 1) := by decide +kernel
theorem dX3_fallsBy_16 : decode cX3_fallsBy 16 = .ok (.iaload, 1) := by decide +kernel
theorem dX3_fallsBy_17 : decode cX3_fallsBy 17 = .ok (.istore 4, 2) := by decide +kernel
theorem dX3_fallsBy_19 : decode cX3_fallsBy 19 = .ok (.aload_n 0, 1) := by decide +kernel
theorem dX3_fallsBy_20 : decode cX3_fallsBy 20 = .ok (.getfield 18, 3) := by decide +kernel
theorem dX3_fallsBy_23 : decode cX3_fallsBy 23 = .ok (.iload_n 1, 1) := by decide +kernel
theorem dX3_fallsBy_24 : decode cX3_fallsBy 24 = .ok (.iaload, 1) := by decide +kernel
theorem dX3_fallsBy_25 : decode cX3_fallsBy 25 = .ok (.istore 5, 2) := by decide +kernel
theorem dX3_fallsBy_27 : decode cX3_fallsBy 27 = .ok (.aload_n 0, 1) := by decide +kernel
theorem dX3_fallsBy_28 : decode cX3_fallsBy 28 = .ok (.getfield 11, 3) := by decide +kernel
theorem dX3_fallsBy_31 : decode cX3_fallsBy 31 = .ok (.iload_n 1, 1) := by decide +kernel
theorem dX3_fallsBy_32 : decode cX3_fallsBy 32 = .ok (.iload_n 2, 1) := by decide +kernel
theorem dX3_fallsBy_33 : decode cX3_fallsBy 33 = .ok (.invokestatic 42, 3) := by decide +kernel
theorem dX3_fallsBy_36 : decode cX3_fallsBy 36 = .ok (.iaload, 1) := by decide +kernel
theorem dX3_fallsBy_37 : decode cX3_fallsBy 37 = .ok (.istore 6, 2) := by decide +kernel
theorem dX3_fallsBy_39 : decode cX3_fallsBy 39 = .ok (.aload_n 0, 1) := by decide +kernel
theorem dX3_fallsBy_40 : decode cX3_fallsBy 40 = .ok (.iload_n 1, 1) := by decide +kernel
theorem dX3_fallsBy_41 : decode cX3_fallsBy 41 = .ok (.iload_n 2, 1) := by decide +kernel
theorem dX3_fallsBy_42 : decode cX3_fallsBy 42 = .ok (.iload_n 3, 1) := by decide +kernel
theorem dX3_fallsBy_43 : decode cX3_fallsBy 43 = .ok (.invokevirtual 93, 3) := by decide +kernel
theorem dX3_fallsBy_46 : decode cX3_fallsBy 46 = .ok (.istore 7, 2) := by decide +kernel
theorem dX3_fallsBy_48 : decode cX3_fallsBy 48 = .ok (.aload_n 0, 1) := by decide +kernel
theorem dX3_fallsBy_49 : decode cX3_fallsBy 49 = .ok (.getfield 15, 3) := by decide +kernel
theorem dX3_fallsBy_52 : decode cX3_fallsBy 52 = .ok (.iload_n 1, 1) := by decide +kernel
theorem dX3_fallsBy_53 : decode cX3_fallsBy 53 = .ok (.iload 4, 2) := by decide +kernel
theorem dX3_fallsBy_55 : decode cX3_fallsBy 55 = .ok (.iastore, 1) := by decide +kernel
theorem dX3_fallsBy_56 : decode cX3_fallsBy 56 = .ok (.aload_n 0, 1) := by decide +kernel
theorem dX3_fallsBy_57 : decode cX3_fallsBy 57 = .ok (.getfield 18, 3) := by decide +kernel
theorem dX3_fallsBy_60 : decode cX3_fallsBy 60 = .ok (.iload_n 1, 1) := by decide +kernel
theorem dX3_fallsBy_61 : decode cX3_fallsBy 61 = .ok (.iload 5, 2) := by decide +kernel
theorem dX3_fallsBy_63 : decode cX3_fallsBy 63 = .ok (.iastore, 1) := by decide +kernel
theorem dX3_fallsBy_64 : decode cX3_fallsBy 64 = .ok (.aload_n 0, 1) := by decide +kernel
theorem dX3_fallsBy_65 : decode cX3_fallsBy 65 = .ok (.getfield 11, 3) := by decide +kernel
theorem dX3_fallsBy_68 : decode cX3_fallsBy 68 = .ok (.iload_n 1, 1) := by decide +kernel
theorem dX3_fallsBy_69 : decode cX3_fallsBy 69 = .ok (.iload_n 2, 1) := by decide +kernel
theorem dX3_fallsBy_70 : decode cX3_fallsBy 70 = .ok (.invokestatic 42, 3) := by decide +kernel
theorem dX3_fallsBy_73 : decode cX3_fallsBy 73 = .ok (.iload 6, 2) := by decide +kernel
theorem dX3_fallsBy_75 : decode cX3_fallsBy 75 = .ok (.iastore, 1) := by decide +kernel
theorem dX3_fallsBy_76 : decode cX3_fallsBy 76 = .ok (.iload 7, 2) := by decide +kernel
theorem dX3_fallsBy_78 : decode cX3_fallsBy 78 = .ok (.ireturn, 1) := by decide +kernel
theorem dX3_columnOf_0 : decode cX3_columnOf 0 = .ok (.aload_n 0, 1) := by decide +kernel
theorem dX3_columnOf_1 : decode cX3_columnOf 1 = .ok (.getfield 28, 3) := by decide +kernel
theorem dX3_columnOf_4 : decode cX3_columnOf 4 = .ok (.ifCond .le 12, 3) := by decide +kernel
theorem dX3_columnOf_7 : decode cX3_columnOf 7 = .ok (.iload_n 1, 1) := by decide +kernel
theorem dX3_columnOf_8 : decode cX3_columnOf 8 = .ok (.aload_n 0, 1) := by decide +kernel
theorem dX3_columnOf_9 : decode cX3_columnOf 9 = .ok (.getfield 28, 3) := by decide +kernel
theorem dX3_columnOf_12 : decode cX3_columnOf 12 = .ok (.irem, 1) := by decide +kernel
theorem dX3_columnOf_13 : decode cX3_columnOf 13 = .ok (.goto 4, 3) := by decide +kernel
theorem dX3_columnOf_16 : decode cX3_columnOf 16 = .ok (.iconst 0, 1) := by decide +kernel
theorem dX3_columnOf_17 : decode cX3_columnOf 17 = .ok (.ireturn, 1) := by decide +kernel
theorem dX3_rowOf_0 : decode cX3_rowOf 0 = .ok (.aload_n 0, 1) := by decide +kernel
theorem dX3_rowOf_1 : decode cX3_rowOf 1 = .ok (.getfield 28, 3) := by decide +kernel
theorem dX3_rowOf_4 : decode cX3_rowOf 4 = .ok (.ifCond .le 12, 3) := by decide +kernel
theorem dX3_rowOf_7 : decode cX3_rowOf 7 = .ok (.iload_n 1, 1) := by decide +kernel
theorem dX3_rowOf_8 : decode cX3_rowOf 8 = .ok (.aload_n 0, 1) := by decide +kernel
theorem dX3_rowOf_9 : decode cX3_rowOf 9 = .ok (.getfield 28, 3) := by decide +kernel
theorem dX3_rowOf_12 : decode cX3_rowOf 12 = .ok (.idiv, 1) := by decide +kernel
theorem dX3_rowOf_13 : decode cX3_rowOf 13 = .ok (.goto 4, 3) := by decide +kernel
theorem dX3_rowOf_16 : decode cX3_rowOf 16 = .ok (.iconst 0, 1) := by decide +kernel
theorem dX3_rowOf_17 : decode cX3_rowOf 17 = .ok (.ireturn, 1) := by decide +kernel
theorem dX3_bestAim_0 : decode cX3_bestAim 0 = .ok (.iconst 0, 1) := by decide +kernel
theorem dX3_bestAim_1 : decode cX3_bestAim 1 = .ok (.istore_n 2, 1) := by decide +kernel
theorem dX3_bestAim_2 : decode cX3_bestAim 2 = .ok (.iconst (-1), 1) := by decide +kernel
theorem dX3_bestAim_3 : decode cX3_bestAim 3 = .ok (.istore_n 3, 1) := by decide +kernel
theorem dX3_bestAim_4 : decode cX3_bestAim 4 = .ok (.iconst 0, 1) := by decide +kernel
theorem dX3_bestAim_5 : decode cX3_bestAim 5 = .ok (.istore 4, 2) := by decide +kernel
theorem dX3_bestAim_7 : decode cX3_bestAim 7 = .ok (.iload 4, 2) := by decide +kernel
theorem dX3_bestAim_9 : decode cX3_bestAim 9 = .ok (.aload_n 0, 1) := by decide +kernel
theorem dX3_bestAim_10 : decode cX3_bestAim 10 = .ok (.getfield 28, 3) := by decide +kernel
theorem dX3_bestAim_13 : decode cX3_bestAim 13 = .ok (.aload_n 0, 1) := by decide +kernel
theorem dX3_bestAim_14 : decode cX3_bestAim 14 = .ok (.getfield 32, 3) := by decide +kernel
theorem dX3_bestAim_17 : decode cX3_bestAim 17 = .ok (.imul, 1) := by decide +kernel
theorem dX3_bestAim_18 : decode cX3_bestAim 18 = .ok (.if_icmp .ge 40, 3) := by decide +kernel
theorem dX3_bestAim_21 : decode cX3_bestAim 21 = .ok (.aload_n 0, 1) := by decide +kernel
theorem dX3_bestAim_22 : decode cX3_bestAim 22 = .ok (.aload_n 0, 1) := by decide +kernel
theorem dX3_bestAim_23 : decode cX3_bestAim 23 = .ok (.iload 4, 2) := by decide +kernel
theorem dX3_bestAim_25 : decode cX3_bestAim 25 = .ok (.invokevirtual 96, 3) := by decide +kernel
theorem dX3_bestAim_28 : decode cX3_bestAim 28 = .ok (.aload_n 0, 1) := by decide +kernel
theorem dX3_bestAim_29 : decode cX3_bestAim 29 = .ok (.iload 4, 2) := by decide +kernel
theorem dX3_bestAim_31 : decode cX3_bestAim 31 = .ok (.invokevirtual 99, 3) := by decide +kernel
theorem dX3_bestAim_34 : decode cX3_bestAim 34 = .ok (.iload_n 1, 1) := by decide +kernel
theorem dX3_bestAim_35 : decode cX3_bestAim 35 = .ok (.invokevirtual 102, 3) := by decide +kernel
theorem dX3_bestAim_38 : decode cX3_bestAim 38 = .ok (.istore 5, 2) := by decide +kernel
theorem dX3_bestAim_40 : decode cX3_bestAim 40 = .ok (.iload 5, 2) := by decide +kernel
theorem dX3_bestAim_42 : decode cX3_bestAim 42 = .ok (.iload_n 3, 1) := by decide +kernel
theorem dX3_bestAim_43 : decode cX3_bestAim 43 = .ok (.if_icmp .le 9, 3) := by decide +kernel
theorem dX3_bestAim_46 : decode cX3_bestAim 46 = .ok (.iload 5, 2) := by decide +kernel
theorem dX3_bestAim_48 : decode cX3_bestAim 48 = .ok (.istore_n 3, 1) := by decide +kernel
theorem dX3_bestAim_49 : decode cX3_bestAim 49 = .ok (.iload 4, 2) := by decide +kernel
theorem dX3_bestAim_51 : decode cX3_bestAim 51 = .ok (.istore_n 2, 1) := by decide +kernel
theorem dX3_bestAim_52 : decode cX3_bestAim 52 = .ok (.iinc 4 1, 3) := by decide +kernel
theorem dX3_bestAim_55 : decode cX3_bestAim 55 = .ok (.goto (-48), 3) := by decide +kernel
theorem dX3_bestAim_58 : decode cX3_bestAim 58 = .ok (.iload_n 2, 1) := by decide +kernel
theorem dX3_bestAim_59 : decode cX3_bestAim 59 = .ok (.ireturn, 1) := by decide +kernel
theorem dX3_heldAfter_0 : decode cX3_heldAfter 0 = .ok (.iload 4, 2) := by decide +kernel
theorem dX3_heldAfter_2 : decode cX3_heldAfter 2 = .ok (.ifCond .le 9, 3) := by decide +kernel
theorem dX3_heldAfter_5 : decode cX3_heldAfter 5 = .ok (.iload 4, 2) := by decide +kernel
theorem dX3_heldAfter_7 : decode cX3_heldAfter 7 = .ok (.iconst 4, 1) := by decide +kernel
theorem dX3_heldAfter_8 : decode cX3_heldAfter 8 = .ok (.if_icmp .le 5, 3) := by decide +kernel
theorem dX3_heldAfter_11 : decode cX3_heldAfter 11 = .ok (.lconst 1, 1) := by decide +kernel
theorem dX3_heldAfter_12 : decode cX3_heldAfter 12 = .ok (.lreturn, 1) := by decide +kernel
theorem dX3_heldAfter_13 : decode cX3_heldAfter 13 = .ok (.lconst 0, 1) := by decide +kernel
theorem dX3_heldAfter_14 : decode cX3_heldAfter 14 = .ok (.lstore 5, 2) := by decide +kernel
theorem dX3_heldAfter_16 : decode cX3_heldAfter 16 = .ok (.iconst 0, 1) := by decide +kernel
theorem dX3_heldAfter_17 : decode cX3_heldAfter 17 = .ok (.istore 7, 2) := by decide +kernel
theorem dX3_heldAfter_19 : decode cX3_heldAfter 19 = .ok (.iload 7, 2) := by decide +kernel
theorem dX3_heldAfter_21 : decode cX3_heldAfter 21 = .ok (.aload_n 0, 1) := by decide +kernel
theorem dX3_heldAfter_22 : decode cX3_heldAfter 22 = .ok (.getfield 21, 3) := by decide +kernel
theorem dX3_heldAfter_25 : decode cX3_heldAfter 25 = .ok (.arraylength, 1) := by decide +kernel
theorem dX3_heldAfter_26 : decode cX3_heldAfter 26 = .ok (.if_icmp .ge 44, 3) := by decide +kernel
theorem dX3_heldAfter_29 : decode cX3_heldAfter 29 = .ok (.aload_n 0, 1) := by decide +kernel
theorem dX3_heldAfter_30 : decode cX3_heldAfter 30 = .ok (.getfield 21, 3) := by decide +kernel
theorem dX3_heldAfter_33 : decode cX3_heldAfter 33 = .ok (.iload 7, 2) := by decide +kernel
theorem dX3_heldAfter_35 : decode cX3_heldAfter 35 = .ok (.iaload, 1) := by decide +kernel
theorem dX3_heldAfter_36 : decode cX3_heldAfter 36 = .ok (.ifCond .le 28, 3) := by decide +kernel
theorem dX3_heldAfter_39 : decode cX3_heldAfter 39 = .ok (.lload 5, 2) := by decide +kernel
theorem dX3_heldAfter_41 : decode cX3_heldAfter 41 = .ok (.aload_n 0, 1) := by decide +kernel
theorem dX3_heldAfter_42 : decode cX3_heldAfter 42 = .ok (.getfield 21, 3) := by decide +kernel
theorem dX3_heldAfter_45 : decode cX3_heldAfter 45 = .ok (.iload 7, 2) := by decide +kernel
theorem dX3_heldAfter_47 : decode cX3_heldAfter 47 = .ok (.iaload, 1) := by decide +kernel
theorem dX3_heldAfter_48 : decode cX3_heldAfter 48 = .ok (.i2l, 1) := by decide +kernel
theorem dX3_heldAfter_49 : decode cX3_heldAfter 49 = .ok (.aload_n 0, 1) := by decide +kernel
theorem dX3_heldAfter_50 : decode cX3_heldAfter 50 = .ok (.iload 7, 2) := by decide +kernel
theorem dX3_heldAfter_52 : decode cX3_heldAfter 52 = .ok (.iload_n 1, 1) := by decide +kernel
theorem dX3_heldAfter_53 : decode cX3_heldAfter 53 = .ok (.iload_n 2, 1) := by decide +kernel
theorem dX3_heldAfter_54 : decode cX3_heldAfter 54 = .ok (.iload_n 3, 1) := by decide +kernel
theorem dX3_heldAfter_55 : decode cX3_heldAfter 55 = .ok (.iload 4, 2) := by decide +kernel
theorem dX3_heldAfter_57 : decode cX3_heldAfter 57 = .ok (.invokestatic 105, 3) := by decide +kernel
theorem dX3_heldAfter_60 : decode cX3_heldAfter 60 = .ok (.lmul, 1) := by decide +kernel
theorem dX3_heldAfter_61 : decode cX3_heldAfter 61 = .ok (.ladd, 1) := by decide +kernel
theorem dX3_heldAfter_62 : decode cX3_heldAfter 62 = .ok (.lstore 5, 2) := by decide +kernel
theorem dX3_heldAfter_64 : decode cX3_heldAfter 64 = .ok (.iinc 7 1, 3) := by decide +kernel
theorem dX3_heldAfter_67 : decode cX3_heldAfter 67 = .ok (.goto (-48), 3) := by decide +kernel
theorem dX3_heldAfter_70 : decode cX3_heldAfter 70 = .ok (.lload 5, 2) := by decide +kernel
theorem dX3_heldAfter_72 : decode cX3_heldAfter 72 = .ok (.lreturn, 1) := by decide +kernel
theorem dX3_heldBy_0 : decode cX3_heldBy 0 = .ok (.iload_n 2, 1) := by decide +kernel
theorem dX3_heldBy_1 : decode cX3_heldBy 1 = .ok (.iload_n 1, 1) := by decide +kernel
theorem dX3_heldBy_2 : decode cX3_heldBy 2 = .ok (.iconst 3, 1) := by decide +kernel
theorem dX3_heldBy_3 : decode cX3_heldBy 3 = .ok (.irem, 1) := by decide +kernel
theorem dX3_heldBy_4 : decode cX3_heldBy 4 = .ok (.iadd, 1) := by decide +kernel
theorem dX3_heldBy_5 : decode cX3_heldBy 5 = .ok (.iconst 1, 1) := by decide +kernel
theorem dX3_heldBy_6 : decode cX3_heldBy 6 = .ok (.isub, 1) := by decide +kernel
theorem dX3_heldBy_7 : decode cX3_heldBy 7 = .ok (.istore 6, 2) := by decide +kernel
theorem dX3_heldBy_9 : decode cX3_heldBy 9 = .ok (.iload_n 3, 1) := by decide +kernel
theorem dX3_heldBy_10 : decode cX3_heldBy 10 = .ok (.iload_n 1, 1) := by decide +kernel
theorem dX3_heldBy_11 : decode cX3_heldBy 11 = .ok (.iconst 3, 1) := by decide +kernel
theorem dX3_heldBy_12 : decode cX3_heldBy 12 = .ok (.idiv, 1) := by decide +kernel
theorem dX3_heldBy_13 : decode cX3_heldBy 13 = .ok (.iadd, 1) := by decide +kernel
theorem dX3_heldBy_14 : decode cX3_heldBy 14 = .ok (.iconst 1, 1) := by decide +kernel
theorem dX3_heldBy_15 : decode cX3_heldBy 15 = .ok (.isub, 1) := by decide +kernel
theorem dX3_heldBy_16 : decode cX3_heldBy 16 = .ok (.istore 7, 2) := by decide +kernel
theorem dX3_heldBy_18 : decode cX3_heldBy 18 = .ok (.aload_n 0, 1) := by decide +kernel
theorem dX3_heldBy_19 : decode cX3_heldBy 19 = .ok (.iload 6, 2) := by decide +kernel
theorem dX3_heldBy_21 : decode cX3_heldBy 21 = .ok (.iload 7, 2) := by decide +kernel
theorem dX3_heldBy_23 : decode cX3_heldBy 23 = .ok (.invokevirtual 46, 3) := by decide +kernel
theorem dX3_heldBy_26 : decode cX3_heldBy 26 = .ok (.ifCond .ne 16, 3) := by decide +kernel
theorem dX3_heldBy_29 : decode cX3_heldBy 29 = .ok (.aload_n 0, 1) := by decide +kernel
theorem dX3_heldBy_30 : decode cX3_heldBy 30 = .ok (.iload_n 2, 1) := by decide +kernel
theorem dX3_heldBy_31 : decode cX3_heldBy 31 = .ok (.iload_n 3, 1) := by decide +kernel
theorem dX3_heldBy_32 : decode cX3_heldBy 32 = .ok (.iload 4, 2) := by decide +kernel
theorem dX3_heldBy_34 : decode cX3_heldBy 34 = .ok (.iload 5, 2) := by decide +kernel
theorem dX3_heldBy_36 : decode cX3_heldBy 36 = .ok (.iconst 1, 1) := by decide +kernel
theorem dX3_heldBy_37 : decode cX3_heldBy 37 = .ok (.isub, 1) := by decide +kernel
theorem dX3_heldBy_38 : decode cX3_heldBy 38 = .ok (.invokestatic 109, 3) := by decide +kernel
theorem dX3_heldBy_41 : decode cX3_heldBy 41 = .ok (.lreturn, 1) := by decide +kernel
theorem dX3_heldBy_42 : decode cX3_heldBy 42 = .ok (.aload_n 0, 1) := by decide +kernel
theorem dX3_heldBy_43 : decode cX3_heldBy 43 = .ok (.getfield 15, 3) := by decide +kernel
theorem dX3_heldBy_46 : decode cX3_heldBy 46 = .ok (.iload 6, 2) := by decide +kernel
theorem dX3_heldBy_48 : decode cX3_heldBy 48 = .ok (.iaload, 1) := by decide +kernel
theorem dX3_heldBy_49 : decode cX3_heldBy 49 = .ok (.istore 8, 2) := by decide +kernel
theorem dX3_heldBy_51 : decode cX3_heldBy 51 = .ok (.aload_n 0, 1) := by decide +kernel
theorem dX3_heldBy_52 : decode cX3_heldBy 52 = .ok (.getfield 18, 3) := by decide +kernel
theorem dX3_heldBy_55 : decode cX3_heldBy 55 = .ok (.iload 6, 2) := by decide +kernel
theorem dX3_heldBy_57 : decode cX3_heldBy 57 = .ok (.iaload, 1) := by decide +kernel
theorem dX3_heldBy_58 : decode cX3_heldBy 58 = .ok (.istore 9, 2) := by decide +kernel
theorem dX3_heldBy_60 : decode cX3_heldBy 60 = .ok (.aload_n 0, 1) := by decide +kernel
theorem dX3_heldBy_61 : decode cX3_heldBy 61 = .ok (.getfield 11, 3) := by decide +kernel
theorem dX3_heldBy_64 : decode cX3_heldBy 64 = .ok (.iload 6, 2) := by decide +kernel
theorem dX3_heldBy_66 : decode cX3_heldBy 66 = .ok (.iload 7, 2) := by decide +kernel
theorem dX3_heldBy_68 : decode cX3_heldBy 68 = .ok (.invokestatic 42, 3) := by decide +kernel
theorem dX3_heldBy_71 : decode cX3_heldBy 71 = .ok (.iaload, 1) := by decide +kernel
theorem dX3_heldBy_72 : decode cX3_heldBy 72 = .ok (.istore 10, 2) := by decide +kernel
theorem dX3_heldBy_74 : decode cX3_heldBy 74 = .ok (.aload_n 0, 1) := by decide +kernel
theorem dX3_heldBy_75 : decode cX3_heldBy 75 = .ok (.iload 6, 2) := by decide +kernel
theorem dX3_heldBy_77 : decode cX3_heldBy 77 = .ok (.iload 7, 2) := by decide +kernel
theorem dX3_heldBy_79 : decode cX3_heldBy 79 = .ok (.iload 4, 2) := by decide +kernel
theorem dX3_heldBy_81 : decode cX3_heldBy 81 = .ok (.invokevirtual 93, 3) := by decide +kernel
theorem dX3_heldBy_84 : decode cX3_heldBy 84 = .ok (.pop, 1) := by decide +kernel
theorem dX3_heldBy_85 : decode cX3_heldBy 85 = .ok (.aload_n 0, 1) := by decide +kernel
theorem dX3_heldBy_86 : decode cX3_heldBy 86 = .ok (.iload 6, 2) := by decide +kernel
theorem dX3_heldBy_88 : decode cX3_heldBy 88 = .ok (.invokevirtual 62, 3) := by decide +kernel
theorem dX3_heldBy_91 : decode cX3_heldBy 91 = .ok (.ifCond .eq 7, 3) := by decide +kernel
theorem dX3_heldBy_94 : decode cX3_heldBy 94 = .ok (.lconst 0, 1) := by decide +kernel
theorem dX3_heldBy_95 : decode cX3_heldBy 95 = .ok (.goto 15, 3) := by decide +kernel
theorem dX3_heldBy_98 : decode cX3_heldBy 98 = .ok (.aload_n 0, 1) := by decide +kernel
theorem dX3_heldBy_99 : decode cX3_heldBy 99 = .ok (.iload_n 2, 1) := by decide +kernel
theorem dX3_heldBy_100 : decode cX3_heldBy 100 = .ok (.iload_n 3, 1) := by decide +kernel
theorem dX3_heldBy_101 : decode cX3_heldBy 101 = .ok (.iload 4, 2) := by decide +kernel
theorem dX3_heldBy_103 : decode cX3_heldBy 103 = .ok (.iload 5, 2) := by decide +kernel
theorem dX3_heldBy_105 : decode cX3_heldBy 105 = .ok (.iconst 1, 1) := by decide +kernel
theorem dX3_heldBy_106 : decode cX3_heldBy 106 = .ok (.isub, 1) := by decide +kernel
theorem dX3_heldBy_107 : decode cX3_heldBy 107 = .ok (.invokestatic 109, 3) := by decide +kernel
theorem dX3_heldBy_110 : decode cX3_heldBy 110 = .ok (.lstore 11, 2) := by decide +kernel
theorem dX3_heldBy_112 : decode cX3_heldBy 112 = .ok (.aload_n 0, 1) := by decide +kernel
theorem dX3_heldBy_113 : decode cX3_heldBy 113 = .ok (.getfield 15, 3) := by decide +kernel
theorem dX3_heldBy_116 : decode cX3_heldBy 116 = .ok (.iload 6, 2) := by decide +kernel
theorem dX3_heldBy_118 : decode cX3_heldBy 118 = .ok (.iload 8, 2) := by decide +kernel
theorem dX3_heldBy_120 : decode cX3_heldBy 120 = .ok (.iastore, 1) := by decide +kernel
theorem dX3_heldBy_121 : decode cX3_heldBy 121 = .ok (.aload_n 0, 1) := by decide +kernel
theorem dX3_heldBy_122 : decode cX3_heldBy 122 = .ok (.getfield 18, 3) := by decide +kernel
theorem dX3_heldBy_125 : decode cX3_heldBy 125 = .ok (.iload 6, 2) := by decide +kernel
theorem dX3_heldBy_127 : decode cX3_heldBy 127 = .ok (.iload 9, 2) := by decide +kernel
theorem dX3_heldBy_129 : decode cX3_heldBy 129 = .ok (.iastore, 1) := by decide +kernel
theorem dX3_heldBy_130 : decode cX3_heldBy 130 = .ok (.aload_n 0, 1) := by decide +kernel
theorem dX3_heldBy_131 : decode cX3_heldBy 131 = .ok (.getfield 11, 3) := by decide +kernel
theorem dX3_heldBy_134 : decode cX3_heldBy 134 = .ok (.iload 6, 2) := by decide +kernel
theorem dX3_heldBy_136 : decode cX3_heldBy 136 = .ok (.iload 7, 2) := by decide +kernel
theorem dX3_heldBy_138 : decode cX3_heldBy 138 = .ok (.invokestatic 42, 3) := by decide +kernel
theorem dX3_heldBy_141 : decode cX3_heldBy 141 = .ok (.iload 10, 2) := by decide +kernel
theorem dX3_heldBy_143 : decode cX3_heldBy 143 = .ok (.iastore, 1) := by decide +kernel
theorem dX3_heldBy_144 : decode cX3_heldBy 144 = .ok (.lload 11, 2) := by decide +kernel
theorem dX3_heldBy_146 : decode cX3_heldBy 146 = .ok (.lreturn, 1) := by decide +kernel
theorem dX4_init_0 : decode cX4_init 0 = .ok (.aload_n 0, 1) := by decide +kernel
theorem dX4_init_1 : decode cX4_init 1 = .ok (.invokespecial 1, 3) := by decide +kernel
theorem dX4_init_4 : decode cX4_init 4 = .ok (.aload_n 0, 1) := by decide +kernel
theorem dX4_init_5 : decode cX4_init 5 = .ok (.new 7, 3) := by decide +kernel
theorem dX4_init_8 : decode cX4_init 8 = .ok (.dup, 1) := by decide +kernel
theorem dX4_init_9 : decode cX4_init 9 = .ok (.invokespecial 9, 3) := by decide +kernel
theorem dX4_init_12 : decode cX4_init 12 = .ok (.putfield 10, 3) := by decide +kernel
theorem dX4_init_15 : decode cX4_init 15 = .ok (.aload_n 0, 1) := by decide +kernel
theorem dX4_init_16 : decode cX4_init 16 = .ok (.new 16, 3) := by decide +kernel
theorem dX4_init_19 : decode cX4_init 19 = .ok (.dup, 1) := by decide +kernel
theorem dX4_init_20 : decode cX4_init 20 = .ok (.invokespecial 18, 3) := by decide +kernel
theorem dX4_init_23 : decode cX4_init 23 = .ok (.putfield 19, 3) := by decide +kernel
theorem dX4_init_26 : decode cX4_init 26 = .ok (.aload_n 0, 1) := by decide +kernel
theorem dX4_init_27 : decode cX4_init 27 = .ok (.new 23, 3) := by decide +kernel
theorem dX4_init_30 : decode cX4_init 30 = .ok (.dup, 1) := by decide +kernel
theorem dX4_init_31 : decode cX4_init 31 = .ok (.invokespecial 25, 3) := by decide +kernel
theorem dX4_init_34 : decode cX4_init 34 = .ok (.putfield 26, 3) := by decide +kernel
theorem dX4_init_37 : decode cX4_init 37 = .ok (.aload_n 0, 1) := by decide +kernel
theorem dX4_init_38 : decode cX4_init 38 = .ok (.new 30, 3) := by decide +kernel
theorem dX4_init_41 : decode cX4_init 41 = .ok (.dup, 1) := by decide +kernel
theorem dX4_init_42 : decode cX4_init 42 = .ok (.invokespecial 32, 3) := by decide +kernel
theorem dX4_init_45 : decode cX4_init 45 = .ok (.putfield 33, 3) := by decide +kernel
theorem dX4_init_48 : decode cX4_init 48 = .ok (.aload_n 0, 1) := by decide +kernel
theorem dX4_init_49 : decode cX4_init 49 = .ok (.iconst 0, 1) := by decide +kernel
theorem dX4_init_50 : decode cX4_init 50 = .ok (.putfield 37, 3) := by decide +kernel
theorem dX4_init_53 : decode cX4_init 53 = .ok (.return_, 1) := by decide +kernel
theorem dX4_set_0 : decode cX4_set 0 = .ok (.aload_n 0, 1) := by decide +kernel
theorem dX4_set_1 : decode cX4_set 1 = .ok (.getfield 10, 3) := by decide +kernel
theorem dX4_set_4 : decode cX4_set 4 = .ok (.iload_n 1, 1) := by decide +kernel
theorem dX4_set_5 : decode cX4_set 5 = .ok (.iload_n 2, 1) := by decide +kernel
theorem dX4_set_6 : decode cX4_set 6 = .ok (.invokevirtual 41, 3) := by decide +kernel
theorem dX4_set_9 : decode cX4_set 9 = .ok (.ifCond .ne 5, 3) := by decide +kernel
theorem dX4_set_12 : decode cX4_set 12 = .ok (.iconst (-1), 1) := by decide +kernel
theorem dX4_set_13 : decode cX4_set 13 = .ok (.ireturn, 1) := by decide +kernel
theorem dX4_set_14 : decode cX4_set 14 = .ok (.aload_n 0, 1) := by decide +kernel
theorem dX4_set_15 : decode cX4_set 15 = .ok (.iconst 0, 1) := by decide +kernel
theorem dX4_set_16 : decode cX4_set 16 = .ok (.putfield 37, 3) := by decide +kernel
theorem dX4_set_19 : decode cX4_set 19 = .ok (.aload_n 0, 1) := by decide +kernel
theorem dX4_set_20 : decode cX4_set 20 = .ok (.getfield 10, 3) := by decide +kernel
theorem dX4_set_23 : decode cX4_set 23 = .ok (.iload_n 1, 1) := by decide +kernel
theorem dX4_set_24 : decode cX4_set 24 = .ok (.iload_n 2, 1) := by decide +kernel
theorem dX4_set_25 : decode cX4_set 25 = .ok (.invokevirtual 45, 3) := by decide +kernel
theorem dX4_set_28 : decode cX4_set 28 = .ok (.ireturn, 1) := by decide +kernel
theorem dX4_wind_0 : decode cX4_wind 0 = .ok (.iload_n 1, 1) := by decide +kernel
theorem dX4_wind_1 : decode cX4_wind 1 = .ok (.bipush (-20), 2) := by decide +kernel
theorem dX4_wind_3 : decode cX4_wind 3 = .ok (.bipush 20, 2) := by decide +kernel
theorem dX4_wind_5 : decode cX4_wind 5 = .ok (.invokestatic 49, 3) := by decide +kernel
theorem dX4_wind_8 : decode cX4_wind 8 = .ok (.ifCond .eq 14, 3) := by decide +kernel
theorem dX4_wind_11 : decode cX4_wind 11 = .ok (.aload_n 0, 1) := by decide +kernel
theorem dX4_wind_12 : decode cX4_wind 12 = .ok (.getfield 10, 3) := by decide +kernel
theorem dX4_wind_15 : decode cX4_wind 15 = .ok (.iload_n 1, 1) := by decide +kernel
theorem dX4_wind_16 : decode cX4_wind 16 = .ok (.invokevirtual 53, 3) := by decide +kernel
theorem dX4_wind_19 : decode cX4_wind 19 = .ok (.goto 5, 3) := by decide +kernel
theorem dX4_wind_22 : decode cX4_wind 22 = .ok (.bipush (-100), 2) := by decide +kernel
theorem dX4_wind_24 : decode cX4_wind 24 = .ok (.ireturn, 1) := by decide +kernel
theorem dX4_sine_0 : decode cX4_sine 0 = .ok (.iload_n 1, 1) := by decide +kernel
theorem dX4_sine_1 : decode cX4_sine 1 = .ok (.sipush (-180), 3) := by decide +kernel
theorem dX4_sine_4 : decode cX4_sine 4 = .ok (.sipush 180, 3) := by decide +kernel
theorem dX4_sine_7 : decode cX4_sine 7 = .ok (.invokestatic 49, 3) := by decide +kernel
theorem dX4_sine_10 : decode cX4_sine 10 = .ok (.ifCond .eq 10, 3) := by decide +kernel
theorem dX4_sine_13 : decode cX4_sine 13 = .ok (.iload_n 1, 1) := by decide +kernel
theorem dX4_sine_14 : decode cX4_sine 14 = .ok (.invokestatic 57, 3) := by decide +kernel
theorem dX4_sine_17 : decode cX4_sine 17 = .ok (.goto 6, 3) := by decide +kernel
theorem dX4_sine_20 : decode cX4_sine 20 = .ok (.sipush (-2000), 3) := by decide +kernel
theorem dX4_sine_23 : decode cX4_sine 23 = .ok (.ireturn, 1) := by decide +kernel
theorem dX4_throwing_0 : decode cX4_throwing 0 = .ok (.iload_n 1, 1) := by decide +kernel
theorem dX4_throwing_1 : decode cX4_throwing 1 = .ok (.iconst 0, 1) := by decide +kernel
theorem dX4_throwing_2 : decode cX4_throwing 2 = .ok (.bipush 6, 2) := by decide +kernel
theorem dX4_throwing_4 : decode cX4_throwing 4 = .ok (.invokestatic 49, 3) := by decide +kernel
theorem dX4_throwing_7 : decode cX4_throwing 7 = .ok (.ifCond .ne 5, 3) := by decide +kernel
theorem dX4_throwing_10 : decode cX4_throwing 10 = .ok (.iconst (-1), 1) := by decide +kernel
theorem dX4_throwing_11 : decode cX4_throwing 11 = .ok (.ireturn, 1) := by decide +kernel
theorem dX4_throwing_12 : decode cX4_throwing 12 = .ok (.aload_n 0, 1) := by decide +kernel
theorem dX4_throwing_13 : decode cX4_throwing 13 = .ok (.getfield 10, 3) := by decide +kernel
theorem dX4_throwing_16 : decode cX4_throwing 16 = .ok (.invokevirtual 60, 3) := by decide +kernel
theorem dX4_throwing_19 : decode cX4_throwing 19 = .ok (.pop, 1) := by decide +kernel
theorem dX4_throwing_20 : decode cX4_throwing 20 = .ok (.aload_n 0, 1) := by decide +kernel
theorem dX4_throwing_21 : decode cX4_throwing 21 = .ok (.getfield 10, 3) := by decide +kernel
theorem dX4_throwing_24 : decode cX4_throwing 24 = .ok (.iload_n 1, 1) := by decide +kernel
theorem dX4_throwing_25 : decode cX4_throwing 25 = .ok (.invokevirtual 64, 3) := by decide +kernel
theorem dX4_throwing_28 : decode cX4_throwing 28 = .ok (.ireturn, 1) := by decide +kernel
theorem dX4_flight_0 : decode cX4_flight 0 = .ok (.iload_n 1, 1) := by decide +kernel
theorem dX4_flight_1 : decode cX4_flight 1 = .ok (.iconst 0, 1) := by decide +kernel
theorem dX4_flight_2 : decode cX4_flight 2 = .ok (.iconst 2, 1) := by decide +kernel
theorem dX4_flight_3 : decode cX4_flight 3 = .ok (.invokestatic 49, 3) := by decide +kernel
theorem dX4_flight_6 : decode cX4_flight 6 = .ok (.ifCond .eq 14, 3) := by decide +kernel
theorem dX4_flight_9 : decode cX4_flight 9 = .ok (.iload_n 2, 1) := by decide +kernel
theorem dX4_flight_10 : decode cX4_flight 10 = .ok (.iconst 0, 1) := by decide +kernel
theorem dX4_flight_11 : decode cX4_flight 11 = .ok (.sipush 20000, 3) := by decide +kernel
theorem dX4_flight_14 : decode cX4_flight 14 = .ok (.invokestatic 49, 3) := by decide +kernel
theorem dX4_flight_17 : decode cX4_flight 17 = .ok (.ifCond .ne 5, 3) := by decide +kernel
theorem dX4_flight_20 : decode cX4_flight 20 = .ok (.iconst (-1), 1) := by decide +kernel
theorem dX4_flight_21 : decode cX4_flight 21 = .ok (.ireturn, 1) := by decide +kernel
theorem dX4_flight_22 : decode cX4_flight 22 = .ok (.aload_n 0, 1) := by decide +kernel
theorem dX4_flight_23 : decode cX4_flight 23 = .ok (.dup, 1) := by decide +kernel
theorem dX4_flight_24 : decode cX4_flight 24 = .ok (.getfield 67, 3) := by decide +kernel
theorem dX4_flight_27 : decode cX4_flight 27 = .ok (.iload_n 1, 1) := by decide +kernel
theorem dX4_flight_28 : decode cX4_flight 28 = .ok (.invokestatic 71, 3) := by decide +kernel
theorem dX4_flight_31 : decode cX4_flight 31 = .ok (.i2l, 1) := by decide +kernel
theorem dX4_flight_32 : decode cX4_flight 32 = .ok (.ladd, 1) := by decide +kernel
theorem dX4_flight_33 : decode cX4_flight 33 = .ok (.putfield 67, 3) := by decide +kernel
theorem dX4_flight_36 : decode cX4_flight 36 = .ok (.aload_n 0, 1) := by decide +kernel
theorem dX4_flight_37 : decode cX4_flight 37 = .ok (.getfield 10, 3) := by decide +kernel
theorem dX4_flight_40 : decode cX4_flight 40 = .ok (.iload_n 1, 1) := by decide +kernel
theorem dX4_flight_41 : decode cX4_flight 41 = .ok (.iload_n 2, 1) := by decide +kernel
theorem dX4_flight_42 : decode cX4_flight 42 = .ok (.invokevirtual 74, 3) := by decide +kernel
theorem dX4_flight_45 : decode cX4_flight 45 = .ok (.ireturn, 1) := by decide +kernel
theorem dX4_tune_0 : decode cX4_tune 0 = .ok (.aload_n 0, 1) := by decide +kernel
theorem dX4_tune_1 : decode cX4_tune 1 = .ok (.getfield 10, 3) := by decide +kernel
theorem dX4_tune_4 : decode cX4_tune 4 = .ok (.iconst 3, 1) := by decide +kernel
theorem dX4_tune_5 : decode cX4_tune 5 = .ok (.iload_n 1, 1) := by decide +kernel
theorem dX4_tune_6 : decode cX4_tune 6 = .ok (.invokevirtual 41, 3) := by decide +kernel
theorem dX4_tune_9 : decode cX4_tune 9 = .ok (.ifCond .eq 41, 3) := by decide +kernel
theorem dX4_tune_12 : decode cX4_tune 12 = .ok (.aload_n 0, 1) := by decide +kernel
theorem dX4_tune_13 : decode cX4_tune 13 = .ok (.getfield 10, 3) := by decide +kernel
theorem dX4_tune_16 : decode cX4_tune 16 = .ok (.iconst 3, 1) := by decide +kernel
theorem dX4_tune_17 : decode cX4_tune 17 = .ok (.iload_n 2, 1) := by decide +kernel
theorem dX4_tune_18 : decode cX4_tune 18 = .ok (.invokevirtual 41, 3) := by decide +kernel
theorem dX4_tune_21 : decode cX4_tune 21 = .ok (.ifCond .eq 29, 3) := by decide +kernel
theorem dX4_tune_24 : decode cX4_tune 24 = .ok (.iload_n 1, 1) := by decide +kernel
theorem dX4_tune_25 : decode cX4_tune 25 = .ok (.iload_n 2, 1) := by decide +kernel
theorem dX4_tune_26 : decode cX4_tune 26 = .ok (.if_icmp .gt 24, 3) := by decide +kernel
theorem dX4_tune_29 : decode cX4_tune 29 = .ok (.iload_n 3, 1) := by decide +kernel
theorem dX4_tune_30 : decode cX4_tune 30 = .ok (.iconst 0, 1) := by decide +kernel
theorem dX4_tune_31 : decode cX4_tune 31 = .ok (.sipush 2000, 3) := by decide +kernel
theorem dX4_tune_34 : decode cX4_tune 34 = .ok (.invokestatic 49, 3) := by decide +kernel
theorem dX4_tune_37 : decode cX4_tune 37 = .ok (.ifCond .eq 13, 3) := by decide +kernel
theorem dX4_tune_40 : decode cX4_tune 40 = .ok (.iload 4, 2) := by decide +kernel
theorem dX4_tune_42 : decode cX4_tune 42 = .ok (.iconst 0, 1) := by decide +kernel
theorem dX4_tune_43 : decode cX4_tune 43 = .ok (.iconst 2, 1) := by decide +kernel
theorem dX4_tune_44 : decode cX4_tune 44 = .ok (.invokestatic 49, 3) := by decide +kernel
theorem dX4_tune_47 : decode cX4_tune 47 = .ok (.ifCond .ne 5, 3) := by decide +kernel
theorem dX4_tune_50 : decode cX4_tune 50 = .ok (.iconst (-1), 1) := by decide +kernel
theorem dX4_tune_51 : decode cX4_tune 51 = .ok (.ireturn, 1) := by decide +kernel
theorem dX4_tune_52 : decode cX4_tune 52 = .ok (.aload_n 0, 1) := by decide +kernel
theorem dX4_tune_53 : decode cX4_tune 53 = .ok (.getfield 10, 3) := by decide +kernel
theorem dX4_tune_56 : decode cX4_tune 56 = .ok (.iload_n 1, 1) := by decide +kernel
theorem dX4_tune_57 : decode cX4_tune 57 = .ok (.iload_n 2, 1) := by decide +kernel
theorem dX4_tune_58 : decode cX4_tune 58 = .ok (.iload_n 3, 1) := by decide +kernel
theorem dX4_tune_59 : decode cX4_tune 59 = .ok (.invokevirtual 77, 3) := by decide +kernel
theorem dX4_tune_62 : decode cX4_tune 62 = .ok (.aload_n 0, 1) := by decide +kernel
theorem dX4_tune_63 : decode cX4_tune 63 = .ok (.getfield 10, 3) := by decide +kernel
theorem dX4_tune_66 : decode cX4_tune 66 = .ok (.iload 4, 2) := by decide +kernel
theorem dX4_tune_68 : decode cX4_tune 68 = .ok (.invokevirtual 81, 3) := by decide +kernel
theorem dX4_tune_71 : decode cX4_tune 71 = .ok (.ireturn, 1) := by decide +kernel
theorem dX4_spread_0 : decode cX4_spread 0 = .ok (.iload_n 1, 1) := by decide +kernel
theorem dX4_spread_1 : decode cX4_spread 1 = .ok (.iconst 0, 1) := by decide +kernel
theorem dX4_spread_2 : decode cX4_spread 2 = .ok (.bipush 50, 2) := by decide +kernel
theorem dX4_spread_4 : decode cX4_spread 4 = .ok (.invokestatic 49, 3) := by decide +kernel
theorem dX4_spread_7 : decode cX4_spread 7 = .ok (.ifCond .eq 14, 3) := by decide +kernel
theorem dX4_spread_10 : decode cX4_spread 10 = .ok (.aload_n 0, 1) := by decide +kernel
theorem dX4_spread_11 : decode cX4_spread 11 = .ok (.getfield 19, 3) := by decide +kernel
theorem dX4_spread_14 : decode cX4_spread 14 = .ok (.iload_n 1, 1) := by decide +kernel
theorem dX4_spread_15 : decode cX4_spread 15 = .ok (.invokevirtual 84, 3) := by decide +kernel
theorem dX4_spread_18 : decode cX4_spread 18 = .ok (.goto 4, 3) := by decide +kernel
theorem dX4_spread_21 : decode cX4_spread 21 = .ok (.iconst (-1), 1) := by decide +kernel
theorem dX4_spread_22 : decode cX4_spread 22 = .ok (.ireturn, 1) := by decide +kernel
theorem dX4_shot_0 : decode cX4_shot 0 = .ok (.iload_n 1, 1) := by decide +kernel
theorem dX4_shot_1 : decode cX4_shot 1 = .ok (.iconst 0, 1) := by decide +kernel
theorem dX4_shot_2 : decode cX4_shot 2 = .ok (.bipush 60, 2) := by decide +kernel
theorem dX4_shot_4 : decode cX4_shot 4 = .ok (.invokestatic 49, 3) := by decide +kernel
theorem dX4_shot_7 : decode cX4_shot 7 = .ok (.ifCond .eq 14, 3) := by decide +kernel
theorem dX4_shot_10 : decode cX4_shot 10 = .ok (.iload_n 2, 1) := by decide +kernel
theorem dX4_shot_11 : decode cX4_shot 11 = .ok (.iconst 0, 1) := by decide +kernel
theorem dX4_shot_12 : decode cX4_shot 12 = .ok (.sipush 2000, 3) := by decide +kernel
theorem dX4_shot_15 : decode cX4_shot 15 = .ok (.invokestatic 49, 3) := by decide +kernel
theorem dX4_shot_18 : decode cX4_shot 18 = .ok (.ifCond .ne 5, 3) := by decide +kernel
theorem dX4_shot_21 : decode cX4_shot 21 = .ok (.iconst (-1), 1) := by decide +kernel
theorem dX4_shot_22 : decode cX4_shot 22 = .ok (.ireturn, 1) := by decide +kernel
theorem dX4_shot_23 : decode cX4_shot 23 = .ok (.aload_n 0, 1) := by decide +kernel
theorem dX4_shot_24 : decode cX4_shot 24 = .ok (.getfield 19, 3) := by decide +kernel
theorem dX4_shot_27 : decode cX4_shot 27 = .ok (.iload_n 1, 1) := by decide +kernel
theorem dX4_shot_28 : decode cX4_shot 28 = .ok (.iload_n 2, 1) := by decide +kernel
theorem dX4_shot_29 : decode cX4_shot 29 = .ok (.invokevirtual 87, 3) := by decide +kernel
theorem dX4_shot_32 : decode cX4_shot 32 = .ok (.ifCond .eq 13, 3) := by decide +kernel
theorem dX4_shot_35 : decode cX4_shot 35 = .ok (.aload_n 0, 1) := by decide +kernel
theorem dX4_shot_36 : decode cX4_shot 36 = .ok (.getfield 19, 3) := by decide +kernel
theorem dX4_shot_39 : decode cX4_shot 39 = .ok (.invokevirtual 90, 3) := by decide +kernel
theorem dX4_shot_42 : decode cX4_shot 42 = .ok (.goto 5, 3) := by decide +kernel
theorem dX4_shot_45 : decode cX4_shot 45 = .ok (.bipush (-3), 2) := by decide +kernel
theorem dX4_shot_47 : decode cX4_shot 47 = .ok (.ireturn, 1) := by decide +kernel
theorem dX4_clear_0 : decode cX4_clear 0 = .ok (.aload_n 0, 1) := by decide +kernel
theorem dX4_clear_1 : decode cX4_clear 1 = .ok (.getfield 19, 3) := by decide +kernel
theorem dX4_clear_4 : decode cX4_clear 4 = .ok (.invokevirtual 93, 3) := by decide +kernel
theorem dX4_clear_7 : decode cX4_clear 7 = .ok (.ireturn, 1) := by decide +kernel
theorem dX4_left_0 : decode cX4_left 0 = .ok (.aload_n 0, 1) := by decide +kernel
theorem dX4_left_1 : decode cX4_left 1 = .ok (.getfield 19, 3) := by decide +kernel
theorem dX4_left_4 : decode cX4_left 4 = .ok (.aload_n 0, 1) := by decide +kernel
theorem dX4_left_5 : decode cX4_left 5 = .ok (.getfield 10, 3) := by decide +kernel
theorem dX4_left_8 : decode cX4_left 8 = .ok (.invokevirtual 96, 3) := by decide +kernel
theorem dX4_left_11 : decode cX4_left 11 = .ok (.aload_n 0, 1) := by decide +kernel
theorem dX4_left_12 : decode cX4_left 12 = .ok (.getfield 19, 3) := by decide +kernel
theorem dX4_left_15 : decode cX4_left 15 = .ok (.invokevirtual 100, 3) := by decide +kernel
theorem dX4_left_18 : decode cX4_left 18 = .ok (.ireturn, 1) := by decide +kernel
theorem dX4_span_0 : decode cX4_span 0 = .ok (.iload_n 1, 1) := by decide +kernel
theorem dX4_span_1 : decode cX4_span 1 = .ok (.iconst 0, 1) := by decide +kernel
theorem dX4_span_2 : decode cX4_span 2 = .ok (.bipush 60, 2) := by decide +kernel
theorem dX4_span_4 : decode cX4_span 4 = .ok (.invokestatic 49, 3) := by decide +kernel
theorem dX4_span_7 : decode cX4_span 7 = .ok (.ifCond .eq 12, 3) := by decide +kernel
theorem dX4_span_10 : decode cX4_span 10 = .ok (.iload_n 2, 1) := by decide +kernel
theorem dX4_span_11 : decode cX4_span 11 = .ok (.iconst 0, 1) := by decide +kernel
theorem dX4_span_12 : decode cX4_span 12 = .ok (.iconst 1, 1) := by decide +kernel
theorem dX4_span_13 : decode cX4_span 13 = .ok (.invokestatic 49, 3) := by decide +kernel
theorem dX4_span_16 : decode cX4_span 16 = .ok (.ifCond .ne 7, 3) := by decide +kernel
theorem dX4_span_19 : decode cX4_span 19 = .ok (.sipush (-2000), 3) := by decide +kernel
theorem dX4_span_22 : decode cX4_span 22 = .ok (.ireturn, 1) := by decide +kernel
theorem dX4_span_23 : decode cX4_span 23 = .ok (.aload_n 0, 1) := by decide +kernel
theorem dX4_span_24 : decode cX4_span 24 = .ok (.getfield 19, 3) := by decide +kernel
theorem dX4_span_27 : decode cX4_span 27 = .ok (.aload_n 0, 1) := by decide +kernel
theorem dX4_span_28 : decode cX4_span 28 = .ok (.getfield 10, 3) := by decide +kernel
theorem dX4_span_31 : decode cX4_span 31 = .ok (.invokevirtual 96, 3) := by decide +kernel
theorem dX4_span_34 : decode cX4_span 34 = .ok (.aload_n 0, 1) := by decide +kernel
theorem dX4_span_35 : decode cX4_span 35 = .ok (.getfield 19, 3) := by decide +kernel
theorem dX4_span_38 : decode cX4_span 38 = .ok (.iload_n 1, 1) := by decide +kernel
theorem dX4_span_39 : decode cX4_span 39 = .ok (.invokevirtual 103, 3) := by decide +kernel
theorem dX4_span_42 : decode cX4_span 42 = .ok (.ifCond .ne 7, 3) := by decide +kernel
theorem dX4_span_45 : decode cX4_span 45 = .ok (.sipush (-1000), 3) := by decide +kernel
theorem dX4_span_48 : decode cX4_span 48 = .ok (.ireturn, 1) := by decide +kernel
theorem dX4_span_49 : decode cX4_span 49 = .ok (.iload_n 2, 1) := by decide +kernel
theorem dX4_span_50 : decode cX4_span 50 = .ok (.ifCond .ne 14, 3) := by decide +kernel
theorem dX4_span_53 : decode cX4_span 53 = .ok (.aload_n 0, 1) := by decide +kernel
theorem dX4_span_54 : decode cX4_span 54 = .ok (.getfield 19, 3) := by decide +kernel
theorem dX4_span_57 : decode cX4_span 57 = .ok (.iload_n 1, 1) := by decide +kernel
theorem dX4_span_58 : decode cX4_span 58 = .ok (.invokevirtual 107, 3) := by decide +kernel
theorem dX4_span_61 : decode cX4_span 61 = .ok (.goto 11, 3) := by decide +kernel
theorem dX4_span_64 : decode cX4_span 64 = .ok (.aload_n 0, 1) := by decide +kernel
theorem dX4_span_65 : decode cX4_span 65 = .ok (.getfield 19, 3) := by decide +kernel
theorem dX4_span_68 : decode cX4_span 68 = .ok (.iload_n 1, 1) := by decide +kernel
theorem dX4_span_69 : decode cX4_span 69 = .ok (.invokevirtual 110, 3) := by decide +kernel
theorem dX4_span_72 : decode cX4_span 72 = .ok (.ireturn, 1) := by decide +kernel
theorem dX4_next_0 : decode cX4_next 0 = .ok (.aload_n 0, 1) := by decide +kernel
theorem dX4_next_1 : decode cX4_next 1 = .ok (.getfield 19, 3) := by decide +kernel
theorem dX4_next_4 : decode cX4_next 4 = .ok (.aload_n 0, 1) := by decide +kernel
theorem dX4_next_5 : decode cX4_next 5 = .ok (.getfield 10, 3) := by decide +kernel
theorem dX4_next_8 : decode cX4_next 8 = .ok (.invokevirtual 96, 3) := by decide +kernel
theorem dX4_next_11 : decode cX4_next 11 = .ok (.aload_n 0, 1) := by decide +kernel
theorem dX4_next_12 : decode cX4_next 12 = .ok (.getfield 19, 3) := by decide +kernel
theorem dX4_next_15 : decode cX4_next 15 = .ok (.invokevirtual 113, 3) := by decide +kernel
theorem dX4_next_18 : decode cX4_next 18 = .ok (.ireturn, 1) := by decide +kernel
theorem dX4_surest_0 : decode cX4_surest 0 = .ok (.iload_n 1, 1) := by decide +kernel
theorem dX4_surest_1 : decode cX4_surest 1 = .ok (.iconst 0, 1) := by decide +kernel
theorem dX4_surest_2 : decode cX4_surest 2 = .ok (.sipush 2000, 3) := by decide +kernel
theorem dX4_surest_5 : decode cX4_surest 5 = .ok (.invokestatic 49, 3) := by decide +kernel
theorem dX4_surest_8 : decode cX4_surest 8 = .ok (.ifCond .eq 12, 3) := by decide +kernel
theorem dX4_surest_11 : decode cX4_surest 11 = .ok (.iload_n 2, 1) := by decide +kernel
theorem dX4_surest_12 : decode cX4_surest 12 = .ok (.iconst 0, 1) := by decide +kernel
theorem dX4_surest_13 : decode cX4_surest 13 = .ok (.iconst 1, 1) := by decide +kernel
theorem dX4_surest_14 : decode cX4_surest 14 = .ok (.invokestatic 49, 3) := by decide +kernel
theorem dX4_surest_17 : decode cX4_surest 17 = .ok (.ifCond .ne 5, 3) := by decide +kernel
theorem dX4_surest_20 : decode cX4_surest 20 = .ok (.iconst (-1), 1) := by decide +kernel
theorem dX4_surest_21 : decode cX4_surest 21 = .ok (.ireturn, 1) := by decide +kernel
theorem dX4_surest_22 : decode cX4_surest 22 = .ok (.aload_n 0, 1) := by decide +kernel
theorem dX4_surest_23 : decode cX4_surest 23 = .ok (.getfield 19, 3) := by decide +kernel
theorem dX4_surest_26 : decode cX4_surest 26 = .ok (.aload_n 0, 1) := by decide +kernel
theorem dX4_surest_27 : decode cX4_surest 27 = .ok (.getfield 10, 3) := by decide +kernel
theorem dX4_surest_30 : decode cX4_surest 30 = .ok (.invokevirtual 96, 3) := by decide +kernel
theorem dX4_surest_33 : decode cX4_surest 33 = .ok (.aload_n 0, 1) := by decide +kernel
theorem dX4_surest_34 : decode cX4_surest 34 = .ok (.getfield 19, 3) := by decide +kernel
theorem dX4_surest_37 : decode cX4_surest 37 = .ok (.iload_n 1, 1) := by decide +kernel
theorem dX4_surest_38 : decode cX4_surest 38 = .ok (.invokevirtual 116, 3) := by decide +kernel
theorem dX4_surest_41 : decode cX4_surest 41 = .ok (.istore_n 3, 1) := by decide +kernel
theorem dX4_surest_42 : decode cX4_surest 42 = .ok (.iload_n 3, 1) := by decide +kernel
theorem dX4_surest_43 : decode cX4_surest 43 = .ok (.bipush (-9), 2) := by decide +kernel
theorem dX4_surest_45 : decode cX4_surest 45 = .ok (.if_icmp .eq 7, 3) := by decide +kernel
theorem dX4_surest_48 : decode cX4_surest 48 = .ok (.iload_n 2, 1) := by decide +kernel
theorem dX4_surest_49 : decode cX4_surest 49 = .ok (.ifCond .ne 7, 3) := by decide +kernel
theorem dX4_surest_52 : decode cX4_surest 52 = .ok (.iload_n 3, 1) := by decide +kernel
theorem dX4_surest_53 : decode cX4_surest 53 = .ok (.goto 12, 3) := by decide +kernel
theorem dX4_surest_56 : decode cX4_surest 56 = .ok (.aload_n 0, 1) := by decide +kernel
theorem dX4_surest_57 : decode cX4_surest 57 = .ok (.getfield 19, 3) := by decide +kernel
theorem dX4_surest_60 : decode cX4_surest 60 = .ok (.iload_n 3, 1) := by decide +kernel
theorem dX4_surest_61 : decode cX4_surest 61 = .ok (.iload_n 1, 1) := by decide +kernel
theorem dX4_surest_62 : decode cX4_surest 62 = .ok (.invokevirtual 119, 3) := by decide +kernel
theorem dX4_surest_65 : decode cX4_surest 65 = .ok (.ireturn, 1) := by decide +kernel
theorem dX4_wall_0 : decode cX4_wall 0 = .ok (.iload_n 1, 1) := by decide +kernel
theorem dX4_wall_1 : decode cX4_wall 1 = .ok (.iconst 1, 1) := by decide +kernel
theorem dX4_wall_2 : decode cX4_wall 2 = .ok (.bipush 8, 2) := by decide +kernel
theorem dX4_wall_4 : decode cX4_wall 4 = .ok (.invokestatic 49, 3) := by decide +kernel
theorem dX4_wall_7 : decode cX4_wall 7 = .ok (.ifCond .eq 13, 3) := by decide +kernel
theorem dX4_wall_10 : decode cX4_wall 10 = .ok (.iload_n 2, 1) := by decide +kernel
theorem dX4_wall_11 : decode cX4_wall 11 = .ok (.iconst 1, 1) := by decide +kernel
theorem dX4_wall_12 : decode cX4_wall 12 = .ok (.bipush 6, 2) := by decide +kernel
theorem dX4_wall_14 : decode cX4_wall 14 = .ok (.invokestatic 49, 3) := by decide +kernel
theorem dX4_wall_17 : decode cX4_wall 17 = .ok (.ifCond .ne 5, 3) := by decide +kernel
theorem dX4_wall_20 : decode cX4_wall 20 = .ok (.iconst (-1), 1) := by decide +kernel
theorem dX4_wall_21 : decode cX4_wall 21 = .ok (.ireturn, 1) := by decide +kernel
theorem dX4_wall_22 : decode cX4_wall 22 = .ok (.aload_n 0, 1) := by decide +kernel
theorem dX4_wall_23 : decode cX4_wall 23 = .ok (.getfield 26, 3) := by decide +kernel
theorem dX4_wall_26 : decode cX4_wall 26 = .ok (.iload_n 1, 1) := by decide +kernel
theorem dX4_wall_27 : decode cX4_wall 27 = .ok (.iload_n 2, 1) := by decide +kernel
theorem dX4_wall_28 : decode cX4_wall 28 = .ok (.invokevirtual 122, 3) := by decide +kernel
theorem dX4_wall_31 : decode cX4_wall 31 = .ok (.iload_n 1, 1) := by decide +kernel
theorem dX4_wall_32 : decode cX4_wall 32 = .ok (.iload_n 2, 1) := by decide +kernel
theorem dX4_wall_33 : decode cX4_wall 33 = .ok (.imul, 1) := by decide +kernel
theorem dX4_wall_34 : decode cX4_wall 34 = .ok (.ireturn, 1) := by decide +kernel
theorem dX4_strength_0 : decode cX4_strength 0 = .ok (.aload_n 0, 1) := by decide +kernel
theorem dX4_strength_1 : decode cX4_strength 1 = .ok (.getfield 26, 3) := by decide +kernel
theorem dX4_strength_4 : decode cX4_strength 4 = .ok (.iload_n 1, 1) := by decide +kernel
theorem dX4_strength_5 : decode cX4_strength 5 = .ok (.iload_n 2, 1) := by decide +kernel
theorem dX4_strength_6 : decode cX4_strength 6 = .ok (.invokevirtual 126, 3) := by decide +kernel
theorem dX4_strength_9 : decode cX4_strength 9 = .ok (.ifCond .eq 13, 3) := by decide +kernel
theorem dX4_strength_12 : decode cX4_strength 12 = .ok (.iload_n 3, 1) := by decide +kernel
theorem dX4_strength_13 : decode cX4_strength 13 = .ok (.iconst 1, 1) := by decide +kernel
theorem dX4_strength_14 : decode cX4_strength 14 = .ok (.bipush 99, 2) := by decide +kernel
theorem dX4_strength_16 : decode cX4_strength 16 = .ok (.invokestatic 49, 3) := by decide +kernel
theorem dX4_strength_19 : decode cX4_strength 19 = .ok (.ifCond .ne 5, 3) := by decide +kernel
theorem dX4_strength_22 : decode cX4_strength 22 = .ok (.iconst (-1), 1) := by decide +kernel
theorem dX4_strength_23 : decode cX4_strength 23 = .ok (.ireturn, 1) := by decide +kernel
theorem dX4_strength_24 : decode cX4_strength 24 = .ok (.aload_n 0, 1) := by decide +kernel
theorem dX4_strength_25 : decode cX4_strength 25 = .ok (.getfield 26, 3) := by decide +kernel
theorem dX4_strength_28 : decode cX4_strength 28 = .ok (.iload_n 1, 1) := by decide +kernel
theorem dX4_strength_29 : decode cX4_strength 29 = .ok (.iload_n 2, 1) := by decide +kernel
theorem dX4_strength_30 : decode cX4_strength 30 = .ok (.invokevirtual 129, 3) := by decide +kernel
theorem dX4_strength_33 : decode cX4_strength 33 = .ok (.ifCond .eq 16, 3) := by decide +kernel
theorem dX4_strength_36 : decode cX4_strength 36 = .ok (.aload_n 0, 1) := by decide +kernel
theorem dX4_strength_37 : decode cX4_strength 37 = .ok (.getfield 26, 3) := by decide +kernel
theorem dX4_strength_40 : decode cX4_strength 40 = .ok (.iload_n 1, 1) := by decide +kernel
theorem dX4_strength_41 : decode cX4_strength 41 = .ok (.iload_n 2, 1) := by decide +kernel
theorem dX4_strength_42 : decode cX4_strength 42 = .ok (.iload_n 3, 1) := by decide +kernel
theorem dX4_strength_43 : decode cX4_strength 43 = .ok (.invokevirtual 132, 3) := by decide +kernel
theorem dX4_strength_46 : decode cX4_strength 46 = .ok (.goto 5, 3) := by decide +kernel
theorem dX4_strength_49 : decode cX4_strength 49 = .ok (.bipush (-2), 2) := by decide +kernel
theorem dX4_strength_51 : decode cX4_strength 51 = .ok (.ireturn, 1) := by decide +kernel
theorem dX4_prop_0 : decode cX4_prop 0 = .ok (.aload_n 0, 1) := by decide +kernel
theorem dX4_prop_1 : decode cX4_prop 1 = .ok (.getfield 26, 3) := by decide +kernel
theorem dX4_prop_4 : decode cX4_prop 4 = .ok (.iload_n 1, 1) := by decide +kernel
theorem dX4_prop_5 : decode cX4_prop 5 = .ok (.iload_n 2, 1) := by decide +kernel
theorem dX4_prop_6 : decode cX4_prop 6 = .ok (.invokevirtual 126, 3) := by decide +kernel
theorem dX4_prop_9 : decode cX4_prop 9 = .ok (.ifCond .ne 5, 3) := by decide +kernel
theorem dX4_prop_12 : decode cX4_prop 12 = .ok (.iconst (-1), 1) := by decide +kernel
theorem dX4_prop_13 : decode cX4_prop 13 = .ok (.ireturn, 1) := by decide +kernel
theorem dX4_prop_14 : decode cX4_prop 14 = .ok (.aload_n 0, 1) := by decide +kernel
theorem dX4_prop_15 : decode cX4_prop 15 = .ok (.getfield 26, 3) := by decide +kernel
theorem dX4_prop_18 : decode cX4_prop 18 = .ok (.iload_n 1, 1) := by decide +kernel
theorem dX4_prop_19 : decode cX4_prop 19 = .ok (.iload_n 2, 1) := by decide +kernel
theorem dX4_prop_20 : decode cX4_prop 20 = .ok (.invokevirtual 129, 3) := by decide +kernel
theorem dX4_prop_23 : decode cX4_prop 23 = .ok (.ifCond .eq 15, 3) := by decide +kernel
theorem dX4_prop_26 : decode cX4_prop 26 = .ok (.aload_n 0, 1) := by decide +kernel
theorem dX4_prop_27 : decode cX4_prop 27 = .ok (.getfield 26, 3) := by decide +kernel
theorem dX4_prop_30 : decode cX4_prop 30 = .ok (.iload_n 1, 1) := by decide +kernel
theorem dX4_prop_31 : decode cX4_prop 31 = .ok (.iload_n 2, 1) := by decide +kernel
theorem dX4_prop_32 : decode cX4_prop 32 = .ok (.invokevirtual 136, 3) := by decide +kernel
theorem dX4_prop_35 : decode cX4_prop 35 = .ok (.goto 5, 3) := by decide +kernel
theorem dX4_prop_38 : decode cX4_prop 38 = .ok (.bipush (-2), 2) := by decide +kernel
theorem dX4_prop_40 : decode cX4_prop 40 = .ok (.ireturn, 1) := by decide +kernel
theorem dX4_hit_0 : decode cX4_hit 0 = .ok (.aload_n 0, 1) := by decide +kernel
theorem dX4_hit_1 : decode cX4_hit 1 = .ok (.getfield 26, 3) := by decide +kernel
theorem dX4_hit_4 : decode cX4_hit 4 = .ok (.iload_n 1, 1) := by decide +kernel
theorem dX4_hit_5 : decode cX4_hit 5 = .ok (.iload_n 2, 1) := by decide +kernel
theorem dX4_hit_6 : decode cX4_hit 6 = .ok (.invokevirtual 126, 3) := by decide +kernel
theorem dX4_hit_9 : decode cX4_hit 9 = .ok (.ifCond .eq 13, 3) := by decide +kernel
theorem dX4_hit_12 : decode cX4_hit 12 = .ok (.iload_n 3, 1) := by decide +kernel
theorem dX4_hit_13 : decode cX4_hit 13 = .ok (.iconst 1, 1) := by decide +kernel
theorem dX4_hit_14 : decode cX4_hit 14 = .ok (.bipush 99, 2) := by decide +kernel
theorem dX4_hit_16 : decode cX4_hit 16 = .ok (.invokestatic 49, 3) := by decide +kernel
theorem dX4_hit_19 : decode cX4_hit 19 = .ok (.ifCond .ne 5, 3) := by decide +kernel
theorem dX4_hit_22 : decode cX4_hit 22 = .ok (.iconst (-1), 1) := by decide +kernel
theorem dX4_hit_23 : decode cX4_hit 23 = .ok (.ireturn, 1) := by decide +kernel
theorem dX4_hit_24 : decode cX4_hit 24 = .ok (.aload_n 0, 1) := by decide +kernel
theorem dX4_hit_25 : decode cX4_hit 25 = .ok (.getfield 26, 3) := by decide +kernel
theorem dX4_hit_28 : decode cX4_hit 28 = .ok (.iload_n 1, 1) := by decide +kernel
theorem dX4_hit_29 : decode cX4_hit 29 = .ok (.iload_n 2, 1) := by decide +kernel
theorem dX4_hit_30 : decode cX4_hit 30 = .ok (.invokevirtual 129, 3) := by decide +kernel
theorem dX4_hit_33 : decode cX4_hit 33 = .ok (.ifCond .eq 16, 3) := by decide +kernel
theorem dX4_hit_36 : decode cX4_hit 36 = .ok (.aload_n 0, 1) := by decide +kernel
theorem dX4_hit_37 : decode cX4_hit 37 = .ok (.getfield 26, 3) := by decide +kernel
theorem dX4_hit_40 : decode cX4_hit 40 = .ok (.iload_n 1, 1) := by decide +kernel
theorem dX4_hit_41 : decode cX4_hit 41 = .ok (.iload_n 2, 1) := by decide +kernel
theorem dX4_hit_42 : decode cX4_hit 42 = .ok (.iload_n 3, 1) := by decide +kernel
theorem dX4_hit_43 : decode cX4_hit 43 = .ok (.invokevirtual 139, 3) := by decide +kernel
theorem dX4_hit_46 : decode cX4_hit 46 = .ok (.goto 5, 3) := by decide +kernel
theorem dX4_hit_49 : decode cX4_hit 49 = .ok (.bipush (-2), 2) := by decide +kernel
theorem dX4_hit_51 : decode cX4_hit 51 = .ok (.ireturn, 1) := by decide +kernel
theorem dX4_cell_0 : decode cX4_cell 0 = .ok (.aload_n 0, 1) := by decide +kernel
theorem dX4_cell_1 : decode cX4_cell 1 = .ok (.getfield 26, 3) := by decide +kernel
theorem dX4_cell_4 : decode cX4_cell 4 = .ok (.iload_n 1, 1) := by decide +kernel
theorem dX4_cell_5 : decode cX4_cell 5 = .ok (.iload_n 2, 1) := by decide +kernel
theorem dX4_cell_6 : decode cX4_cell 6 = .ok (.invokevirtual 126, 3) := by decide +kernel
theorem dX4_cell_9 : decode cX4_cell 9 = .ok (.ifCond .ne 5, 3) := by decide +kernel
theorem dX4_cell_12 : decode cX4_cell 12 = .ok (.iconst (-1), 1) := by decide +kernel
theorem dX4_cell_13 : decode cX4_cell 13 = .ok (.ireturn, 1) := by decide +kernel
theorem dX4_cell_14 : decode cX4_cell 14 = .ok (.iload_n 3, 1) := by decide +kernel
theorem dX4_cell_15 : decode cX4_cell 15 = .ok (.tableswitch 71 0 2 #[25, 43, 53], 25) := by decide +kernel
theorem dX4_cell_40 : decode cX4_cell 40 = .ok (.aload_n 0, 1) := by decide +kernel
theorem dX4_cell_41 : decode cX4_cell 41 = .ok (.getfield 26, 3) := by decide +kernel
theorem dX4_cell_44 : decode cX4_cell 44 = .ok (.iload_n 1, 1) := by decide +kernel
theorem dX4_cell_45 : decode cX4_cell 45 = .ok (.iload_n 2, 1) := by decide +kernel
theorem dX4_cell_46 : decode cX4_cell 46 = .ok (.invokevirtual 129, 3) := by decide +kernel
theorem dX4_cell_49 : decode cX4_cell 49 = .ok (.ifCond .eq 7, 3) := by decide +kernel
theorem dX4_cell_52 : decode cX4_cell 52 = .ok (.iconst 1, 1) := by decide +kernel
theorem dX4_cell_53 : decode cX4_cell 53 = .ok (.goto 4, 3) := by decide +kernel
theorem dX4_cell_56 : decode cX4_cell 56 = .ok (.iconst 0, 1) := by decide +kernel
theorem dX4_cell_57 : decode cX4_cell 57 = .ok (.ireturn, 1) := by decide +kernel
theorem dX4_cell_58 : decode cX4_cell 58 = .ok (.aload_n 0, 1) := by decide +kernel
theorem dX4_cell_59 : decode cX4_cell 59 = .ok (.getfield 26, 3) := by decide +kernel
theorem dX4_cell_62 : decode cX4_cell 62 = .ok (.iload_n 1, 1) := by decide +kernel
theorem dX4_cell_63 : decode cX4_cell 63 = .ok (.iload_n 2, 1) := by decide +kernel
theorem dX4_cell_64 : decode cX4_cell 64 = .ok (.invokevirtual 142, 3) := by decide +kernel
theorem dX4_cell_67 : decode cX4_cell 67 = .ok (.ireturn, 1) := by decide +kernel
theorem dX4_cell_68 : decode cX4_cell 68 = .ok (.aload_n 0, 1) := by decide +kernel
theorem dX4_cell_69 : decode cX4_cell 69 = .ok (.getfield 26, 3) := by decide +kernel
theorem dX4_cell_72 : decode cX4_cell 72 = .ok (.iload_n 1, 1) := by decide +kernel
theorem dX4_cell_73 : decode cX4_cell 73 = .ok (.iload_n 2, 1) := by decide +kernel
theorem dX4_cell_74 : decode cX4_cell 74 = .ok (.invokevirtual 145, 3) := by decide +kernel
theorem dX4_cell_77 : decode cX4_cell 77 = .ok (.ifCond .eq 7, 3) := by decide +kernel
theorem dX4_cell_80 : decode cX4_cell 80 = .ok (.iconst 1, 1) := by decide +kernel
theorem dX4_cell_81 : decode cX4_cell 81 = .ok (.goto 4, 3) := by decide +kernel
theorem dX4_cell_84 : decode cX4_cell 84 = .ok (.iconst 0, 1) := by decide +kernel
theorem dX4_cell_85 : decode cX4_cell 85 = .ok (.ireturn, 1) := by decide +kernel
theorem dX4_cell_86 : decode cX4_cell 86 = .ok (.iconst (-1), 1) := by decide +kernel
theorem dX4_cell_87 : decode cX4_cell 87 = .ok (.ireturn, 1) := by decide +kernel
theorem dX4_level_0 : decode cX4_level 0 = .ok (.iload_n 1, 1) := by decide +kernel
theorem dX4_level_1 : decode cX4_level 1 = .ok (.iconst 0, 1) := by decide +kernel
theorem dX4_level_2 : decode cX4_level 2 = .ok (.iconst 2, 1) := by decide +kernel
theorem dX4_level_3 : decode cX4_level 3 = .ok (.invokestatic 49, 3) := by decide +kernel
theorem dX4_level_6 : decode cX4_level 6 = .ok (.ifCond .eq 14, 3) := by decide +kernel
theorem dX4_level_9 : decode cX4_level 9 = .ok (.aload_n 0, 1) := by decide +kernel
theorem dX4_level_10 : decode cX4_level 10 = .ok (.getfield 26, 3) := by decide +kernel
theorem dX4_level_13 : decode cX4_level 13 = .ok (.iload_n 1, 1) := by decide +kernel
theorem dX4_level_14 : decode cX4_level 14 = .ok (.invokevirtual 148, 3) := by decide +kernel
theorem dX4_level_17 : decode cX4_level 17 = .ok (.goto 4, 3) := by decide +kernel
theorem dX4_level_20 : decode cX4_level 20 = .ok (.iconst (-1), 1) := by decide +kernel
theorem dX4_level_21 : decode cX4_level 21 = .ok (.ireturn, 1) := by decide +kernel
theorem dX4_open_0 : decode cX4_open 0 = .ok (.aload_n 0, 1) := by decide +kernel
theorem dX4_open_1 : decode cX4_open 1 = .ok (.getfield 26, 3) := by decide +kernel
theorem dX4_open_4 : decode cX4_open 4 = .ok (.invokevirtual 151, 3) := by decide +kernel
theorem dX4_open_7 : decode cX4_open 7 = .ok (.ireturn, 1) := by decide +kernel
theorem dX4_soonest_0 : decode cX4_soonest 0 = .ok (.iload_n 1, 1) := by decide +kernel
theorem dX4_soonest_1 : decode cX4_soonest 1 = .ok (.iconst 1, 1) := by decide +kernel
theorem dX4_soonest_2 : decode cX4_soonest 2 = .ok (.bipush 99, 2) := by decide +kernel
theorem dX4_soonest_4 : decode cX4_soonest 4 = .ok (.invokestatic 49, 3) := by decide +kernel
theorem dX4_soonest_7 : decode cX4_soonest 7 = .ok (.ifCond .eq 12, 3) := by decide +kernel
theorem dX4_soonest_10 : decode cX4_soonest 10 = .ok (.iload_n 2, 1) := by decide +kernel
theorem dX4_soonest_11 : decode cX4_soonest 11 = .ok (.iconst 0, 1) := by decide +kernel
theorem dX4_soonest_12 : decode cX4_soonest 12 = .ok (.iconst 1, 1) := by decide +kernel
theorem dX4_soonest_13 : decode cX4_soonest 13 = .ok (.invokestatic 49, 3) := by decide +kernel
theorem dX4_soonest_16 : decode cX4_soonest 16 = .ok (.ifCond .ne 5, 3) := by decide +kernel
theorem dX4_soonest_19 : decode cX4_soonest 19 = .ok (.iconst (-1), 1) := by decide +kernel
theorem dX4_soonest_20 : decode cX4_soonest 20 = .ok (.ireturn, 1) := by decide +kernel
theorem dX4_soonest_21 : decode cX4_soonest 21 = .ok (.aload_n 0, 1) := by decide +kernel
theorem dX4_soonest_22 : decode cX4_soonest 22 = .ok (.getfield 26, 3) := by decide +kernel
theorem dX4_soonest_25 : decode cX4_soonest 25 = .ok (.iload_n 1, 1) := by decide +kernel
theorem dX4_soonest_26 : decode cX4_soonest 26 = .ok (.invokevirtual 154, 3) := by decide +kernel
theorem dX4_soonest_29 : decode cX4_soonest 29 = .ok (.istore_n 3, 1) := by decide +kernel
theorem dX4_soonest_30 : decode cX4_soonest 30 = .ok (.iload_n 2, 1) := by decide +kernel
theorem dX4_soonest_31 : decode cX4_soonest 31 = .ok (.ifCond .ne 7, 3) := by decide +kernel
theorem dX4_soonest_34 : decode cX4_soonest 34 = .ok (.iload_n 3, 1) := by decide +kernel
theorem dX4_soonest_35 : decode cX4_soonest 35 = .ok (.goto 12, 3) := by decide +kernel
theorem dX4_soonest_38 : decode cX4_soonest 38 = .ok (.aload_n 0, 1) := by decide +kernel
theorem dX4_soonest_39 : decode cX4_soonest 39 = .ok (.getfield 26, 3) := by decide +kernel
theorem dX4_soonest_42 : decode cX4_soonest 42 = .ok (.iload_n 3, 1) := by decide +kernel
theorem dX4_soonest_43 : decode cX4_soonest 43 = .ok (.iload_n 1, 1) := by decide +kernel
theorem dX4_soonest_44 : decode cX4_soonest 44 = .ok (.invokevirtual 157, 3) := by decide +kernel
theorem dX4_soonest_47 : decode cX4_soonest 47 = .ok (.ireturn, 1) := by decide +kernel
theorem dX4_scatter_0 : decode cX4_scatter 0 = .ok (.iload_n 1, 1) := by decide +kernel
theorem dX4_scatter_1 : decode cX4_scatter 1 = .ok (.iconst (-1), 1) := by decide +kernel
theorem dX4_scatter_2 : decode cX4_scatter 2 = .ok (.iconst 1, 1) := by decide +kernel
theorem dX4_scatter_3 : decode cX4_scatter 3 = .ok (.invokestatic 49, 3) := by decide +kernel
theorem dX4_scatter_6 : decode cX4_scatter 6 = .ok (.ifCond .eq 22, 3) := by decide +kernel
theorem dX4_scatter_9 : decode cX4_scatter 9 = .ok (.iload_n 2, 1) := by decide +kernel
theorem dX4_scatter_10 : decode cX4_scatter 10 = .ok (.iconst (-1), 1) := by decide +kernel
theorem dX4_scatter_11 : decode cX4_scatter 11 = .ok (.iconst 1, 1) := by decide +kernel
theorem dX4_scatter_12 : decode cX4_scatter 12 = .ok (.invokestatic 49, 3) := by decide +kernel
theorem dX4_scatter_15 : decode cX4_scatter 15 = .ok (.ifCond .eq 13, 3) := by decide +kernel
theorem dX4_scatter_18 : decode cX4_scatter 18 = .ok (.iload_n 3, 1) := by decide +kernel
theorem dX4_scatter_19 : decode cX4_scatter 19 = .ok (.iconst 0, 1) := by decide +kernel
theorem dX4_scatter_20 : decode cX4_scatter 20 = .ok (.bipush 9, 2) := by decide +kernel
theorem dX4_scatter_22 : decode cX4_scatter 22 = .ok (.invokestatic 49, 3) := by decide +kernel
theorem dX4_scatter_25 : decode cX4_scatter 25 = .ok (.ifCond .ne 5, 3) := by decide +kernel
theorem dX4_scatter_28 : decode cX4_scatter 28 = .ok (.iconst (-1), 1) := by decide +kernel
theorem dX4_scatter_29 : decode cX4_scatter 29 = .ok (.ireturn, 1) := by decide +kernel
theorem dX4_scatter_30 : decode cX4_scatter 30 = .ok (.aload_n 0, 1) := by decide +kernel
theorem dX4_scatter_31 : decode cX4_scatter 31 = .ok (.getfield 26, 3) := by decide +kernel
theorem dX4_scatter_34 : decode cX4_scatter 34 = .ok (.iload_n 1, 1) := by decide +kernel
theorem dX4_scatter_35 : decode cX4_scatter 35 = .ok (.iload_n 2, 1) := by decide +kernel
theorem dX4_scatter_36 : decode cX4_scatter 36 = .ok (.iload_n 3, 1) := by decide +kernel
theorem dX4_scatter_37 : decode cX4_scatter 37 = .ok (.invokevirtual 160, 3) := by decide +kernel
theorem dX4_scatter_40 : decode cX4_scatter 40 = .ok (.ireturn, 1) := by decide +kernel
theorem dX4_worth_0 : decode cX4_worth 0 = .ok (.aload_n 0, 1) := by decide +kernel
theorem dX4_worth_1 : decode cX4_worth 1 = .ok (.getfield 26, 3) := by decide +kernel
theorem dX4_worth_4 : decode cX4_worth 4 = .ok (.iload_n 1, 1) := by decide +kernel
theorem dX4_worth_5 : decode cX4_worth 5 = .ok (.iload_n 2, 1) := by decide +kernel
theorem dX4_worth_6 : decode cX4_worth 6 = .ok (.invokevirtual 126, 3) := by decide +kernel
theorem dX4_worth_9 : decode cX4_worth 9 = .ok (.ifCond .eq 13, 3) := by decide +kernel
theorem dX4_worth_12 : decode cX4_worth 12 = .ok (.iload_n 3, 1) := by decide +kernel
theorem dX4_worth_13 : decode cX4_worth 13 = .ok (.iconst 1, 1) := by decide +kernel
theorem dX4_worth_14 : decode cX4_worth 14 = .ok (.bipush 99, 2) := by decide +kernel
theorem dX4_worth_16 : decode cX4_worth 16 = .ok (.invokestatic 49, 3) := by decide +kernel
theorem dX4_worth_19 : decode cX4_worth 19 = .ok (.ifCond .ne 5, 3) := by decide +kernel
theorem dX4_worth_22 : decode cX4_worth 22 = .ok (.iconst (-1), 1) := by decide +kernel
theorem dX4_worth_23 : decode cX4_worth 23 = .ok (.ireturn, 1) := by decide +kernel
theorem dX4_worth_24 : decode cX4_worth 24 = .ok (.aload_n 0, 1) := by decide +kernel
theorem dX4_worth_25 : decode cX4_worth 25 = .ok (.getfield 26, 3) := by decide +kernel
theorem dX4_worth_28 : decode cX4_worth 28 = .ok (.iload_n 1, 1) := by decide +kernel
theorem dX4_worth_29 : decode cX4_worth 29 = .ok (.iload_n 2, 1) := by decide +kernel
theorem dX4_worth_30 : decode cX4_worth 30 = .ok (.iload_n 3, 1) := by decide +kernel
theorem dX4_worth_31 : decode cX4_worth 31 = .ok (.invokevirtual 163, 3) := by decide +kernel
theorem dX4_worth_34 : decode cX4_worth 34 = .ok (.ireturn, 1) := by decide +kernel
theorem dX4_aim_0 : decode cX4_aim 0 = .ok (.iload_n 1, 1) := by decide +kernel
theorem dX4_aim_1 : decode cX4_aim 1 = .ok (.iconst 1, 1) := by decide +kernel
theorem dX4_aim_2 : decode cX4_aim 2 = .ok (.bipush 99, 2) := by decide +kernel
theorem dX4_aim_4 : decode cX4_aim 4 = .ok (.invokestatic 49, 3) := by decide +kernel
theorem dX4_aim_7 : decode cX4_aim 7 = .ok (.ifCond .eq 12, 3) := by decide +kernel
theorem dX4_aim_10 : decode cX4_aim 10 = .ok (.iload_n 2, 1) := by decide +kernel
theorem dX4_aim_11 : decode cX4_aim 11 = .ok (.iconst 0, 1) := by decide +kernel
theorem dX4_aim_12 : decode cX4_aim 12 = .ok (.iconst 1, 1) := by decide +kernel
theorem dX4_aim_13 : decode cX4_aim 13 = .ok (.invokestatic 49, 3) := by decide +kernel
theorem dX4_aim_16 : decode cX4_aim 16 = .ok (.ifCond .ne 5, 3) := by decide +kernel
theorem dX4_aim_19 : decode cX4_aim 19 = .ok (.iconst (-1), 1) := by decide +kernel
theorem dX4_aim_20 : decode cX4_aim 20 = .ok (.ireturn, 1) := by decide +kernel
theorem dX4_aim_21 : decode cX4_aim 21 = .ok (.aload_n 0, 1) := by decide +kernel
theorem dX4_aim_22 : decode cX4_aim 22 = .ok (.getfield 26, 3) := by decide +kernel
theorem dX4_aim_25 : decode cX4_aim 25 = .ok (.iload_n 1, 1) := by decide +kernel
theorem dX4_aim_26 : decode cX4_aim 26 = .ok (.invokevirtual 166, 3) := by decide +kernel
theorem dX4_aim_29 : decode cX4_aim 29 = .ok (.istore_n 3, 1) := by decide +kernel
theorem dX4_aim_30 : decode cX4_aim 30 = .ok (.iload_n 2, 1) := by decide +kernel
theorem dX4_aim_31 : decode cX4_aim 31 = .ok (.ifCond .ne 7, 3) := by decide +kernel
theorem dX4_aim_34 : decode cX4_aim 34 = .ok (.iload_n 3, 1) := by decide +kernel
theorem dX4_aim_35 : decode cX4_aim 35 = .ok (.goto 27, 3) := by decide +kernel
theorem dX4_aim_38 : decode cX4_aim 38 = .ok (.aload_n 0, 1) := by decide +kernel
theorem dX4_aim_39 : decode cX4_aim 39 = .ok (.getfield 26, 3) := by decide +kernel
theorem dX4_aim_42 : decode cX4_aim 42 = .ok (.aload_n 0, 1) := by decide +kernel
theorem dX4_aim_43 : decode cX4_aim 43 = .ok (.getfield 26, 3) := by decide +kernel
theorem dX4_aim_46 : decode cX4_aim 46 = .ok (.iload_n 3, 1) := by decide +kernel
theorem dX4_aim_47 : decode cX4_aim 47 = .ok (.invokevirtual 169, 3) := by decide +kernel
theorem dX4_aim_50 : decode cX4_aim 50 = .ok (.aload_n 0, 1) := by decide +kernel
theorem dX4_aim_51 : decode cX4_aim 51 = .ok (.getfield 26, 3) := by decide +kernel
theorem dX4_aim_54 : decode cX4_aim 54 = .ok (.iload_n 3, 1) := by decide +kernel
theorem dX4_aim_55 : decode cX4_aim 55 = .ok (.invokevirtual 172, 3) := by decide +kernel
theorem dX4_aim_58 : decode cX4_aim 58 = .ok (.iload_n 1, 1) := by decide +kernel
theorem dX4_aim_59 : decode cX4_aim 59 = .ok (.invokevirtual 163, 3) := by decide +kernel
theorem dX4_aim_62 : decode cX4_aim 62 = .ok (.ireturn, 1) := by decide +kernel
theorem dX4_held_0 : decode cX4_held 0 = .ok (.aload_n 0, 1) := by decide +kernel
theorem dX4_held_1 : decode cX4_held 1 = .ok (.getfield 26, 3) := by decide +kernel
theorem dX4_held_4 : decode cX4_held 4 = .ok (.iload_n 1, 1) := by decide +kernel
theorem dX4_held_5 : decode cX4_held 5 = .ok (.iload_n 2, 1) := by decide +kernel
theorem dX4_held_6 : decode cX4_held 6 = .ok (.invokevirtual 126, 3) := by decide +kernel
theorem dX4_held_9 : decode cX4_held 9 = .ok (.ifCond .eq 23, 3) := by decide +kernel
theorem dX4_held_12 : decode cX4_held 12 = .ok (.iload_n 3, 1) := by decide +kernel
theorem dX4_held_13 : decode cX4_held 13 = .ok (.iconst 1, 1) := by decide +kernel
theorem dX4_held_14 : decode cX4_held 14 = .ok (.bipush 99, 2) := by decide +kernel
theorem dX4_held_16 : decode cX4_held 16 = .ok (.invokestatic 49, 3) := by decide +kernel
theorem dX4_held_19 : decode cX4_held 19 = .ok (.ifCond .eq 13, 3) := by decide +kernel
theorem dX4_held_22 : decode cX4_held 22 = .ok (.iload 4, 2) := by decide +kernel
theorem dX4_held_24 : decode cX4_held 24 = .ok (.iconst 1, 1) := by decide +kernel
theorem dX4_held_25 : decode cX4_held 25 = .ok (.iconst 4, 1) := by decide +kernel
theorem dX4_held_26 : decode cX4_held 26 = .ok (.invokestatic 49, 3) := by decide +kernel
theorem dX4_held_29 : decode cX4_held 29 = .ok (.ifCond .ne 7, 3) := by decide +kernel
theorem dX4_held_32 : decode cX4_held 32 = .ok (.ldc2_w 175, 3) := by decide +kernel
theorem dX4_held_35 : decode cX4_held 35 = .ok (.lreturn, 1) := by decide +kernel
theorem dX4_held_36 : decode cX4_held 36 = .ok (.aload_n 0, 1) := by decide +kernel
theorem dX4_held_37 : decode cX4_held 37 = .ok (.getfield 26, 3) := by decide +kernel
theorem dX4_held_40 : decode cX4_held 40 = .ok (.invokevirtual 151, 3) := by decide +kernel
theorem dX4_held_43 : decode cX4_held 43 = .ok (.bipush (-9), 2) := by decide +kernel
theorem dX4_held_45 : decode cX4_held 45 = .ok (.if_icmp .ne 18, 3) := by decide +kernel
theorem dX4_held_48 : decode cX4_held 48 = .ok (.aload_n 0, 1) := by decide +kernel
theorem dX4_held_49 : decode cX4_held 49 = .ok (.getfield 26, 3) := by decide +kernel
theorem dX4_held_52 : decode cX4_held 52 = .ok (.iload_n 1, 1) := by decide +kernel
theorem dX4_held_53 : decode cX4_held 53 = .ok (.iload_n 2, 1) := by decide +kernel
theorem dX4_held_54 : decode cX4_held 54 = .ok (.iload_n 3, 1) := by decide +kernel
theorem dX4_held_55 : decode cX4_held 55 = .ok (.iload 4, 2) := by decide +kernel
theorem dX4_held_57 : decode cX4_held 57 = .ok (.invokestatic 177, 3) := by decide +kernel
theorem dX4_held_60 : decode cX4_held 60 = .ok (.goto 4, 3) := by decide +kernel
theorem dX4_held_63 : decode cX4_held 63 = .ok (.lconst 0, 1) := by decide +kernel
theorem dX4_held_64 : decode cX4_held 64 = .ok (.lreturn, 1) := by decide +kernel
theorem dX4_wound_0 : decode cX4_wound 0 = .ok (.aload_n 0, 1) := by decide +kernel
theorem dX4_wound_1 : decode cX4_wound 1 = .ok (.getfield 37, 3) := by decide +kernel
theorem dX4_wound_4 : decode cX4_wound 4 = .ok (.ifCond .eq 6, 3) := by decide +kernel
theorem dX4_wound_7 : decode cX4_wound 7 = .ok (.bipush (-2), 2) := by decide +kernel
theorem dX4_wound_9 : decode cX4_wound 9 = .ok (.ireturn, 1) := by decide +kernel
theorem dX4_wound_10 : decode cX4_wound 10 = .ok (.aload_n 0, 1) := by decide +kernel
theorem dX4_wound_11 : decode cX4_wound 11 = .ok (.iconst 1, 1) := by decide +kernel
theorem dX4_wound_12 : decode cX4_wound 12 = .ok (.putfield 37, 3) := by decide +kernel
theorem dX4_wound_15 : decode cX4_wound 15 = .ok (.aload_n 0, 1) := by decide +kernel
theorem dX4_wound_16 : decode cX4_wound 16 = .ok (.getfield 37, 3) := by decide +kernel
theorem dX4_wound_19 : decode cX4_wound 19 = .ok (.ireturn, 1) := by decide +kernel
theorem dX4_sling_0 : decode cX4_sling 0 = .ok (.aload_n 0, 1) := by decide +kernel
theorem dX4_sling_1 : decode cX4_sling 1 = .ok (.getfield 37, 3) := by decide +kernel
theorem dX4_sling_4 : decode cX4_sling 4 = .ok (.iconst 1, 1) := by decide +kernel
theorem dX4_sling_5 : decode cX4_sling 5 = .ok (.if_icmp .eq 6, 3) := by decide +kernel
theorem dX4_sling_8 : decode cX4_sling 8 = .ok (.bipush (-2), 2) := by decide +kernel
theorem dX4_sling_10 : decode cX4_sling 10 = .ok (.ireturn, 1) := by decide +kernel
theorem dX4_sling_11 : decode cX4_sling 11 = .ok (.aload_n 0, 1) := by decide +kernel
theorem dX4_sling_12 : decode cX4_sling 12 = .ok (.iconst 2, 1) := by decide +kernel
theorem dX4_sling_13 : decode cX4_sling 13 = .ok (.putfield 37, 3) := by decide +kernel
theorem dX4_sling_16 : decode cX4_sling 16 = .ok (.aload_n 0, 1) := by decide +kernel
theorem dX4_sling_17 : decode cX4_sling 17 = .ok (.getfield 37, 3) := by decide +kernel
theorem dX4_sling_20 : decode cX4_sling 20 = .ok (.ireturn, 1) := by decide +kernel
theorem dX4_near_0 : decode cX4_near 0 = .ok (.iload_n 1, 1) := by decide +kernel
theorem dX4_near_1 : decode cX4_near 1 = .ok (.iconst 0, 1) := by decide +kernel
theorem dX4_near_2 : decode cX4_near 2 = .ok (.sipush 200, 3) := by decide +kernel
theorem dX4_near_5 : decode cX4_near 5 = .ok (.invokestatic 49, 3) := by decide +kernel
theorem dX4_near_8 : decode cX4_near 8 = .ok (.ifCond .ne 5, 3) := by decide +kernel
theorem dX4_near_11 : decode cX4_near 11 = .ok (.iconst (-1), 1) := by decide +kernel
theorem dX4_near_12 : decode cX4_near 12 = .ok (.ireturn, 1) := by decide +kernel
theorem dX4_near_13 : decode cX4_near 13 = .ok (.aload_n 0, 1) := by decide +kernel
theorem dX4_near_14 : decode cX4_near 14 = .ok (.getfield 37, 3) := by decide +kernel
theorem dX4_near_17 : decode cX4_near 17 = .ok (.iconst 2, 1) := by decide +kernel
theorem dX4_near_18 : decode cX4_near 18 = .ok (.if_icmp .eq 11, 3) := by decide +kernel
theorem dX4_near_21 : decode cX4_near 21 = .ok (.aload_n 0, 1) := by decide +kernel
theorem dX4_near_22 : decode cX4_near 22 = .ok (.getfield 37, 3) := by decide +kernel
theorem dX4_near_25 : decode cX4_near 25 = .ok (.iconst 3, 1) := by decide +kernel
theorem dX4_near_26 : decode cX4_near 26 = .ok (.if_icmp .ne 16, 3) := by decide +kernel
theorem dX4_near_29 : decode cX4_near 29 = .ok (.aload_n 0, 1) := by decide +kernel
theorem dX4_near_30 : decode cX4_near 30 = .ok (.iload_n 1, 1) := by decide +kernel
theorem dX4_near_31 : decode cX4_near 31 = .ok (.ifCond .ne 7, 3) := by decide +kernel
theorem dX4_near_34 : decode cX4_near 34 = .ok (.iconst 3, 1) := by decide +kernel
theorem dX4_near_35 : decode cX4_near 35 = .ok (.goto 4, 3) := by decide +kernel
theorem dX4_near_38 : decode cX4_near 38 = .ok (.iconst 2, 1) := by decide +kernel
theorem dX4_near_39 : decode cX4_near 39 = .ok (.putfield 37, 3) := by decide +kernel
theorem dX4_near_42 : decode cX4_near 42 = .ok (.aload_n 0, 1) := by decide +kernel
theorem dX4_near_43 : decode cX4_near 43 = .ok (.getfield 37, 3) := by decide +kernel
theorem dX4_near_46 : decode cX4_near 46 = .ok (.ireturn, 1) := by decide +kernel
theorem dX4_loose_0 : decode cX4_loose 0 = .ok (.aload_n 0, 1) := by decide +kernel
theorem dX4_loose_1 : decode cX4_loose 1 = .ok (.getfield 26, 3) := by decide +kernel
theorem dX4_loose_4 : decode cX4_loose 4 = .ok (.iload_n 1, 1) := by decide +kernel
theorem dX4_loose_5 : decode cX4_loose 5 = .ok (.iload_n 2, 1) := by decide +kernel
theorem dX4_loose_6 : decode cX4_loose 6 = .ok (.invokevirtual 126, 3) := by decide +kernel
theorem dX4_loose_9 : decode cX4_loose 9 = .ok (.ifCond .eq 14, 3) := by decide +kernel
theorem dX4_loose_12 : decode cX4_loose 12 = .ok (.iload_n 3, 1) := by decide +kernel
theorem dX4_loose_13 : decode cX4_loose 13 = .ok (.iconst 0, 1) := by decide +kernel
theorem dX4_loose_14 : decode cX4_loose 14 = .ok (.sipush 2000, 3) := by decide +kernel
theorem dX4_loose_17 : decode cX4_loose 17 = .ok (.invokestatic 49, 3) := by decide +kernel
theorem dX4_loose_20 : decode cX4_loose 20 = .ok (.ifCond .ne 5, 3) := by decide +kernel
theorem dX4_loose_23 : decode cX4_loose 23 = .ok (.iconst (-1), 1) := by decide +kernel
theorem dX4_loose_24 : decode cX4_loose 24 = .ok (.ireturn, 1) := by decide +kernel
theorem dX4_loose_25 : decode cX4_loose 25 = .ok (.aload_n 0, 1) := by decide +kernel
theorem dX4_loose_26 : decode cX4_loose 26 = .ok (.getfield 37, 3) := by decide +kernel
theorem dX4_loose_29 : decode cX4_loose 29 = .ok (.iconst 3, 1) := by decide +kernel
theorem dX4_loose_30 : decode cX4_loose 30 = .ok (.if_icmp .ne 13, 3) := by decide +kernel
theorem dX4_loose_33 : decode cX4_loose 33 = .ok (.aload_n 0, 1) := by decide +kernel
theorem dX4_loose_34 : decode cX4_loose 34 = .ok (.getfield 33, 3) := by decide +kernel
theorem dX4_loose_37 : decode cX4_loose 37 = .ok (.invokevirtual 181, 3) := by decide +kernel
theorem dX4_loose_40 : decode cX4_loose 40 = .ok (.ifCond .ne 6, 3) := by decide +kernel
theorem dX4_loose_43 : decode cX4_loose 43 = .ok (.bipush (-2), 2) := by decide +kernel
theorem dX4_loose_45 : decode cX4_loose 45 = .ok (.ireturn, 1) := by decide +kernel
theorem dX4_loose_46 : decode cX4_loose 46 = .ok (.aload_n 0, 1) := by decide +kernel
theorem dX4_loose_47 : decode cX4_loose 47 = .ok (.iconst 0, 1) := by decide +kernel
theorem dX4_loose_48 : decode cX4_loose 48 = .ok (.putfield 37, 3) := by decide +kernel
theorem dX4_loose_51 : decode cX4_loose 51 = .ok (.aload_n 0, 1) := by decide +kernel
theorem dX4_loose_52 : decode cX4_loose 52 = .ok (.dup, 1) := by decide +kernel
theorem dX4_loose_53 : decode cX4_loose 53 = .ok (.getfield 183, 3) := by decide +kernel
theorem dX4_loose_56 : decode cX4_loose 56 = .ok (.iconst 1, 1) := by decide +kernel
theorem dX4_loose_57 : decode cX4_loose 57 = .ok (.iadd, 1) := by decide +kernel
theorem dX4_loose_58 : decode cX4_loose 58 = .ok (.putfield 183, 3) := by decide +kernel
theorem dX4_loose_61 : decode cX4_loose 61 = .ok (.aload_n 0, 1) := by decide +kernel
theorem dX4_loose_62 : decode cX4_loose 62 = .ok (.getfield 33, 3) := by decide +kernel
theorem dX4_loose_65 : decode cX4_loose 65 = .ok (.invokevirtual 186, 3) := by decide +kernel
theorem dX4_loose_68 : decode cX4_loose 68 = .ok (.aload_n 0, 1) := by decide +kernel
theorem dX4_loose_69 : decode cX4_loose 69 = .ok (.getfield 10, 3) := by decide +kernel
theorem dX4_loose_72 : decode cX4_loose 72 = .ok (.invokevirtual 60, 3) := by decide +kernel
theorem dX4_loose_75 : decode cX4_loose 75 = .ok (.istore 4, 2) := by decide +kernel
theorem dX4_loose_77 : decode cX4_loose 77 = .ok (.iload 4, 2) := by decide +kernel
theorem dX4_loose_79 : decode cX4_loose 79 = .ok (.bipush (-9), 2) := by decide +kernel
theorem dX4_loose_81 : decode cX4_loose 81 = .ok (.if_icmp .ne 6, 3) := by decide +kernel
theorem dX4_loose_84 : decode cX4_loose 84 = .ok (.bipush (-3), 2) := by decide +kernel
theorem dX4_loose_86 : decode cX4_loose 86 = .ok (.ireturn, 1) := by decide +kernel
theorem dX4_loose_87 : decode cX4_loose 87 = .ok (.aload_n 0, 1) := by decide +kernel
theorem dX4_loose_88 : decode cX4_loose 88 = .ok (.getfield 26, 3) := by decide +kernel
theorem dX4_loose_91 : decode cX4_loose 91 = .ok (.iload_n 1, 1) := by decide +kernel
theorem dX4_loose_92 : decode cX4_loose 92 = .ok (.iload_n 2, 1) := by decide +kernel
theorem dX4_loose_93 : decode cX4_loose 93 = .ok (.invokevirtual 129, 3) := by decide +kernel
theorem dX4_loose_96 : decode cX4_loose 96 = .ok (.ifCond .eq 33, 3) := by decide +kernel
theorem dX4_loose_99 : decode cX4_loose 99 = .ok (.iload 4, 2) := by decide +kernel
theorem dX4_loose_101 : decode cX4_loose 101 = .ok (.iload_n 3, 1) := by decide +kernel
theorem dX4_loose_102 : decode cX4_loose 102 = .ok (.isub, 1) := by decide +kernel
theorem dX4_loose_103 : decode cX4_loose 103 = .ok (.invokestatic 189, 3) := by decide +kernel
theorem dX4_loose_106 : decode cX4_loose 106 = .ok (.iconst 5, 1) := by decide +kernel
theorem dX4_loose_107 : decode cX4_loose 107 = .ok (.if_icmp .gt 22, 3) := by decide +kernel
theorem dX4_loose_110 : decode cX4_loose 110 = .ok (.aload_n 0, 1) := by decide +kernel
theorem dX4_loose_111 : decode cX4_loose 111 = .ok (.getfield 26, 3) := by decide +kernel
theorem dX4_loose_114 : decode cX4_loose 114 = .ok (.iload_n 1, 1) := by decide +kernel
theorem dX4_loose_115 : decode cX4_loose 115 = .ok (.iload_n 2, 1) := by decide +kernel
theorem dX4_loose_116 : decode cX4_loose 116 = .ok (.aload_n 0, 1) := by decide +kernel
theorem dX4_loose_117 : decode cX4_loose 117 = .ok (.getfield 10, 3) := by decide +kernel
theorem dX4_loose_120 : decode cX4_loose 120 = .ok (.iload 4, 2) := by decide +kernel
theorem dX4_loose_122 : decode cX4_loose 122 = .ok (.invokevirtual 194, 3) := by decide +kernel
theorem dX4_loose_125 : decode cX4_loose 125 = .ok (.invokevirtual 139, 3) := by decide +kernel
theorem dX4_loose_128 : decode cX4_loose 128 = .ok (.pop, 1) := by decide +kernel
theorem dX4_loose_129 : decode cX4_loose 129 = .ok (.iload 4, 2) := by decide +kernel
theorem dX4_loose_131 : decode cX4_loose 131 = .ok (.ireturn, 1) := by decide +kernel
theorem dX4_store_0 : decode cX4_store 0 = .ok (.aload_n 0, 1) := by decide +kernel
theorem dX4_store_1 : decode cX4_store 1 = .ok (.getfield 33, 3) := by decide +kernel
theorem dX4_store_4 : decode cX4_store 4 = .ok (.iload_n 1, 1) := by decide +kernel
theorem dX4_store_5 : decode cX4_store 5 = .ok (.iload_n 2, 1) := by decide +kernel
theorem dX4_store_6 : decode cX4_store 6 = .ok (.invokevirtual 197, 3) := by decide +kernel
theorem dX4_store_9 : decode cX4_store 9 = .ok (.ifCond .eq 15, 3) := by decide +kernel
theorem dX4_store_12 : decode cX4_store 12 = .ok (.aload_n 0, 1) := by decide +kernel
theorem dX4_store_13 : decode cX4_store 13 = .ok (.getfield 33, 3) := by decide +kernel
theorem dX4_store_16 : decode cX4_store 16 = .ok (.iload_n 1, 1) := by decide +kernel
theorem dX4_store_17 : decode cX4_store 17 = .ok (.iload_n 2, 1) := by decide +kernel
theorem dX4_store_18 : decode cX4_store 18 = .ok (.invokevirtual 198, 3) := by decide +kernel
theorem dX4_store_21 : decode cX4_store 21 = .ok (.goto 4, 3) := by decide +kernel
theorem dX4_store_24 : decode cX4_store 24 = .ok (.iconst (-1), 1) := by decide +kernel
theorem dX4_store_25 : decode cX4_store 25 = .ok (.ireturn, 1) := by decide +kernel
theorem dX4_wet_0 : decode cX4_wet 0 = .ok (.iload_n 1, 1) := by decide +kernel
theorem dX4_wet_1 : decode cX4_wet 1 = .ok (.iconst 1, 1) := by decide +kernel
theorem dX4_wet_2 : decode cX4_wet 2 = .ok (.bipush 20, 2) := by decide +kernel
theorem dX4_wet_4 : decode cX4_wet 4 = .ok (.invokestatic 49, 3) := by decide +kernel
theorem dX4_wet_7 : decode cX4_wet 7 = .ok (.ifCond .eq 16, 3) := by decide +kernel
theorem dX4_wet_10 : decode cX4_wet 10 = .ok (.iload_n 2, 1) := by decide +kernel
theorem dX4_wet_11 : decode cX4_wet 11 = .ok (.iconst 0, 1) := by decide +kernel
theorem dX4_wet_12 : decode cX4_wet 12 = .ok (.iconst 1, 1) := by decide +kernel
theorem dX4_wet_13 : decode cX4_wet 13 = .ok (.iload_n 1, 1) := by decide +kernel
theorem dX4_wet_14 : decode cX4_wet 14 = .ok (.ishl, 1) := by decide +kernel
theorem dX4_wet_15 : decode cX4_wet 15 = .ok (.iconst 1, 1) := by decide +kernel
theorem dX4_wet_16 : decode cX4_wet 16 = .ok (.isub, 1) := by decide +kernel
theorem dX4_wet_17 : decode cX4_wet 17 = .ok (.invokestatic 49, 3) := by decide +kernel
theorem dX4_wet_20 : decode cX4_wet 20 = .ok (.ifCond .ne 5, 3) := by decide +kernel
theorem dX4_wet_23 : decode cX4_wet 23 = .ok (.iconst (-1), 1) := by decide +kernel
theorem dX4_wet_24 : decode cX4_wet 24 = .ok (.ireturn, 1) := by decide +kernel
theorem dX4_wet_25 : decode cX4_wet 25 = .ok (.aload_n 0, 1) := by decide +kernel
theorem dX4_wet_26 : decode cX4_wet 26 = .ok (.getfield 33, 3) := by decide +kernel
theorem dX4_wet_29 : decode cX4_wet 29 = .ok (.iload_n 1, 1) := by decide +kernel
theorem dX4_wet_30 : decode cX4_wet 30 = .ok (.iload_n 2, 1) := by decide +kernel
theorem dX4_wet_31 : decode cX4_wet 31 = .ok (.invokevirtual 199, 3) := by decide +kernel
theorem dX4_wet_34 : decode cX4_wet 34 = .ok (.iload_n 1, 1) := by decide +kernel
theorem dX4_wet_35 : decode cX4_wet 35 = .ok (.ireturn, 1) := by decide +kernel
theorem dX4_lasts_0 : decode cX4_lasts 0 = .ok (.iload_n 1, 1) := by decide +kernel
theorem dX4_lasts_1 : decode cX4_lasts 1 = .ok (.iconst 0, 1) := by decide +kernel
theorem dX4_lasts_2 : decode cX4_lasts 2 = .ok (.bipush 60, 2) := by decide +kernel
theorem dX4_lasts_4 : decode cX4_lasts 4 = .ok (.invokestatic 49, 3) := by decide +kernel
theorem dX4_lasts_7 : decode cX4_lasts 7 = .ok (.ifCond .ne 5, 3) := by decide +kernel
theorem dX4_lasts_10 : decode cX4_lasts 10 = .ok (.iconst (-1), 1) := by decide +kernel
theorem dX4_lasts_11 : decode cX4_lasts 11 = .ok (.ireturn, 1) := by decide +kernel
theorem dX4_lasts_12 : decode cX4_lasts 12 = .ok (.aload_n 0, 1) := by decide +kernel
theorem dX4_lasts_13 : decode cX4_lasts 13 = .ok (.getfield 33, 3) := by decide +kernel
theorem dX4_lasts_16 : decode cX4_lasts 16 = .ok (.iload_n 1, 1) := by decide +kernel
theorem dX4_lasts_17 : decode cX4_lasts 17 = .ok (.aload_n 0, 1) := by decide +kernel
theorem dX4_lasts_18 : decode cX4_lasts 18 = .ok (.getfield 10, 3) := by decide +kernel
theorem dX4_lasts_21 : decode cX4_lasts 21 = .ok (.invokevirtual 202, 3) := by decide +kernel
theorem dX4_lasts_24 : decode cX4_lasts 24 = .ok (.bipush 100, 2) := by decide +kernel
theorem dX4_lasts_26 : decode cX4_lasts 26 = .ok (.invokevirtual 205, 3) := by decide +kernel
theorem dX4_lasts_29 : decode cX4_lasts 29 = .ok (.ireturn, 1) := by decide +kernel
theorem dX4_rate_0 : decode cX4_rate 0 = .ok (.iload_n 1, 1) := by decide +kernel
theorem dX4_rate_1 : decode cX4_rate 1 = .ok (.iconst 1, 1) := by decide +kernel
theorem dX4_rate_2 : decode cX4_rate 2 = .ok (.bipush 100, 2) := by decide +kernel
theorem dX4_rate_4 : decode cX4_rate 4 = .ok (.invokestatic 49, 3) := by decide +kernel
theorem dX4_rate_7 : decode cX4_rate 7 = .ok (.ifCond .eq 21, 3) := by decide +kernel
theorem dX4_rate_10 : decode cX4_rate 10 = .ok (.aload_n 0, 1) := by decide +kernel
theorem dX4_rate_11 : decode cX4_rate 11 = .ok (.getfield 33, 3) := by decide +kernel
theorem dX4_rate_14 : decode cX4_rate 14 = .ok (.iload_n 1, 1) := by decide +kernel
theorem dX4_rate_15 : decode cX4_rate 15 = .ok (.aload_n 0, 1) := by decide +kernel
theorem dX4_rate_16 : decode cX4_rate 16 = .ok (.getfield 10, 3) := by decide +kernel
theorem dX4_rate_19 : decode cX4_rate 19 = .ok (.invokevirtual 202, 3) := by decide +kernel
theorem dX4_rate_22 : decode cX4_rate 22 = .ok (.invokevirtual 208, 3) := by decide +kernel
theorem dX4_rate_25 : decode cX4_rate 25 = .ok (.goto 4, 3) := by decide +kernel
theorem dX4_rate_28 : decode cX4_rate 28 = .ok (.iconst (-1), 1) := by decide +kernel
