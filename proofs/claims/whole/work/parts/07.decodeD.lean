theorem dZ_stays_0 : decode bZ_stays 0 = .ok (.aload_n 0, 1) := by decide +kernel
theorem dZ_stays_1 : decode bZ_stays 1 = .ok (.iconst 0, 1) := by decide +kernel
theorem dZ_stays_2 : decode bZ_stays 2 = .ok (.putfield 68, 3) := by decide +kernel
theorem dZ_stays_5 : decode bZ_stays 5 = .ok (.aload_n 0, 1) := by decide +kernel
theorem dZ_stays_6 : decode bZ_stays 6 = .ok (.iload_n 1, 1) := by decide +kernel
theorem dZ_stays_7 : decode bZ_stays 7 = .ok (.invokevirtual 143, 3) := by decide +kernel
theorem dZ_stays_10 : decode bZ_stays 10 = .ok (.ifCond .ne 5, 3) := by decide +kernel
theorem dZ_stays_13 : decode bZ_stays 13 = .ok (.iconst (-1), 1) := by decide +kernel
theorem dZ_stays_14 : decode bZ_stays 14 = .ok (.ireturn, 1) := by decide +kernel
theorem dZ_stays_15 : decode bZ_stays 15 = .ok (.aload_n 0, 1) := by decide +kernel
theorem dZ_stays_16 : decode bZ_stays 16 = .ok (.iload_n 1, 1) := by decide +kernel
theorem dZ_stays_17 : decode bZ_stays 17 = .ok (.invokevirtual 165, 3) := by decide +kernel
theorem dZ_stays_20 : decode bZ_stays 20 = .ok (.ifCond .eq 6, 3) := by decide +kernel
theorem dZ_stays_23 : decode bZ_stays 23 = .ok (.bipush (-2), 2) := by decide +kernel
theorem dZ_stays_25 : decode bZ_stays 25 = .ok (.ireturn, 1) := by decide +kernel
theorem dZ_stays_26 : decode bZ_stays 26 = .ok (.aload_n 0, 1) := by decide +kernel
theorem dZ_stays_27 : decode bZ_stays 27 = .ok (.invokevirtual 168, 3) := by decide +kernel
theorem dZ_stays_30 : decode bZ_stays 30 = .ok (.aload_n 0, 1) := by decide +kernel
theorem dZ_stays_31 : decode bZ_stays 31 = .ok (.getfield 28, 3) := by decide +kernel
theorem dZ_stays_34 : decode bZ_stays 34 = .ok (.iconst 4, 1) := by decide +kernel
theorem dZ_stays_35 : decode bZ_stays 35 = .ok (.dup2, 1) := by decide +kernel
theorem dZ_stays_36 : decode bZ_stays 36 = .ok (.iaload, 1) := by decide +kernel
theorem dZ_stays_37 : decode bZ_stays 37 = .ok (.iconst 1, 1) := by decide +kernel
theorem dZ_stays_38 : decode bZ_stays 38 = .ok (.iload_n 1, 1) := by decide +kernel
theorem dZ_stays_39 : decode bZ_stays 39 = .ok (.ishl, 1) := by decide +kernel
theorem dZ_stays_40 : decode bZ_stays 40 = .ok (.ior, 1) := by decide +kernel
theorem dZ_stays_41 : decode bZ_stays 41 = .ok (.iastore, 1) := by decide +kernel
theorem dZ_stays_42 : decode bZ_stays 42 = .ok (.aload_n 0, 1) := by decide +kernel
theorem dZ_stays_43 : decode bZ_stays 43 = .ok (.getfield 28, 3) := by decide +kernel
theorem dZ_stays_46 : decode bZ_stays 46 = .ok (.iconst 4, 1) := by decide +kernel
theorem dZ_stays_47 : decode bZ_stays 47 = .ok (.iaload, 1) := by decide +kernel
theorem dZ_stays_48 : decode bZ_stays 48 = .ok (.invokestatic 153, 3) := by decide +kernel
theorem dZ_stays_51 : decode bZ_stays 51 = .ok (.ireturn, 1) := by decide +kernel
theorem dZ_loses_0 : decode bZ_loses 0 = .ok (.aload_n 0, 1) := by decide +kernel
theorem dZ_loses_1 : decode bZ_loses 1 = .ok (.iconst 0, 1) := by decide +kernel
theorem dZ_loses_2 : decode bZ_loses 2 = .ok (.putfield 68, 3) := by decide +kernel
theorem dZ_loses_5 : decode bZ_loses 5 = .ok (.aload_n 0, 1) := by decide +kernel
theorem dZ_loses_6 : decode bZ_loses 6 = .ok (.iload_n 1, 1) := by decide +kernel
theorem dZ_loses_7 : decode bZ_loses 7 = .ok (.invokevirtual 143, 3) := by decide +kernel
theorem dZ_loses_10 : decode bZ_loses 10 = .ok (.ifCond .ne 5, 3) := by decide +kernel
theorem dZ_loses_13 : decode bZ_loses 13 = .ok (.iconst (-1), 1) := by decide +kernel
theorem dZ_loses_14 : decode bZ_loses 14 = .ok (.ireturn, 1) := by decide +kernel
theorem dZ_loses_15 : decode bZ_loses 15 = .ok (.aload_n 0, 1) := by decide +kernel
theorem dZ_loses_16 : decode bZ_loses 16 = .ok (.getfield 28, 3) := by decide +kernel
theorem dZ_loses_19 : decode bZ_loses 19 = .ok (.iconst 5, 1) := by decide +kernel
theorem dZ_loses_20 : decode bZ_loses 20 = .ok (.iaload, 1) := by decide +kernel
theorem dZ_loses_21 : decode bZ_loses 21 = .ok (.bipush 6, 2) := by decide +kernel
theorem dZ_loses_23 : decode bZ_loses 23 = .ok (.if_icmp .ne 6, 3) := by decide +kernel
theorem dZ_loses_26 : decode bZ_loses 26 = .ok (.bipush (-3), 2) := by decide +kernel
theorem dZ_loses_28 : decode bZ_loses 28 = .ok (.ireturn, 1) := by decide +kernel
theorem dZ_loses_29 : decode bZ_loses 29 = .ok (.aload_n 0, 1) := by decide +kernel
theorem dZ_loses_30 : decode bZ_loses 30 = .ok (.invokevirtual 168, 3) := by decide +kernel
theorem dZ_loses_33 : decode bZ_loses 33 = .ok (.aload_n 0, 1) := by decide +kernel
theorem dZ_loses_34 : decode bZ_loses 34 = .ok (.getfield 28, 3) := by decide +kernel
theorem dZ_loses_37 : decode bZ_loses 37 = .ok (.bipush 6, 2) := by decide +kernel
theorem dZ_loses_39 : decode bZ_loses 39 = .ok (.aload_n 0, 1) := by decide +kernel
theorem dZ_loses_40 : decode bZ_loses 40 = .ok (.getfield 28, 3) := by decide +kernel
theorem dZ_loses_43 : decode bZ_loses 43 = .ok (.iconst 5, 1) := by decide +kernel
theorem dZ_loses_44 : decode bZ_loses 44 = .ok (.iaload, 1) := by decide +kernel
theorem dZ_loses_45 : decode bZ_loses 45 = .ok (.iadd, 1) := by decide +kernel
theorem dZ_loses_46 : decode bZ_loses 46 = .ok (.aload_n 0, 1) := by decide +kernel
theorem dZ_loses_47 : decode bZ_loses 47 = .ok (.getfield 28, 3) := by decide +kernel
theorem dZ_loses_50 : decode bZ_loses 50 = .ok (.iconst 0, 1) := by decide +kernel
theorem dZ_loses_51 : decode bZ_loses 51 = .ok (.iload_n 1, 1) := by decide +kernel
theorem dZ_loses_52 : decode bZ_loses 52 = .ok (.iadd, 1) := by decide +kernel
theorem dZ_loses_53 : decode bZ_loses 53 = .ok (.iaload, 1) := by decide +kernel
theorem dZ_loses_54 : decode bZ_loses 54 = .ok (.iastore, 1) := by decide +kernel
theorem dZ_loses_55 : decode bZ_loses 55 = .ok (.aload_n 0, 1) := by decide +kernel
theorem dZ_loses_56 : decode bZ_loses 56 = .ok (.getfield 28, 3) := by decide +kernel
theorem dZ_loses_59 : decode bZ_loses 59 = .ok (.iconst 5, 1) := by decide +kernel
theorem dZ_loses_60 : decode bZ_loses 60 = .ok (.dup2, 1) := by decide +kernel
theorem dZ_loses_61 : decode bZ_loses 61 = .ok (.iaload, 1) := by decide +kernel
theorem dZ_loses_62 : decode bZ_loses 62 = .ok (.iconst 1, 1) := by decide +kernel
theorem dZ_loses_63 : decode bZ_loses 63 = .ok (.iadd, 1) := by decide +kernel
theorem dZ_loses_64 : decode bZ_loses 64 = .ok (.iastore, 1) := by decide +kernel
theorem dZ_loses_65 : decode bZ_loses 65 = .ok (.aload_n 0, 1) := by decide +kernel
theorem dZ_loses_66 : decode bZ_loses 66 = .ok (.getfield 28, 3) := by decide +kernel
theorem dZ_loses_69 : decode bZ_loses 69 = .ok (.iconst 5, 1) := by decide +kernel
theorem dZ_loses_70 : decode bZ_loses 70 = .ok (.iaload, 1) := by decide +kernel
theorem dZ_loses_71 : decode bZ_loses 71 = .ok (.ireturn, 1) := by decide +kernel
theorem dZ_picks_0 : decode bZ_picks 0 = .ok (.aload_n 0, 1) := by decide +kernel
theorem dZ_picks_1 : decode bZ_picks 1 = .ok (.iconst 0, 1) := by decide +kernel
theorem dZ_picks_2 : decode bZ_picks 2 = .ok (.putfield 68, 3) := by decide +kernel
theorem dZ_picks_5 : decode bZ_picks 5 = .ok (.aload_n 0, 1) := by decide +kernel
theorem dZ_picks_6 : decode bZ_picks 6 = .ok (.iload_n 1, 1) := by decide +kernel
theorem dZ_picks_7 : decode bZ_picks 7 = .ok (.invokevirtual 143, 3) := by decide +kernel
theorem dZ_picks_10 : decode bZ_picks 10 = .ok (.ifCond .ne 5, 3) := by decide +kernel
theorem dZ_picks_13 : decode bZ_picks 13 = .ok (.iconst (-1), 1) := by decide +kernel
theorem dZ_picks_14 : decode bZ_picks 14 = .ok (.ireturn, 1) := by decide +kernel
theorem dZ_picks_15 : decode bZ_picks 15 = .ok (.aload_n 0, 1) := by decide +kernel
theorem dZ_picks_16 : decode bZ_picks 16 = .ok (.aload_n 0, 1) := by decide +kernel
theorem dZ_picks_17 : decode bZ_picks 17 = .ok (.getfield 28, 3) := by decide +kernel
theorem dZ_picks_20 : decode bZ_picks 20 = .ok (.iconst 0, 1) := by decide +kernel
theorem dZ_picks_21 : decode bZ_picks 21 = .ok (.iload_n 1, 1) := by decide +kernel
theorem dZ_picks_22 : decode bZ_picks 22 = .ok (.iadd, 1) := by decide +kernel
theorem dZ_picks_23 : decode bZ_picks 23 = .ok (.iaload, 1) := by decide +kernel
theorem dZ_picks_24 : decode bZ_picks 24 = .ok (.invokevirtual 171, 3) := by decide +kernel
theorem dZ_picks_27 : decode bZ_picks 27 = .ok (.istore_n 2, 1) := by decide +kernel
theorem dZ_picks_28 : decode bZ_picks 28 = .ok (.aload_n 0, 1) := by decide +kernel
theorem dZ_picks_29 : decode bZ_picks 29 = .ok (.iload_n 1, 1) := by decide +kernel
theorem dZ_picks_30 : decode bZ_picks 30 = .ok (.invokevirtual 165, 3) := by decide +kernel
theorem dZ_picks_33 : decode bZ_picks 33 = .ok (.ifCond .ne 9, 3) := by decide +kernel
theorem dZ_picks_36 : decode bZ_picks 36 = .ok (.iload_n 2, 1) := by decide +kernel
theorem dZ_picks_37 : decode bZ_picks 37 = .ok (.bipush (-9), 2) := by decide +kernel
theorem dZ_picks_39 : decode bZ_picks 39 = .ok (.if_icmp .ne 6, 3) := by decide +kernel
theorem dZ_picks_42 : decode bZ_picks 42 = .ok (.bipush (-2), 2) := by decide +kernel
theorem dZ_picks_44 : decode bZ_picks 44 = .ok (.ireturn, 1) := by decide +kernel
theorem dZ_picks_45 : decode bZ_picks 45 = .ok (.aload_n 0, 1) := by decide +kernel
theorem dZ_picks_46 : decode bZ_picks 46 = .ok (.invokevirtual 168, 3) := by decide +kernel
theorem dZ_picks_49 : decode bZ_picks 49 = .ok (.iload_n 2, 1) := by decide +kernel
theorem dZ_picks_50 : decode bZ_picks 50 = .ok (.istore_n 3, 1) := by decide +kernel
theorem dZ_picks_51 : decode bZ_picks 51 = .ok (.iload_n 3, 1) := by decide +kernel
theorem dZ_picks_52 : decode bZ_picks 52 = .ok (.iconst 5, 1) := by decide +kernel
theorem dZ_picks_53 : decode bZ_picks 53 = .ok (.if_icmp .ge 29, 3) := by decide +kernel
theorem dZ_picks_56 : decode bZ_picks 56 = .ok (.aload_n 0, 1) := by decide +kernel
theorem dZ_picks_57 : decode bZ_picks 57 = .ok (.getfield 28, 3) := by decide +kernel
theorem dZ_picks_60 : decode bZ_picks 60 = .ok (.bipush 6, 2) := by decide +kernel
theorem dZ_picks_62 : decode bZ_picks 62 = .ok (.iload_n 3, 1) := by decide +kernel
theorem dZ_picks_63 : decode bZ_picks 63 = .ok (.iadd, 1) := by decide +kernel
theorem dZ_picks_64 : decode bZ_picks 64 = .ok (.aload_n 0, 1) := by decide +kernel
theorem dZ_picks_65 : decode bZ_picks 65 = .ok (.getfield 28, 3) := by decide +kernel
theorem dZ_picks_68 : decode bZ_picks 68 = .ok (.bipush 6, 2) := by decide +kernel
theorem dZ_picks_70 : decode bZ_picks 70 = .ok (.iload_n 3, 1) := by decide +kernel
theorem dZ_picks_71 : decode bZ_picks 71 = .ok (.iadd, 1) := by decide +kernel
theorem dZ_picks_72 : decode bZ_picks 72 = .ok (.iconst 1, 1) := by decide +kernel
theorem dZ_picks_73 : decode bZ_picks 73 = .ok (.iadd, 1) := by decide +kernel
theorem dZ_picks_74 : decode bZ_picks 74 = .ok (.iaload, 1) := by decide +kernel
theorem dZ_picks_75 : decode bZ_picks 75 = .ok (.iastore, 1) := by decide +kernel
theorem dZ_picks_76 : decode bZ_picks 76 = .ok (.iinc 3 1, 3) := by decide +kernel
theorem dZ_picks_79 : decode bZ_picks 79 = .ok (.goto (-28), 3) := by decide +kernel
theorem dZ_picks_82 : decode bZ_picks 82 = .ok (.aload_n 0, 1) := by decide +kernel
theorem dZ_picks_83 : decode bZ_picks 83 = .ok (.getfield 28, 3) := by decide +kernel
theorem dZ_picks_86 : decode bZ_picks 86 = .ok (.iconst 5, 1) := by decide +kernel
theorem dZ_picks_87 : decode bZ_picks 87 = .ok (.dup2, 1) := by decide +kernel
theorem dZ_picks_88 : decode bZ_picks 88 = .ok (.iaload, 1) := by decide +kernel
theorem dZ_picks_89 : decode bZ_picks 89 = .ok (.iconst 1, 1) := by decide +kernel
theorem dZ_picks_90 : decode bZ_picks 90 = .ok (.isub, 1) := by decide +kernel
theorem dZ_picks_91 : decode bZ_picks 91 = .ok (.iastore, 1) := by decide +kernel
theorem dZ_picks_92 : decode bZ_picks 92 = .ok (.aload_n 0, 1) := by decide +kernel
theorem dZ_picks_93 : decode bZ_picks 93 = .ok (.getfield 28, 3) := by decide +kernel
theorem dZ_picks_96 : decode bZ_picks 96 = .ok (.iconst 5, 1) := by decide +kernel
theorem dZ_picks_97 : decode bZ_picks 97 = .ok (.iaload, 1) := by decide +kernel
theorem dZ_picks_98 : decode bZ_picks 98 = .ok (.ireturn, 1) := by decide +kernel
theorem dZ_oldestAt_0 : decode bZ_oldestAt 0 = .ok (.bipush (-9), 2) := by decide +kernel
theorem dZ_oldestAt_2 : decode bZ_oldestAt 2 = .ok (.istore_n 2, 1) := by decide +kernel
theorem dZ_oldestAt_3 : decode bZ_oldestAt 3 = .ok (.aload_n 0, 1) := by decide +kernel
theorem dZ_oldestAt_4 : decode bZ_oldestAt 4 = .ok (.getfield 28, 3) := by decide +kernel
theorem dZ_oldestAt_7 : decode bZ_oldestAt 7 = .ok (.iconst 5, 1) := by decide +kernel
theorem dZ_oldestAt_8 : decode bZ_oldestAt 8 = .ok (.iaload, 1) := by decide +kernel
theorem dZ_oldestAt_9 : decode bZ_oldestAt 9 = .ok (.iconst 1, 1) := by decide +kernel
theorem dZ_oldestAt_10 : decode bZ_oldestAt 10 = .ok (.isub, 1) := by decide +kernel
theorem dZ_oldestAt_11 : decode bZ_oldestAt 11 = .ok (.istore_n 3, 1) := by decide +kernel
theorem dZ_oldestAt_12 : decode bZ_oldestAt 12 = .ok (.iload_n 3, 1) := by decide +kernel
theorem dZ_oldestAt_13 : decode bZ_oldestAt 13 = .ok (.ifCond .lt 28, 3) := by decide +kernel
theorem dZ_oldestAt_16 : decode bZ_oldestAt 16 = .ok (.aload_n 0, 1) := by decide +kernel
theorem dZ_oldestAt_17 : decode bZ_oldestAt 17 = .ok (.getfield 28, 3) := by decide +kernel
theorem dZ_oldestAt_20 : decode bZ_oldestAt 20 = .ok (.bipush 6, 2) := by decide +kernel
theorem dZ_oldestAt_22 : decode bZ_oldestAt 22 = .ok (.iload_n 3, 1) := by decide +kernel
theorem dZ_oldestAt_23 : decode bZ_oldestAt 23 = .ok (.iadd, 1) := by decide +kernel
theorem dZ_oldestAt_24 : decode bZ_oldestAt 24 = .ok (.iaload, 1) := by decide +kernel
theorem dZ_oldestAt_25 : decode bZ_oldestAt 25 = .ok (.iload_n 1, 1) := by decide +kernel
theorem dZ_oldestAt_26 : decode bZ_oldestAt 26 = .ok (.if_icmp .ne 7, 3) := by decide +kernel
theorem dZ_oldestAt_29 : decode bZ_oldestAt 29 = .ok (.iload_n 3, 1) := by decide +kernel
theorem dZ_oldestAt_30 : decode bZ_oldestAt 30 = .ok (.goto 4, 3) := by decide +kernel
theorem dZ_oldestAt_33 : decode bZ_oldestAt 33 = .ok (.iload_n 2, 1) := by decide +kernel
theorem dZ_oldestAt_34 : decode bZ_oldestAt 34 = .ok (.istore_n 2, 1) := by decide +kernel
theorem dZ_oldestAt_35 : decode bZ_oldestAt 35 = .ok (.iinc 3 (-1), 3) := by decide +kernel
theorem dZ_oldestAt_38 : decode bZ_oldestAt 38 = .ok (.goto (-26), 3) := by decide +kernel
theorem dZ_oldestAt_41 : decode bZ_oldestAt 41 = .ok (.iload_n 2, 1) := by decide +kernel
theorem dZ_oldestAt_42 : decode bZ_oldestAt 42 = .ok (.ireturn, 1) := by decide +kernel
theorem dZ_undo_0 : decode bZ_undo 0 = .ok (.aload_n 0, 1) := by decide +kernel
theorem dZ_undo_1 : decode bZ_undo 1 = .ok (.iconst 0, 1) := by decide +kernel
theorem dZ_undo_2 : decode bZ_undo 2 = .ok (.putfield 68, 3) := by decide +kernel
theorem dZ_undo_5 : decode bZ_undo 5 = .ok (.aload_n 0, 1) := by decide +kernel
theorem dZ_undo_6 : decode bZ_undo 6 = .ok (.getfield 133, 3) := by decide +kernel
theorem dZ_undo_9 : decode bZ_undo 9 = .ok (.ifCond .ne 6, 3) := by decide +kernel
theorem dZ_undo_12 : decode bZ_undo 12 = .ok (.bipush (-2), 2) := by decide +kernel
theorem dZ_undo_14 : decode bZ_undo 14 = .ok (.ireturn, 1) := by decide +kernel
theorem dZ_undo_15 : decode bZ_undo 15 = .ok (.aload_n 0, 1) := by decide +kernel
theorem dZ_undo_16 : decode bZ_undo 16 = .ok (.dup, 1) := by decide +kernel
theorem dZ_undo_17 : decode bZ_undo 17 = .ok (.getfield 133, 3) := by decide +kernel
theorem dZ_undo_20 : decode bZ_undo 20 = .ok (.iconst 1, 1) := by decide +kernel
theorem dZ_undo_21 : decode bZ_undo 21 = .ok (.isub, 1) := by decide +kernel
theorem dZ_undo_22 : decode bZ_undo 22 = .ok (.putfield 133, 3) := by decide +kernel
theorem dZ_undo_25 : decode bZ_undo 25 = .ok (.iconst 0, 1) := by decide +kernel
theorem dZ_undo_26 : decode bZ_undo 26 = .ok (.istore_n 1, 1) := by decide +kernel
theorem dZ_undo_27 : decode bZ_undo 27 = .ok (.iload_n 1, 1) := by decide +kernel
theorem dZ_undo_28 : decode bZ_undo 28 = .ok (.sipush 212, 3) := by decide +kernel
theorem dZ_undo_31 : decode bZ_undo 31 = .ok (.if_icmp .ge 30, 3) := by decide +kernel
theorem dZ_undo_34 : decode bZ_undo 34 = .ok (.aload_n 0, 1) := by decide +kernel
theorem dZ_undo_35 : decode bZ_undo 35 = .ok (.getfield 28, 3) := by decide +kernel
theorem dZ_undo_38 : decode bZ_undo 38 = .ok (.iload_n 1, 1) := by decide +kernel
theorem dZ_undo_39 : decode bZ_undo 39 = .ok (.aload_n 0, 1) := by decide +kernel
theorem dZ_undo_40 : decode bZ_undo 40 = .ok (.getfield 38, 3) := by decide +kernel
theorem dZ_undo_43 : decode bZ_undo 43 = .ok (.sipush 212, 3) := by decide +kernel
theorem dZ_undo_46 : decode bZ_undo 46 = .ok (.aload_n 0, 1) := by decide +kernel
theorem dZ_undo_47 : decode bZ_undo 47 = .ok (.getfield 133, 3) := by decide +kernel
theorem dZ_undo_50 : decode bZ_undo 50 = .ok (.imul, 1) := by decide +kernel
theorem dZ_undo_51 : decode bZ_undo 51 = .ok (.iload_n 1, 1) := by decide +kernel
theorem dZ_undo_52 : decode bZ_undo 52 = .ok (.iadd, 1) := by decide +kernel
theorem dZ_undo_53 : decode bZ_undo 53 = .ok (.iaload, 1) := by decide +kernel
theorem dZ_undo_54 : decode bZ_undo 54 = .ok (.iastore, 1) := by decide +kernel
theorem dZ_undo_55 : decode bZ_undo 55 = .ok (.iinc 1 1, 3) := by decide +kernel
theorem dZ_undo_58 : decode bZ_undo 58 = .ok (.goto (-31), 3) := by decide +kernel
theorem dZ_undo_61 : decode bZ_undo 61 = .ok (.aload_n 0, 1) := by decide +kernel
theorem dZ_undo_62 : decode bZ_undo 62 = .ok (.getfield 133, 3) := by decide +kernel
theorem dZ_undo_65 : decode bZ_undo 65 = .ok (.ireturn, 1) := by decide +kernel
theorem dZ_altitude_0 : decode bZ_altitude 0 = .ok (.aload_n 0, 1) := by decide +kernel
theorem dZ_altitude_1 : decode bZ_altitude 1 = .ok (.iconst 0, 1) := by decide +kernel
theorem dZ_altitude_2 : decode bZ_altitude 2 = .ok (.putfield 68, 3) := by decide +kernel
theorem dZ_altitude_5 : decode bZ_altitude 5 = .ok (.iload_n 1, 1) := by decide +kernel
theorem dZ_altitude_6 : decode bZ_altitude 6 = .ok (.iconst 0, 1) := by decide +kernel
theorem dZ_altitude_7 : decode bZ_altitude 7 = .ok (.sipush 1000, 3) := by decide +kernel
theorem dZ_altitude_10 : decode bZ_altitude 10 = .ok (.aload_n 0, 1) := by decide +kernel
theorem dZ_altitude_11 : decode bZ_altitude 11 = .ok (.invokevirtual 146, 3) := by decide +kernel
theorem dZ_altitude_14 : decode bZ_altitude 14 = .ok (.imul, 1) := by decide +kernel
theorem dZ_altitude_15 : decode bZ_altitude 15 = .ok (.invokestatic 72, 3) := by decide +kernel
theorem dZ_altitude_18 : decode bZ_altitude 18 = .ok (.ifCond .eq 11, 3) := by decide +kernel
theorem dZ_altitude_21 : decode bZ_altitude 21 = .ok (.aload_n 0, 1) := by decide +kernel
theorem dZ_altitude_22 : decode bZ_altitude 22 = .ok (.iload_n 1, 1) := by decide +kernel
theorem dZ_altitude_23 : decode bZ_altitude 23 = .ok (.invokevirtual 174, 3) := by decide +kernel
theorem dZ_altitude_26 : decode bZ_altitude 26 = .ok (.goto 4, 3) := by decide +kernel
theorem dZ_altitude_29 : decode bZ_altitude 29 = .ok (.iconst (-1), 1) := by decide +kernel
theorem dZ_altitude_30 : decode bZ_altitude 30 = .ok (.ireturn, 1) := by decide +kernel
theorem dZ_altitudeOf_0 : decode bZ_altitudeOf 0 = .ok (.iconst 0, 1) := by decide +kernel
theorem dZ_altitudeOf_1 : decode bZ_altitudeOf 1 = .ok (.istore_n 2, 1) := by decide +kernel
theorem dZ_altitudeOf_2 : decode bZ_altitudeOf 2 = .ok (.iconst 0, 1) := by decide +kernel
theorem dZ_altitudeOf_3 : decode bZ_altitudeOf 3 = .ok (.istore_n 3, 1) := by decide +kernel
theorem dZ_altitudeOf_4 : decode bZ_altitudeOf 4 = .ok (.iload_n 3, 1) := by decide +kernel
theorem dZ_altitudeOf_5 : decode bZ_altitudeOf 5 = .ok (.iload_n 1, 1) := by decide +kernel
theorem dZ_altitudeOf_6 : decode bZ_altitudeOf 6 = .ok (.sipush 1000, 3) := by decide +kernel
theorem dZ_altitudeOf_9 : decode bZ_altitudeOf 9 = .ok (.idiv, 1) := by decide +kernel
theorem dZ_altitudeOf_10 : decode bZ_altitudeOf 10 = .ok (.if_icmp .ge 21, 3) := by decide +kernel
theorem dZ_altitudeOf_13 : decode bZ_altitudeOf 13 = .ok (.iload_n 2, 1) := by decide +kernel
theorem dZ_altitudeOf_14 : decode bZ_altitudeOf 14 = .ok (.sipush 1000, 3) := by decide +kernel
theorem dZ_altitudeOf_17 : decode bZ_altitudeOf 17 = .ok (.aload_n 0, 1) := by decide +kernel
theorem dZ_altitudeOf_18 : decode bZ_altitudeOf 18 = .ok (.iload_n 3, 1) := by decide +kernel
theorem dZ_altitudeOf_19 : decode bZ_altitudeOf 19 = .ok (.invokevirtual 150, 3) := by decide +kernel
theorem dZ_altitudeOf_22 : decode bZ_altitudeOf 22 = .ok (.imul, 1) := by decide +kernel
theorem dZ_altitudeOf_23 : decode bZ_altitudeOf 23 = .ok (.iadd, 1) := by decide +kernel
theorem dZ_altitudeOf_24 : decode bZ_altitudeOf 24 = .ok (.istore_n 2, 1) := by decide +kernel
theorem dZ_altitudeOf_25 : decode bZ_altitudeOf 25 = .ok (.iinc 3 1, 3) := by decide +kernel
theorem dZ_altitudeOf_28 : decode bZ_altitudeOf 28 = .ok (.goto (-24), 3) := by decide +kernel
theorem dZ_altitudeOf_31 : decode bZ_altitudeOf 31 = .ok (.iload_n 1, 1) := by decide +kernel
theorem dZ_altitudeOf_32 : decode bZ_altitudeOf 32 = .ok (.sipush 1000, 3) := by decide +kernel
theorem dZ_altitudeOf_35 : decode bZ_altitudeOf 35 = .ok (.irem, 1) := by decide +kernel
theorem dZ_altitudeOf_36 : decode bZ_altitudeOf 36 = .ok (.istore_n 3, 1) := by decide +kernel
theorem dZ_altitudeOf_37 : decode bZ_altitudeOf 37 = .ok (.iload_n 3, 1) := by decide +kernel
theorem dZ_altitudeOf_38 : decode bZ_altitudeOf 38 = .ok (.ifCond .ne 7, 3) := by decide +kernel
theorem dZ_altitudeOf_41 : decode bZ_altitudeOf 41 = .ok (.iload_n 2, 1) := by decide +kernel
theorem dZ_altitudeOf_42 : decode bZ_altitudeOf 42 = .ok (.goto 16, 3) := by decide +kernel
theorem dZ_altitudeOf_45 : decode bZ_altitudeOf 45 = .ok (.iload_n 2, 1) := by decide +kernel
theorem dZ_altitudeOf_46 : decode bZ_altitudeOf 46 = .ok (.iload_n 3, 1) := by decide +kernel
theorem dZ_altitudeOf_47 : decode bZ_altitudeOf 47 = .ok (.aload_n 0, 1) := by decide +kernel
theorem dZ_altitudeOf_48 : decode bZ_altitudeOf 48 = .ok (.iload_n 1, 1) := by decide +kernel
theorem dZ_altitudeOf_49 : decode bZ_altitudeOf 49 = .ok (.sipush 1000, 3) := by decide +kernel
theorem dZ_altitudeOf_52 : decode bZ_altitudeOf 52 = .ok (.idiv, 1) := by decide +kernel
theorem dZ_altitudeOf_53 : decode bZ_altitudeOf 53 = .ok (.invokevirtual 150, 3) := by decide +kernel
theorem dZ_altitudeOf_56 : decode bZ_altitudeOf 56 = .ok (.imul, 1) := by decide +kernel
theorem dZ_altitudeOf_57 : decode bZ_altitudeOf 57 = .ok (.iadd, 1) := by decide +kernel
theorem dZ_altitudeOf_58 : decode bZ_altitudeOf 58 = .ok (.ireturn, 1) := by decide +kernel
theorem dZ_step_0 : decode bZ_step 0 = .ok (.aload_n 0, 1) := by decide +kernel
theorem dZ_step_1 : decode bZ_step 1 = .ok (.iconst 0, 1) := by decide +kernel
theorem dZ_step_2 : decode bZ_step 2 = .ok (.putfield 68, 3) := by decide +kernel
theorem dZ_step_5 : decode bZ_step 5 = .ok (.iload_n 1, 1) := by decide +kernel
theorem dZ_step_6 : decode bZ_step 6 = .ok (.iconst 0, 1) := by decide +kernel
theorem dZ_step_7 : decode bZ_step 7 = .ok (.ldc 177, 2) := by decide +kernel
theorem dZ_step_9 : decode bZ_step 9 = .ok (.invokestatic 72, 3) := by decide +kernel
theorem dZ_step_12 : decode bZ_step 12 = .ok (.ifCond .ne 5, 3) := by decide +kernel
theorem dZ_step_15 : decode bZ_step 15 = .ok (.iconst (-1), 1) := by decide +kernel
theorem dZ_step_16 : decode bZ_step 16 = .ok (.ireturn, 1) := by decide +kernel
theorem dZ_step_17 : decode bZ_step 17 = .ok (.iload_n 1, 1) := by decide +kernel
theorem dZ_step_18 : decode bZ_step 18 = .ok (.istore_n 2, 1) := by decide +kernel
theorem dZ_step_19 : decode bZ_step 19 = .ok (.iconst 0, 1) := by decide +kernel
theorem dZ_step_20 : decode bZ_step 20 = .ok (.istore_n 3, 1) := by decide +kernel
theorem dZ_step_21 : decode bZ_step 21 = .ok (.iload_n 3, 1) := by decide +kernel
theorem dZ_step_22 : decode bZ_step 22 = .ok (.aload_n 0, 1) := by decide +kernel
theorem dZ_step_23 : decode bZ_step 23 = .ok (.invokevirtual 146, 3) := by decide +kernel
theorem dZ_step_26 : decode bZ_step 26 = .ok (.if_icmp .ge 51, 3) := by decide +kernel
theorem dZ_step_29 : decode bZ_step 29 = .ok (.aload_n 0, 1) := by decide +kernel
theorem dZ_step_30 : decode bZ_step 30 = .ok (.iload_n 3, 1) := by decide +kernel
theorem dZ_step_31 : decode bZ_step 31 = .ok (.invokevirtual 150, 3) := by decide +kernel
theorem dZ_step_34 : decode bZ_step 34 = .ok (.istore 4, 2) := by decide +kernel
theorem dZ_step_36 : decode bZ_step 36 = .ok (.iload_n 2, 1) := by decide +kernel
theorem dZ_step_37 : decode bZ_step 37 = .ok (.sipush 1000, 3) := by decide +kernel
theorem dZ_step_40 : decode bZ_step 40 = .ok (.iload 4, 2) := by decide +kernel
theorem dZ_step_42 : decode bZ_step 42 = .ok (.imul, 1) := by decide +kernel
theorem dZ_step_43 : decode bZ_step 43 = .ok (.if_icmp .gt 19, 3) := by decide +kernel
theorem dZ_step_46 : decode bZ_step 46 = .ok (.sipush 1000, 3) := by decide +kernel
theorem dZ_step_49 : decode bZ_step 49 = .ok (.iload_n 3, 1) := by decide +kernel
theorem dZ_step_50 : decode bZ_step 50 = .ok (.imul, 1) := by decide +kernel
theorem dZ_step_51 : decode bZ_step 51 = .ok (.iload_n 2, 1) := by decide +kernel
theorem dZ_step_52 : decode bZ_step 52 = .ok (.iload 4, 2) := by decide +kernel
theorem dZ_step_54 : decode bZ_step 54 = .ok (.iadd, 1) := by decide +kernel
theorem dZ_step_55 : decode bZ_step 55 = .ok (.iconst 1, 1) := by decide +kernel
theorem dZ_step_56 : decode bZ_step 56 = .ok (.isub, 1) := by decide +kernel
theorem dZ_step_57 : decode bZ_step 57 = .ok (.iload 4, 2) := by decide +kernel
theorem dZ_step_59 : decode bZ_step 59 = .ok (.idiv, 1) := by decide +kernel
theorem dZ_step_60 : decode bZ_step 60 = .ok (.iadd, 1) := by decide +kernel
theorem dZ_step_61 : decode bZ_step 61 = .ok (.ireturn, 1) := by decide +kernel
theorem dZ_step_62 : decode bZ_step 62 = .ok (.iload_n 2, 1) := by decide +kernel
theorem dZ_step_63 : decode bZ_step 63 = .ok (.sipush 1000, 3) := by decide +kernel
theorem dZ_step_66 : decode bZ_step 66 = .ok (.iload 4, 2) := by decide +kernel
theorem dZ_step_68 : decode bZ_step 68 = .ok (.imul, 1) := by decide +kernel
theorem dZ_step_69 : decode bZ_step 69 = .ok (.isub, 1) := by decide +kernel
theorem dZ_step_70 : decode bZ_step 70 = .ok (.istore_n 2, 1) := by decide +kernel
theorem dZ_step_71 : decode bZ_step 71 = .ok (.iinc 3 1, 3) := by decide +kernel
theorem dZ_step_74 : decode bZ_step 74 = .ok (.goto (-53), 3) := by decide +kernel
theorem dZ_step_77 : decode bZ_step 77 = .ok (.iload_n 2, 1) := by decide +kernel
theorem dZ_step_78 : decode bZ_step 78 = .ok (.ifCond .ne 14, 3) := by decide +kernel
theorem dZ_step_81 : decode bZ_step 81 = .ok (.sipush 1000, 3) := by decide +kernel
theorem dZ_step_84 : decode bZ_step 84 = .ok (.aload_n 0, 1) := by decide +kernel
theorem dZ_step_85 : decode bZ_step 85 = .ok (.invokevirtual 146, 3) := by decide +kernel
theorem dZ_step_88 : decode bZ_step 88 = .ok (.imul, 1) := by decide +kernel
theorem dZ_step_89 : decode bZ_step 89 = .ok (.goto 5, 3) := by decide +kernel
theorem dZ_step_92 : decode bZ_step 92 = .ok (.bipush (-9), 2) := by decide +kernel
theorem dZ_step_94 : decode bZ_step 94 = .ok (.ireturn, 1) := by decide +kernel
theorem dZ_hands_0 : decode bZ_hands 0 = .ok (.aload_n 0, 1) := by decide +kernel
theorem dZ_hands_1 : decode bZ_hands 1 = .ok (.iconst 0, 1) := by decide +kernel
theorem dZ_hands_2 : decode bZ_hands 2 = .ok (.putfield 68, 3) := by decide +kernel
theorem dZ_hands_5 : decode bZ_hands 5 = .ok (.iload_n 1, 1) := by decide +kernel
theorem dZ_hands_6 : decode bZ_hands 6 = .ok (.iconst 1, 1) := by decide +kernel
theorem dZ_hands_7 : decode bZ_hands 7 = .ok (.bipush 99, 2) := by decide +kernel
theorem dZ_hands_9 : decode bZ_hands 9 = .ok (.invokestatic 72, 3) := by decide +kernel
theorem dZ_hands_12 : decode bZ_hands 12 = .ok (.ifCond .ne 5, 3) := by decide +kernel
theorem dZ_hands_15 : decode bZ_hands 15 = .ok (.iconst (-1), 1) := by decide +kernel
theorem dZ_hands_16 : decode bZ_hands 16 = .ok (.ireturn, 1) := by decide +kernel
theorem dZ_hands_17 : decode bZ_hands 17 = .ok (.bipush (-9), 2) := by decide +kernel
theorem dZ_hands_19 : decode bZ_hands 19 = .ok (.istore_n 2, 1) := by decide +kernel
theorem dZ_hands_20 : decode bZ_hands 20 = .ok (.bipush 9, 2) := by decide +kernel
theorem dZ_hands_22 : decode bZ_hands 22 = .ok (.istore_n 3, 1) := by decide +kernel
theorem dZ_hands_23 : decode bZ_hands 23 = .ok (.iload_n 3, 1) := by decide +kernel
theorem dZ_hands_24 : decode bZ_hands 24 = .ok (.iconst 2, 1) := by decide +kernel
theorem dZ_hands_25 : decode bZ_hands 25 = .ok (.if_icmp .lt 24, 3) := by decide +kernel
theorem dZ_hands_28 : decode bZ_hands 28 = .ok (.aload_n 0, 1) := by decide +kernel
theorem dZ_hands_29 : decode bZ_hands 29 = .ok (.iload_n 3, 1) := by decide +kernel
theorem dZ_hands_30 : decode bZ_hands 30 = .ok (.invokevirtual 162, 3) := by decide +kernel
theorem dZ_hands_33 : decode bZ_hands 33 = .ok (.iload_n 1, 1) := by decide +kernel
theorem dZ_hands_34 : decode bZ_hands 34 = .ok (.if_icmp .gt 7, 3) := by decide +kernel
theorem dZ_hands_37 : decode bZ_hands 37 = .ok (.iload_n 3, 1) := by decide +kernel
theorem dZ_hands_38 : decode bZ_hands 38 = .ok (.goto 4, 3) := by decide +kernel
theorem dZ_hands_41 : decode bZ_hands 41 = .ok (.iload_n 2, 1) := by decide +kernel
theorem dZ_hands_42 : decode bZ_hands 42 = .ok (.istore_n 2, 1) := by decide +kernel
theorem dZ_hands_43 : decode bZ_hands 43 = .ok (.iinc 3 (-1), 3) := by decide +kernel
theorem dZ_hands_46 : decode bZ_hands 46 = .ok (.goto (-23), 3) := by decide +kernel
theorem dZ_hands_49 : decode bZ_hands 49 = .ok (.iload_n 2, 1) := by decide +kernel
theorem dZ_hands_50 : decode bZ_hands 50 = .ok (.ireturn, 1) := by decide +kernel
theorem dZ_sees_0 : decode bZ_sees 0 = .ok (.aload_n 0, 1) := by decide +kernel
theorem dZ_sees_1 : decode bZ_sees 1 = .ok (.iconst 0, 1) := by decide +kernel
theorem dZ_sees_2 : decode bZ_sees 2 = .ok (.putfield 68, 3) := by decide +kernel
theorem dZ_sees_5 : decode bZ_sees 5 = .ok (.iload_n 1, 1) := by decide +kernel
theorem dZ_sees_6 : decode bZ_sees 6 = .ok (.iconst 0, 1) := by decide +kernel
theorem dZ_sees_7 : decode bZ_sees 7 = .ok (.aload_n 0, 1) := by decide +kernel
theorem dZ_sees_8 : decode bZ_sees 8 = .ok (.invokevirtual 146, 3) := by decide +kernel
theorem dZ_sees_11 : decode bZ_sees 11 = .ok (.iconst 1, 1) := by decide +kernel
theorem dZ_sees_12 : decode bZ_sees 12 = .ok (.isub, 1) := by decide +kernel
theorem dZ_sees_13 : decode bZ_sees 13 = .ok (.invokestatic 72, 3) := by decide +kernel
theorem dZ_sees_16 : decode bZ_sees 16 = .ok (.ifCond .eq 13, 3) := by decide +kernel
theorem dZ_sees_19 : decode bZ_sees 19 = .ok (.iload_n 2, 1) := by decide +kernel
theorem dZ_sees_20 : decode bZ_sees 20 = .ok (.iconst 0, 1) := by decide +kernel
theorem dZ_sees_21 : decode bZ_sees 21 = .ok (.bipush 40, 2) := by decide +kernel
theorem dZ_sees_23 : decode bZ_sees 23 = .ok (.invokestatic 72, 3) := by decide +kernel
theorem dZ_sees_26 : decode bZ_sees 26 = .ok (.ifCond .ne 5, 3) := by decide +kernel
theorem dZ_sees_29 : decode bZ_sees 29 = .ok (.iconst (-1), 1) := by decide +kernel
theorem dZ_sees_30 : decode bZ_sees 30 = .ok (.ireturn, 1) := by decide +kernel
theorem dZ_sees_31 : decode bZ_sees 31 = .ok (.aload_n 0, 1) := by decide +kernel
theorem dZ_sees_32 : decode bZ_sees 32 = .ok (.getfield 127, 3) := by decide +kernel
theorem dZ_sees_35 : decode bZ_sees 35 = .ok (.bipush 6, 2) := by decide +kernel
theorem dZ_sees_37 : decode bZ_sees 37 = .ok (.if_icmp .ne 6, 3) := by decide +kernel
theorem dZ_sees_40 : decode bZ_sees 40 = .ok (.bipush (-3), 2) := by decide +kernel
theorem dZ_sees_42 : decode bZ_sees 42 = .ok (.ireturn, 1) := by decide +kernel
theorem dZ_sees_43 : decode bZ_sees 43 = .ok (.aload_n 0, 1) := by decide +kernel
theorem dZ_sees_44 : decode bZ_sees 44 = .ok (.getfield 41, 3) := by decide +kernel
theorem dZ_sees_47 : decode bZ_sees 47 = .ok (.aload_n 0, 1) := by decide +kernel
theorem dZ_sees_48 : decode bZ_sees 48 = .ok (.getfield 127, 3) := by decide +kernel
theorem dZ_sees_51 : decode bZ_sees 51 = .ok (.iload_n 1, 1) := by decide +kernel
theorem dZ_sees_52 : decode bZ_sees 52 = .ok (.iastore, 1) := by decide +kernel
theorem dZ_sees_53 : decode bZ_sees 53 = .ok (.aload_n 0, 1) := by decide +kernel
theorem dZ_sees_54 : decode bZ_sees 54 = .ok (.getfield 44, 3) := by decide +kernel
theorem dZ_sees_57 : decode bZ_sees 57 = .ok (.aload_n 0, 1) := by decide +kernel
theorem dZ_sees_58 : decode bZ_sees 58 = .ok (.getfield 127, 3) := by decide +kernel
theorem dZ_sees_61 : decode bZ_sees 61 = .ok (.iload_n 2, 1) := by decide +kernel
theorem dZ_sees_62 : decode bZ_sees 62 = .ok (.iastore, 1) := by decide +kernel
theorem dZ_sees_63 : decode bZ_sees 63 = .ok (.aload_n 0, 1) := by decide +kernel
theorem dZ_sees_64 : decode bZ_sees 64 = .ok (.dup, 1) := by decide +kernel
theorem dZ_sees_65 : decode bZ_sees 65 = .ok (.getfield 127, 3) := by decide +kernel
theorem dZ_sees_68 : decode bZ_sees 68 = .ok (.iconst 1, 1) := by decide +kernel
theorem dZ_sees_69 : decode bZ_sees 69 = .ok (.iadd, 1) := by decide +kernel
theorem dZ_sees_70 : decode bZ_sees 70 = .ok (.putfield 127, 3) := by decide +kernel
theorem dZ_sees_73 : decode bZ_sees 73 = .ok (.aload_n 0, 1) := by decide +kernel
theorem dZ_sees_74 : decode bZ_sees 74 = .ok (.getfield 127, 3) := by decide +kernel
theorem dZ_sees_77 : decode bZ_sees 77 = .ok (.ireturn, 1) := by decide +kernel
theorem dZ_can_0 : decode bZ_can 0 = .ok (.aload_n 0, 1) := by decide +kernel
theorem dZ_can_1 : decode bZ_can 1 = .ok (.iconst 0, 1) := by decide +kernel
theorem dZ_can_2 : decode bZ_can 2 = .ok (.putfield 68, 3) := by decide +kernel
theorem dZ_can_5 : decode bZ_can 5 = .ok (.iload_n 1, 1) := by decide +kernel
theorem dZ_can_6 : decode bZ_can 6 = .ok (.bipush (-2), 2) := by decide +kernel
theorem dZ_can_8 : decode bZ_can 8 = .ok (.aload_n 0, 1) := by decide +kernel
theorem dZ_can_9 : decode bZ_can 9 = .ok (.getfield 13, 3) := by decide +kernel
theorem dZ_can_12 : decode bZ_can 12 = .ok (.iconst 1, 1) := by decide +kernel
theorem dZ_can_13 : decode bZ_can 13 = .ok (.iaload, 1) := by decide +kernel
theorem dZ_can_14 : decode bZ_can 14 = .ok (.iconst 1, 1) := by decide +kernel
theorem dZ_can_15 : decode bZ_can 15 = .ok (.isub, 1) := by decide +kernel
theorem dZ_can_16 : decode bZ_can 16 = .ok (.invokestatic 72, 3) := by decide +kernel
theorem dZ_can_19 : decode bZ_can 19 = .ok (.ifCond .ne 5, 3) := by decide +kernel
theorem dZ_can_22 : decode bZ_can 22 = .ok (.iconst (-1), 1) := by decide +kernel
theorem dZ_can_23 : decode bZ_can 23 = .ok (.ireturn, 1) := by decide +kernel
theorem dZ_can_24 : decode bZ_can 24 = .ok (.iconst 0, 1) := by decide +kernel
theorem dZ_can_25 : decode bZ_can 25 = .ok (.istore_n 2, 1) := by decide +kernel
theorem dZ_can_26 : decode bZ_can 26 = .ok (.bipush (-9), 2) := by decide +kernel
theorem dZ_can_28 : decode bZ_can 28 = .ok (.istore_n 3, 1) := by decide +kernel
theorem dZ_can_29 : decode bZ_can 29 = .ok (.bipush (-9), 2) := by decide +kernel
theorem dZ_can_31 : decode bZ_can 31 = .ok (.istore 4, 2) := by decide +kernel
theorem dZ_can_33 : decode bZ_can 33 = .ok (.iconst 0, 1) := by decide +kernel
theorem dZ_can_34 : decode bZ_can 34 = .ok (.istore 5, 2) := by decide +kernel
theorem dZ_can_36 : decode bZ_can 36 = .ok (.iload 5, 2) := by decide +kernel
theorem dZ_can_38 : decode bZ_can 38 = .ok (.aload_n 0, 1) := by decide +kernel
theorem dZ_can_39 : decode bZ_can 39 = .ok (.getfield 13, 3) := by decide +kernel
theorem dZ_can_42 : decode bZ_can 42 = .ok (.iconst 1, 1) := by decide +kernel
theorem dZ_can_43 : decode bZ_can 43 = .ok (.iaload, 1) := by decide +kernel
theorem dZ_can_44 : decode bZ_can 44 = .ok (.invokestatic 178, 3) := by decide +kernel
theorem dZ_can_47 : decode bZ_can 47 = .ok (.if_icmp .ge 83, 3) := by decide +kernel
theorem dZ_can_50 : decode bZ_can 50 = .ok (.aload_n 0, 1) := by decide +kernel
theorem dZ_can_51 : decode bZ_can 51 = .ok (.iload 5, 2) := by decide +kernel
theorem dZ_can_53 : decode bZ_can 53 = .ok (.invokevirtual 181, 3) := by decide +kernel
theorem dZ_can_56 : decode bZ_can 56 = .ok (.ifCond .eq 68, 3) := by decide +kernel
theorem dZ_can_59 : decode bZ_can 59 = .ok (.iload_n 1, 1) := by decide +kernel
theorem dZ_can_60 : decode bZ_can 60 = .ok (.ifCond .ge 7, 3) := by decide +kernel
theorem dZ_can_63 : decode bZ_can 63 = .ok (.iconst 0, 1) := by decide +kernel
theorem dZ_can_64 : decode bZ_can 64 = .ok (.goto 13, 3) := by decide +kernel
theorem dZ_can_67 : decode bZ_can 67 = .ok (.iload 5, 2) := by decide +kernel
theorem dZ_can_69 : decode bZ_can 69 = .ok (.iload_n 1, 1) := by decide +kernel
theorem dZ_can_70 : decode bZ_can 70 = .ok (.invokestatic 178, 3) := by decide +kernel
theorem dZ_can_73 : decode bZ_can 73 = .ok (.idiv, 1) := by decide +kernel
theorem dZ_can_74 : decode bZ_can 74 = .ok (.bipush 10, 2) := by decide +kernel
theorem dZ_can_76 : decode bZ_can 76 = .ok (.irem, 1) := by decide +kernel
theorem dZ_can_77 : decode bZ_can 77 = .ok (.istore 6, 2) := by decide +kernel
theorem dZ_can_79 : decode bZ_can 79 = .ok (.iload_n 2, 1) := by decide +kernel
theorem dZ_can_80 : decode bZ_can 80 = .ok (.ifCond .eq 10, 3) := by decide +kernel
theorem dZ_can_83 : decode bZ_can 83 = .ok (.iload 4, 2) := by decide +kernel
theorem dZ_can_85 : decode bZ_can 85 = .ok (.iload 6, 2) := by decide +kernel
theorem dZ_can_87 : decode bZ_can 87 = .ok (.if_icmp .ne 8, 3) := by decide +kernel
theorem dZ_can_90 : decode bZ_can 90 = .ok (.iload 6, 2) := by decide +kernel
theorem dZ_can_92 : decode bZ_can 92 = .ok (.goto 4, 3) := by decide +kernel
theorem dZ_can_95 : decode bZ_can 95 = .ok (.iconst (-1), 1) := by decide +kernel
theorem dZ_can_96 : decode bZ_can 96 = .ok (.istore 4, 2) := by decide +kernel
theorem dZ_can_98 : decode bZ_can 98 = .ok (.iload_n 2, 1) := by decide +kernel
theorem dZ_can_99 : decode bZ_can 99 = .ok (.ifCond .eq 12, 3) := by decide +kernel
theorem dZ_can_102 : decode bZ_can 102 = .ok (.iload 5, 2) := by decide +kernel
theorem dZ_can_104 : decode bZ_can 104 = .ok (.invokestatic 184, 3) := by decide +kernel
theorem dZ_can_107 : decode bZ_can 107 = .ok (.iload_n 3, 1) := by decide +kernel
theorem dZ_can_108 : decode bZ_can 108 = .ok (.if_icmp .ge 11, 3) := by decide +kernel
theorem dZ_can_111 : decode bZ_can 111 = .ok (.iload 5, 2) := by decide +kernel
theorem dZ_can_113 : decode bZ_can 113 = .ok (.invokestatic 184, 3) := by decide +kernel
theorem dZ_can_116 : decode bZ_can 116 = .ok (.goto 4, 3) := by decide +kernel
theorem dZ_can_119 : decode bZ_can 119 = .ok (.iload_n 3, 1) := by decide +kernel
theorem dZ_can_120 : decode bZ_can 120 = .ok (.istore_n 3, 1) := by decide +kernel
theorem dZ_can_121 : decode bZ_can 121 = .ok (.iinc 2 1, 3) := by decide +kernel
theorem dZ_can_124 : decode bZ_can 124 = .ok (.iinc 5 1, 3) := by decide +kernel
theorem dZ_can_127 : decode bZ_can 127 = .ok (.goto (-91), 3) := by decide +kernel
theorem dZ_can_130 : decode bZ_can 130 = .ok (.iload_n 1, 1) := by decide +kernel
theorem dZ_can_131 : decode bZ_can 131 = .ok (.iconst (-1), 1) := by decide +kernel
theorem dZ_can_132 : decode bZ_can 132 = .ok (.if_icmp .ne 7, 3) := by decide +kernel
theorem dZ_can_135 : decode bZ_can 135 = .ok (.iload_n 2, 1) := by decide +kernel
theorem dZ_can_136 : decode bZ_can 136 = .ok (.goto 25, 3) := by decide +kernel
theorem dZ_can_139 : decode bZ_can 139 = .ok (.iload_n 1, 1) := by decide +kernel
theorem dZ_can_140 : decode bZ_can 140 = .ok (.bipush (-2), 2) := by decide +kernel
theorem dZ_can_142 : decode bZ_can 142 = .ok (.if_icmp .ne 7, 3) := by decide +kernel
theorem dZ_can_145 : decode bZ_can 145 = .ok (.iload_n 3, 1) := by decide +kernel
theorem dZ_can_146 : decode bZ_can 146 = .ok (.goto 15, 3) := by decide +kernel
theorem dZ_can_149 : decode bZ_can 149 = .ok (.iload 4, 2) := by decide +kernel
theorem dZ_can_151 : decode bZ_can 151 = .ok (.ifCond .ge 8, 3) := by decide +kernel
theorem dZ_can_154 : decode bZ_can 154 = .ok (.bipush (-9), 2) := by decide +kernel
theorem dZ_can_156 : decode bZ_can 156 = .ok (.goto 5, 3) := by decide +kernel
theorem dZ_can_159 : decode bZ_can 159 = .ok (.iload 4, 2) := by decide +kernel
theorem dZ_can_161 : decode bZ_can 161 = .ok (.ireturn, 1) := by decide +kernel
theorem dZ_tens_0 : decode bZ_tens 0 = .ok (.iconst 1, 1) := by decide +kernel
theorem dZ_tens_1 : decode bZ_tens 1 = .ok (.istore_n 1, 1) := by decide +kernel
theorem dZ_tens_2 : decode bZ_tens 2 = .ok (.iconst 0, 1) := by decide +kernel
theorem dZ_tens_3 : decode bZ_tens 3 = .ok (.istore_n 2, 1) := by decide +kernel
theorem dZ_tens_4 : decode bZ_tens 4 = .ok (.iload_n 2, 1) := by decide +kernel
theorem dZ_tens_5 : decode bZ_tens 5 = .ok (.iload_n 0, 1) := by decide +kernel
theorem dZ_tens_6 : decode bZ_tens 6 = .ok (.if_icmp .ge 14, 3) := by decide +kernel
theorem dZ_tens_9 : decode bZ_tens 9 = .ok (.iload_n 1, 1) := by decide +kernel
theorem dZ_tens_10 : decode bZ_tens 10 = .ok (.bipush 10, 2) := by decide +kernel
theorem dZ_tens_12 : decode bZ_tens 12 = .ok (.imul, 1) := by decide +kernel
theorem dZ_tens_13 : decode bZ_tens 13 = .ok (.istore_n 1, 1) := by decide +kernel
theorem dZ_tens_14 : decode bZ_tens 14 = .ok (.iinc 2 1, 3) := by decide +kernel
theorem dZ_tens_17 : decode bZ_tens 17 = .ok (.goto (-13), 3) := by decide +kernel
theorem dZ_tens_20 : decode bZ_tens 20 = .ok (.iload_n 1, 1) := by decide +kernel
theorem dZ_tens_21 : decode bZ_tens 21 = .ok (.ireturn, 1) := by decide +kernel
theorem dZ_isAsSeen_0 : decode bZ_isAsSeen 0 = .ok (.iconst 1, 1) := by decide +kernel
theorem dZ_isAsSeen_1 : decode bZ_isAsSeen 1 = .ok (.istore_n 2, 1) := by decide +kernel
theorem dZ_isAsSeen_2 : decode bZ_isAsSeen 2 = .ok (.iconst 0, 1) := by decide +kernel
theorem dZ_isAsSeen_3 : decode bZ_isAsSeen 3 = .ok (.istore_n 3, 1) := by decide +kernel
theorem dZ_isAsSeen_4 : decode bZ_isAsSeen 4 = .ok (.iload_n 3, 1) := by decide +kernel
theorem dZ_isAsSeen_5 : decode bZ_isAsSeen 5 = .ok (.aload_n 0, 1) := by decide +kernel
theorem dZ_isAsSeen_6 : decode bZ_isAsSeen 6 = .ok (.getfield 127, 3) := by decide +kernel
theorem dZ_isAsSeen_9 : decode bZ_isAsSeen 9 = .ok (.if_icmp .ge 88, 3) := by decide +kernel
theorem dZ_isAsSeen_12 : decode bZ_isAsSeen 12 = .ok (.iconst 0, 1) := by decide +kernel
theorem dZ_isAsSeen_13 : decode bZ_isAsSeen 13 = .ok (.istore 4, 2) := by decide +kernel
theorem dZ_isAsSeen_15 : decode bZ_isAsSeen 15 = .ok (.iconst 0, 1) := by decide +kernel
theorem dZ_isAsSeen_16 : decode bZ_isAsSeen 16 = .ok (.istore 5, 2) := by decide +kernel
theorem dZ_isAsSeen_18 : decode bZ_isAsSeen 18 = .ok (.iload 5, 2) := by decide +kernel
theorem dZ_isAsSeen_20 : decode bZ_isAsSeen 20 = .ok (.aload_n 0, 1) := by decide +kernel
theorem dZ_isAsSeen_21 : decode bZ_isAsSeen 21 = .ok (.getfield 13, 3) := by decide +kernel
theorem dZ_isAsSeen_24 : decode bZ_isAsSeen 24 = .ok (.iconst 1, 1) := by decide +kernel
theorem dZ_isAsSeen_25 : decode bZ_isAsSeen 25 = .ok (.iaload, 1) := by decide +kernel
theorem dZ_isAsSeen_26 : decode bZ_isAsSeen 26 = .ok (.if_icmp .ge 44, 3) := by decide +kernel
theorem dZ_isAsSeen_29 : decode bZ_isAsSeen 29 = .ok (.iload 4, 2) := by decide +kernel
theorem dZ_isAsSeen_31 : decode bZ_isAsSeen 31 = .ok (.aload_n 0, 1) := by decide +kernel
theorem dZ_isAsSeen_32 : decode bZ_isAsSeen 32 = .ok (.getfield 25, 3) := by decide +kernel
theorem dZ_isAsSeen_35 : decode bZ_isAsSeen 35 = .ok (.iload 5, 2) := by decide +kernel
theorem dZ_isAsSeen_37 : decode bZ_isAsSeen 37 = .ok (.iaload, 1) := by decide +kernel
theorem dZ_isAsSeen_38 : decode bZ_isAsSeen 38 = .ok (.aload_n 0, 1) := by decide +kernel
theorem dZ_isAsSeen_39 : decode bZ_isAsSeen 39 = .ok (.getfield 41, 3) := by decide +kernel
theorem dZ_isAsSeen_42 : decode bZ_isAsSeen 42 = .ok (.iload_n 3, 1) := by decide +kernel
theorem dZ_isAsSeen_43 : decode bZ_isAsSeen 43 = .ok (.iaload, 1) := by decide +kernel
theorem dZ_isAsSeen_44 : decode bZ_isAsSeen 44 = .ok (.if_icmp .le 16, 3) := by decide +kernel
theorem dZ_isAsSeen_47 : decode bZ_isAsSeen 47 = .ok (.iload_n 1, 1) := by decide +kernel
theorem dZ_isAsSeen_48 : decode bZ_isAsSeen 48 = .ok (.iload 5, 2) := by decide +kernel
theorem dZ_isAsSeen_50 : decode bZ_isAsSeen 50 = .ok (.invokestatic 178, 3) := by decide +kernel
theorem dZ_isAsSeen_53 : decode bZ_isAsSeen 53 = .ok (.idiv, 1) := by decide +kernel
theorem dZ_isAsSeen_54 : decode bZ_isAsSeen 54 = .ok (.bipush 10, 2) := by decide +kernel
theorem dZ_isAsSeen_56 : decode bZ_isAsSeen 56 = .ok (.irem, 1) := by decide +kernel
theorem dZ_isAsSeen_57 : decode bZ_isAsSeen 57 = .ok (.goto 4, 3) := by decide +kernel
theorem dZ_isAsSeen_60 : decode bZ_isAsSeen 60 = .ok (.iconst 0, 1) := by decide +kernel
theorem dZ_isAsSeen_61 : decode bZ_isAsSeen 61 = .ok (.iadd, 1) := by decide +kernel
theorem dZ_isAsSeen_62 : decode bZ_isAsSeen 62 = .ok (.istore 4, 2) := by decide +kernel
theorem dZ_isAsSeen_64 : decode bZ_isAsSeen 64 = .ok (.iinc 5 1, 3) := by decide +kernel
theorem dZ_isAsSeen_67 : decode bZ_isAsSeen 67 = .ok (.goto (-49), 3) := by decide +kernel
theorem dZ_isAsSeen_70 : decode bZ_isAsSeen 70 = .ok (.iload_n 2, 1) := by decide +kernel
theorem dZ_isAsSeen_71 : decode bZ_isAsSeen 71 = .ok (.ifCond .eq 18, 3) := by decide +kernel
theorem dZ_isAsSeen_74 : decode bZ_isAsSeen 74 = .ok (.iload 4, 2) := by decide +kernel
theorem dZ_isAsSeen_76 : decode bZ_isAsSeen 76 = .ok (.aload_n 0, 1) := by decide +kernel
theorem dZ_isAsSeen_77 : decode bZ_isAsSeen 77 = .ok (.getfield 44, 3) := by decide +kernel
theorem dZ_isAsSeen_80 : decode bZ_isAsSeen 80 = .ok (.iload_n 3, 1) := by decide +kernel
theorem dZ_isAsSeen_81 : decode bZ_isAsSeen 81 = .ok (.iaload, 1) := by decide +kernel
theorem dZ_isAsSeen_82 : decode bZ_isAsSeen 82 = .ok (.if_icmp .ne 7, 3) := by decide +kernel
theorem dZ_isAsSeen_85 : decode bZ_isAsSeen 85 = .ok (.iconst 1, 1) := by decide +kernel
theorem dZ_isAsSeen_86 : decode bZ_isAsSeen 86 = .ok (.goto 4, 3) := by decide +kernel
theorem dZ_isAsSeen_89 : decode bZ_isAsSeen 89 = .ok (.iconst 0, 1) := by decide +kernel
theorem dZ_isAsSeen_90 : decode bZ_isAsSeen 90 = .ok (.istore_n 2, 1) := by decide +kernel
theorem dZ_isAsSeen_91 : decode bZ_isAsSeen 91 = .ok (.iinc 3 1, 3) := by decide +kernel
theorem dZ_isAsSeen_94 : decode bZ_isAsSeen 94 = .ok (.goto (-90), 3) := by decide +kernel
theorem dZ_isAsSeen_97 : decode bZ_isAsSeen 97 = .ok (.iload_n 2, 1) := by decide +kernel
theorem dZ_isAsSeen_98 : decode bZ_isAsSeen 98 = .ok (.ireturn, 1) := by decide +kernel
theorem dZ_goings_0 : decode bZ_goings 0 = .ok (.iload_n 0, 1) := by decide +kernel
theorem dZ_goings_1 : decode bZ_goings 1 = .ok (.bipush 10, 2) := by decide +kernel
theorem dZ_goings_3 : decode bZ_goings 3 = .ok (.irem, 1) := by decide +kernel
theorem dZ_goings_4 : decode bZ_goings 4 = .ok (.iload_n 0, 1) := by decide +kernel
theorem dZ_goings_5 : decode bZ_goings 5 = .ok (.bipush 10, 2) := by decide +kernel
theorem dZ_goings_7 : decode bZ_goings 7 = .ok (.idiv, 1) := by decide +kernel
theorem dZ_goings_8 : decode bZ_goings 8 = .ok (.bipush 10, 2) := by decide +kernel
theorem dZ_goings_10 : decode bZ_goings 10 = .ok (.irem, 1) := by decide +kernel
theorem dZ_goings_11 : decode bZ_goings 11 = .ok (.iadd, 1) := by decide +kernel
theorem dZ_goings_12 : decode bZ_goings 12 = .ok (.iload_n 0, 1) := by decide +kernel
theorem dZ_goings_13 : decode bZ_goings 13 = .ok (.bipush 100, 2) := by decide +kernel
theorem dZ_goings_15 : decode bZ_goings 15 = .ok (.idiv, 1) := by decide +kernel
theorem dZ_goings_16 : decode bZ_goings 16 = .ok (.bipush 10, 2) := by decide +kernel
theorem dZ_goings_18 : decode bZ_goings 18 = .ok (.irem, 1) := by decide +kernel
theorem dZ_goings_19 : decode bZ_goings 19 = .ok (.iadd, 1) := by decide +kernel
theorem dZ_goings_20 : decode bZ_goings 20 = .ok (.iload_n 0, 1) := by decide +kernel
theorem dZ_goings_21 : decode bZ_goings 21 = .ok (.sipush 1000, 3) := by decide +kernel
theorem dZ_goings_24 : decode bZ_goings 24 = .ok (.idiv, 1) := by decide +kernel
theorem dZ_goings_25 : decode bZ_goings 25 = .ok (.iadd, 1) := by decide +kernel
theorem dZ_goings_26 : decode bZ_goings 26 = .ok (.ireturn, 1) := by decide +kernel
theorem dZ_measures_0 : decode bZ_measures 0 = .ok (.aload_n 0, 1) := by decide +kernel
theorem dZ_measures_1 : decode bZ_measures 1 = .ok (.iconst 0, 1) := by decide +kernel
theorem dZ_measures_2 : decode bZ_measures 2 = .ok (.putfield 68, 3) := by decide +kernel
theorem dZ_measures_5 : decode bZ_measures 5 = .ok (.iload_n 1, 1) := by decide +kernel
theorem dZ_measures_6 : decode bZ_measures 6 = .ok (.iconst 0, 1) := by decide +kernel
theorem dZ_measures_7 : decode bZ_measures 7 = .ok (.aload_n 0, 1) := by decide +kernel
theorem dZ_measures_8 : decode bZ_measures 8 = .ok (.getfield 13, 3) := by decide +kernel
theorem dZ_measures_11 : decode bZ_measures 11 = .ok (.iconst 0, 1) := by decide +kernel
theorem dZ_measures_12 : decode bZ_measures 12 = .ok (.iaload, 1) := by decide +kernel
theorem dZ_measures_13 : decode bZ_measures 13 = .ok (.invokestatic 72, 3) := by decide +kernel
theorem dZ_measures_16 : decode bZ_measures 16 = .ok (.ifCond .eq 29, 3) := by decide +kernel
theorem dZ_measures_19 : decode bZ_measures 19 = .ok (.iload_n 2, 1) := by decide +kernel
theorem dZ_measures_20 : decode bZ_measures 20 = .ok (.iload_n 1, 1) := by decide +kernel
theorem dZ_measures_21 : decode bZ_measures 21 = .ok (.iconst 1, 1) := by decide +kernel
theorem dZ_measures_22 : decode bZ_measures 22 = .ok (.iadd, 1) := by decide +kernel
theorem dZ_measures_23 : decode bZ_measures 23 = .ok (.aload_n 0, 1) := by decide +kernel
theorem dZ_measures_24 : decode bZ_measures 24 = .ok (.getfield 13, 3) := by decide +kernel
theorem dZ_measures_27 : decode bZ_measures 27 = .ok (.iconst 0, 1) := by decide +kernel
theorem dZ_measures_28 : decode bZ_measures 28 = .ok (.iaload, 1) := by decide +kernel
theorem dZ_measures_29 : decode bZ_measures 29 = .ok (.invokestatic 72, 3) := by decide +kernel
theorem dZ_measures_32 : decode bZ_measures 32 = .ok (.ifCond .eq 13, 3) := by decide +kernel
theorem dZ_measures_35 : decode bZ_measures 35 = .ok (.iload_n 3, 1) := by decide +kernel
theorem dZ_measures_36 : decode bZ_measures 36 = .ok (.iconst 0, 1) := by decide +kernel
theorem dZ_measures_37 : decode bZ_measures 37 = .ok (.ldc 187, 2) := by decide +kernel
theorem dZ_measures_39 : decode bZ_measures 39 = .ok (.invokestatic 72, 3) := by decide +kernel
theorem dZ_measures_42 : decode bZ_measures 42 = .ok (.ifCond .ne 5, 3) := by decide +kernel
theorem dZ_measures_45 : decode bZ_measures 45 = .ok (.iconst (-1), 1) := by decide +kernel
theorem dZ_measures_46 : decode bZ_measures 46 = .ok (.ireturn, 1) := by decide +kernel
theorem dZ_measures_47 : decode bZ_measures 47 = .ok (.aload_n 0, 1) := by decide +kernel
theorem dZ_measures_48 : decode bZ_measures 48 = .ok (.getfield 130, 3) := by decide +kernel
theorem dZ_measures_51 : decode bZ_measures 51 = .ok (.bipush 6, 2) := by decide +kernel
theorem dZ_measures_53 : decode bZ_measures 53 = .ok (.if_icmp .ne 6, 3) := by decide +kernel
theorem dZ_measures_56 : decode bZ_measures 56 = .ok (.bipush (-3), 2) := by decide +kernel
theorem dZ_measures_58 : decode bZ_measures 58 = .ok (.ireturn, 1) := by decide +kernel
theorem dZ_measures_59 : decode bZ_measures 59 = .ok (.aload_n 0, 1) := by decide +kernel
theorem dZ_measures_60 : decode bZ_measures 60 = .ok (.getfield 47, 3) := by decide +kernel
theorem dZ_measures_63 : decode bZ_measures 63 = .ok (.aload_n 0, 1) := by decide +kernel
theorem dZ_measures_64 : decode bZ_measures 64 = .ok (.getfield 130, 3) := by decide +kernel
theorem dZ_measures_67 : decode bZ_measures 67 = .ok (.iload_n 1, 1) := by decide +kernel
theorem dZ_measures_68 : decode bZ_measures 68 = .ok (.iastore, 1) := by decide +kernel
theorem dZ_measures_69 : decode bZ_measures 69 = .ok (.aload_n 0, 1) := by decide +kernel
theorem dZ_measures_70 : decode bZ_measures 70 = .ok (.getfield 50, 3) := by decide +kernel
theorem dZ_measures_73 : decode bZ_measures 73 = .ok (.aload_n 0, 1) := by decide +kernel
theorem dZ_measures_74 : decode bZ_measures 74 = .ok (.getfield 130, 3) := by decide +kernel
theorem dZ_measures_77 : decode bZ_measures 77 = .ok (.iload_n 2, 1) := by decide +kernel
theorem dZ_measures_78 : decode bZ_measures 78 = .ok (.iastore, 1) := by decide +kernel
theorem dZ_measures_79 : decode bZ_measures 79 = .ok (.aload_n 0, 1) := by decide +kernel
theorem dZ_measures_80 : decode bZ_measures 80 = .ok (.getfield 53, 3) := by decide +kernel
theorem dZ_measures_83 : decode bZ_measures 83 = .ok (.aload_n 0, 1) := by decide +kernel
theorem dZ_measures_84 : decode bZ_measures 84 = .ok (.getfield 130, 3) := by decide +kernel
theorem dZ_measures_87 : decode bZ_measures 87 = .ok (.iload_n 3, 1) := by decide +kernel
theorem dZ_measures_88 : decode bZ_measures 88 = .ok (.iastore, 1) := by decide +kernel
theorem dZ_measures_89 : decode bZ_measures 89 = .ok (.aload_n 0, 1) := by decide +kernel
theorem dZ_measures_90 : decode bZ_measures 90 = .ok (.dup, 1) := by decide +kernel
theorem dZ_measures_91 : decode bZ_measures 91 = .ok (.getfield 130, 3) := by decide +kernel
theorem dZ_measures_94 : decode bZ_measures 94 = .ok (.iconst 1, 1) := by decide +kernel
theorem dZ_measures_95 : decode bZ_measures 95 = .ok (.iadd, 1) := by decide +kernel
theorem dZ_measures_96 : decode bZ_measures 96 = .ok (.putfield 130, 3) := by decide +kernel
theorem dZ_measures_99 : decode bZ_measures 99 = .ok (.aload_n 0, 1) := by decide +kernel
theorem dZ_measures_100 : decode bZ_measures 100 = .ok (.getfield 130, 3) := by decide +kernel
theorem dZ_measures_103 : decode bZ_measures 103 = .ok (.ireturn, 1) := by decide +kernel
theorem dZ_agree_0 : decode bZ_agree 0 = .ok (.aload_n 0, 1) := by decide +kernel
theorem dZ_agree_1 : decode bZ_agree 1 = .ok (.iconst 0, 1) := by decide +kernel
theorem dZ_agree_2 : decode bZ_agree 2 = .ok (.putfield 68, 3) := by decide +kernel
theorem dZ_agree_5 : decode bZ_agree 5 = .ok (.iload_n 1, 1) := by decide +kernel
theorem dZ_agree_6 : decode bZ_agree 6 = .ok (.iconst 0, 1) := by decide +kernel
theorem dZ_agree_7 : decode bZ_agree 7 = .ok (.iconst 1, 1) := by decide +kernel
theorem dZ_agree_8 : decode bZ_agree 8 = .ok (.invokestatic 72, 3) := by decide +kernel
theorem dZ_agree_11 : decode bZ_agree 11 = .ok (.ifCond .ne 5, 3) := by decide +kernel
theorem dZ_agree_14 : decode bZ_agree 14 = .ok (.iconst (-1), 1) := by decide +kernel
theorem dZ_agree_15 : decode bZ_agree 15 = .ok (.ireturn, 1) := by decide +kernel
theorem dZ_agree_16 : decode bZ_agree 16 = .ok (.iload_n 1, 1) := by decide +kernel
theorem dZ_agree_17 : decode bZ_agree 17 = .ok (.ifCond .ne 8, 3) := by decide +kernel
theorem dZ_agree_20 : decode bZ_agree 20 = .ok (.aload_n 0, 1) := by decide +kernel
theorem dZ_agree_21 : decode bZ_agree 21 = .ok (.invokevirtual 195, 3) := by decide +kernel
theorem dZ_agree_24 : decode bZ_agree 24 = .ok (.ireturn, 1) := by decide +kernel
theorem dZ_agree_25 : decode bZ_agree 25 = .ok (.iconst 0, 1) := by decide +kernel
theorem dZ_agree_26 : decode bZ_agree 26 = .ok (.istore_n 2, 1) := by decide +kernel
theorem dZ_agree_27 : decode bZ_agree 27 = .ok (.iconst 0, 1) := by decide +kernel
theorem dZ_agree_28 : decode bZ_agree 28 = .ok (.istore_n 3, 1) := by decide +kernel
theorem dZ_agree_29 : decode bZ_agree 29 = .ok (.iload_n 3, 1) := by decide +kernel
theorem dZ_agree_30 : decode bZ_agree 30 = .ok (.aload_n 0, 1) := by decide +kernel
theorem dZ_agree_31 : decode bZ_agree 31 = .ok (.getfield 130, 3) := by decide +kernel
theorem dZ_agree_34 : decode bZ_agree 34 = .ok (.if_icmp .ge 58, 3) := by decide +kernel
theorem dZ_agree_37 : decode bZ_agree 37 = .ok (.iload_n 2, 1) := by decide +kernel
theorem dZ_agree_38 : decode bZ_agree 38 = .ok (.aload_n 0, 1) := by decide +kernel
theorem dZ_agree_39 : decode bZ_agree 39 = .ok (.sipush 1000, 3) := by decide +kernel
theorem dZ_agree_42 : decode bZ_agree 42 = .ok (.aload_n 0, 1) := by decide +kernel
theorem dZ_agree_43 : decode bZ_agree 43 = .ok (.aload_n 0, 1) := by decide +kernel
theorem dZ_agree_44 : decode bZ_agree 44 = .ok (.getfield 50, 3) := by decide +kernel
theorem dZ_agree_47 : decode bZ_agree 47 = .ok (.iload_n 3, 1) := by decide +kernel
theorem dZ_agree_48 : decode bZ_agree 48 = .ok (.iaload, 1) := by decide +kernel
theorem dZ_agree_49 : decode bZ_agree 49 = .ok (.invokevirtual 136, 3) := by decide +kernel
theorem dZ_agree_52 : decode bZ_agree 52 = .ok (.imul, 1) := by decide +kernel
theorem dZ_agree_53 : decode bZ_agree 53 = .ok (.invokevirtual 174, 3) := by decide +kernel
theorem dZ_agree_56 : decode bZ_agree 56 = .ok (.aload_n 0, 1) := by decide +kernel
theorem dZ_agree_57 : decode bZ_agree 57 = .ok (.sipush 1000, 3) := by decide +kernel
theorem dZ_agree_60 : decode bZ_agree 60 = .ok (.aload_n 0, 1) := by decide +kernel
theorem dZ_agree_61 : decode bZ_agree 61 = .ok (.aload_n 0, 1) := by decide +kernel
theorem dZ_agree_62 : decode bZ_agree 62 = .ok (.getfield 47, 3) := by decide +kernel
theorem dZ_agree_65 : decode bZ_agree 65 = .ok (.iload_n 3, 1) := by decide +kernel
theorem dZ_agree_66 : decode bZ_agree 66 = .ok (.iaload, 1) := by decide +kernel
theorem dZ_agree_67 : decode bZ_agree 67 = .ok (.invokevirtual 136, 3) := by decide +kernel
theorem dZ_agree_70 : decode bZ_agree 70 = .ok (.imul, 1) := by decide +kernel
theorem dZ_agree_71 : decode bZ_agree 71 = .ok (.invokevirtual 174, 3) := by decide +kernel
theorem dZ_agree_74 : decode bZ_agree 74 = .ok (.isub, 1) := by decide +kernel
theorem dZ_agree_75 : decode bZ_agree 75 = .ok (.aload_n 0, 1) := by decide +kernel
theorem dZ_agree_76 : decode bZ_agree 76 = .ok (.getfield 53, 3) := by decide +kernel
theorem dZ_agree_79 : decode bZ_agree 79 = .ok (.iload_n 3, 1) := by decide +kernel
theorem dZ_agree_80 : decode bZ_agree 80 = .ok (.iaload, 1) := by decide +kernel
theorem dZ_agree_81 : decode bZ_agree 81 = .ok (.invokestatic 192, 3) := by decide +kernel
theorem dZ_agree_84 : decode bZ_agree 84 = .ok (.iadd, 1) := by decide +kernel
theorem dZ_agree_85 : decode bZ_agree 85 = .ok (.istore_n 2, 1) := by decide +kernel
theorem dZ_agree_86 : decode bZ_agree 86 = .ok (.iinc 3 1, 3) := by decide +kernel
theorem dZ_agree_89 : decode bZ_agree 89 = .ok (.goto (-60), 3) := by decide +kernel
theorem dZ_agree_92 : decode bZ_agree 92 = .ok (.iload_n 2, 1) := by decide +kernel
theorem dZ_agree_93 : decode bZ_agree 93 = .ok (.ireturn, 1) := by decide +kernel
theorem dZ_leastChanges_0 : decode bZ_leastChanges 0 = .ok (.ldc 188, 2) := by decide +kernel
theorem dZ_leastChanges_2 : decode bZ_leastChanges 2 = .ok (.istore_n 1, 1) := by decide +kernel
theorem dZ_leastChanges_3 : decode bZ_leastChanges 3 = .ok (.iconst 0, 1) := by decide +kernel
theorem dZ_leastChanges_4 : decode bZ_leastChanges 4 = .ok (.istore_n 2, 1) := by decide +kernel
theorem dZ_leastChanges_5 : decode bZ_leastChanges 5 = .ok (.iload_n 2, 1) := by decide +kernel
theorem dZ_leastChanges_6 : decode bZ_leastChanges 6 = .ok (.iconst 1, 1) := by decide +kernel
theorem dZ_leastChanges_7 : decode bZ_leastChanges 7 = .ok (.aload_n 0, 1) := by decide +kernel
theorem dZ_leastChanges_8 : decode bZ_leastChanges 8 = .ok (.getfield 130, 3) := by decide +kernel
theorem dZ_leastChanges_11 : decode bZ_leastChanges 11 = .ok (.ishl, 1) := by decide +kernel
theorem dZ_leastChanges_12 : decode bZ_leastChanges 12 = .ok (.if_icmp .ge 86, 3) := by decide +kernel
theorem dZ_leastChanges_15 : decode bZ_leastChanges 15 = .ok (.aload_n 0, 1) := by decide +kernel
theorem dZ_leastChanges_16 : decode bZ_leastChanges 16 = .ok (.iload_n 2, 1) := by decide +kernel
theorem dZ_leastChanges_17 : decode bZ_leastChanges 17 = .ok (.invokevirtual 189, 3) := by decide +kernel
theorem dZ_leastChanges_20 : decode bZ_leastChanges 20 = .ok (.ifCond .eq 72, 3) := by decide +kernel
theorem dZ_leastChanges_23 : decode bZ_leastChanges 23 = .ok (.iconst 0, 1) := by decide +kernel
theorem dZ_leastChanges_24 : decode bZ_leastChanges 24 = .ok (.istore_n 3, 1) := by decide +kernel
theorem dZ_leastChanges_25 : decode bZ_leastChanges 25 = .ok (.iconst 0, 1) := by decide +kernel
theorem dZ_leastChanges_26 : decode bZ_leastChanges 26 = .ok (.istore 4, 2) := by decide +kernel
theorem dZ_leastChanges_28 : decode bZ_leastChanges 28 = .ok (.iload 4, 2) := by decide +kernel
theorem dZ_leastChanges_30 : decode bZ_leastChanges 30 = .ok (.aload_n 0, 1) := by decide +kernel
theorem dZ_leastChanges_31 : decode bZ_leastChanges 31 = .ok (.getfield 130, 3) := by decide +kernel
theorem dZ_leastChanges_34 : decode bZ_leastChanges 34 = .ok (.if_icmp .ge 47, 3) := by decide +kernel
theorem dZ_leastChanges_37 : decode bZ_leastChanges 37 = .ok (.iload_n 3, 1) := by decide +kernel
theorem dZ_leastChanges_38 : decode bZ_leastChanges 38 = .ok (.aload_n 0, 1) := by decide +kernel
theorem dZ_leastChanges_39 : decode bZ_leastChanges 39 = .ok (.getfield 56, 3) := by decide +kernel
theorem dZ_leastChanges_42 : decode bZ_leastChanges 42 = .ok (.aload_n 0, 1) := by decide +kernel
theorem dZ_leastChanges_43 : decode bZ_leastChanges 43 = .ok (.getfield 50, 3) := by decide +kernel
theorem dZ_leastChanges_46 : decode bZ_leastChanges 46 = .ok (.iload 4, 2) := by decide +kernel
theorem dZ_leastChanges_48 : decode bZ_leastChanges 48 = .ok (.iaload, 1) := by decide +kernel
theorem dZ_leastChanges_49 : decode bZ_leastChanges 49 = .ok (.iaload, 1) := by decide +kernel
theorem dZ_leastChanges_50 : decode bZ_leastChanges 50 = .ok (.aload_n 0, 1) := by decide +kernel
theorem dZ_leastChanges_51 : decode bZ_leastChanges 51 = .ok (.getfield 56, 3) := by decide +kernel
theorem dZ_leastChanges_54 : decode bZ_leastChanges 54 = .ok (.aload_n 0, 1) := by decide +kernel
theorem dZ_leastChanges_55 : decode bZ_leastChanges 55 = .ok (.getfield 47, 3) := by decide +kernel
theorem dZ_leastChanges_58 : decode bZ_leastChanges 58 = .ok (.iload 4, 2) := by decide +kernel
theorem dZ_leastChanges_60 : decode bZ_leastChanges 60 = .ok (.iaload, 1) := by decide +kernel
theorem dZ_leastChanges_61 : decode bZ_leastChanges 61 = .ok (.iaload, 1) := by decide +kernel
theorem dZ_leastChanges_62 : decode bZ_leastChanges 62 = .ok (.isub, 1) := by decide +kernel
theorem dZ_leastChanges_63 : decode bZ_leastChanges 63 = .ok (.aload_n 0, 1) := by decide +kernel
theorem dZ_leastChanges_64 : decode bZ_leastChanges 64 = .ok (.getfield 53, 3) := by decide +kernel
theorem dZ_leastChanges_67 : decode bZ_leastChanges 67 = .ok (.iload 4, 2) := by decide +kernel
theorem dZ_leastChanges_69 : decode bZ_leastChanges 69 = .ok (.iaload, 1) := by decide +kernel
theorem dZ_leastChanges_70 : decode bZ_leastChanges 70 = .ok (.invokestatic 192, 3) := by decide +kernel
theorem dZ_leastChanges_73 : decode bZ_leastChanges 73 = .ok (.iadd, 1) := by decide +kernel
theorem dZ_leastChanges_74 : decode bZ_leastChanges 74 = .ok (.istore_n 3, 1) := by decide +kernel
theorem dZ_leastChanges_75 : decode bZ_leastChanges 75 = .ok (.iinc 4 1, 3) := by decide +kernel
theorem dZ_leastChanges_78 : decode bZ_leastChanges 78 = .ok (.goto (-50), 3) := by decide +kernel
theorem dZ_leastChanges_81 : decode bZ_leastChanges 81 = .ok (.iload_n 3, 1) := by decide +kernel
theorem dZ_leastChanges_82 : decode bZ_leastChanges 82 = .ok (.iload_n 1, 1) := by decide +kernel
theorem dZ_leastChanges_83 : decode bZ_leastChanges 83 = .ok (.if_icmp .ge 7, 3) := by decide +kernel
theorem dZ_leastChanges_86 : decode bZ_leastChanges 86 = .ok (.iload_n 3, 1) := by decide +kernel
theorem dZ_leastChanges_87 : decode bZ_leastChanges 87 = .ok (.goto 4, 3) := by decide +kernel
theorem dZ_leastChanges_90 : decode bZ_leastChanges 90 = .ok (.iload_n 1, 1) := by decide +kernel
theorem dZ_leastChanges_91 : decode bZ_leastChanges 91 = .ok (.istore_n 1, 1) := by decide +kernel
theorem dZ_leastChanges_92 : decode bZ_leastChanges 92 = .ok (.iinc 2 1, 3) := by decide +kernel
theorem dZ_leastChanges_95 : decode bZ_leastChanges 95 = .ok (.goto (-90), 3) := by decide +kernel
theorem dZ_leastChanges_98 : decode bZ_leastChanges 98 = .ok (.iload_n 1, 1) := by decide +kernel
theorem dZ_leastChanges_99 : decode bZ_leastChanges 99 = .ok (.ireturn, 1) := by decide +kernel
theorem dZ_hangs_0 : decode bZ_hangs 0 = .ok (.iconst 0, 1) := by decide +kernel
theorem dZ_hangs_1 : decode bZ_hangs 1 = .ok (.istore_n 2, 1) := by decide +kernel
theorem dZ_hangs_2 : decode bZ_hangs 2 = .ok (.iload_n 2, 1) := by decide +kernel
theorem dZ_hangs_3 : decode bZ_hangs 3 = .ok (.bipush 6, 2) := by decide +kernel
theorem dZ_hangs_5 : decode bZ_hangs 5 = .ok (.if_icmp .ge 23, 3) := by decide +kernel
theorem dZ_hangs_8 : decode bZ_hangs 8 = .ok (.aload_n 0, 1) := by decide +kernel
theorem dZ_hangs_9 : decode bZ_hangs 9 = .ok (.getfield 56, 3) := by decide +kernel
theorem dZ_hangs_12 : decode bZ_hangs 12 = .ok (.iload_n 2, 1) := by decide +kernel
theorem dZ_hangs_13 : decode bZ_hangs 13 = .ok (.iconst 0, 1) := by decide +kernel
theorem dZ_hangs_14 : decode bZ_hangs 14 = .ok (.iastore, 1) := by decide +kernel
theorem dZ_hangs_15 : decode bZ_hangs 15 = .ok (.aload_n 0, 1) := by decide +kernel
theorem dZ_hangs_16 : decode bZ_hangs 16 = .ok (.getfield 59, 3) := by decide +kernel
theorem dZ_hangs_19 : decode bZ_hangs 19 = .ok (.iload_n 2, 1) := by decide +kernel
theorem dZ_hangs_20 : decode bZ_hangs 20 = .ok (.iload_n 2, 1) := by decide +kernel
theorem dZ_hangs_21 : decode bZ_hangs 21 = .ok (.iastore, 1) := by decide +kernel
theorem dZ_hangs_22 : decode bZ_hangs 22 = .ok (.iinc 2 1, 3) := by decide +kernel
theorem dZ_hangs_25 : decode bZ_hangs 25 = .ok (.goto (-23), 3) := by decide +kernel
theorem dZ_hangs_28 : decode bZ_hangs 28 = .ok (.iconst 1, 1) := by decide +kernel
theorem dZ_hangs_29 : decode bZ_hangs 29 = .ok (.istore_n 2, 1) := by decide +kernel
theorem dZ_hangs_30 : decode bZ_hangs 30 = .ok (.iconst 0, 1) := by decide +kernel
theorem dZ_hangs_31 : decode bZ_hangs 31 = .ok (.istore_n 3, 1) := by decide +kernel
theorem dZ_hangs_32 : decode bZ_hangs 32 = .ok (.iload_n 3, 1) := by decide +kernel
theorem dZ_hangs_33 : decode bZ_hangs 33 = .ok (.aload_n 0, 1) := by decide +kernel
theorem dZ_hangs_34 : decode bZ_hangs 34 = .ok (.getfield 130, 3) := by decide +kernel
theorem dZ_hangs_37 : decode bZ_hangs 37 = .ok (.if_icmp .ge 149, 3) := by decide +kernel
theorem dZ_hangs_40 : decode bZ_hangs 40 = .ok (.iload_n 1, 1) := by decide +kernel
theorem dZ_hangs_41 : decode bZ_hangs 41 = .ok (.iload_n 3, 1) := by decide +kernel
theorem dZ_hangs_42 : decode bZ_hangs 42 = .ok (.ishr, 1) := by decide +kernel
theorem dZ_hangs_43 : decode bZ_hangs 43 = .ok (.iconst 1, 1) := by decide +kernel
theorem dZ_hangs_44 : decode bZ_hangs 44 = .ok (.iand, 1) := by decide +kernel
theorem dZ_hangs_45 : decode bZ_hangs 45 = .ok (.iconst 1, 1) := by decide +kernel
theorem dZ_hangs_46 : decode bZ_hangs 46 = .ok (.if_icmp .ne 134, 3) := by decide +kernel
theorem dZ_hangs_49 : decode bZ_hangs 49 = .ok (.aload_n 0, 1) := by decide +kernel
theorem dZ_hangs_50 : decode bZ_hangs 50 = .ok (.getfield 59, 3) := by decide +kernel
theorem dZ_hangs_53 : decode bZ_hangs 53 = .ok (.aload_n 0, 1) := by decide +kernel
theorem dZ_hangs_54 : decode bZ_hangs 54 = .ok (.getfield 47, 3) := by decide +kernel
theorem dZ_hangs_57 : decode bZ_hangs 57 = .ok (.iload_n 3, 1) := by decide +kernel
theorem dZ_hangs_58 : decode bZ_hangs 58 = .ok (.iaload, 1) := by decide +kernel
theorem dZ_hangs_59 : decode bZ_hangs 59 = .ok (.iaload, 1) := by decide +kernel
theorem dZ_hangs_60 : decode bZ_hangs 60 = .ok (.istore 4, 2) := by decide +kernel
theorem dZ_hangs_62 : decode bZ_hangs 62 = .ok (.aload_n 0, 1) := by decide +kernel
theorem dZ_hangs_63 : decode bZ_hangs 63 = .ok (.getfield 59, 3) := by decide +kernel
theorem dZ_hangs_66 : decode bZ_hangs 66 = .ok (.aload_n 0, 1) := by decide +kernel
theorem dZ_hangs_67 : decode bZ_hangs 67 = .ok (.getfield 50, 3) := by decide +kernel
theorem dZ_hangs_70 : decode bZ_hangs 70 = .ok (.iload_n 3, 1) := by decide +kernel
theorem dZ_hangs_71 : decode bZ_hangs 71 = .ok (.iaload, 1) := by decide +kernel
theorem dZ_hangs_72 : decode bZ_hangs 72 = .ok (.iaload, 1) := by decide +kernel
theorem dZ_hangs_73 : decode bZ_hangs 73 = .ok (.istore 5, 2) := by decide +kernel
theorem dZ_hangs_75 : decode bZ_hangs 75 = .ok (.iload_n 2, 1) := by decide +kernel
theorem dZ_hangs_76 : decode bZ_hangs 76 = .ok (.ifCond .eq 14, 3) := by decide +kernel
theorem dZ_hangs_79 : decode bZ_hangs 79 = .ok (.iload 4, 2) := by decide +kernel
theorem dZ_hangs_81 : decode bZ_hangs 81 = .ok (.iload 5, 2) := by decide +kernel
theorem dZ_hangs_83 : decode bZ_hangs 83 = .ok (.if_icmp .eq 7, 3) := by decide +kernel
theorem dZ_hangs_86 : decode bZ_hangs 86 = .ok (.iconst 1, 1) := by decide +kernel
theorem dZ_hangs_87 : decode bZ_hangs 87 = .ok (.goto 4, 3) := by decide +kernel
theorem dZ_hangs_90 : decode bZ_hangs 90 = .ok (.iconst 0, 1) := by decide +kernel
theorem dZ_hangs_91 : decode bZ_hangs 91 = .ok (.istore_n 2, 1) := by decide +kernel
theorem dZ_hangs_92 : decode bZ_hangs 92 = .ok (.aload_n 0, 1) := by decide +kernel
theorem dZ_hangs_93 : decode bZ_hangs 93 = .ok (.getfield 56, 3) := by decide +kernel
theorem dZ_hangs_96 : decode bZ_hangs 96 = .ok (.aload_n 0, 1) := by decide +kernel
theorem dZ_hangs_97 : decode bZ_hangs 97 = .ok (.getfield 47, 3) := by decide +kernel
theorem dZ_hangs_100 : decode bZ_hangs 100 = .ok (.iload_n 3, 1) := by decide +kernel
theorem dZ_hangs_101 : decode bZ_hangs 101 = .ok (.iaload, 1) := by decide +kernel
theorem dZ_hangs_102 : decode bZ_hangs 102 = .ok (.iaload, 1) := by decide +kernel
theorem dZ_hangs_103 : decode bZ_hangs 103 = .ok (.aload_n 0, 1) := by decide +kernel
theorem dZ_hangs_104 : decode bZ_hangs 104 = .ok (.getfield 53, 3) := by decide +kernel
theorem dZ_hangs_107 : decode bZ_hangs 107 = .ok (.iload_n 3, 1) := by decide +kernel
theorem dZ_hangs_108 : decode bZ_hangs 108 = .ok (.iaload, 1) := by decide +kernel
theorem dZ_hangs_109 : decode bZ_hangs 109 = .ok (.iadd, 1) := by decide +kernel
theorem dZ_hangs_110 : decode bZ_hangs 110 = .ok (.aload_n 0, 1) := by decide +kernel
theorem dZ_hangs_111 : decode bZ_hangs 111 = .ok (.getfield 56, 3) := by decide +kernel
theorem dZ_hangs_114 : decode bZ_hangs 114 = .ok (.aload_n 0, 1) := by decide +kernel
theorem dZ_hangs_115 : decode bZ_hangs 115 = .ok (.getfield 50, 3) := by decide +kernel
theorem dZ_hangs_118 : decode bZ_hangs 118 = .ok (.iload_n 3, 1) := by decide +kernel
theorem dZ_hangs_119 : decode bZ_hangs 119 = .ok (.iaload, 1) := by decide +kernel
theorem dZ_hangs_120 : decode bZ_hangs 120 = .ok (.iaload, 1) := by decide +kernel
theorem dZ_hangs_121 : decode bZ_hangs 121 = .ok (.isub, 1) := by decide +kernel
theorem dZ_hangs_122 : decode bZ_hangs 122 = .ok (.istore 6, 2) := by decide +kernel
theorem dZ_hangs_124 : decode bZ_hangs 124 = .ok (.iconst 0, 1) := by decide +kernel
theorem dZ_hangs_125 : decode bZ_hangs 125 = .ok (.istore 7, 2) := by decide +kernel
theorem dZ_hangs_127 : decode bZ_hangs 127 = .ok (.iload 7, 2) := by decide +kernel
theorem dZ_hangs_129 : decode bZ_hangs 129 = .ok (.bipush 6, 2) := by decide +kernel
theorem dZ_hangs_131 : decode bZ_hangs 131 = .ok (.if_icmp .ge 49, 3) := by decide +kernel
theorem dZ_hangs_134 : decode bZ_hangs 134 = .ok (.aload_n 0, 1) := by decide +kernel
theorem dZ_hangs_135 : decode bZ_hangs 135 = .ok (.getfield 59, 3) := by decide +kernel
theorem dZ_hangs_138 : decode bZ_hangs 138 = .ok (.iload 7, 2) := by decide +kernel
theorem dZ_hangs_140 : decode bZ_hangs 140 = .ok (.iaload, 1) := by decide +kernel
theorem dZ_hangs_141 : decode bZ_hangs 141 = .ok (.iload 5, 2) := by decide +kernel
theorem dZ_hangs_143 : decode bZ_hangs 143 = .ok (.if_icmp .ne 31, 3) := by decide +kernel
theorem dZ_hangs_146 : decode bZ_hangs 146 = .ok (.iload 4, 2) := by decide +kernel
theorem dZ_hangs_148 : decode bZ_hangs 148 = .ok (.iload 5, 2) := by decide +kernel
theorem dZ_hangs_150 : decode bZ_hangs 150 = .ok (.if_icmp .eq 24, 3) := by decide +kernel
theorem dZ_hangs_153 : decode bZ_hangs 153 = .ok (.aload_n 0, 1) := by decide +kernel
theorem dZ_hangs_154 : decode bZ_hangs 154 = .ok (.getfield 59, 3) := by decide +kernel
theorem dZ_hangs_157 : decode bZ_hangs 157 = .ok (.iload 7, 2) := by decide +kernel
theorem dZ_hangs_159 : decode bZ_hangs 159 = .ok (.iload 4, 2) := by decide +kernel
theorem dZ_hangs_161 : decode bZ_hangs 161 = .ok (.iastore, 1) := by decide +kernel
theorem dZ_hangs_162 : decode bZ_hangs 162 = .ok (.aload_n 0, 1) := by decide +kernel
theorem dZ_hangs_163 : decode bZ_hangs 163 = .ok (.getfield 56, 3) := by decide +kernel
theorem dZ_hangs_166 : decode bZ_hangs 166 = .ok (.iload 7, 2) := by decide +kernel
theorem dZ_hangs_168 : decode bZ_hangs 168 = .ok (.dup2, 1) := by decide +kernel
theorem dZ_hangs_169 : decode bZ_hangs 169 = .ok (.iaload, 1) := by decide +kernel
theorem dZ_hangs_170 : decode bZ_hangs 170 = .ok (.iload 6, 2) := by decide +kernel
theorem dZ_hangs_172 : decode bZ_hangs 172 = .ok (.iadd, 1) := by decide +kernel
theorem dZ_hangs_173 : decode bZ_hangs 173 = .ok (.iastore, 1) := by decide +kernel
theorem dZ_hangs_174 : decode bZ_hangs 174 = .ok (.iinc 7 1, 3) := by decide +kernel
theorem dZ_hangs_177 : decode bZ_hangs 177 = .ok (.goto (-50), 3) := by decide +kernel
theorem dZ_hangs_180 : decode bZ_hangs 180 = .ok (.iinc 3 1, 3) := by decide +kernel
theorem dZ_hangs_183 : decode bZ_hangs 183 = .ok (.goto (-151), 3) := by decide +kernel
theorem dZ_hangs_186 : decode bZ_hangs 186 = .ok (.iconst 1, 1) := by decide +kernel
theorem dZ_hangs_187 : decode bZ_hangs 187 = .ok (.istore_n 3, 1) := by decide +kernel
theorem dZ_hangs_188 : decode bZ_hangs 188 = .ok (.iconst 0, 1) := by decide +kernel
theorem dZ_hangs_189 : decode bZ_hangs 189 = .ok (.istore 4, 2) := by decide +kernel
theorem dZ_hangs_191 : decode bZ_hangs 191 = .ok (.iload 4, 2) := by decide +kernel
theorem dZ_hangs_193 : decode bZ_hangs 193 = .ok (.aload_n 0, 1) := by decide +kernel
theorem dZ_hangs_194 : decode bZ_hangs 194 = .ok (.getfield 130, 3) := by decide +kernel
theorem dZ_hangs_197 : decode bZ_hangs 197 = .ok (.if_icmp .ge 46, 3) := by decide +kernel
theorem dZ_hangs_200 : decode bZ_hangs 200 = .ok (.iload_n 3, 1) := by decide +kernel
theorem dZ_hangs_201 : decode bZ_hangs 201 = .ok (.ifCond .eq 34, 3) := by decide +kernel
theorem dZ_hangs_204 : decode bZ_hangs 204 = .ok (.aload_n 0, 1) := by decide +kernel
theorem dZ_hangs_205 : decode bZ_hangs 205 = .ok (.getfield 59, 3) := by decide +kernel
theorem dZ_hangs_208 : decode bZ_hangs 208 = .ok (.aload_n 0, 1) := by decide +kernel
theorem dZ_hangs_209 : decode bZ_hangs 209 = .ok (.getfield 47, 3) := by decide +kernel
theorem dZ_hangs_212 : decode bZ_hangs 212 = .ok (.iload 4, 2) := by decide +kernel
theorem dZ_hangs_214 : decode bZ_hangs 214 = .ok (.iaload, 1) := by decide +kernel
theorem dZ_hangs_215 : decode bZ_hangs 215 = .ok (.iaload, 1) := by decide +kernel
theorem dZ_hangs_216 : decode bZ_hangs 216 = .ok (.aload_n 0, 1) := by decide +kernel
theorem dZ_hangs_217 : decode bZ_hangs 217 = .ok (.getfield 59, 3) := by decide +kernel
theorem dZ_hangs_220 : decode bZ_hangs 220 = .ok (.aload_n 0, 1) := by decide +kernel
theorem dZ_hangs_221 : decode bZ_hangs 221 = .ok (.getfield 50, 3) := by decide +kernel
theorem dZ_hangs_224 : decode bZ_hangs 224 = .ok (.iload 4, 2) := by decide +kernel
theorem dZ_hangs_226 : decode bZ_hangs 226 = .ok (.iaload, 1) := by decide +kernel
theorem dZ_hangs_227 : decode bZ_hangs 227 = .ok (.iaload, 1) := by decide +kernel
theorem dZ_hangs_228 : decode bZ_hangs 228 = .ok (.if_icmp .ne 7, 3) := by decide +kernel
theorem dZ_hangs_231 : decode bZ_hangs 231 = .ok (.iconst 1, 1) := by decide +kernel
theorem dZ_hangs_232 : decode bZ_hangs 232 = .ok (.goto 4, 3) := by decide +kernel
theorem dZ_hangs_235 : decode bZ_hangs 235 = .ok (.iconst 0, 1) := by decide +kernel
theorem dZ_hangs_236 : decode bZ_hangs 236 = .ok (.istore_n 3, 1) := by decide +kernel
theorem dZ_hangs_237 : decode bZ_hangs 237 = .ok (.iinc 4 1, 3) := by decide +kernel
theorem dZ_hangs_240 : decode bZ_hangs 240 = .ok (.goto (-49), 3) := by decide +kernel
theorem dZ_hangs_243 : decode bZ_hangs 243 = .ok (.iload_n 2, 1) := by decide +kernel
theorem dZ_hangs_244 : decode bZ_hangs 244 = .ok (.ifCond .eq 11, 3) := by decide +kernel
theorem dZ_hangs_247 : decode bZ_hangs 247 = .ok (.iload_n 3, 1) := by decide +kernel
theorem dZ_hangs_248 : decode bZ_hangs 248 = .ok (.ifCond .eq 7, 3) := by decide +kernel
theorem dZ_hangs_251 : decode bZ_hangs 251 = .ok (.iconst 1, 1) := by decide +kernel
theorem dZ_hangs_252 : decode bZ_hangs 252 = .ok (.goto 4, 3) := by decide +kernel
theorem dZ_hangs_255 : decode bZ_hangs 255 = .ok (.iconst 0, 1) := by decide +kernel
theorem dZ_hangs_256 : decode bZ_hangs 256 = .ok (.ireturn, 1) := by decide +kernel
theorem dZ_apart_0 : decode bZ_apart 0 = .ok (.iload_n 0, 1) := by decide +kernel
theorem dZ_apart_1 : decode bZ_apart 1 = .ok (.iload_n 1, 1) := by decide +kernel
theorem dZ_apart_2 : decode bZ_apart 2 = .ok (.if_icmp .le 9, 3) := by decide +kernel
theorem dZ_apart_5 : decode bZ_apart 5 = .ok (.iload_n 0, 1) := by decide +kernel
theorem dZ_apart_6 : decode bZ_apart 6 = .ok (.iload_n 1, 1) := by decide +kernel
theorem dZ_apart_7 : decode bZ_apart 7 = .ok (.isub, 1) := by decide +kernel
theorem dZ_apart_8 : decode bZ_apart 8 = .ok (.goto 6, 3) := by decide +kernel
theorem dZ_apart_11 : decode bZ_apart 11 = .ok (.iload_n 1, 1) := by decide +kernel
theorem dZ_apart_12 : decode bZ_apart 12 = .ok (.iload_n 0, 1) := by decide +kernel
theorem dZ_apart_13 : decode bZ_apart 13 = .ok (.isub, 1) := by decide +kernel
theorem dZ_apart_14 : decode bZ_apart 14 = .ok (.ireturn, 1) := by decide +kernel
theorem dZ_forget_0 : decode bZ_forget 0 = .ok (.aload_n 0, 1) := by decide +kernel
theorem dZ_forget_1 : decode bZ_forget 1 = .ok (.iconst 0, 1) := by decide +kernel
theorem dZ_forget_2 : decode bZ_forget 2 = .ok (.putfield 68, 3) := by decide +kernel
theorem dZ_forget_5 : decode bZ_forget 5 = .ok (.aload_n 0, 1) := by decide +kernel
theorem dZ_forget_6 : decode bZ_forget 6 = .ok (.getfield 127, 3) := by decide +kernel
theorem dZ_forget_9 : decode bZ_forget 9 = .ok (.aload_n 0, 1) := by decide +kernel
theorem dZ_forget_10 : decode bZ_forget 10 = .ok (.getfield 130, 3) := by decide +kernel
theorem dZ_forget_13 : decode bZ_forget 13 = .ok (.iadd, 1) := by decide +kernel
theorem dZ_forget_14 : decode bZ_forget 14 = .ok (.istore_n 1, 1) := by decide +kernel
theorem dZ_forget_15 : decode bZ_forget 15 = .ok (.aload_n 0, 1) := by decide +kernel
theorem dZ_forget_16 : decode bZ_forget 16 = .ok (.iconst 0, 1) := by decide +kernel
theorem dZ_forget_17 : decode bZ_forget 17 = .ok (.putfield 127, 3) := by decide +kernel
theorem dZ_forget_20 : decode bZ_forget 20 = .ok (.aload_n 0, 1) := by decide +kernel
theorem dZ_forget_21 : decode bZ_forget 21 = .ok (.iconst 0, 1) := by decide +kernel
theorem dZ_forget_22 : decode bZ_forget 22 = .ok (.putfield 130, 3) := by decide +kernel
theorem dZ_forget_25 : decode bZ_forget 25 = .ok (.iload_n 1, 1) := by decide +kernel
theorem dZ_forget_26 : decode bZ_forget 26 = .ok (.ireturn, 1) := by decide +kernel
theorem dZ_whose_0 : decode bZ_whose 0 = .ok (.aload_n 0, 1) := by decide +kernel
theorem dZ_whose_1 : decode bZ_whose 1 = .ok (.iconst 0, 1) := by decide +kernel
theorem dZ_whose_2 : decode bZ_whose 2 = .ok (.putfield 68, 3) := by decide +kernel
theorem dZ_whose_5 : decode bZ_whose 5 = .ok (.iload_n 1, 1) := by decide +kernel
theorem dZ_whose_6 : decode bZ_whose 6 = .ok (.iconst (-1), 1) := by decide +kernel
theorem dZ_whose_7 : decode bZ_whose 7 = .ok (.aload_n 0, 1) := by decide +kernel
theorem dZ_whose_8 : decode bZ_whose 8 = .ok (.getfield 28, 3) := by decide +kernel
theorem dZ_whose_11 : decode bZ_whose 11 = .ok (.iconst 5, 1) := by decide +kernel
theorem dZ_whose_12 : decode bZ_whose 12 = .ok (.iaload, 1) := by decide +kernel
theorem dZ_whose_13 : decode bZ_whose 13 = .ok (.iconst 1, 1) := by decide +kernel
theorem dZ_whose_14 : decode bZ_whose 14 = .ok (.isub, 1) := by decide +kernel
theorem dZ_whose_15 : decode bZ_whose 15 = .ok (.invokestatic 72, 3) := by decide +kernel
theorem dZ_whose_18 : decode bZ_whose 18 = .ok (.ifCond .ne 5, 3) := by decide +kernel
theorem dZ_whose_21 : decode bZ_whose 21 = .ok (.iconst (-1), 1) := by decide +kernel
theorem dZ_whose_22 : decode bZ_whose 22 = .ok (.ireturn, 1) := by decide +kernel
theorem dZ_whose_23 : decode bZ_whose 23 = .ok (.iconst 0, 1) := by decide +kernel
theorem dZ_whose_24 : decode bZ_whose 24 = .ok (.istore_n 2, 1) := by decide +kernel
theorem dZ_whose_25 : decode bZ_whose 25 = .ok (.bipush (-9), 2) := by decide +kernel
theorem dZ_whose_27 : decode bZ_whose 27 = .ok (.istore_n 3, 1) := by decide +kernel
theorem dZ_whose_28 : decode bZ_whose 28 = .ok (.iconst 0, 1) := by decide +kernel
theorem dZ_whose_29 : decode bZ_whose 29 = .ok (.istore 4, 2) := by decide +kernel
theorem dZ_whose_31 : decode bZ_whose 31 = .ok (.iload 4, 2) := by decide +kernel
theorem dZ_whose_33 : decode bZ_whose 33 = .ok (.iconst 1, 1) := by decide +kernel
theorem dZ_whose_34 : decode bZ_whose 34 = .ok (.iconst 2, 1) := by decide +kernel
theorem dZ_whose_35 : decode bZ_whose 35 = .ok (.aload_n 0, 1) := by decide +kernel
theorem dZ_whose_36 : decode bZ_whose 36 = .ok (.getfield 28, 3) := by decide +kernel
theorem dZ_whose_39 : decode bZ_whose 39 = .ok (.iconst 5, 1) := by decide +kernel
theorem dZ_whose_40 : decode bZ_whose 40 = .ok (.iaload, 1) := by decide +kernel
theorem dZ_whose_41 : decode bZ_whose 41 = .ok (.imul, 1) := by decide +kernel
theorem dZ_whose_42 : decode bZ_whose 42 = .ok (.ishl, 1) := by decide +kernel
theorem dZ_whose_43 : decode bZ_whose 43 = .ok (.if_icmp .ge 54, 3) := by decide +kernel
theorem dZ_whose_46 : decode bZ_whose 46 = .ok (.aload_n 0, 1) := by decide +kernel
theorem dZ_whose_47 : decode bZ_whose 47 = .ok (.iload 4, 2) := by decide +kernel
theorem dZ_whose_49 : decode bZ_whose 49 = .ok (.invokevirtual 201, 3) := by decide +kernel
theorem dZ_whose_52 : decode bZ_whose 52 = .ok (.ifCond .eq 39, 3) := by decide +kernel
theorem dZ_whose_55 : decode bZ_whose 55 = .ok (.iload_n 1, 1) := by decide +kernel
theorem dZ_whose_56 : decode bZ_whose 56 = .ok (.ifCond .ge 7, 3) := by decide +kernel
theorem dZ_whose_59 : decode bZ_whose 59 = .ok (.iconst 0, 1) := by decide +kernel
theorem dZ_whose_60 : decode bZ_whose 60 = .ok (.goto 9, 3) := by decide +kernel
theorem dZ_whose_63 : decode bZ_whose 63 = .ok (.iload 4, 2) := by decide +kernel
theorem dZ_whose_65 : decode bZ_whose 65 = .ok (.iload_n 1, 1) := by decide +kernel
theorem dZ_whose_66 : decode bZ_whose 66 = .ok (.invokestatic 198, 3) := by decide +kernel
theorem dZ_whose_69 : decode bZ_whose 69 = .ok (.istore 5, 2) := by decide +kernel
theorem dZ_whose_71 : decode bZ_whose 71 = .ok (.iload_n 2, 1) := by decide +kernel
theorem dZ_whose_72 : decode bZ_whose 72 = .ok (.ifCond .eq 9, 3) := by decide +kernel
theorem dZ_whose_75 : decode bZ_whose 75 = .ok (.iload_n 3, 1) := by decide +kernel
theorem dZ_whose_76 : decode bZ_whose 76 = .ok (.iload 5, 2) := by decide +kernel
theorem dZ_whose_78 : decode bZ_whose 78 = .ok (.if_icmp .ne 8, 3) := by decide +kernel
theorem dZ_whose_81 : decode bZ_whose 81 = .ok (.iload 5, 2) := by decide +kernel
theorem dZ_whose_83 : decode bZ_whose 83 = .ok (.goto 4, 3) := by decide +kernel
theorem dZ_whose_86 : decode bZ_whose 86 = .ok (.iconst (-1), 1) := by decide +kernel
theorem dZ_whose_87 : decode bZ_whose 87 = .ok (.istore_n 3, 1) := by decide +kernel
theorem dZ_whose_88 : decode bZ_whose 88 = .ok (.iinc 2 1, 3) := by decide +kernel
theorem dZ_whose_91 : decode bZ_whose 91 = .ok (.iinc 4 1, 3) := by decide +kernel
theorem dZ_whose_94 : decode bZ_whose 94 = .ok (.goto (-63), 3) := by decide +kernel
theorem dZ_whose_97 : decode bZ_whose 97 = .ok (.iload_n 1, 1) := by decide +kernel
theorem dZ_whose_98 : decode bZ_whose 98 = .ok (.ifCond .ge 7, 3) := by decide +kernel
theorem dZ_whose_101 : decode bZ_whose 101 = .ok (.iload_n 2, 1) := by decide +kernel
theorem dZ_whose_102 : decode bZ_whose 102 = .ok (.goto 13, 3) := by decide +kernel
theorem dZ_whose_105 : decode bZ_whose 105 = .ok (.iload_n 3, 1) := by decide +kernel
theorem dZ_whose_106 : decode bZ_whose 106 = .ok (.ifCond .ge 8, 3) := by decide +kernel
theorem dZ_whose_109 : decode bZ_whose 109 = .ok (.bipush (-9), 2) := by decide +kernel
theorem dZ_whose_111 : decode bZ_whose 111 = .ok (.goto 4, 3) := by decide +kernel
theorem dZ_whose_114 : decode bZ_whose 114 = .ok (.iload_n 3, 1) := by decide +kernel
theorem dZ_whose_115 : decode bZ_whose 115 = .ok (.ireturn, 1) := by decide +kernel
theorem dZ_canOwn_0 : decode bZ_canOwn 0 = .ok (.iconst 1, 1) := by decide +kernel
theorem dZ_canOwn_1 : decode bZ_canOwn 1 = .ok (.istore_n 2, 1) := by decide +kernel
theorem dZ_canOwn_2 : decode bZ_canOwn 2 = .ok (.iconst 0, 1) := by decide +kernel
theorem dZ_canOwn_3 : decode bZ_canOwn 3 = .ok (.istore_n 3, 1) := by decide +kernel
theorem dZ_canOwn_4 : decode bZ_canOwn 4 = .ok (.iconst 0, 1) := by decide +kernel
theorem dZ_canOwn_5 : decode bZ_canOwn 5 = .ok (.istore 4, 2) := by decide +kernel
theorem dZ_canOwn_7 : decode bZ_canOwn 7 = .ok (.iload 4, 2) := by decide +kernel
theorem dZ_canOwn_9 : decode bZ_canOwn 9 = .ok (.aload_n 0, 1) := by decide +kernel
theorem dZ_canOwn_10 : decode bZ_canOwn 10 = .ok (.getfield 28, 3) := by decide +kernel
theorem dZ_canOwn_13 : decode bZ_canOwn 13 = .ok (.iconst 5, 1) := by decide +kernel
theorem dZ_canOwn_14 : decode bZ_canOwn 14 = .ok (.iaload, 1) := by decide +kernel
theorem dZ_canOwn_15 : decode bZ_canOwn 15 = .ok (.if_icmp .ge 74, 3) := by decide +kernel
theorem dZ_canOwn_18 : decode bZ_canOwn 18 = .ok (.iload_n 1, 1) := by decide +kernel
theorem dZ_canOwn_19 : decode bZ_canOwn 19 = .ok (.iload 4, 2) := by decide +kernel
theorem dZ_canOwn_21 : decode bZ_canOwn 21 = .ok (.invokestatic 198, 3) := by decide +kernel
theorem dZ_canOwn_24 : decode bZ_canOwn 24 = .ok (.istore 5, 2) := by decide +kernel
theorem dZ_canOwn_26 : decode bZ_canOwn 26 = .ok (.iload_n 2, 1) := by decide +kernel
theorem dZ_canOwn_27 : decode bZ_canOwn 27 = .ok (.ifCond .eq 47, 3) := by decide +kernel
theorem dZ_canOwn_30 : decode bZ_canOwn 30 = .ok (.iload 5, 2) := by decide +kernel
theorem dZ_canOwn_32 : decode bZ_canOwn 32 = .ok (.aload_n 0, 1) := by decide +kernel
theorem dZ_canOwn_33 : decode bZ_canOwn 33 = .ok (.getfield 13, 3) := by decide +kernel
theorem dZ_canOwn_36 : decode bZ_canOwn 36 = .ok (.iconst 1, 1) := by decide +kernel
theorem dZ_canOwn_37 : decode bZ_canOwn 37 = .ok (.iaload, 1) := by decide +kernel
theorem dZ_canOwn_38 : decode bZ_canOwn 38 = .ok (.if_icmp .ge 36, 3) := by decide +kernel
theorem dZ_canOwn_41 : decode bZ_canOwn 41 = .ok (.iload_n 3, 1) := by decide +kernel
theorem dZ_canOwn_42 : decode bZ_canOwn 42 = .ok (.iload 5, 2) := by decide +kernel
theorem dZ_canOwn_44 : decode bZ_canOwn 44 = .ok (.ishr, 1) := by decide +kernel
theorem dZ_canOwn_45 : decode bZ_canOwn 45 = .ok (.iconst 1, 1) := by decide +kernel
theorem dZ_canOwn_46 : decode bZ_canOwn 46 = .ok (.iand, 1) := by decide +kernel
theorem dZ_canOwn_47 : decode bZ_canOwn 47 = .ok (.ifCond .ne 27, 3) := by decide +kernel
theorem dZ_canOwn_50 : decode bZ_canOwn 50 = .ok (.aload_n 0, 1) := by decide +kernel
theorem dZ_canOwn_51 : decode bZ_canOwn 51 = .ok (.getfield 25, 3) := by decide +kernel
theorem dZ_canOwn_54 : decode bZ_canOwn 54 = .ok (.iload 5, 2) := by decide +kernel
theorem dZ_canOwn_56 : decode bZ_canOwn 56 = .ok (.iaload, 1) := by decide +kernel
theorem dZ_canOwn_57 : decode bZ_canOwn 57 = .ok (.aload_n 0, 1) := by decide +kernel
theorem dZ_canOwn_58 : decode bZ_canOwn 58 = .ok (.getfield 28, 3) := by decide +kernel
theorem dZ_canOwn_61 : decode bZ_canOwn 61 = .ok (.bipush 6, 2) := by decide +kernel
theorem dZ_canOwn_63 : decode bZ_canOwn 63 = .ok (.iload 4, 2) := by decide +kernel
theorem dZ_canOwn_65 : decode bZ_canOwn 65 = .ok (.iadd, 1) := by decide +kernel
theorem dZ_canOwn_66 : decode bZ_canOwn 66 = .ok (.iaload, 1) := by decide +kernel
theorem dZ_canOwn_67 : decode bZ_canOwn 67 = .ok (.if_icmp .lt 7, 3) := by decide +kernel
theorem dZ_canOwn_70 : decode bZ_canOwn 70 = .ok (.iconst 1, 1) := by decide +kernel
theorem dZ_canOwn_71 : decode bZ_canOwn 71 = .ok (.goto 4, 3) := by decide +kernel
theorem dZ_canOwn_74 : decode bZ_canOwn 74 = .ok (.iconst 0, 1) := by decide +kernel
theorem dZ_canOwn_75 : decode bZ_canOwn 75 = .ok (.istore_n 2, 1) := by decide +kernel
theorem dZ_canOwn_76 : decode bZ_canOwn 76 = .ok (.iload_n 3, 1) := by decide +kernel
theorem dZ_canOwn_77 : decode bZ_canOwn 77 = .ok (.iconst 1, 1) := by decide +kernel
theorem dZ_canOwn_78 : decode bZ_canOwn 78 = .ok (.iload 5, 2) := by decide +kernel
theorem dZ_canOwn_80 : decode bZ_canOwn 80 = .ok (.ishl, 1) := by decide +kernel
theorem dZ_canOwn_81 : decode bZ_canOwn 81 = .ok (.ior, 1) := by decide +kernel
theorem dZ_canOwn_82 : decode bZ_canOwn 82 = .ok (.istore_n 3, 1) := by decide +kernel
theorem dZ_canOwn_83 : decode bZ_canOwn 83 = .ok (.iinc 4 1, 3) := by decide +kernel
theorem dZ_canOwn_86 : decode bZ_canOwn 86 = .ok (.goto (-79), 3) := by decide +kernel
theorem dZ_canOwn_89 : decode bZ_canOwn 89 = .ok (.iload_n 2, 1) := by decide +kernel
theorem dZ_canOwn_90 : decode bZ_canOwn 90 = .ok (.ireturn, 1) := by decide +kernel
theorem dZ_ownerOf_0 : decode bZ_ownerOf 0 = .ok (.iload_n 0, 1) := by decide +kernel
theorem dZ_ownerOf_1 : decode bZ_ownerOf 1 = .ok (.iconst 2, 1) := by decide +kernel
theorem dZ_ownerOf_2 : decode bZ_ownerOf 2 = .ok (.iload_n 1, 1) := by decide +kernel
theorem dZ_ownerOf_3 : decode bZ_ownerOf 3 = .ok (.imul, 1) := by decide +kernel
theorem dZ_ownerOf_4 : decode bZ_ownerOf 4 = .ok (.ishr, 1) := by decide +kernel
theorem dZ_ownerOf_5 : decode bZ_ownerOf 5 = .ok (.iconst 3, 1) := by decide +kernel
theorem dZ_ownerOf_6 : decode bZ_ownerOf 6 = .ok (.iand, 1) := by decide +kernel
theorem dZ_ownerOf_7 : decode bZ_ownerOf 7 = .ok (.ireturn, 1) := by decide +kernel
theorem dZ_odds_0 : decode bZ_odds 0 = .ok (.aload_n 0, 1) := by decide +kernel
theorem dZ_odds_1 : decode bZ_odds 1 = .ok (.iconst 0, 1) := by decide +kernel
theorem dZ_odds_2 : decode bZ_odds 2 = .ok (.putfield 68, 3) := by decide +kernel
theorem dZ_odds_5 : decode bZ_odds 5 = .ok (.iload_n 1, 1) := by decide +kernel
theorem dZ_odds_6 : decode bZ_odds 6 = .ok (.iconst 0, 1) := by decide +kernel
theorem dZ_odds_7 : decode bZ_odds 7 = .ok (.bipush 10, 2) := by decide +kernel
theorem dZ_odds_9 : decode bZ_odds 9 = .ok (.invokestatic 72, 3) := by decide +kernel
theorem dZ_odds_12 : decode bZ_odds 12 = .ok (.ifCond .eq 21, 3) := by decide +kernel
theorem dZ_odds_15 : decode bZ_odds 15 = .ok (.iload_n 2, 1) := by decide +kernel
theorem dZ_odds_16 : decode bZ_odds 16 = .ok (.iconst 0, 1) := by decide +kernel
theorem dZ_odds_17 : decode bZ_odds 17 = .ok (.iconst 4, 1) := by decide +kernel
theorem dZ_odds_18 : decode bZ_odds 18 = .ok (.invokestatic 72, 3) := by decide +kernel
theorem dZ_odds_21 : decode bZ_odds 21 = .ok (.ifCond .eq 12, 3) := by decide +kernel
theorem dZ_odds_24 : decode bZ_odds 24 = .ok (.iload_n 3, 1) := by decide +kernel
theorem dZ_odds_25 : decode bZ_odds 25 = .ok (.iconst 0, 1) := by decide +kernel
theorem dZ_odds_26 : decode bZ_odds 26 = .ok (.iconst 1, 1) := by decide +kernel
theorem dZ_odds_27 : decode bZ_odds 27 = .ok (.invokestatic 72, 3) := by decide +kernel
theorem dZ_odds_30 : decode bZ_odds 30 = .ok (.ifCond .ne 5, 3) := by decide +kernel
theorem dZ_odds_33 : decode bZ_odds 33 = .ok (.iconst (-1), 1) := by decide +kernel
theorem dZ_odds_34 : decode bZ_odds 34 = .ok (.ireturn, 1) := by decide +kernel
theorem dZ_odds_35 : decode bZ_odds 35 = .ok (.aload_n 0, 1) := by decide +kernel
theorem dZ_odds_36 : decode bZ_odds 36 = .ok (.getfield 13, 3) := by decide +kernel
theorem dZ_odds_39 : decode bZ_odds 39 = .ok (.iconst 1, 1) := by decide +kernel
theorem dZ_odds_40 : decode bZ_odds 40 = .ok (.iaload, 1) := by decide +kernel
theorem dZ_odds_41 : decode bZ_odds 41 = .ok (.aload_n 0, 1) := by decide +kernel
theorem dZ_odds_42 : decode bZ_odds 42 = .ok (.getfield 28, 3) := by decide +kernel
theorem dZ_odds_45 : decode bZ_odds 45 = .ok (.iconst 4, 1) := by decide +kernel
theorem dZ_odds_46 : decode bZ_odds 46 = .ok (.iaload, 1) := by decide +kernel
theorem dZ_odds_47 : decode bZ_odds 47 = .ok (.invokestatic 153, 3) := by decide +kernel
theorem dZ_odds_50 : decode bZ_odds 50 = .ok (.isub, 1) := by decide +kernel
theorem dZ_odds_51 : decode bZ_odds 51 = .ok (.istore 4, 2) := by decide +kernel
theorem dZ_odds_53 : decode bZ_odds 53 = .ok (.iconst 0, 1) := by decide +kernel
theorem dZ_odds_54 : decode bZ_odds 54 = .ok (.istore 5, 2) := by decide +kernel
theorem dZ_odds_56 : decode bZ_odds 56 = .ok (.iconst 0, 1) := by decide +kernel
theorem dZ_odds_57 : decode bZ_odds 57 = .ok (.istore 6, 2) := by decide +kernel
theorem dZ_odds_59 : decode bZ_odds 59 = .ok (.iload 6, 2) := by decide +kernel
theorem dZ_odds_61 : decode bZ_odds 61 = .ok (.iconst 1, 1) := by decide +kernel
theorem dZ_odds_62 : decode bZ_odds 62 = .ok (.iload 4, 2) := by decide +kernel
theorem dZ_odds_64 : decode bZ_odds 64 = .ok (.ishl, 1) := by decide +kernel
theorem dZ_odds_65 : decode bZ_odds 65 = .ok (.if_icmp .ge 52, 3) := by decide +kernel
theorem dZ_odds_68 : decode bZ_odds 68 = .ok (.iload 5, 2) := by decide +kernel
theorem dZ_odds_70 : decode bZ_odds 70 = .ok (.iload 6, 2) := by decide +kernel
theorem dZ_odds_72 : decode bZ_odds 72 = .ok (.invokestatic 153, 3) := by decide +kernel
theorem dZ_odds_75 : decode bZ_odds 75 = .ok (.iload_n 2, 1) := by decide +kernel
theorem dZ_odds_76 : decode bZ_odds 76 = .ok (.if_icmp .gt 31, 3) := by decide +kernel
theorem dZ_odds_79 : decode bZ_odds 79 = .ok (.iload_n 1, 1) := by decide +kernel
theorem dZ_odds_80 : decode bZ_odds 80 = .ok (.iload 6, 2) := by decide +kernel
theorem dZ_odds_82 : decode bZ_odds 82 = .ok (.invokestatic 153, 3) := by decide +kernel
theorem dZ_odds_85 : decode bZ_odds 85 = .ok (.invokestatic 204, 3) := by decide +kernel
theorem dZ_odds_88 : decode bZ_odds 88 = .ok (.bipush 10, 2) := by decide +kernel
theorem dZ_odds_90 : decode bZ_odds 90 = .ok (.iload_n 1, 1) := by decide +kernel
theorem dZ_odds_91 : decode bZ_odds 91 = .ok (.isub, 1) := by decide +kernel
theorem dZ_odds_92 : decode bZ_odds 92 = .ok (.iload 4, 2) := by decide +kernel
theorem dZ_odds_94 : decode bZ_odds 94 = .ok (.iload 6, 2) := by decide +kernel
theorem dZ_odds_96 : decode bZ_odds 96 = .ok (.invokestatic 153, 3) := by decide +kernel
theorem dZ_odds_99 : decode bZ_odds 99 = .ok (.isub, 1) := by decide +kernel
theorem dZ_odds_100 : decode bZ_odds 100 = .ok (.invokestatic 204, 3) := by decide +kernel
theorem dZ_odds_103 : decode bZ_odds 103 = .ok (.imul, 1) := by decide +kernel
theorem dZ_odds_104 : decode bZ_odds 104 = .ok (.goto 4, 3) := by decide +kernel
theorem dZ_odds_107 : decode bZ_odds 107 = .ok (.iconst 0, 1) := by decide +kernel
theorem dZ_odds_108 : decode bZ_odds 108 = .ok (.iadd, 1) := by decide +kernel
theorem dZ_odds_109 : decode bZ_odds 109 = .ok (.istore 5, 2) := by decide +kernel
theorem dZ_odds_111 : decode bZ_odds 111 = .ok (.iinc 6 1, 3) := by decide +kernel
theorem dZ_odds_114 : decode bZ_odds 114 = .ok (.goto (-55), 3) := by decide +kernel
theorem dZ_odds_117 : decode bZ_odds 117 = .ok (.bipush 10, 2) := by decide +kernel
theorem dZ_odds_119 : decode bZ_odds 119 = .ok (.iload 4, 2) := by decide +kernel
theorem dZ_odds_121 : decode bZ_odds 121 = .ok (.invokestatic 204, 3) := by decide +kernel
theorem dZ_odds_124 : decode bZ_odds 124 = .ok (.istore 6, 2) := by decide +kernel
theorem dZ_odds_126 : decode bZ_odds 126 = .ok (.iload 5, 2) := by decide +kernel
theorem dZ_odds_128 : decode bZ_odds 128 = .ok (.iload 6, 2) := by decide +kernel
theorem dZ_odds_130 : decode bZ_odds 130 = .ok (.invokestatic 207, 3) := by decide +kernel
theorem dZ_odds_133 : decode bZ_odds 133 = .ok (.istore 7, 2) := by decide +kernel
theorem dZ_odds_135 : decode bZ_odds 135 = .ok (.iload_n 3, 1) := by decide +kernel
theorem dZ_odds_136 : decode bZ_odds 136 = .ok (.ifCond .ne 11, 3) := by decide +kernel
theorem dZ_odds_139 : decode bZ_odds 139 = .ok (.iload 5, 2) := by decide +kernel
theorem dZ_odds_141 : decode bZ_odds 141 = .ok (.iload 7, 2) := by decide +kernel
theorem dZ_odds_143 : decode bZ_odds 143 = .ok (.idiv, 1) := by decide +kernel
theorem dZ_odds_144 : decode bZ_odds 144 = .ok (.goto 8, 3) := by decide +kernel
theorem dZ_odds_147 : decode bZ_odds 147 = .ok (.iload 6, 2) := by decide +kernel
theorem dZ_odds_149 : decode bZ_odds 149 = .ok (.iload 7, 2) := by decide +kernel
theorem dZ_odds_151 : decode bZ_odds 151 = .ok (.idiv, 1) := by decide +kernel
theorem dZ_odds_152 : decode bZ_odds 152 = .ok (.ireturn, 1) := by decide +kernel
theorem dZ_power_0 : decode bZ_power 0 = .ok (.iconst 1, 1) := by decide +kernel
theorem dZ_power_1 : decode bZ_power 1 = .ok (.istore_n 2, 1) := by decide +kernel
theorem dZ_power_2 : decode bZ_power 2 = .ok (.iconst 0, 1) := by decide +kernel
theorem dZ_power_3 : decode bZ_power 3 = .ok (.istore_n 3, 1) := by decide +kernel
theorem dZ_power_4 : decode bZ_power 4 = .ok (.iload_n 3, 1) := by decide +kernel
theorem dZ_power_5 : decode bZ_power 5 = .ok (.iload_n 1, 1) := by decide +kernel
theorem dZ_power_6 : decode bZ_power 6 = .ok (.if_icmp .ge 13, 3) := by decide +kernel
theorem dZ_power_9 : decode bZ_power 9 = .ok (.iload_n 2, 1) := by decide +kernel
theorem dZ_power_10 : decode bZ_power 10 = .ok (.iload_n 0, 1) := by decide +kernel
theorem dZ_power_11 : decode bZ_power 11 = .ok (.imul, 1) := by decide +kernel
theorem dZ_power_12 : decode bZ_power 12 = .ok (.istore_n 2, 1) := by decide +kernel
theorem dZ_power_13 : decode bZ_power 13 = .ok (.iinc 3 1, 3) := by decide +kernel
theorem dZ_power_16 : decode bZ_power 16 = .ok (.goto (-12), 3) := by decide +kernel
theorem dZ_power_19 : decode bZ_power 19 = .ok (.iload_n 2, 1) := by decide +kernel
theorem dZ_power_20 : decode bZ_power 20 = .ok (.ireturn, 1) := by decide +kernel
theorem dZ_gcd_0 : decode bZ_gcd 0 = .ok (.iload_n 0, 1) := by decide +kernel
theorem dZ_gcd_1 : decode bZ_gcd 1 = .ok (.istore_n 2, 1) := by decide +kernel
theorem dZ_gcd_2 : decode bZ_gcd 2 = .ok (.iload_n 1, 1) := by decide +kernel
theorem dZ_gcd_3 : decode bZ_gcd 3 = .ok (.istore_n 3, 1) := by decide +kernel
theorem dZ_gcd_4 : decode bZ_gcd 4 = .ok (.iload_n 3, 1) := by decide +kernel
theorem dZ_gcd_5 : decode bZ_gcd 5 = .ok (.ifCond .eq 16, 3) := by decide +kernel
theorem dZ_gcd_8 : decode bZ_gcd 8 = .ok (.iload_n 2, 1) := by decide +kernel
theorem dZ_gcd_9 : decode bZ_gcd 9 = .ok (.iload_n 3, 1) := by decide +kernel
theorem dZ_gcd_10 : decode bZ_gcd 10 = .ok (.irem, 1) := by decide +kernel
theorem dZ_gcd_11 : decode bZ_gcd 11 = .ok (.istore 4, 2) := by decide +kernel
theorem dZ_gcd_13 : decode bZ_gcd 13 = .ok (.iload_n 3, 1) := by decide +kernel
theorem dZ_gcd_14 : decode bZ_gcd 14 = .ok (.istore_n 2, 1) := by decide +kernel
theorem dZ_gcd_15 : decode bZ_gcd 15 = .ok (.iload 4, 2) := by decide +kernel
theorem dZ_gcd_17 : decode bZ_gcd 17 = .ok (.istore_n 3, 1) := by decide +kernel
theorem dZ_gcd_18 : decode bZ_gcd 18 = .ok (.goto (-14), 3) := by decide +kernel
theorem dZ_gcd_21 : decode bZ_gcd 21 = .ok (.iload_n 2, 1) := by decide +kernel
theorem dZ_gcd_22 : decode bZ_gcd 22 = .ok (.ireturn, 1) := by decide +kernel
theorem dZ_rate_0 : decode bZ_rate 0 = .ok (.aload_n 0, 1) := by decide +kernel
theorem dZ_rate_1 : decode bZ_rate 1 = .ok (.iconst 0, 1) := by decide +kernel
theorem dZ_rate_2 : decode bZ_rate 2 = .ok (.putfield 68, 3) := by decide +kernel
theorem dZ_rate_5 : decode bZ_rate 5 = .ok (.iload_n 1, 1) := by decide +kernel
theorem dZ_rate_6 : decode bZ_rate 6 = .ok (.iconst 0, 1) := by decide +kernel
theorem dZ_rate_7 : decode bZ_rate 7 = .ok (.iconst 5, 1) := by decide +kernel
theorem dZ_rate_8 : decode bZ_rate 8 = .ok (.invokestatic 72, 3) := by decide +kernel
theorem dZ_rate_11 : decode bZ_rate 11 = .ok (.ifCond .eq 11, 3) := by decide +kernel
theorem dZ_rate_14 : decode bZ_rate 14 = .ok (.aload_n 0, 1) := by decide +kernel
theorem dZ_rate_15 : decode bZ_rate 15 = .ok (.iload_n 2, 1) := by decide +kernel
theorem dZ_rate_16 : decode bZ_rate 16 = .ok (.invokevirtual 139, 3) := by decide +kernel
theorem dZ_rate_19 : decode bZ_rate 19 = .ok (.ifCond .ne 6, 3) := by decide +kernel
theorem dZ_rate_22 : decode bZ_rate 22 = .ok (.ldc 142, 2) := by decide +kernel
theorem dZ_rate_24 : decode bZ_rate 24 = .ok (.ireturn, 1) := by decide +kernel
theorem dZ_rate_25 : decode bZ_rate 25 = .ok (.aload_n 0, 1) := by decide +kernel
theorem dZ_rate_26 : decode bZ_rate 26 = .ok (.getfield 19, 3) := by decide +kernel
theorem dZ_rate_29 : decode bZ_rate 29 = .ok (.iload_n 2, 1) := by decide +kernel
theorem dZ_rate_30 : decode bZ_rate 30 = .ok (.iaload, 1) := by decide +kernel
theorem dZ_rate_31 : decode bZ_rate 31 = .ok (.istore_n 3, 1) := by decide +kernel
theorem dZ_rate_32 : decode bZ_rate 32 = .ok (.iload_n 3, 1) := by decide +kernel
theorem dZ_rate_33 : decode bZ_rate 33 = .ok (.aload_n 0, 1) := by decide +kernel
theorem dZ_rate_34 : decode bZ_rate 34 = .ok (.iload_n 2, 1) := by decide +kernel
theorem dZ_rate_35 : decode bZ_rate 35 = .ok (.invokevirtual 210, 3) := by decide +kernel
theorem dZ_rate_38 : decode bZ_rate 38 = .ok (.iadd, 1) := by decide +kernel
theorem dZ_rate_39 : decode bZ_rate 39 = .ok (.istore 4, 2) := by decide +kernel
theorem dZ_rate_41 : decode bZ_rate 41 = .ok (.iload_n 3, 1) := by decide +kernel
theorem dZ_rate_42 : decode bZ_rate 42 = .ok (.aload_n 0, 1) := by decide +kernel
theorem dZ_rate_43 : decode bZ_rate 43 = .ok (.getfield 16, 3) := by decide +kernel
theorem dZ_rate_46 : decode bZ_rate 46 = .ok (.iload_n 2, 1) := by decide +kernel
theorem dZ_rate_47 : decode bZ_rate 47 = .ok (.iaload, 1) := by decide +kernel
theorem dZ_rate_48 : decode bZ_rate 48 = .ok (.isub, 1) := by decide +kernel
theorem dZ_rate_49 : decode bZ_rate 49 = .ok (.istore 5, 2) := by decide +kernel
theorem dZ_rate_51 : decode bZ_rate 51 = .ok (.aload_n 0, 1) := by decide +kernel
theorem dZ_rate_52 : decode bZ_rate 52 = .ok (.dup, 1) := by decide +kernel
theorem dZ_rate_53 : decode bZ_rate 53 = .ok (.getfield 213, 3) := by decide +kernel
theorem dZ_rate_56 : decode bZ_rate 56 = .ok (.iload_n 1, 1) := by decide +kernel
theorem dZ_rate_57 : decode bZ_rate 57 = .ok (.ifCond .ne 7, 3) := by decide +kernel
theorem dZ_rate_60 : decode bZ_rate 60 = .ok (.lconst 1, 1) := by decide +kernel
theorem dZ_rate_61 : decode bZ_rate 61 = .ok (.goto 50, 3) := by decide +kernel
theorem dZ_rate_64 : decode bZ_rate 64 = .ok (.iload_n 1, 1) := by decide +kernel
theorem dZ_rate_65 : decode bZ_rate 65 = .ok (.iconst 1, 1) := by decide +kernel
theorem dZ_rate_66 : decode bZ_rate 66 = .ok (.if_icmp .ne 9, 3) := by decide +kernel
theorem dZ_rate_69 : decode bZ_rate 69 = .ok (.ldc2_w 217, 3) := by decide +kernel
theorem dZ_rate_72 : decode bZ_rate 72 = .ok (.goto 39, 3) := by decide +kernel
theorem dZ_rate_75 : decode bZ_rate 75 = .ok (.iload_n 1, 1) := by decide +kernel
theorem dZ_rate_76 : decode bZ_rate 76 = .ok (.iconst 2, 1) := by decide +kernel
theorem dZ_rate_77 : decode bZ_rate 77 = .ok (.if_icmp .ne 9, 3) := by decide +kernel
theorem dZ_rate_80 : decode bZ_rate 80 = .ok (.ldc2_w 219, 3) := by decide +kernel
theorem dZ_rate_83 : decode bZ_rate 83 = .ok (.goto 28, 3) := by decide +kernel
theorem dZ_rate_86 : decode bZ_rate 86 = .ok (.iload_n 1, 1) := by decide +kernel
theorem dZ_rate_87 : decode bZ_rate 87 = .ok (.iconst 3, 1) := by decide +kernel
theorem dZ_rate_88 : decode bZ_rate 88 = .ok (.if_icmp .ne 9, 3) := by decide +kernel
theorem dZ_rate_91 : decode bZ_rate 91 = .ok (.ldc2_w 221, 3) := by decide +kernel
theorem dZ_rate_94 : decode bZ_rate 94 = .ok (.goto 17, 3) := by decide +kernel
theorem dZ_rate_97 : decode bZ_rate 97 = .ok (.iload_n 1, 1) := by decide +kernel
theorem dZ_rate_98 : decode bZ_rate 98 = .ok (.iconst 4, 1) := by decide +kernel
theorem dZ_rate_99 : decode bZ_rate 99 = .ok (.if_icmp .ne 9, 3) := by decide +kernel
theorem dZ_rate_102 : decode bZ_rate 102 = .ok (.ldc2_w 223, 3) := by decide +kernel
theorem dZ_rate_105 : decode bZ_rate 105 = .ok (.goto 6, 3) := by decide +kernel
theorem dZ_rate_108 : decode bZ_rate 108 = .ok (.ldc2_w 225, 3) := by decide +kernel
theorem dZ_rate_111 : decode bZ_rate 111 = .ok (.ladd, 1) := by decide +kernel
theorem dZ_rate_112 : decode bZ_rate 112 = .ok (.putfield 213, 3) := by decide +kernel
theorem dZ_rate_115 : decode bZ_rate 115 = .ok (.iload_n 1, 1) := by decide +kernel
theorem dZ_rate_116 : decode bZ_rate 116 = .ok (.ifCond .ne 7, 3) := by decide +kernel
theorem dZ_rate_119 : decode bZ_rate 119 = .ok (.iload_n 3, 1) := by decide +kernel
theorem dZ_rate_120 : decode bZ_rate 120 = .ok (.goto 58, 3) := by decide +kernel
theorem dZ_rate_123 : decode bZ_rate 123 = .ok (.iload_n 1, 1) := by decide +kernel
theorem dZ_rate_124 : decode bZ_rate 124 = .ok (.iconst 1, 1) := by decide +kernel
theorem dZ_rate_125 : decode bZ_rate 125 = .ok (.if_icmp .ne 8, 3) := by decide +kernel
theorem dZ_rate_128 : decode bZ_rate 128 = .ok (.iload 4, 2) := by decide +kernel
theorem dZ_rate_130 : decode bZ_rate 130 = .ok (.goto 48, 3) := by decide +kernel
theorem dZ_rate_133 : decode bZ_rate 133 = .ok (.iload_n 1, 1) := by decide +kernel
theorem dZ_rate_134 : decode bZ_rate 134 = .ok (.iconst 2, 1) := by decide +kernel
theorem dZ_rate_135 : decode bZ_rate 135 = .ok (.if_icmp .ne 8, 3) := by decide +kernel
theorem dZ_rate_138 : decode bZ_rate 138 = .ok (.iload 5, 2) := by decide +kernel
theorem dZ_rate_140 : decode bZ_rate 140 = .ok (.goto 38, 3) := by decide +kernel
theorem dZ_rate_143 : decode bZ_rate 143 = .ok (.iload_n 1, 1) := by decide +kernel
theorem dZ_rate_144 : decode bZ_rate 144 = .ok (.iconst 3, 1) := by decide +kernel
theorem dZ_rate_145 : decode bZ_rate 145 = .ok (.if_icmp .ne 10, 3) := by decide +kernel
theorem dZ_rate_148 : decode bZ_rate 148 = .ok (.iconst 2, 1) := by decide +kernel
theorem dZ_rate_149 : decode bZ_rate 149 = .ok (.iload 4, 2) := by decide +kernel
theorem dZ_rate_151 : decode bZ_rate 151 = .ok (.imul, 1) := by decide +kernel
theorem dZ_rate_152 : decode bZ_rate 152 = .ok (.goto 26, 3) := by decide +kernel
theorem dZ_rate_155 : decode bZ_rate 155 = .ok (.iload_n 1, 1) := by decide +kernel
theorem dZ_rate_156 : decode bZ_rate 156 = .ok (.iconst 4, 1) := by decide +kernel
theorem dZ_rate_157 : decode bZ_rate 157 = .ok (.if_icmp .ne 10, 3) := by decide +kernel
theorem dZ_rate_160 : decode bZ_rate 160 = .ok (.iload 5, 2) := by decide +kernel
theorem dZ_rate_162 : decode bZ_rate 162 = .ok (.iload_n 2, 1) := by decide +kernel
theorem dZ_rate_163 : decode bZ_rate 163 = .ok (.iadd, 1) := by decide +kernel
theorem dZ_rate_164 : decode bZ_rate 164 = .ok (.goto 14, 3) := by decide +kernel
theorem dZ_rate_167 : decode bZ_rate 167 = .ok (.iload_n 3, 1) := by decide +kernel
theorem dZ_rate_168 : decode bZ_rate 168 = .ok (.aload_n 0, 1) := by decide +kernel
theorem dZ_rate_169 : decode bZ_rate 169 = .ok (.getfield 28, 3) := by decide +kernel
theorem dZ_rate_172 : decode bZ_rate 172 = .ok (.iconst 4, 1) := by decide +kernel
theorem dZ_rate_173 : decode bZ_rate 173 = .ok (.iaload, 1) := by decide +kernel
theorem dZ_rate_174 : decode bZ_rate 174 = .ok (.invokestatic 153, 3) := by decide +kernel
theorem dZ_rate_177 : decode bZ_rate 177 = .ok (.iadd, 1) := by decide +kernel
theorem dZ_rate_178 : decode bZ_rate 178 = .ok (.ireturn, 1) := by decide +kernel
theorem dZ_thingsOn_0 : decode bZ_thingsOn 0 = .ok (.iconst 0, 1) := by decide +kernel
theorem dZ_thingsOn_1 : decode bZ_thingsOn 1 = .ok (.istore_n 2, 1) := by decide +kernel
theorem dZ_thingsOn_2 : decode bZ_thingsOn 2 = .ok (.iconst 0, 1) := by decide +kernel
theorem dZ_thingsOn_3 : decode bZ_thingsOn 3 = .ok (.istore_n 3, 1) := by decide +kernel
theorem dZ_thingsOn_4 : decode bZ_thingsOn 4 = .ok (.iload_n 3, 1) := by decide +kernel
theorem dZ_thingsOn_5 : decode bZ_thingsOn 5 = .ok (.aload_n 0, 1) := by decide +kernel
theorem dZ_thingsOn_6 : decode bZ_thingsOn 6 = .ok (.getfield 28, 3) := by decide +kernel
theorem dZ_thingsOn_9 : decode bZ_thingsOn 9 = .ok (.iconst 5, 1) := by decide +kernel
theorem dZ_thingsOn_10 : decode bZ_thingsOn 10 = .ok (.iaload, 1) := by decide +kernel
theorem dZ_thingsOn_11 : decode bZ_thingsOn 11 = .ok (.if_icmp .ge 46, 3) := by decide +kernel
theorem dZ_thingsOn_14 : decode bZ_thingsOn 14 = .ok (.iload_n 2, 1) := by decide +kernel
theorem dZ_thingsOn_15 : decode bZ_thingsOn 15 = .ok (.aload_n 0, 1) := by decide +kernel
theorem dZ_thingsOn_16 : decode bZ_thingsOn 16 = .ok (.getfield 28, 3) := by decide +kernel
theorem dZ_thingsOn_19 : decode bZ_thingsOn 19 = .ok (.bipush 6, 2) := by decide +kernel
theorem dZ_thingsOn_21 : decode bZ_thingsOn 21 = .ok (.iload_n 3, 1) := by decide +kernel
theorem dZ_thingsOn_22 : decode bZ_thingsOn 22 = .ok (.iadd, 1) := by decide +kernel
theorem dZ_thingsOn_23 : decode bZ_thingsOn 23 = .ok (.iaload, 1) := by decide +kernel
theorem dZ_thingsOn_24 : decode bZ_thingsOn 24 = .ok (.aload_n 0, 1) := by decide +kernel
theorem dZ_thingsOn_25 : decode bZ_thingsOn 25 = .ok (.iload_n 1, 1) := by decide +kernel
theorem dZ_thingsOn_26 : decode bZ_thingsOn 26 = .ok (.invokevirtual 136, 3) := by decide +kernel
theorem dZ_thingsOn_29 : decode bZ_thingsOn 29 = .ok (.aload_n 0, 1) := by decide +kernel
theorem dZ_thingsOn_30 : decode bZ_thingsOn 30 = .ok (.iload_n 1, 1) := by decide +kernel
theorem dZ_thingsOn_31 : decode bZ_thingsOn 31 = .ok (.iconst 1, 1) := by decide +kernel
theorem dZ_thingsOn_32 : decode bZ_thingsOn 32 = .ok (.iadd, 1) := by decide +kernel
theorem dZ_thingsOn_33 : decode bZ_thingsOn 33 = .ok (.invokevirtual 136, 3) := by decide +kernel
theorem dZ_thingsOn_36 : decode bZ_thingsOn 36 = .ok (.iconst 1, 1) := by decide +kernel
theorem dZ_thingsOn_37 : decode bZ_thingsOn 37 = .ok (.isub, 1) := by decide +kernel
theorem dZ_thingsOn_38 : decode bZ_thingsOn 38 = .ok (.invokestatic 72, 3) := by decide +kernel
theorem dZ_thingsOn_41 : decode bZ_thingsOn 41 = .ok (.ifCond .eq 7, 3) := by decide +kernel
theorem dZ_thingsOn_44 : decode bZ_thingsOn 44 = .ok (.iconst 1, 1) := by decide +kernel
theorem dZ_thingsOn_45 : decode bZ_thingsOn 45 = .ok (.goto 4, 3) := by decide +kernel
theorem dZ_thingsOn_48 : decode bZ_thingsOn 48 = .ok (.iconst 0, 1) := by decide +kernel
theorem dZ_thingsOn_49 : decode bZ_thingsOn 49 = .ok (.iadd, 1) := by decide +kernel
theorem dZ_thingsOn_50 : decode bZ_thingsOn 50 = .ok (.istore_n 2, 1) := by decide +kernel
theorem dZ_thingsOn_51 : decode bZ_thingsOn 51 = .ok (.iinc 3 1, 3) := by decide +kernel
theorem dZ_thingsOn_54 : decode bZ_thingsOn 54 = .ok (.goto (-50), 3) := by decide +kernel
theorem dZ_thingsOn_57 : decode bZ_thingsOn 57 = .ok (.iload_n 2, 1) := by decide +kernel
theorem dZ_thingsOn_58 : decode bZ_thingsOn 58 = .ok (.ireturn, 1) := by decide +kernel
theorem dZ_keep_0 : decode bZ_keep 0 = .ok (.aload_n 0, 1) := by decide +kernel
theorem dZ_keep_1 : decode bZ_keep 1 = .ok (.iconst 0, 1) := by decide +kernel
theorem dZ_keep_2 : decode bZ_keep 2 = .ok (.putfield 68, 3) := by decide +kernel
theorem dZ_keep_5 : decode bZ_keep 5 = .ok (.iload_n 1, 1) := by decide +kernel
theorem dZ_keep_6 : decode bZ_keep 6 = .ok (.iconst 0, 1) := by decide +kernel
theorem dZ_keep_7 : decode bZ_keep 7 = .ok (.iconst 1, 1) := by decide +kernel
theorem dZ_keep_8 : decode bZ_keep 8 = .ok (.invokestatic 72, 3) := by decide +kernel
theorem dZ_keep_11 : decode bZ_keep 11 = .ok (.ifCond .ne 5, 3) := by decide +kernel
theorem dZ_keep_14 : decode bZ_keep 14 = .ok (.iconst (-1), 1) := by decide +kernel
theorem dZ_keep_15 : decode bZ_keep 15 = .ok (.ireturn, 1) := by decide +kernel
theorem dZ_keep_16 : decode bZ_keep 16 = .ok (.iconst 0, 1) := by decide +kernel
theorem dZ_keep_17 : decode bZ_keep 17 = .ok (.istore_n 2, 1) := by decide +kernel
theorem dZ_keep_18 : decode bZ_keep 18 = .ok (.iload_n 2, 1) := by decide +kernel
theorem dZ_keep_19 : decode bZ_keep 19 = .ok (.sipush 212, 3) := by decide +kernel
theorem dZ_keep_22 : decode bZ_keep 22 = .ok (.if_icmp .ge 27, 3) := by decide +kernel
theorem dZ_keep_25 : decode bZ_keep 25 = .ok (.aload_n 0, 1) := by decide +kernel
theorem dZ_keep_26 : decode bZ_keep 26 = .ok (.getfield 31, 3) := by decide +kernel
theorem dZ_keep_29 : decode bZ_keep 29 = .ok (.sipush 212, 3) := by decide +kernel
theorem dZ_keep_32 : decode bZ_keep 32 = .ok (.iload_n 1, 1) := by decide +kernel
theorem dZ_keep_33 : decode bZ_keep 33 = .ok (.imul, 1) := by decide +kernel
theorem dZ_keep_34 : decode bZ_keep 34 = .ok (.iload_n 2, 1) := by decide +kernel
theorem dZ_keep_35 : decode bZ_keep 35 = .ok (.iadd, 1) := by decide +kernel
theorem dZ_keep_36 : decode bZ_keep 36 = .ok (.aload_n 0, 1) := by decide +kernel
theorem dZ_keep_37 : decode bZ_keep 37 = .ok (.getfield 28, 3) := by decide +kernel
theorem dZ_keep_40 : decode bZ_keep 40 = .ok (.iload_n 2, 1) := by decide +kernel
theorem dZ_keep_41 : decode bZ_keep 41 = .ok (.iaload, 1) := by decide +kernel
theorem dZ_keep_42 : decode bZ_keep 42 = .ok (.iastore, 1) := by decide +kernel
theorem dZ_keep_43 : decode bZ_keep 43 = .ok (.iinc 2 1, 3) := by decide +kernel
theorem dZ_keep_46 : decode bZ_keep 46 = .ok (.goto (-28), 3) := by decide +kernel
theorem dZ_keep_49 : decode bZ_keep 49 = .ok (.aload_n 0, 1) := by decide +kernel
theorem dZ_keep_50 : decode bZ_keep 50 = .ok (.getfield 34, 3) := by decide +kernel
theorem dZ_keep_53 : decode bZ_keep 53 = .ok (.iload_n 1, 1) := by decide +kernel
theorem dZ_keep_54 : decode bZ_keep 54 = .ok (.iconst 1, 1) := by decide +kernel
theorem dZ_keep_55 : decode bZ_keep 55 = .ok (.bastore, 1) := by decide +kernel
theorem dZ_keep_56 : decode bZ_keep 56 = .ok (.aload_n 0, 1) := by decide +kernel
theorem dZ_keep_57 : decode bZ_keep 57 = .ok (.getfield 28, 3) := by decide +kernel
theorem dZ_keep_60 : decode bZ_keep 60 = .ok (.iconst 4, 1) := by decide +kernel
theorem dZ_keep_61 : decode bZ_keep 61 = .ok (.iaload, 1) := by decide +kernel
theorem dZ_keep_62 : decode bZ_keep 62 = .ok (.invokestatic 153, 3) := by decide +kernel
theorem dZ_keep_65 : decode bZ_keep 65 = .ok (.ireturn, 1) := by decide +kernel
theorem dZ_back_0 : decode bZ_back 0 = .ok (.aload_n 0, 1) := by decide +kernel
theorem dZ_back_1 : decode bZ_back 1 = .ok (.iconst 0, 1) := by decide +kernel
theorem dZ_back_2 : decode bZ_back 2 = .ok (.putfield 68, 3) := by decide +kernel
theorem dZ_back_5 : decode bZ_back 5 = .ok (.iload_n 1, 1) := by decide +kernel
theorem dZ_back_6 : decode bZ_back 6 = .ok (.iconst 0, 1) := by decide +kernel
theorem dZ_back_7 : decode bZ_back 7 = .ok (.iconst 1, 1) := by decide +kernel
theorem dZ_back_8 : decode bZ_back 8 = .ok (.invokestatic 72, 3) := by decide +kernel
theorem dZ_back_11 : decode bZ_back 11 = .ok (.ifCond .ne 5, 3) := by decide +kernel
theorem dZ_back_14 : decode bZ_back 14 = .ok (.iconst (-1), 1) := by decide +kernel
theorem dZ_back_15 : decode bZ_back 15 = .ok (.ireturn, 1) := by decide +kernel
theorem dZ_back_16 : decode bZ_back 16 = .ok (.aload_n 0, 1) := by decide +kernel
theorem dZ_back_17 : decode bZ_back 17 = .ok (.getfield 34, 3) := by decide +kernel
theorem dZ_back_20 : decode bZ_back 20 = .ok (.iload_n 1, 1) := by decide +kernel
theorem dZ_back_21 : decode bZ_back 21 = .ok (.baload, 1) := by decide +kernel
theorem dZ_back_22 : decode bZ_back 22 = .ok (.ifCond .ne 6, 3) := by decide +kernel
theorem dZ_back_25 : decode bZ_back 25 = .ok (.bipush (-2), 2) := by decide +kernel
theorem dZ_back_27 : decode bZ_back 27 = .ok (.ireturn, 1) := by decide +kernel
theorem dZ_back_28 : decode bZ_back 28 = .ok (.iconst 0, 1) := by decide +kernel
theorem dZ_back_29 : decode bZ_back 29 = .ok (.istore_n 2, 1) := by decide +kernel
theorem dZ_back_30 : decode bZ_back 30 = .ok (.iload_n 2, 1) := by decide +kernel
theorem dZ_back_31 : decode bZ_back 31 = .ok (.sipush 212, 3) := by decide +kernel
theorem dZ_back_34 : decode bZ_back 34 = .ok (.if_icmp .ge 27, 3) := by decide +kernel
theorem dZ_back_37 : decode bZ_back 37 = .ok (.aload_n 0, 1) := by decide +kernel
theorem dZ_back_38 : decode bZ_back 38 = .ok (.getfield 28, 3) := by decide +kernel
theorem dZ_back_41 : decode bZ_back 41 = .ok (.iload_n 2, 1) := by decide +kernel
theorem dZ_back_42 : decode bZ_back 42 = .ok (.aload_n 0, 1) := by decide +kernel
theorem dZ_back_43 : decode bZ_back 43 = .ok (.getfield 31, 3) := by decide +kernel
theorem dZ_back_46 : decode bZ_back 46 = .ok (.sipush 212, 3) := by decide +kernel
theorem dZ_back_49 : decode bZ_back 49 = .ok (.iload_n 1, 1) := by decide +kernel
theorem dZ_back_50 : decode bZ_back 50 = .ok (.imul, 1) := by decide +kernel
theorem dZ_back_51 : decode bZ_back 51 = .ok (.iload_n 2, 1) := by decide +kernel
theorem dZ_back_52 : decode bZ_back 52 = .ok (.iadd, 1) := by decide +kernel
theorem dZ_back_53 : decode bZ_back 53 = .ok (.iaload, 1) := by decide +kernel
theorem dZ_back_54 : decode bZ_back 54 = .ok (.iastore, 1) := by decide +kernel
theorem dZ_back_55 : decode bZ_back 55 = .ok (.iinc 2 1, 3) := by decide +kernel
theorem dZ_back_58 : decode bZ_back 58 = .ok (.goto (-28), 3) := by decide +kernel
theorem dZ_back_61 : decode bZ_back 61 = .ok (.aload_n 0, 1) := by decide +kernel
theorem dZ_back_62 : decode bZ_back 62 = .ok (.iconst 0, 1) := by decide +kernel
theorem dZ_back_63 : decode bZ_back 63 = .ok (.putfield 133, 3) := by decide +kernel
theorem dZ_back_66 : decode bZ_back 66 = .ok (.aload_n 0, 1) := by decide +kernel
theorem dZ_back_67 : decode bZ_back 67 = .ok (.getfield 28, 3) := by decide +kernel
theorem dZ_back_70 : decode bZ_back 70 = .ok (.iconst 4, 1) := by decide +kernel
theorem dZ_back_71 : decode bZ_back 71 = .ok (.iaload, 1) := by decide +kernel
theorem dZ_back_72 : decode bZ_back 72 = .ok (.invokestatic 153, 3) := by decide +kernel
theorem dZ_back_75 : decode bZ_back 75 = .ok (.ireturn, 1) := by decide +kernel
theorem dZ_count_0 : decode bZ_count 0 = .ok (.aload_n 0, 1) := by decide +kernel
theorem dZ_count_1 : decode bZ_count 1 = .ok (.iconst 0, 1) := by decide +kernel
theorem dZ_count_2 : decode bZ_count 2 = .ok (.putfield 68, 3) := by decide +kernel
theorem dZ_count_5 : decode bZ_count 5 = .ok (.iload_n 1, 1) := by decide +kernel
theorem dZ_count_6 : decode bZ_count 6 = .ok (.iconst 0, 1) := by decide +kernel
theorem dZ_count_7 : decode bZ_count 7 = .ok (.iconst 3, 1) := by decide +kernel
theorem dZ_count_8 : decode bZ_count 8 = .ok (.invokestatic 72, 3) := by decide +kernel
theorem dZ_count_11 : decode bZ_count 11 = .ok (.ifCond .eq 12, 3) := by decide +kernel
theorem dZ_count_14 : decode bZ_count 14 = .ok (.aload_n 0, 1) := by decide +kernel
theorem dZ_count_15 : decode bZ_count 15 = .ok (.getfield 13, 3) := by decide +kernel
theorem dZ_count_18 : decode bZ_count 18 = .ok (.iload_n 1, 1) := by decide +kernel
theorem dZ_count_19 : decode bZ_count 19 = .ok (.iaload, 1) := by decide +kernel
theorem dZ_count_20 : decode bZ_count 20 = .ok (.goto 41, 3) := by decide +kernel
theorem dZ_count_23 : decode bZ_count 23 = .ok (.iload_n 1, 1) := by decide +kernel
theorem dZ_count_24 : decode bZ_count 24 = .ok (.iconst 4, 1) := by decide +kernel
theorem dZ_count_25 : decode bZ_count 25 = .ok (.if_icmp .ne 10, 3) := by decide +kernel
theorem dZ_count_28 : decode bZ_count 28 = .ok (.aload_n 0, 1) := by decide +kernel
theorem dZ_count_29 : decode bZ_count 29 = .ok (.getfield 127, 3) := by decide +kernel
theorem dZ_count_32 : decode bZ_count 32 = .ok (.goto 29, 3) := by decide +kernel
theorem dZ_count_35 : decode bZ_count 35 = .ok (.iload_n 1, 1) := by decide +kernel
theorem dZ_count_36 : decode bZ_count 36 = .ok (.iconst 5, 1) := by decide +kernel
theorem dZ_count_37 : decode bZ_count 37 = .ok (.if_icmp .ne 10, 3) := by decide +kernel
theorem dZ_count_40 : decode bZ_count 40 = .ok (.aload_n 0, 1) := by decide +kernel
theorem dZ_count_41 : decode bZ_count 41 = .ok (.getfield 130, 3) := by decide +kernel
theorem dZ_count_44 : decode bZ_count 44 = .ok (.goto 17, 3) := by decide +kernel
theorem dZ_count_47 : decode bZ_count 47 = .ok (.iload_n 1, 1) := by decide +kernel
theorem dZ_count_48 : decode bZ_count 48 = .ok (.bipush 6, 2) := by decide +kernel
theorem dZ_count_50 : decode bZ_count 50 = .ok (.if_icmp .ne 10, 3) := by decide +kernel
theorem dZ_count_53 : decode bZ_count 53 = .ok (.aload_n 0, 1) := by decide +kernel
theorem dZ_count_54 : decode bZ_count 54 = .ok (.getfield 76, 3) := by decide +kernel
theorem dZ_count_57 : decode bZ_count 57 = .ok (.goto 4, 3) := by decide +kernel
theorem dZ_count_60 : decode bZ_count 60 = .ok (.iconst (-1), 1) := by decide +kernel
theorem dZ_count_61 : decode bZ_count 61 = .ok (.ireturn, 1) := by decide +kernel
theorem dZ_trace_0 : decode bZ_trace 0 = .ok (.aload_n 0, 1) := by decide +kernel
theorem dZ_trace_1 : decode bZ_trace 1 = .ok (.iconst 0, 1) := by decide +kernel
theorem dZ_trace_2 : decode bZ_trace 2 = .ok (.putfield 68, 3) := by decide +kernel
theorem dZ_trace_5 : decode bZ_trace 5 = .ok (.aload_n 0, 1) := by decide +kernel
theorem dZ_trace_6 : decode bZ_trace 6 = .ok (.getfield 213, 3) := by decide +kernel
theorem dZ_trace_9 : decode bZ_trace 9 = .ok (.lreturn, 1) := by decide +kernel
