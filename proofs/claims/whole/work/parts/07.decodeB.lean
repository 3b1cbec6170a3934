theorem dX_init_0 : decode bX_init 0 = .ok (.aload_n 0, 1) := by decide +kernel
theorem dX_init_1 : decode bX_init 1 = .ok (.invokespecial 3, 3) := by decide +kernel
theorem dX_init_4 : decode bX_init 4 = .ok (.aload_n 0, 1) := by decide +kernel
theorem dX_init_5 : decode bX_init 5 = .ok (.new 9, 3) := by decide +kernel
theorem dX_init_8 : decode bX_init 8 = .ok (.dup, 1) := by decide +kernel
theorem dX_init_9 : decode bX_init 9 = .ok (.invokespecial 11, 3) := by decide +kernel
theorem dX_init_12 : decode bX_init 12 = .ok (.putfield 12, 3) := by decide +kernel
theorem dX_init_15 : decode bX_init 15 = .ok (.aload_n 0, 1) := by decide +kernel
theorem dX_init_16 : decode bX_init 16 = .ok (.new 16, 3) := by decide +kernel
theorem dX_init_19 : decode bX_init 19 = .ok (.dup, 1) := by decide +kernel
theorem dX_init_20 : decode bX_init 20 = .ok (.invokespecial 18, 3) := by decide +kernel
theorem dX_init_23 : decode bX_init 23 = .ok (.putfield 19, 3) := by decide +kernel
theorem dX_init_26 : decode bX_init 26 = .ok (.aload_n 0, 1) := by decide +kernel
theorem dX_init_27 : decode bX_init 27 = .ok (.new 16, 3) := by decide +kernel
theorem dX_init_30 : decode bX_init 30 = .ok (.dup, 1) := by decide +kernel
theorem dX_init_31 : decode bX_init 31 = .ok (.invokespecial 18, 3) := by decide +kernel
theorem dX_init_34 : decode bX_init 34 = .ok (.putfield 23, 3) := by decide +kernel
theorem dX_init_37 : decode bX_init 37 = .ok (.aload_n 0, 1) := by decide +kernel
theorem dX_init_38 : decode bX_init 38 = .ok (.new 26, 3) := by decide +kernel
theorem dX_init_41 : decode bX_init 41 = .ok (.dup, 1) := by decide +kernel
theorem dX_init_42 : decode bX_init 42 = .ok (.invokespecial 28, 3) := by decide +kernel
theorem dX_init_45 : decode bX_init 45 = .ok (.putfield 29, 3) := by decide +kernel
theorem dX_init_48 : decode bX_init 48 = .ok (.aload_n 0, 1) := by decide +kernel
theorem dX_init_49 : decode bX_init 49 = .ok (.new 26, 3) := by decide +kernel
theorem dX_init_52 : decode bX_init 52 = .ok (.dup, 1) := by decide +kernel
theorem dX_init_53 : decode bX_init 53 = .ok (.invokespecial 28, 3) := by decide +kernel
theorem dX_init_56 : decode bX_init 56 = .ok (.putfield 33, 3) := by decide +kernel
theorem dX_init_59 : decode bX_init 59 = .ok (.aload_n 0, 1) := by decide +kernel
theorem dX_init_60 : decode bX_init 60 = .ok (.new 26, 3) := by decide +kernel
theorem dX_init_63 : decode bX_init 63 = .ok (.dup, 1) := by decide +kernel
theorem dX_init_64 : decode bX_init 64 = .ok (.invokespecial 28, 3) := by decide +kernel
theorem dX_init_67 : decode bX_init 67 = .ok (.putfield 36, 3) := by decide +kernel
theorem dX_init_70 : decode bX_init 70 = .ok (.aload_n 0, 1) := by decide +kernel
theorem dX_init_71 : decode bX_init 71 = .ok (.new 39, 3) := by decide +kernel
theorem dX_init_74 : decode bX_init 74 = .ok (.dup, 1) := by decide +kernel
theorem dX_init_75 : decode bX_init 75 = .ok (.iconst 2, 1) := by decide +kernel
theorem dX_init_76 : decode bX_init 76 = .ok (.invokespecial 41, 3) := by decide +kernel
theorem dX_init_79 : decode bX_init 79 = .ok (.putfield 44, 3) := by decide +kernel
theorem dX_init_82 : decode bX_init 82 = .ok (.aload_n 0, 1) := by decide +kernel
theorem dX_init_83 : decode bX_init 83 = .ok (.new 48, 3) := by decide +kernel
theorem dX_init_86 : decode bX_init 86 = .ok (.dup, 1) := by decide +kernel
theorem dX_init_87 : decode bX_init 87 = .ok (.invokespecial 50, 3) := by decide +kernel
theorem dX_init_90 : decode bX_init 90 = .ok (.putfield 51, 3) := by decide +kernel
theorem dX_init_93 : decode bX_init 93 = .ok (.aload_n 0, 1) := by decide +kernel
theorem dX_init_94 : decode bX_init 94 = .ok (.new 55, 3) := by decide +kernel
theorem dX_init_97 : decode bX_init 97 = .ok (.dup, 1) := by decide +kernel
theorem dX_init_98 : decode bX_init 98 = .ok (.invokespecial 57, 3) := by decide +kernel
theorem dX_init_101 : decode bX_init 101 = .ok (.putfield 58, 3) := by decide +kernel
theorem dX_init_104 : decode bX_init 104 = .ok (.aload_n 0, 1) := by decide +kernel
theorem dX_init_105 : decode bX_init 105 = .ok (.new 62, 3) := by decide +kernel
theorem dX_init_108 : decode bX_init 108 = .ok (.dup, 1) := by decide +kernel
theorem dX_init_109 : decode bX_init 109 = .ok (.invokespecial 64, 3) := by decide +kernel
theorem dX_init_112 : decode bX_init 112 = .ok (.putfield 65, 3) := by decide +kernel
theorem dX_init_115 : decode bX_init 115 = .ok (.return_, 1) := by decide +kernel
theorem dX_type_0 : decode bX_type 0 = .ok (.iload_n 1, 1) := by decide +kernel
theorem dX_type_1 : decode bX_type 1 = .ok (.ifCond .lt 10, 3) := by decide +kernel
theorem dX_type_4 : decode bX_type 4 = .ok (.iload_n 1, 1) := by decide +kernel
theorem dX_type_5 : decode bX_type 5 = .ok (.sipush 255, 3) := by decide +kernel
theorem dX_type_8 : decode bX_type 8 = .ok (.if_icmp .le 5, 3) := by decide +kernel
theorem dX_type_11 : decode bX_type 11 = .ok (.iconst (-1), 1) := by decide +kernel
theorem dX_type_12 : decode bX_type 12 = .ok (.ireturn, 1) := by decide +kernel
theorem dX_type_13 : decode bX_type 13 = .ok (.aload_n 0, 1) := by decide +kernel
theorem dX_type_14 : decode bX_type 14 = .ok (.getfield 12, 3) := by decide +kernel
theorem dX_type_17 : decode bX_type 17 = .ok (.getfield 69, 3) := by decide +kernel
theorem dX_type_20 : decode bX_type 20 = .ok (.invokevirtual 72, 3) := by decide +kernel
theorem dX_type_23 : decode bX_type 23 = .ok (.ifCond .eq 6, 3) := by decide +kernel
theorem dX_type_26 : decode bX_type 26 = .ok (.bipush (-3), 2) := by decide +kernel
theorem dX_type_28 : decode bX_type 28 = .ok (.ireturn, 1) := by decide +kernel
theorem dX_type_29 : decode bX_type 29 = .ok (.aload_n 0, 1) := by decide +kernel
theorem dX_type_30 : decode bX_type 30 = .ok (.getfield 12, 3) := by decide +kernel
theorem dX_type_33 : decode bX_type 33 = .ok (.getfield 69, 3) := by decide +kernel
theorem dX_type_36 : decode bX_type 36 = .ok (.iload_n 1, 1) := by decide +kernel
theorem dX_type_37 : decode bX_type 37 = .ok (.invokevirtual 76, 3) := by decide +kernel
theorem dX_type_40 : decode bX_type 40 = .ok (.aload_n 0, 1) := by decide +kernel
theorem dX_type_41 : decode bX_type 41 = .ok (.getfield 12, 3) := by decide +kernel
theorem dX_type_44 : decode bX_type 44 = .ok (.getfield 69, 3) := by decide +kernel
theorem dX_type_47 : decode bX_type 47 = .ok (.invokevirtual 79, 3) := by decide +kernel
theorem dX_type_50 : decode bX_type 50 = .ok (.ireturn, 1) := by decide +kernel
theorem dX_clear_0 : decode bX_clear 0 = .ok (.aload_n 0, 1) := by decide +kernel
theorem dX_clear_1 : decode bX_clear 1 = .ok (.getfield 12, 3) := by decide +kernel
theorem dX_clear_4 : decode bX_clear 4 = .ok (.getfield 69, 3) := by decide +kernel
theorem dX_clear_7 : decode bX_clear 7 = .ok (.invokevirtual 79, 3) := by decide +kernel
theorem dX_clear_10 : decode bX_clear 10 = .ok (.istore_n 1, 1) := by decide +kernel
theorem dX_clear_11 : decode bX_clear 11 = .ok (.aload_n 0, 1) := by decide +kernel
theorem dX_clear_12 : decode bX_clear 12 = .ok (.getfield 12, 3) := by decide +kernel
theorem dX_clear_15 : decode bX_clear 15 = .ok (.getfield 69, 3) := by decide +kernel
theorem dX_clear_18 : decode bX_clear 18 = .ok (.invokevirtual 83, 3) := by decide +kernel
theorem dX_clear_21 : decode bX_clear 21 = .ok (.iload_n 1, 1) := by decide +kernel
theorem dX_clear_22 : decode bX_clear 22 = .ok (.ireturn, 1) := by decide +kernel
theorem dX_ladder_0 : decode bX_ladder 0 = .ok (.aload_n 0, 1) := by decide +kernel
theorem dX_ladder_1 : decode bX_ladder 1 = .ok (.getfield 12, 3) := by decide +kernel
theorem dX_ladder_4 : decode bX_ladder 4 = .ok (.aload_n 0, 1) := by decide +kernel
theorem dX_ladder_5 : decode bX_ladder 5 = .ok (.getfield 23, 3) := by decide +kernel
theorem dX_ladder_8 : decode bX_ladder 8 = .ok (.invokevirtual 86, 3) := by decide +kernel
theorem dX_ladder_11 : decode bX_ladder 11 = .ok (.istore_n 1, 1) := by decide +kernel
theorem dX_ladder_12 : decode bX_ladder 12 = .ok (.iload_n 1, 1) := by decide +kernel
theorem dX_ladder_13 : decode bX_ladder 13 = .ok (.ifCond .ge 5, 3) := by decide +kernel
theorem dX_ladder_16 : decode bX_ladder 16 = .ok (.iload_n 1, 1) := by decide +kernel
theorem dX_ladder_17 : decode bX_ladder 17 = .ok (.ireturn, 1) := by decide +kernel
theorem dX_ladder_18 : decode bX_ladder 18 = .ok (.aload_n 0, 1) := by decide +kernel
theorem dX_ladder_19 : decode bX_ladder 19 = .ok (.getfield 23, 3) := by decide +kernel
theorem dX_ladder_22 : decode bX_ladder 22 = .ok (.astore_n 2, 1) := by decide +kernel
theorem dX_ladder_23 : decode bX_ladder 23 = .ok (.aload_n 0, 1) := by decide +kernel
theorem dX_ladder_24 : decode bX_ladder 24 = .ok (.aload_n 0, 1) := by decide +kernel
theorem dX_ladder_25 : decode bX_ladder 25 = .ok (.getfield 19, 3) := by decide +kernel
theorem dX_ladder_28 : decode bX_ladder 28 = .ok (.putfield 23, 3) := by decide +kernel
theorem dX_ladder_31 : decode bX_ladder 31 = .ok (.aload_n 0, 1) := by decide +kernel
theorem dX_ladder_32 : decode bX_ladder 32 = .ok (.aload_n 2, 1) := by decide +kernel
theorem dX_ladder_33 : decode bX_ladder 33 = .ok (.putfield 19, 3) := by decide +kernel
theorem dX_ladder_36 : decode bX_ladder 36 = .ok (.aload_n 0, 1) := by decide +kernel
theorem dX_ladder_37 : decode bX_ladder 37 = .ok (.getfield 12, 3) := by decide +kernel
theorem dX_ladder_40 : decode bX_ladder 40 = .ok (.getfield 69, 3) := by decide +kernel
theorem dX_ladder_43 : decode bX_ladder 43 = .ok (.invokevirtual 83, 3) := by decide +kernel
theorem dX_ladder_46 : decode bX_ladder 46 = .ok (.aload_n 0, 1) := by decide +kernel
theorem dX_ladder_47 : decode bX_ladder 47 = .ok (.getfield 29, 3) := by decide +kernel
theorem dX_ladder_50 : decode bX_ladder 50 = .ok (.invokevirtual 90, 3) := by decide +kernel
theorem dX_ladder_53 : decode bX_ladder 53 = .ok (.aload_n 0, 1) := by decide +kernel
theorem dX_ladder_54 : decode bX_ladder 54 = .ok (.getfield 44, 3) := by decide +kernel
theorem dX_ladder_57 : decode bX_ladder 57 = .ok (.invokevirtual 83, 3) := by decide +kernel
theorem dX_ladder_60 : decode bX_ladder 60 = .ok (.aload_n 0, 1) := by decide +kernel
theorem dX_ladder_61 : decode bX_ladder 61 = .ok (.getfield 51, 3) := by decide +kernel
theorem dX_ladder_64 : decode bX_ladder 64 = .ok (.invokevirtual 93, 3) := by decide +kernel
theorem dX_ladder_67 : decode bX_ladder 67 = .ok (.aload_n 0, 1) := by decide +kernel
theorem dX_ladder_68 : decode bX_ladder 68 = .ok (.getfield 58, 3) := by decide +kernel
theorem dX_ladder_71 : decode bX_ladder 71 = .ok (.invokevirtual 94, 3) := by decide +kernel
theorem dX_ladder_74 : decode bX_ladder 74 = .ok (.aload_n 0, 1) := by decide +kernel
theorem dX_ladder_75 : decode bX_ladder 75 = .ok (.getfield 65, 3) := by decide +kernel
theorem dX_ladder_78 : decode bX_ladder 78 = .ok (.invokevirtual 95, 3) := by decide +kernel
theorem dX_ladder_81 : decode bX_ladder 81 = .ok (.iload_n 1, 1) := by decide +kernel
theorem dX_ladder_82 : decode bX_ladder 82 = .ok (.ireturn, 1) := by decide +kernel
theorem dX_stretch_0 : decode bX_stretch 0 = .ok (.aload_n 0, 1) := by decide +kernel
theorem dX_stretch_1 : decode bX_stretch 1 = .ok (.getfield 19, 3) := by decide +kernel
theorem dX_stretch_4 : decode bX_stretch 4 = .ok (.iload_n 1, 1) := by decide +kernel
theorem dX_stretch_5 : decode bX_stretch 5 = .ok (.invokevirtual 96, 3) := by decide +kernel
theorem dX_stretch_8 : decode bX_stretch 8 = .ok (.ifCond .ne 6, 3) := by decide +kernel
theorem dX_stretch_11 : decode bX_stretch 11 = .ok (.ldc 100, 2) := by decide +kernel
theorem dX_stretch_13 : decode bX_stretch 13 = .ok (.ireturn, 1) := by decide +kernel
theorem dX_stretch_14 : decode bX_stretch 14 = .ok (.iload_n 2, 1) := by decide +kernel
theorem dX_stretch_15 : decode bX_stretch 15 = .ok (.tableswitch 76 0 3 #[29, 41, 53, 65], 29) := by decide +kernel
theorem dX_stretch_44 : decode bX_stretch 44 = .ok (.aload_n 0, 1) := by decide +kernel
theorem dX_stretch_45 : decode bX_stretch 45 = .ok (.getfield 19, 3) := by decide +kernel
theorem dX_stretch_48 : decode bX_stretch 48 = .ok (.getfield 101, 3) := by decide +kernel
theorem dX_stretch_51 : decode bX_stretch 51 = .ok (.iload_n 1, 1) := by decide +kernel
theorem dX_stretch_52 : decode bX_stretch 52 = .ok (.invokevirtual 104, 3) := by decide +kernel
theorem dX_stretch_55 : decode bX_stretch 55 = .ok (.ireturn, 1) := by decide +kernel
theorem dX_stretch_56 : decode bX_stretch 56 = .ok (.aload_n 0, 1) := by decide +kernel
theorem dX_stretch_57 : decode bX_stretch 57 = .ok (.getfield 19, 3) := by decide +kernel
theorem dX_stretch_60 : decode bX_stretch 60 = .ok (.getfield 108, 3) := by decide +kernel
theorem dX_stretch_63 : decode bX_stretch 63 = .ok (.iload_n 1, 1) := by decide +kernel
theorem dX_stretch_64 : decode bX_stretch 64 = .ok (.invokevirtual 104, 3) := by decide +kernel
theorem dX_stretch_67 : decode bX_stretch 67 = .ok (.ireturn, 1) := by decide +kernel
theorem dX_stretch_68 : decode bX_stretch 68 = .ok (.aload_n 0, 1) := by decide +kernel
theorem dX_stretch_69 : decode bX_stretch 69 = .ok (.getfield 19, 3) := by decide +kernel
theorem dX_stretch_72 : decode bX_stretch 72 = .ok (.getfield 111, 3) := by decide +kernel
theorem dX_stretch_75 : decode bX_stretch 75 = .ok (.iload_n 1, 1) := by decide +kernel
theorem dX_stretch_76 : decode bX_stretch 76 = .ok (.invokevirtual 104, 3) := by decide +kernel
theorem dX_stretch_79 : decode bX_stretch 79 = .ok (.ireturn, 1) := by decide +kernel
theorem dX_stretch_80 : decode bX_stretch 80 = .ok (.aload_n 0, 1) := by decide +kernel
theorem dX_stretch_81 : decode bX_stretch 81 = .ok (.getfield 19, 3) := by decide +kernel
theorem dX_stretch_84 : decode bX_stretch 84 = .ok (.iload_n 1, 1) := by decide +kernel
theorem dX_stretch_85 : decode bX_stretch 85 = .ok (.iconst 1, 1) := by decide +kernel
theorem dX_stretch_86 : decode bX_stretch 86 = .ok (.iadd, 1) := by decide +kernel
theorem dX_stretch_87 : decode bX_stretch 87 = .ok (.invokevirtual 114, 3) := by decide +kernel
theorem dX_stretch_90 : decode bX_stretch 90 = .ok (.ireturn, 1) := by decide +kernel
theorem dX_stretch_91 : decode bX_stretch 91 = .ok (.ldc 100, 2) := by decide +kernel
theorem dX_stretch_93 : decode bX_stretch 93 = .ok (.ireturn, 1) := by decide +kernel
theorem dX_traveller_0 : decode bX_traveller 0 = .ok (.aload_n 0, 1) := by decide +kernel
theorem dX_traveller_1 : decode bX_traveller 1 = .ok (.getfield 19, 3) := by decide +kernel
theorem dX_traveller_4 : decode bX_traveller 4 = .ok (.iload_n 1, 1) := by decide +kernel
theorem dX_traveller_5 : decode bX_traveller 5 = .ok (.invokevirtual 117, 3) := by decide +kernel
theorem dX_traveller_8 : decode bX_traveller 8 = .ok (.ifCond .ne 5, 3) := by decide +kernel
theorem dX_traveller_11 : decode bX_traveller 11 = .ok (.iconst (-1), 1) := by decide +kernel
theorem dX_traveller_12 : decode bX_traveller 12 = .ok (.ireturn, 1) := by decide +kernel
theorem dX_traveller_13 : decode bX_traveller 13 = .ok (.iload_n 2, 1) := by decide +kernel
theorem dX_traveller_14 : decode bX_traveller 14 = .ok (.tableswitch 62 0 2 #[26, 38, 50], 26) := by decide +kernel
theorem dX_traveller_40 : decode bX_traveller 40 = .ok (.aload_n 0, 1) := by decide +kernel
theorem dX_traveller_41 : decode bX_traveller 41 = .ok (.getfield 19, 3) := by decide +kernel
theorem dX_traveller_44 : decode bX_traveller 44 = .ok (.getfield 120, 3) := by decide +kernel
theorem dX_traveller_47 : decode bX_traveller 47 = .ok (.iload_n 1, 1) := by decide +kernel
theorem dX_traveller_48 : decode bX_traveller 48 = .ok (.invokevirtual 104, 3) := by decide +kernel
theorem dX_traveller_51 : decode bX_traveller 51 = .ok (.ireturn, 1) := by decide +kernel
theorem dX_traveller_52 : decode bX_traveller 52 = .ok (.aload_n 0, 1) := by decide +kernel
theorem dX_traveller_53 : decode bX_traveller 53 = .ok (.getfield 29, 3) := by decide +kernel
theorem dX_traveller_56 : decode bX_traveller 56 = .ok (.getfield 123, 3) := by decide +kernel
theorem dX_traveller_59 : decode bX_traveller 59 = .ok (.iload_n 1, 1) := by decide +kernel
theorem dX_traveller_60 : decode bX_traveller 60 = .ok (.invokevirtual 104, 3) := by decide +kernel
theorem dX_traveller_63 : decode bX_traveller 63 = .ok (.ireturn, 1) := by decide +kernel
theorem dX_traveller_64 : decode bX_traveller 64 = .ok (.aload_n 0, 1) := by decide +kernel
theorem dX_traveller_65 : decode bX_traveller 65 = .ok (.getfield 29, 3) := by decide +kernel
theorem dX_traveller_68 : decode bX_traveller 68 = .ok (.getfield 126, 3) := by decide +kernel
theorem dX_traveller_71 : decode bX_traveller 71 = .ok (.iload_n 1, 1) := by decide +kernel
theorem dX_traveller_72 : decode bX_traveller 72 = .ok (.invokevirtual 104, 3) := by decide +kernel
theorem dX_traveller_75 : decode bX_traveller 75 = .ok (.ireturn, 1) := by decide +kernel
theorem dX_traveller_76 : decode bX_traveller 76 = .ok (.iconst (-1), 1) := by decide +kernel
theorem dX_traveller_77 : decode bX_traveller 77 = .ok (.ireturn, 1) := by decide +kernel
theorem dX_wear_0 : decode bX_wear 0 = .ok (.iload_n 1, 1) := by decide +kernel
theorem dX_wear_1 : decode bX_wear 1 = .ok (.ifCond .lt 19, 3) := by decide +kernel
theorem dX_wear_4 : decode bX_wear 4 = .ok (.iload_n 1, 1) := by decide +kernel
theorem dX_wear_5 : decode bX_wear 5 = .ok (.iconst 1, 1) := by decide +kernel
theorem dX_wear_6 : decode bX_wear 6 = .ok (.if_icmp .gt 14, 3) := by decide +kernel
theorem dX_wear_9 : decode bX_wear 9 = .ok (.aload_n 0, 1) := by decide +kernel
theorem dX_wear_10 : decode bX_wear 10 = .ok (.getfield 19, 3) := by decide +kernel
theorem dX_wear_13 : decode bX_wear 13 = .ok (.iload_n 2, 1) := by decide +kernel
theorem dX_wear_14 : decode bX_wear 14 = .ok (.invokevirtual 129, 3) := by decide +kernel
theorem dX_wear_17 : decode bX_wear 17 = .ok (.ifCond .ne 5, 3) := by decide +kernel
theorem dX_wear_20 : decode bX_wear 20 = .ok (.iconst (-1), 1) := by decide +kernel
theorem dX_wear_21 : decode bX_wear 21 = .ok (.ireturn, 1) := by decide +kernel
theorem dX_wear_22 : decode bX_wear 22 = .ok (.aload_n 0, 1) := by decide +kernel
theorem dX_wear_23 : decode bX_wear 23 = .ok (.getfield 29, 3) := by decide +kernel
theorem dX_wear_26 : decode bX_wear 26 = .ok (.iload_n 1, 1) := by decide +kernel
theorem dX_wear_27 : decode bX_wear 27 = .ok (.iload_n 2, 1) := by decide +kernel
theorem dX_wear_28 : decode bX_wear 28 = .ok (.invokevirtual 132, 3) := by decide +kernel
theorem dX_wear_31 : decode bX_wear 31 = .ok (.ireturn, 1) := by decide +kernel
theorem dX_thing_0 : decode bX_thing 0 = .ok (.iload_n 1, 1) := by decide +kernel
theorem dX_thing_1 : decode bX_thing 1 = .ok (.ifCond .lt 9, 3) := by decide +kernel
theorem dX_thing_4 : decode bX_thing 4 = .ok (.iload_n 1, 1) := by decide +kernel
theorem dX_thing_5 : decode bX_thing 5 = .ok (.bipush 6, 2) := by decide +kernel
theorem dX_thing_7 : decode bX_thing 7 = .ok (.if_icmp .lt 5, 3) := by decide +kernel
theorem dX_thing_10 : decode bX_thing 10 = .ok (.iconst (-1), 1) := by decide +kernel
theorem dX_thing_11 : decode bX_thing 11 = .ok (.ireturn, 1) := by decide +kernel
theorem dX_thing_12 : decode bX_thing 12 = .ok (.iload_n 1, 1) := by decide +kernel
theorem dX_thing_13 : decode bX_thing 13 = .ok (.aload_n 0, 1) := by decide +kernel
theorem dX_thing_14 : decode bX_thing 14 = .ok (.getfield 29, 3) := by decide +kernel
theorem dX_thing_17 : decode bX_thing 17 = .ok (.getfield 136, 3) := by decide +kernel
theorem dX_thing_20 : decode bX_thing 20 = .ok (.invokevirtual 79, 3) := by decide +kernel
theorem dX_thing_23 : decode bX_thing 23 = .ok (.if_icmp .ge 17, 3) := by decide +kernel
theorem dX_thing_26 : decode bX_thing 26 = .ok (.aload_n 0, 1) := by decide +kernel
theorem dX_thing_27 : decode bX_thing 27 = .ok (.getfield 29, 3) := by decide +kernel
theorem dX_thing_30 : decode bX_thing 30 = .ok (.getfield 136, 3) := by decide +kernel
theorem dX_thing_33 : decode bX_thing 33 = .ok (.iload_n 1, 1) := by decide +kernel
theorem dX_thing_34 : decode bX_thing 34 = .ok (.invokevirtual 104, 3) := by decide +kernel
theorem dX_thing_37 : decode bX_thing 37 = .ok (.goto 5, 3) := by decide +kernel
theorem dX_thing_40 : decode bX_thing 40 = .ok (.bipush (-9), 2) := by decide +kernel
theorem dX_thing_42 : decode bX_thing 42 = .ok (.ireturn, 1) := by decide +kernel
theorem dX_now_0 : decode bX_now 0 = .ok (.iload_n 1, 1) := by decide +kernel
theorem dX_now_1 : decode bX_now 1 = .ok (.tableswitch 109 0 6 #[43, 51, 62, 70, 78, 86, 101], 43) := by decide +kernel
theorem dX_now_44 : decode bX_now 44 = .ok (.aload_n 0, 1) := by decide +kernel
theorem dX_now_45 : decode bX_now 45 = .ok (.getfield 19, 3) := by decide +kernel
theorem dX_now_48 : decode bX_now 48 = .ok (.invokevirtual 139, 3) := by decide +kernel
theorem dX_now_51 : decode bX_now 51 = .ok (.ireturn, 1) := by decide +kernel
theorem dX_now_52 : decode bX_now 52 = .ok (.aload_n 0, 1) := by decide +kernel
theorem dX_now_53 : decode bX_now 53 = .ok (.getfield 29, 3) := by decide +kernel
theorem dX_now_56 : decode bX_now 56 = .ok (.getfield 136, 3) := by decide +kernel
theorem dX_now_59 : decode bX_now 59 = .ok (.invokevirtual 79, 3) := by decide +kernel
theorem dX_now_62 : decode bX_now 62 = .ok (.ireturn, 1) := by decide +kernel
theorem dX_now_63 : decode bX_now 63 = .ok (.aload_n 0, 1) := by decide +kernel
theorem dX_now_64 : decode bX_now 64 = .ok (.getfield 29, 3) := by decide +kernel
theorem dX_now_67 : decode bX_now 67 = .ok (.invokevirtual 142, 3) := by decide +kernel
theorem dX_now_70 : decode bX_now 70 = .ok (.ireturn, 1) := by decide +kernel
theorem dX_now_71 : decode bX_now 71 = .ok (.aload_n 0, 1) := by decide +kernel
theorem dX_now_72 : decode bX_now 72 = .ok (.getfield 29, 3) := by decide +kernel
theorem dX_now_75 : decode bX_now 75 = .ok (.invokevirtual 145, 3) := by decide +kernel
theorem dX_now_78 : decode bX_now 78 = .ok (.ireturn, 1) := by decide +kernel
theorem dX_now_79 : decode bX_now 79 = .ok (.aload_n 0, 1) := by decide +kernel
theorem dX_now_80 : decode bX_now 80 = .ok (.getfield 19, 3) := by decide +kernel
theorem dX_now_83 : decode bX_now 83 = .ok (.invokevirtual 148, 3) := by decide +kernel
theorem dX_now_86 : decode bX_now 86 = .ok (.ireturn, 1) := by decide +kernel
theorem dX_now_87 : decode bX_now 87 = .ok (.aload_n 0, 1) := by decide +kernel
theorem dX_now_88 : decode bX_now 88 = .ok (.getfield 19, 3) := by decide +kernel
theorem dX_now_91 : decode bX_now 91 = .ok (.aload_n 0, 1) := by decide +kernel
theorem dX_now_92 : decode bX_now 92 = .ok (.getfield 19, 3) := by decide +kernel
theorem dX_now_95 : decode bX_now 95 = .ok (.getfield 151, 3) := by decide +kernel
theorem dX_now_98 : decode bX_now 98 = .ok (.invokevirtual 155, 3) := by decide +kernel
theorem dX_now_101 : decode bX_now 101 = .ok (.ireturn, 1) := by decide +kernel
theorem dX_now_102 : decode bX_now 102 = .ok (.aload_n 0, 1) := by decide +kernel
theorem dX_now_103 : decode bX_now 103 = .ok (.getfield 51, 3) := by decide +kernel
theorem dX_now_106 : decode bX_now 106 = .ok (.invokevirtual 158, 3) := by decide +kernel
theorem dX_now_109 : decode bX_now 109 = .ok (.ireturn, 1) := by decide +kernel
theorem dX_now_110 : decode bX_now 110 = .ok (.iconst (-1), 1) := by decide +kernel
theorem dX_now_111 : decode bX_now 111 = .ok (.ireturn, 1) := by decide +kernel
theorem dX_divideUp_0 : decode bX_divideUp 0 = .ok (.iload_n 1, 1) := by decide +kernel
theorem dX_divideUp_1 : decode bX_divideUp 1 = .ok (.iconst 1, 1) := by decide +kernel
theorem dX_divideUp_2 : decode bX_divideUp 2 = .ok (.if_icmp .ge 7, 3) := by decide +kernel
theorem dX_divideUp_5 : decode bX_divideUp 5 = .ok (.iconst 0, 1) := by decide +kernel
theorem dX_divideUp_6 : decode bX_divideUp 6 = .ok (.goto 10, 3) := by decide +kernel
theorem dX_divideUp_9 : decode bX_divideUp 9 = .ok (.iload_n 0, 1) := by decide +kernel
theorem dX_divideUp_10 : decode bX_divideUp 10 = .ok (.iload_n 1, 1) := by decide +kernel
theorem dX_divideUp_11 : decode bX_divideUp 11 = .ok (.iadd, 1) := by decide +kernel
theorem dX_divideUp_12 : decode bX_divideUp 12 = .ok (.iconst 1, 1) := by decide +kernel
theorem dX_divideUp_13 : decode bX_divideUp 13 = .ok (.isub, 1) := by decide +kernel
theorem dX_divideUp_14 : decode bX_divideUp 14 = .ok (.iload_n 1, 1) := by decide +kernel
theorem dX_divideUp_15 : decode bX_divideUp 15 = .ok (.idiv, 1) := by decide +kernel
theorem dX_divideUp_16 : decode bX_divideUp 16 = .ok (.ireturn, 1) := by decide +kernel
theorem dX_goes_0 : decode bX_goes 0 = .ok (.aload_n 0, 1) := by decide +kernel
theorem dX_goes_1 : decode bX_goes 1 = .ok (.getfield 19, 3) := by decide +kernel
theorem dX_goes_4 : decode bX_goes 4 = .ok (.iload_n 1, 1) := by decide +kernel
theorem dX_goes_5 : decode bX_goes 5 = .ok (.invokevirtual 117, 3) := by decide +kernel
theorem dX_goes_8 : decode bX_goes 8 = .ok (.ifCond .eq 18, 3) := by decide +kernel
theorem dX_goes_11 : decode bX_goes 11 = .ok (.iload_n 2, 1) := by decide +kernel
theorem dX_goes_12 : decode bX_goes 12 = .ok (.ifCond .lt 14, 3) := by decide +kernel
theorem dX_goes_15 : decode bX_goes 15 = .ok (.iload_n 2, 1) := by decide +kernel
theorem dX_goes_16 : decode bX_goes 16 = .ok (.aload_n 0, 1) := by decide +kernel
theorem dX_goes_17 : decode bX_goes 17 = .ok (.getfield 19, 3) := by decide +kernel
theorem dX_goes_20 : decode bX_goes 20 = .ok (.invokevirtual 139, 3) := by decide +kernel
theorem dX_goes_23 : decode bX_goes 23 = .ok (.if_icmp .le 5, 3) := by decide +kernel
theorem dX_goes_26 : decode bX_goes 26 = .ok (.iconst (-1), 1) := by decide +kernel
theorem dX_goes_27 : decode bX_goes 27 = .ok (.ireturn, 1) := by decide +kernel
theorem dX_goes_28 : decode bX_goes 28 = .ok (.aload_n 0, 1) := by decide +kernel
theorem dX_goes_29 : decode bX_goes 29 = .ok (.getfield 29, 3) := by decide +kernel
theorem dX_goes_32 : decode bX_goes 32 = .ok (.getfield 123, 3) := by decide +kernel
theorem dX_goes_35 : decode bX_goes 35 = .ok (.iload_n 1, 1) := by decide +kernel
theorem dX_goes_36 : decode bX_goes 36 = .ok (.invokevirtual 104, 3) := by decide +kernel
theorem dX_goes_39 : decode bX_goes 39 = .ok (.istore_n 3, 1) := by decide +kernel
theorem dX_goes_40 : decode bX_goes 40 = .ok (.aload_n 0, 1) := by decide +kernel
theorem dX_goes_41 : decode bX_goes 41 = .ok (.getfield 29, 3) := by decide +kernel
theorem dX_goes_44 : decode bX_goes 44 = .ok (.iload_n 1, 1) := by decide +kernel
theorem dX_goes_45 : decode bX_goes 45 = .ok (.invokevirtual 161, 3) := by decide +kernel
theorem dX_goes_48 : decode bX_goes 48 = .ok (.ifCond .ne 23, 3) := by decide +kernel
theorem dX_goes_51 : decode bX_goes 51 = .ok (.iload_n 2, 1) := by decide +kernel
theorem dX_goes_52 : decode bX_goes 52 = .ok (.iload_n 3, 1) := by decide +kernel
theorem dX_goes_53 : decode bX_goes 53 = .ok (.if_icmp .eq 18, 3) := by decide +kernel
theorem dX_goes_56 : decode bX_goes 56 = .ok (.iload_n 2, 1) := by decide +kernel
theorem dX_goes_57 : decode bX_goes 57 = .ok (.aload_n 0, 1) := by decide +kernel
theorem dX_goes_58 : decode bX_goes 58 = .ok (.getfield 19, 3) := by decide +kernel
theorem dX_goes_61 : decode bX_goes 61 = .ok (.getfield 120, 3) := by decide +kernel
theorem dX_goes_64 : decode bX_goes 64 = .ok (.iload_n 1, 1) := by decide +kernel
theorem dX_goes_65 : decode bX_goes 65 = .ok (.invokevirtual 104, 3) := by decide +kernel
theorem dX_goes_68 : decode bX_goes 68 = .ok (.if_icmp .le 6, 3) := by decide +kernel
theorem dX_goes_71 : decode bX_goes 71 = .ok (.bipush (-2), 2) := by decide +kernel
theorem dX_goes_73 : decode bX_goes 73 = .ok (.ireturn, 1) := by decide +kernel
theorem dX_goes_74 : decode bX_goes 74 = .ok (.aload_n 0, 1) := by decide +kernel
theorem dX_goes_75 : decode bX_goes 75 = .ok (.getfield 29, 3) := by decide +kernel
theorem dX_goes_78 : decode bX_goes 78 = .ok (.iload_n 3, 1) := by decide +kernel
theorem dX_goes_79 : decode bX_goes 79 = .ok (.iload_n 2, 1) := by decide +kernel
theorem dX_goes_80 : decode bX_goes 80 = .ok (.iconst 1, 1) := by decide +kernel
theorem dX_goes_81 : decode bX_goes 81 = .ok (.invokevirtual 164, 3) := by decide +kernel
theorem dX_goes_84 : decode bX_goes 84 = .ok (.aload_n 0, 1) := by decide +kernel
theorem dX_goes_85 : decode bX_goes 85 = .ok (.getfield 29, 3) := by decide +kernel
theorem dX_goes_88 : decode bX_goes 88 = .ok (.getfield 123, 3) := by decide +kernel
theorem dX_goes_91 : decode bX_goes 91 = .ok (.iload_n 1, 1) := by decide +kernel
theorem dX_goes_92 : decode bX_goes 92 = .ok (.iload_n 2, 1) := by decide +kernel
theorem dX_goes_93 : decode bX_goes 93 = .ok (.invokevirtual 168, 3) := by decide +kernel
theorem dX_goes_96 : decode bX_goes 96 = .ok (.aload_n 0, 1) := by decide +kernel
theorem dX_goes_97 : decode bX_goes 97 = .ok (.getfield 51, 3) := by decide +kernel
theorem dX_goes_100 : decode bX_goes 100 = .ok (.iconst 0, 1) := by decide +kernel
theorem dX_goes_101 : decode bX_goes 101 = .ok (.iload_n 1, 1) := by decide +kernel
theorem dX_goes_102 : decode bX_goes 102 = .ok (.iload_n 3, 1) := by decide +kernel
theorem dX_goes_103 : decode bX_goes 103 = .ok (.invokevirtual 172, 3) := by decide +kernel
theorem dX_goes_106 : decode bX_goes 106 = .ok (.iload_n 2, 1) := by decide +kernel
theorem dX_goes_107 : decode bX_goes 107 = .ok (.iload_n 3, 1) := by decide +kernel
theorem dX_goes_108 : decode bX_goes 108 = .ok (.isub, 1) := by decide +kernel
theorem dX_goes_109 : decode bX_goes 109 = .ok (.invokestatic 175, 3) := by decide +kernel
theorem dX_goes_112 : decode bX_goes 112 = .ok (.ireturn, 1) := by decide +kernel
theorem dX_stays_0 : decode bX_stays 0 = .ok (.aload_n 0, 1) := by decide +kernel
theorem dX_stays_1 : decode bX_stays 1 = .ok (.getfield 19, 3) := by decide +kernel
theorem dX_stays_4 : decode bX_stays 4 = .ok (.iload_n 1, 1) := by decide +kernel
theorem dX_stays_5 : decode bX_stays 5 = .ok (.invokevirtual 117, 3) := by decide +kernel
theorem dX_stays_8 : decode bX_stays 8 = .ok (.ifCond .ne 5, 3) := by decide +kernel
theorem dX_stays_11 : decode bX_stays 11 = .ok (.iconst (-1), 1) := by decide +kernel
theorem dX_stays_12 : decode bX_stays 12 = .ok (.ireturn, 1) := by decide +kernel
theorem dX_stays_13 : decode bX_stays 13 = .ok (.aload_n 0, 1) := by decide +kernel
theorem dX_stays_14 : decode bX_stays 14 = .ok (.getfield 29, 3) := by decide +kernel
theorem dX_stays_17 : decode bX_stays 17 = .ok (.iload_n 1, 1) := by decide +kernel
theorem dX_stays_18 : decode bX_stays 18 = .ok (.invokevirtual 161, 3) := by decide +kernel
theorem dX_stays_21 : decode bX_stays 21 = .ok (.ifCond .eq 6, 3) := by decide +kernel
theorem dX_stays_24 : decode bX_stays 24 = .ok (.bipush (-2), 2) := by decide +kernel
theorem dX_stays_26 : decode bX_stays 26 = .ok (.ireturn, 1) := by decide +kernel
theorem dX_stays_27 : decode bX_stays 27 = .ok (.aload_n 0, 1) := by decide +kernel
theorem dX_stays_28 : decode bX_stays 28 = .ok (.getfield 29, 3) := by decide +kernel
theorem dX_stays_31 : decode bX_stays 31 = .ok (.getfield 126, 3) := by decide +kernel
theorem dX_stays_34 : decode bX_stays 34 = .ok (.iload_n 1, 1) := by decide +kernel
theorem dX_stays_35 : decode bX_stays 35 = .ok (.iconst 1, 1) := by decide +kernel
theorem dX_stays_36 : decode bX_stays 36 = .ok (.invokevirtual 168, 3) := by decide +kernel
theorem dX_stays_39 : decode bX_stays 39 = .ok (.aload_n 0, 1) := by decide +kernel
theorem dX_stays_40 : decode bX_stays 40 = .ok (.getfield 51, 3) := by decide +kernel
theorem dX_stays_43 : decode bX_stays 43 = .ok (.iconst 1, 1) := by decide +kernel
theorem dX_stays_44 : decode bX_stays 44 = .ok (.iload_n 1, 1) := by decide +kernel
theorem dX_stays_45 : decode bX_stays 45 = .ok (.iconst 0, 1) := by decide +kernel
theorem dX_stays_46 : decode bX_stays 46 = .ok (.invokevirtual 172, 3) := by decide +kernel
theorem dX_stays_49 : decode bX_stays 49 = .ok (.aload_n 0, 1) := by decide +kernel
theorem dX_stays_50 : decode bX_stays 50 = .ok (.getfield 29, 3) := by decide +kernel
theorem dX_stays_53 : decode bX_stays 53 = .ok (.invokevirtual 142, 3) := by decide +kernel
theorem dX_stays_56 : decode bX_stays 56 = .ok (.ireturn, 1) := by decide +kernel
theorem dX_loses_0 : decode bX_loses 0 = .ok (.aload_n 0, 1) := by decide +kernel
theorem dX_loses_1 : decode bX_loses 1 = .ok (.getfield 19, 3) := by decide +kernel
theorem dX_loses_4 : decode bX_loses 4 = .ok (.iload_n 1, 1) := by decide +kernel
theorem dX_loses_5 : decode bX_loses 5 = .ok (.invokevirtual 117, 3) := by decide +kernel
theorem dX_loses_8 : decode bX_loses 8 = .ok (.ifCond .ne 5, 3) := by decide +kernel
theorem dX_loses_11 : decode bX_loses 11 = .ok (.iconst (-1), 1) := by decide +kernel
theorem dX_loses_12 : decode bX_loses 12 = .ok (.ireturn, 1) := by decide +kernel
theorem dX_loses_13 : decode bX_loses 13 = .ok (.aload_n 0, 1) := by decide +kernel
theorem dX_loses_14 : decode bX_loses 14 = .ok (.getfield 29, 3) := by decide +kernel
theorem dX_loses_17 : decode bX_loses 17 = .ok (.getfield 136, 3) := by decide +kernel
theorem dX_loses_20 : decode bX_loses 20 = .ok (.invokevirtual 72, 3) := by decide +kernel
theorem dX_loses_23 : decode bX_loses 23 = .ok (.ifCond .eq 6, 3) := by decide +kernel
theorem dX_loses_26 : decode bX_loses 26 = .ok (.bipush (-3), 2) := by decide +kernel
theorem dX_loses_28 : decode bX_loses 28 = .ok (.ireturn, 1) := by decide +kernel
theorem dX_loses_29 : decode bX_loses 29 = .ok (.aload_n 0, 1) := by decide +kernel
theorem dX_loses_30 : decode bX_loses 30 = .ok (.getfield 29, 3) := by decide +kernel
theorem dX_loses_33 : decode bX_loses 33 = .ok (.getfield 136, 3) := by decide +kernel
theorem dX_loses_36 : decode bX_loses 36 = .ok (.aload_n 0, 1) := by decide +kernel
theorem dX_loses_37 : decode bX_loses 37 = .ok (.getfield 29, 3) := by decide +kernel
theorem dX_loses_40 : decode bX_loses 40 = .ok (.getfield 123, 3) := by decide +kernel
theorem dX_loses_43 : decode bX_loses 43 = .ok (.iload_n 1, 1) := by decide +kernel
theorem dX_loses_44 : decode bX_loses 44 = .ok (.invokevirtual 104, 3) := by decide +kernel
theorem dX_loses_47 : decode bX_loses 47 = .ok (.invokevirtual 76, 3) := by decide +kernel
theorem dX_loses_50 : decode bX_loses 50 = .ok (.aload_n 0, 1) := by decide +kernel
theorem dX_loses_51 : decode bX_loses 51 = .ok (.getfield 51, 3) := by decide +kernel
theorem dX_loses_54 : decode bX_loses 54 = .ok (.iconst 2, 1) := by decide +kernel
theorem dX_loses_55 : decode bX_loses 55 = .ok (.iload_n 1, 1) := by decide +kernel
theorem dX_loses_56 : decode bX_loses 56 = .ok (.iconst 0, 1) := by decide +kernel
theorem dX_loses_57 : decode bX_loses 57 = .ok (.invokevirtual 172, 3) := by decide +kernel
theorem dX_loses_60 : decode bX_loses 60 = .ok (.aload_n 0, 1) := by decide +kernel
theorem dX_loses_61 : decode bX_loses 61 = .ok (.getfield 29, 3) := by decide +kernel
theorem dX_loses_64 : decode bX_loses 64 = .ok (.getfield 136, 3) := by decide +kernel
theorem dX_loses_67 : decode bX_loses 67 = .ok (.invokevirtual 79, 3) := by decide +kernel
theorem dX_loses_70 : decode bX_loses 70 = .ok (.ireturn, 1) := by decide +kernel
theorem dX_picks_0 : decode bX_picks 0 = .ok (.aload_n 0, 1) := by decide +kernel
theorem dX_picks_1 : decode bX_picks 1 = .ok (.getfield 19, 3) := by decide +kernel
theorem dX_picks_4 : decode bX_picks 4 = .ok (.iload_n 1, 1) := by decide +kernel
theorem dX_picks_5 : decode bX_picks 5 = .ok (.invokevirtual 117, 3) := by decide +kernel
theorem dX_picks_8 : decode bX_picks 8 = .ok (.ifCond .ne 5, 3) := by decide +kernel
theorem dX_picks_11 : decode bX_picks 11 = .ok (.iconst (-1), 1) := by decide +kernel
theorem dX_picks_12 : decode bX_picks 12 = .ok (.ireturn, 1) := by decide +kernel
theorem dX_picks_13 : decode bX_picks 13 = .ok (.aload_n 0, 1) := by decide +kernel
theorem dX_picks_14 : decode bX_picks 14 = .ok (.getfield 29, 3) := by decide +kernel
theorem dX_picks_17 : decode bX_picks 17 = .ok (.aload_n 0, 1) := by decide +kernel
theorem dX_picks_18 : decode bX_picks 18 = .ok (.getfield 29, 3) := by decide +kernel
theorem dX_picks_21 : decode bX_picks 21 = .ok (.getfield 123, 3) := by decide +kernel
theorem dX_picks_24 : decode bX_picks 24 = .ok (.iload_n 1, 1) := by decide +kernel
theorem dX_picks_25 : decode bX_picks 25 = .ok (.invokevirtual 104, 3) := by decide +kernel
theorem dX_picks_28 : decode bX_picks 28 = .ok (.invokevirtual 180, 3) := by decide +kernel
theorem dX_picks_31 : decode bX_picks 31 = .ok (.istore_n 2, 1) := by decide +kernel
theorem dX_picks_32 : decode bX_picks 32 = .ok (.aload_n 0, 1) := by decide +kernel
theorem dX_picks_33 : decode bX_picks 33 = .ok (.getfield 29, 3) := by decide +kernel
theorem dX_picks_36 : decode bX_picks 36 = .ok (.iload_n 1, 1) := by decide +kernel
theorem dX_picks_37 : decode bX_picks 37 = .ok (.invokevirtual 161, 3) := by decide +kernel
theorem dX_picks_40 : decode bX_picks 40 = .ok (.ifCond .ne 7, 3) := by decide +kernel
theorem dX_picks_43 : decode bX_picks 43 = .ok (.iload_n 2, 1) := by decide +kernel
theorem dX_picks_44 : decode bX_picks 44 = .ok (.ifCond .ge 6, 3) := by decide +kernel
theorem dX_picks_47 : decode bX_picks 47 = .ok (.bipush (-2), 2) := by decide +kernel
theorem dX_picks_49 : decode bX_picks 49 = .ok (.ireturn, 1) := by decide +kernel
theorem dX_picks_50 : decode bX_picks 50 = .ok (.aload_n 0, 1) := by decide +kernel
theorem dX_picks_51 : decode bX_picks 51 = .ok (.getfield 29, 3) := by decide +kernel
theorem dX_picks_54 : decode bX_picks 54 = .ok (.getfield 136, 3) := by decide +kernel
theorem dX_picks_57 : decode bX_picks 57 = .ok (.iload_n 2, 1) := by decide +kernel
theorem dX_picks_58 : decode bX_picks 58 = .ok (.invokevirtual 183, 3) := by decide +kernel
theorem dX_picks_61 : decode bX_picks 61 = .ok (.aload_n 0, 1) := by decide +kernel
theorem dX_picks_62 : decode bX_picks 62 = .ok (.getfield 51, 3) := by decide +kernel
theorem dX_picks_65 : decode bX_picks 65 = .ok (.iconst 3, 1) := by decide +kernel
theorem dX_picks_66 : decode bX_picks 66 = .ok (.iload_n 1, 1) := by decide +kernel
theorem dX_picks_67 : decode bX_picks 67 = .ok (.iload_n 2, 1) := by decide +kernel
theorem dX_picks_68 : decode bX_picks 68 = .ok (.invokevirtual 172, 3) := by decide +kernel
theorem dX_picks_71 : decode bX_picks 71 = .ok (.aload_n 0, 1) := by decide +kernel
theorem dX_picks_72 : decode bX_picks 72 = .ok (.getfield 29, 3) := by decide +kernel
theorem dX_picks_75 : decode bX_picks 75 = .ok (.getfield 136, 3) := by decide +kernel
theorem dX_picks_78 : decode bX_picks 78 = .ok (.invokevirtual 79, 3) := by decide +kernel
theorem dX_picks_81 : decode bX_picks 81 = .ok (.ireturn, 1) := by decide +kernel
theorem dX_undo_0 : decode bX_undo 0 = .ok (.aload_n 0, 1) := by decide +kernel
theorem dX_undo_1 : decode bX_undo 1 = .ok (.getfield 51, 3) := by decide +kernel
theorem dX_undo_4 : decode bX_undo 4 = .ok (.invokevirtual 158, 3) := by decide +kernel
theorem dX_undo_7 : decode bX_undo 7 = .ok (.ifCond .ne 6, 3) := by decide +kernel
theorem dX_undo_10 : decode bX_undo 10 = .ok (.bipush (-2), 2) := by decide +kernel
theorem dX_undo_12 : decode bX_undo 12 = .ok (.ireturn, 1) := by decide +kernel
theorem dX_undo_13 : decode bX_undo 13 = .ok (.aload_n 0, 1) := by decide +kernel
theorem dX_undo_14 : decode bX_undo 14 = .ok (.getfield 51, 3) := by decide +kernel
theorem dX_undo_17 : decode bX_undo 17 = .ok (.aload_n 0, 1) := by decide +kernel
theorem dX_undo_18 : decode bX_undo 18 = .ok (.getfield 29, 3) := by decide +kernel
theorem dX_undo_21 : decode bX_undo 21 = .ok (.invokevirtual 186, 3) := by decide +kernel
theorem dX_undo_24 : decode bX_undo 24 = .ok (.aload_n 0, 1) := by decide +kernel
theorem dX_undo_25 : decode bX_undo 25 = .ok (.getfield 51, 3) := by decide +kernel
theorem dX_undo_28 : decode bX_undo 28 = .ok (.invokevirtual 158, 3) := by decide +kernel
theorem dX_undo_31 : decode bX_undo 31 = .ok (.ireturn, 1) := by decide +kernel
theorem dX_altitude_0 : decode bX_altitude 0 = .ok (.iload_n 1, 1) := by decide +kernel
theorem dX_altitude_1 : decode bX_altitude 1 = .ok (.ifCond .lt 18, 3) := by decide +kernel
theorem dX_altitude_4 : decode bX_altitude 4 = .ok (.iload_n 1, 1) := by decide +kernel
theorem dX_altitude_5 : decode bX_altitude 5 = .ok (.sipush 1000, 3) := by decide +kernel
theorem dX_altitude_8 : decode bX_altitude 8 = .ok (.aload_n 0, 1) := by decide +kernel
theorem dX_altitude_9 : decode bX_altitude 9 = .ok (.getfield 19, 3) := by decide +kernel
theorem dX_altitude_12 : decode bX_altitude 12 = .ok (.invokevirtual 139, 3) := by decide +kernel
theorem dX_altitude_15 : decode bX_altitude 15 = .ok (.imul, 1) := by decide +kernel
theorem dX_altitude_16 : decode bX_altitude 16 = .ok (.if_icmp .le 5, 3) := by decide +kernel
theorem dX_altitude_19 : decode bX_altitude 19 = .ok (.iconst (-1), 1) := by decide +kernel
theorem dX_altitude_20 : decode bX_altitude 20 = .ok (.ireturn, 1) := by decide +kernel
theorem dX_altitude_21 : decode bX_altitude 21 = .ok (.aload_n 0, 1) := by decide +kernel
theorem dX_altitude_22 : decode bX_altitude 22 = .ok (.getfield 19, 3) := by decide +kernel
theorem dX_altitude_25 : decode bX_altitude 25 = .ok (.iload_n 1, 1) := by decide +kernel
theorem dX_altitude_26 : decode bX_altitude 26 = .ok (.invokevirtual 190, 3) := by decide +kernel
theorem dX_altitude_29 : decode bX_altitude 29 = .ok (.ireturn, 1) := by decide +kernel
theorem dX_step_0 : decode bX_step 0 = .ok (.iload_n 1, 1) := by decide +kernel
theorem dX_step_1 : decode bX_step 1 = .ok (.ifCond .lt 9, 3) := by decide +kernel
theorem dX_step_4 : decode bX_step 4 = .ok (.iload_n 1, 1) := by decide +kernel
theorem dX_step_5 : decode bX_step 5 = .ok (.ldc 193, 2) := by decide +kernel
theorem dX_step_7 : decode bX_step 7 = .ok (.if_icmp .le 5, 3) := by decide +kernel
theorem dX_step_10 : decode bX_step 10 = .ok (.iconst (-1), 1) := by decide +kernel
theorem dX_step_11 : decode bX_step 11 = .ok (.ireturn, 1) := by decide +kernel
theorem dX_step_12 : decode bX_step 12 = .ok (.aload_n 0, 1) := by decide +kernel
theorem dX_step_13 : decode bX_step 13 = .ok (.getfield 19, 3) := by decide +kernel
theorem dX_step_16 : decode bX_step 16 = .ok (.iload_n 1, 1) := by decide +kernel
theorem dX_step_17 : decode bX_step 17 = .ok (.invokevirtual 194, 3) := by decide +kernel
theorem dX_step_20 : decode bX_step 20 = .ok (.ireturn, 1) := by decide +kernel
theorem dX_hands_0 : decode bX_hands 0 = .ok (.iload_n 1, 1) := by decide +kernel
theorem dX_hands_1 : decode bX_hands 1 = .ok (.iconst 1, 1) := by decide +kernel
theorem dX_hands_2 : decode bX_hands 2 = .ok (.if_icmp .lt 9, 3) := by decide +kernel
theorem dX_hands_5 : decode bX_hands 5 = .ok (.iload_n 1, 1) := by decide +kernel
theorem dX_hands_6 : decode bX_hands 6 = .ok (.bipush 99, 2) := by decide +kernel
theorem dX_hands_8 : decode bX_hands 8 = .ok (.if_icmp .le 5, 3) := by decide +kernel
theorem dX_hands_11 : decode bX_hands 11 = .ok (.iconst (-1), 1) := by decide +kernel
theorem dX_hands_12 : decode bX_hands 12 = .ok (.ireturn, 1) := by decide +kernel
theorem dX_hands_13 : decode bX_hands 13 = .ok (.iconst 2, 1) := by decide +kernel
theorem dX_hands_14 : decode bX_hands 14 = .ok (.istore_n 2, 1) := by decide +kernel
theorem dX_hands_15 : decode bX_hands 15 = .ok (.iload_n 2, 1) := by decide +kernel
theorem dX_hands_16 : decode bX_hands 16 = .ok (.bipush 9, 2) := by decide +kernel
theorem dX_hands_18 : decode bX_hands 18 = .ok (.if_icmp .gt 23, 3) := by decide +kernel
theorem dX_hands_21 : decode bX_hands 21 = .ok (.aload_n 0, 1) := by decide +kernel
theorem dX_hands_22 : decode bX_hands 22 = .ok (.getfield 19, 3) := by decide +kernel
theorem dX_hands_25 : decode bX_hands 25 = .ok (.iload_n 2, 1) := by decide +kernel
theorem dX_hands_26 : decode bX_hands 26 = .ok (.invokevirtual 155, 3) := by decide +kernel
theorem dX_hands_29 : decode bX_hands 29 = .ok (.iload_n 1, 1) := by decide +kernel
theorem dX_hands_30 : decode bX_hands 30 = .ok (.if_icmp .gt 5, 3) := by decide +kernel
theorem dX_hands_33 : decode bX_hands 33 = .ok (.iload_n 2, 1) := by decide +kernel
theorem dX_hands_34 : decode bX_hands 34 = .ok (.ireturn, 1) := by decide +kernel
theorem dX_hands_35 : decode bX_hands 35 = .ok (.iinc 2 1, 3) := by decide +kernel
theorem dX_hands_38 : decode bX_hands 38 = .ok (.goto (-23), 3) := by decide +kernel
theorem dX_hands_41 : decode bX_hands 41 = .ok (.bipush (-9), 2) := by decide +kernel
theorem dX_hands_43 : decode bX_hands 43 = .ok (.ireturn, 1) := by decide +kernel
theorem dX_sees_0 : decode bX_sees 0 = .ok (.aload_n 0, 1) := by decide +kernel
theorem dX_sees_1 : decode bX_sees 1 = .ok (.getfield 19, 3) := by decide +kernel
theorem dX_sees_4 : decode bX_sees 4 = .ok (.iload_n 1, 1) := by decide +kernel
theorem dX_sees_5 : decode bX_sees 5 = .ok (.invokevirtual 129, 3) := by decide +kernel
theorem dX_sees_8 : decode bX_sees 8 = .ok (.ifCond .eq 13, 3) := by decide +kernel
theorem dX_sees_11 : decode bX_sees 11 = .ok (.iload_n 2, 1) := by decide +kernel
theorem dX_sees_12 : decode bX_sees 12 = .ok (.ifCond .lt 9, 3) := by decide +kernel
theorem dX_sees_15 : decode bX_sees 15 = .ok (.iload_n 2, 1) := by decide +kernel
theorem dX_sees_16 : decode bX_sees 16 = .ok (.bipush 40, 2) := by decide +kernel
theorem dX_sees_18 : decode bX_sees 18 = .ok (.if_icmp .le 5, 3) := by decide +kernel
theorem dX_sees_21 : decode bX_sees 21 = .ok (.iconst (-1), 1) := by decide +kernel
theorem dX_sees_22 : decode bX_sees 22 = .ok (.ireturn, 1) := by decide +kernel
theorem dX_sees_23 : decode bX_sees 23 = .ok (.aload_n 0, 1) := by decide +kernel
theorem dX_sees_24 : decode bX_sees 24 = .ok (.getfield 58, 3) := by decide +kernel
theorem dX_sees_27 : decode bX_sees 27 = .ok (.getfield 197, 3) := by decide +kernel
theorem dX_sees_30 : decode bX_sees 30 = .ok (.invokevirtual 72, 3) := by decide +kernel
theorem dX_sees_33 : decode bX_sees 33 = .ok (.ifCond .eq 6, 3) := by decide +kernel
theorem dX_sees_36 : decode bX_sees 36 = .ok (.bipush (-3), 2) := by decide +kernel
theorem dX_sees_38 : decode bX_sees 38 = .ok (.ireturn, 1) := by decide +kernel
theorem dX_sees_39 : decode bX_sees 39 = .ok (.aload_n 0, 1) := by decide +kernel
theorem dX_sees_40 : decode bX_sees 40 = .ok (.getfield 58, 3) := by decide +kernel
theorem dX_sees_43 : decode bX_sees 43 = .ok (.aload_n 0, 1) := by decide +kernel
theorem dX_sees_44 : decode bX_sees 44 = .ok (.getfield 19, 3) := by decide +kernel
theorem dX_sees_47 : decode bX_sees 47 = .ok (.iload_n 1, 1) := by decide +kernel
theorem dX_sees_48 : decode bX_sees 48 = .ok (.invokevirtual 200, 3) := by decide +kernel
theorem dX_sees_51 : decode bX_sees 51 = .ok (.iload_n 2, 1) := by decide +kernel
theorem dX_sees_52 : decode bX_sees 52 = .ok (.invokevirtual 203, 3) := by decide +kernel
theorem dX_sees_55 : decode bX_sees 55 = .ok (.aload_n 0, 1) := by decide +kernel
theorem dX_sees_56 : decode bX_sees 56 = .ok (.getfield 58, 3) := by decide +kernel
theorem dX_sees_59 : decode bX_sees 59 = .ok (.getfield 197, 3) := by decide +kernel
theorem dX_sees_62 : decode bX_sees 62 = .ok (.invokevirtual 79, 3) := by decide +kernel
theorem dX_sees_65 : decode bX_sees 65 = .ok (.ireturn, 1) := by decide +kernel
theorem dX_can_0 : decode bX_can 0 = .ok (.iload_n 1, 1) := by decide +kernel
theorem dX_can_1 : decode bX_can 1 = .ok (.bipush (-2), 2) := by decide +kernel
theorem dX_can_3 : decode bX_can 3 = .ok (.if_icmp .lt 17, 3) := by decide +kernel
theorem dX_can_6 : decode bX_can 6 = .ok (.iload_n 1, 1) := by decide +kernel
theorem dX_can_7 : decode bX_can 7 = .ok (.aload_n 0, 1) := by decide +kernel
theorem dX_can_8 : decode bX_can 8 = .ok (.getfield 19, 3) := by decide +kernel
theorem dX_can_11 : decode bX_can 11 = .ok (.getfield 120, 3) := by decide +kernel
theorem dX_can_14 : decode bX_can 14 = .ok (.invokevirtual 79, 3) := by decide +kernel
theorem dX_can_17 : decode bX_can 17 = .ok (.if_icmp .lt 5, 3) := by decide +kernel
theorem dX_can_20 : decode bX_can 20 = .ok (.iconst (-1), 1) := by decide +kernel
theorem dX_can_21 : decode bX_can 21 = .ok (.ireturn, 1) := by decide +kernel
theorem dX_can_22 : decode bX_can 22 = .ok (.aload_n 0, 1) := by decide +kernel
theorem dX_can_23 : decode bX_can 23 = .ok (.getfield 19, 3) := by decide +kernel
theorem dX_can_26 : decode bX_can 26 = .ok (.getfield 120, 3) := by decide +kernel
theorem dX_can_29 : decode bX_can 29 = .ok (.invokevirtual 79, 3) := by decide +kernel
theorem dX_can_32 : decode bX_can 32 = .ok (.istore_n 2, 1) := by decide +kernel
theorem dX_can_33 : decode bX_can 33 = .ok (.iload_n 1, 1) := by decide +kernel
theorem dX_can_34 : decode bX_can 34 = .ok (.iconst (-1), 1) := by decide +kernel
theorem dX_can_35 : decode bX_can 35 = .ok (.if_icmp .ne 14, 3) := by decide +kernel
theorem dX_can_38 : decode bX_can 38 = .ok (.aload_n 0, 1) := by decide +kernel
theorem dX_can_39 : decode bX_can 39 = .ok (.getfield 58, 3) := by decide +kernel
theorem dX_can_42 : decode bX_can 42 = .ok (.iload_n 2, 1) := by decide +kernel
theorem dX_can_43 : decode bX_can 43 = .ok (.iconst (-1), 1) := by decide +kernel
theorem dX_can_44 : decode bX_can 44 = .ok (.iconst 0, 1) := by decide +kernel
theorem dX_can_45 : decode bX_can 45 = .ok (.invokevirtual 205, 3) := by decide +kernel
theorem dX_can_48 : decode bX_can 48 = .ok (.ireturn, 1) := by decide +kernel
theorem dX_can_49 : decode bX_can 49 = .ok (.iload_n 1, 1) := by decide +kernel
theorem dX_can_50 : decode bX_can 50 = .ok (.bipush (-2), 2) := by decide +kernel
theorem dX_can_52 : decode bX_can 52 = .ok (.if_icmp .ne 12, 3) := by decide +kernel
theorem dX_can_55 : decode bX_can 55 = .ok (.aload_n 0, 1) := by decide +kernel
theorem dX_can_56 : decode bX_can 56 = .ok (.getfield 58, 3) := by decide +kernel
theorem dX_can_59 : decode bX_can 59 = .ok (.iload_n 2, 1) := by decide +kernel
theorem dX_can_60 : decode bX_can 60 = .ok (.invokevirtual 209, 3) := by decide +kernel
theorem dX_can_63 : decode bX_can 63 = .ok (.ireturn, 1) := by decide +kernel
theorem dX_can_64 : decode bX_can 64 = .ok (.aload_n 0, 1) := by decide +kernel
theorem dX_can_65 : decode bX_can 65 = .ok (.getfield 58, 3) := by decide +kernel
theorem dX_can_68 : decode bX_can 68 = .ok (.iload_n 2, 1) := by decide +kernel
theorem dX_can_69 : decode bX_can 69 = .ok (.aload_n 0, 1) := by decide +kernel
theorem dX_can_70 : decode bX_can 70 = .ok (.getfield 19, 3) := by decide +kernel
theorem dX_can_73 : decode bX_can 73 = .ok (.iload_n 1, 1) := by decide +kernel
theorem dX_can_74 : decode bX_can 74 = .ok (.invokevirtual 212, 3) := by decide +kernel
theorem dX_can_77 : decode bX_can 77 = .ok (.invokevirtual 215, 3) := by decide +kernel
theorem dX_can_80 : decode bX_can 80 = .ok (.ireturn, 1) := by decide +kernel
theorem dX_measures_0 : decode bX_measures 0 = .ok (.aload_n 0, 1) := by decide +kernel
theorem dX_measures_1 : decode bX_measures 1 = .ok (.getfield 19, 3) := by decide +kernel
theorem dX_measures_4 : decode bX_measures 4 = .ok (.iload_n 1, 1) := by decide +kernel
theorem dX_measures_5 : decode bX_measures 5 = .ok (.invokevirtual 218, 3) := by decide +kernel
theorem dX_measures_8 : decode bX_measures 8 = .ok (.ifCond .eq 19, 3) := by decide +kernel
theorem dX_measures_11 : decode bX_measures 11 = .ok (.aload_n 0, 1) := by decide +kernel
theorem dX_measures_12 : decode bX_measures 12 = .ok (.getfield 19, 3) := by decide +kernel
theorem dX_measures_15 : decode bX_measures 15 = .ok (.iload_n 2, 1) := by decide +kernel
theorem dX_measures_16 : decode bX_measures 16 = .ok (.invokevirtual 218, 3) := by decide +kernel
theorem dX_measures_19 : decode bX_measures 19 = .ok (.ifCond .eq 8, 3) := by decide +kernel
theorem dX_measures_22 : decode bX_measures 22 = .ok (.iload_n 2, 1) := by decide +kernel
theorem dX_measures_23 : decode bX_measures 23 = .ok (.iload_n 1, 1) := by decide +kernel
theorem dX_measures_24 : decode bX_measures 24 = .ok (.if_icmp .gt 5, 3) := by decide +kernel
theorem dX_measures_27 : decode bX_measures 27 = .ok (.iconst (-1), 1) := by decide +kernel
theorem dX_measures_28 : decode bX_measures 28 = .ok (.ireturn, 1) := by decide +kernel
theorem dX_measures_29 : decode bX_measures 29 = .ok (.iload_n 3, 1) := by decide +kernel
theorem dX_measures_30 : decode bX_measures 30 = .ok (.ifCond .lt 9, 3) := by decide +kernel
theorem dX_measures_33 : decode bX_measures 33 = .ok (.iload_n 3, 1) := by decide +kernel
theorem dX_measures_34 : decode bX_measures 34 = .ok (.ldc 221, 2) := by decide +kernel
theorem dX_measures_36 : decode bX_measures 36 = .ok (.if_icmp .le 5, 3) := by decide +kernel
theorem dX_measures_39 : decode bX_measures 39 = .ok (.iconst (-1), 1) := by decide +kernel
theorem dX_measures_40 : decode bX_measures 40 = .ok (.ireturn, 1) := by decide +kernel
theorem dX_measures_41 : decode bX_measures 41 = .ok (.aload_n 0, 1) := by decide +kernel
theorem dX_measures_42 : decode bX_measures 42 = .ok (.getfield 65, 3) := by decide +kernel
theorem dX_measures_45 : decode bX_measures 45 = .ok (.getfield 222, 3) := by decide +kernel
theorem dX_measures_48 : decode bX_measures 48 = .ok (.invokevirtual 72, 3) := by decide +kernel
theorem dX_measures_51 : decode bX_measures 51 = .ok (.ifCond .eq 6, 3) := by decide +kernel
theorem dX_measures_54 : decode bX_measures 54 = .ok (.bipush (-3), 2) := by decide +kernel
theorem dX_measures_56 : decode bX_measures 56 = .ok (.ireturn, 1) := by decide +kernel
theorem dX_measures_57 : decode bX_measures 57 = .ok (.aload_n 0, 1) := by decide +kernel
theorem dX_measures_58 : decode bX_measures 58 = .ok (.getfield 65, 3) := by decide +kernel
theorem dX_measures_61 : decode bX_measures 61 = .ok (.iload_n 1, 1) := by decide +kernel
theorem dX_measures_62 : decode bX_measures 62 = .ok (.iload_n 2, 1) := by decide +kernel
theorem dX_measures_63 : decode bX_measures 63 = .ok (.iload_n 3, 1) := by decide +kernel
theorem dX_measures_64 : decode bX_measures 64 = .ok (.invokevirtual 225, 3) := by decide +kernel
theorem dX_measures_67 : decode bX_measures 67 = .ok (.aload_n 0, 1) := by decide +kernel
theorem dX_measures_68 : decode bX_measures 68 = .ok (.getfield 65, 3) := by decide +kernel
theorem dX_measures_71 : decode bX_measures 71 = .ok (.getfield 222, 3) := by decide +kernel
theorem dX_measures_74 : decode bX_measures 74 = .ok (.invokevirtual 79, 3) := by decide +kernel
theorem dX_measures_77 : decode bX_measures 77 = .ok (.ireturn, 1) := by decide +kernel
theorem dX_agree_0 : decode bX_agree 0 = .ok (.iload_n 1, 1) := by decide +kernel
theorem dX_agree_1 : decode bX_agree 1 = .ok (.lookupswitch 47 #[(0, 27), (1, 35)], 27) := by decide +kernel
theorem dX_agree_28 : decode bX_agree 28 = .ok (.aload_n 0, 1) := by decide +kernel
theorem dX_agree_29 : decode bX_agree 29 = .ok (.getfield 65, 3) := by decide +kernel
theorem dX_agree_32 : decode bX_agree 32 = .ok (.invokevirtual 226, 3) := by decide +kernel
theorem dX_agree_35 : decode bX_agree 35 = .ok (.ireturn, 1) := by decide +kernel
theorem dX_agree_36 : decode bX_agree 36 = .ok (.aload_n 0, 1) := by decide +kernel
theorem dX_agree_37 : decode bX_agree 37 = .ok (.getfield 65, 3) := by decide +kernel
theorem dX_agree_40 : decode bX_agree 40 = .ok (.aload_n 0, 1) := by decide +kernel
theorem dX_agree_41 : decode bX_agree 41 = .ok (.getfield 19, 3) := by decide +kernel
theorem dX_agree_44 : decode bX_agree 44 = .ok (.invokevirtual 229, 3) := by decide +kernel
theorem dX_agree_47 : decode bX_agree 47 = .ok (.ireturn, 1) := by decide +kernel
theorem dX_agree_48 : decode bX_agree 48 = .ok (.iconst (-1), 1) := by decide +kernel
theorem dX_agree_49 : decode bX_agree 49 = .ok (.ireturn, 1) := by decide +kernel
theorem dX_power_0 : decode bX_power 0 = .ok (.iconst 1, 1) := by decide +kernel
theorem dX_power_1 : decode bX_power 1 = .ok (.istore_n 2, 1) := by decide +kernel
theorem dX_power_2 : decode bX_power 2 = .ok (.iconst 0, 1) := by decide +kernel
theorem dX_power_3 : decode bX_power 3 = .ok (.istore_n 3, 1) := by decide +kernel
theorem dX_power_4 : decode bX_power 4 = .ok (.iload_n 3, 1) := by decide +kernel
theorem dX_power_5 : decode bX_power 5 = .ok (.iload_n 1, 1) := by decide +kernel
theorem dX_power_6 : decode bX_power 6 = .ok (.if_icmp .ge 13, 3) := by decide +kernel
theorem dX_power_9 : decode bX_power 9 = .ok (.iload_n 2, 1) := by decide +kernel
theorem dX_power_10 : decode bX_power 10 = .ok (.iload_n 0, 1) := by decide +kernel
theorem dX_power_11 : decode bX_power 11 = .ok (.imul, 1) := by decide +kernel
theorem dX_power_12 : decode bX_power 12 = .ok (.istore_n 2, 1) := by decide +kernel
theorem dX_power_13 : decode bX_power 13 = .ok (.iinc 3 1, 3) := by decide +kernel
theorem dX_power_16 : decode bX_power 16 = .ok (.goto (-12), 3) := by decide +kernel
theorem dX_power_19 : decode bX_power 19 = .ok (.iload_n 2, 1) := by decide +kernel
theorem dX_power_20 : decode bX_power 20 = .ok (.ireturn, 1) := by decide +kernel
theorem dX_forget_0 : decode bX_forget 0 = .ok (.aload_n 0, 1) := by decide +kernel
theorem dX_forget_1 : decode bX_forget 1 = .ok (.getfield 58, 3) := by decide +kernel
theorem dX_forget_4 : decode bX_forget 4 = .ok (.getfield 197, 3) := by decide +kernel
theorem dX_forget_7 : decode bX_forget 7 = .ok (.invokevirtual 79, 3) := by decide +kernel
theorem dX_forget_10 : decode bX_forget 10 = .ok (.aload_n 0, 1) := by decide +kernel
theorem dX_forget_11 : decode bX_forget 11 = .ok (.getfield 65, 3) := by decide +kernel
theorem dX_forget_14 : decode bX_forget 14 = .ok (.getfield 222, 3) := by decide +kernel
theorem dX_forget_17 : decode bX_forget 17 = .ok (.invokevirtual 79, 3) := by decide +kernel
theorem dX_forget_20 : decode bX_forget 20 = .ok (.iadd, 1) := by decide +kernel
theorem dX_forget_21 : decode bX_forget 21 = .ok (.istore_n 1, 1) := by decide +kernel
theorem dX_forget_22 : decode bX_forget 22 = .ok (.aload_n 0, 1) := by decide +kernel
theorem dX_forget_23 : decode bX_forget 23 = .ok (.getfield 58, 3) := by decide +kernel
theorem dX_forget_26 : decode bX_forget 26 = .ok (.invokevirtual 94, 3) := by decide +kernel
theorem dX_forget_29 : decode bX_forget 29 = .ok (.aload_n 0, 1) := by decide +kernel
theorem dX_forget_30 : decode bX_forget 30 = .ok (.getfield 65, 3) := by decide +kernel
theorem dX_forget_33 : decode bX_forget 33 = .ok (.invokevirtual 95, 3) := by decide +kernel
theorem dX_forget_36 : decode bX_forget 36 = .ok (.iload_n 1, 1) := by decide +kernel
theorem dX_forget_37 : decode bX_forget 37 = .ok (.ireturn, 1) := by decide +kernel
theorem dX_whose_0 : decode bX_whose 0 = .ok (.iload_n 1, 1) := by decide +kernel
theorem dX_whose_1 : decode bX_whose 1 = .ok (.iconst (-1), 1) := by decide +kernel
theorem dX_whose_2 : decode bX_whose 2 = .ok (.if_icmp .lt 17, 3) := by decide +kernel
theorem dX_whose_5 : decode bX_whose 5 = .ok (.iload_n 1, 1) := by decide +kernel
theorem dX_whose_6 : decode bX_whose 6 = .ok (.aload_n 0, 1) := by decide +kernel
theorem dX_whose_7 : decode bX_whose 7 = .ok (.getfield 29, 3) := by decide +kernel
theorem dX_whose_10 : decode bX_whose 10 = .ok (.getfield 136, 3) := by decide +kernel
theorem dX_whose_13 : decode bX_whose 13 = .ok (.invokevirtual 79, 3) := by decide +kernel
theorem dX_whose_16 : decode bX_whose 16 = .ok (.if_icmp .lt 5, 3) := by decide +kernel
theorem dX_whose_19 : decode bX_whose 19 = .ok (.iconst (-1), 1) := by decide +kernel
theorem dX_whose_20 : decode bX_whose 20 = .ok (.ireturn, 1) := by decide +kernel
theorem dX_whose_21 : decode bX_whose 21 = .ok (.aload_n 0, 1) := by decide +kernel
theorem dX_whose_22 : decode bX_whose 22 = .ok (.getfield 29, 3) := by decide +kernel
theorem dX_whose_25 : decode bX_whose 25 = .ok (.getfield 136, 3) := by decide +kernel
theorem dX_whose_28 : decode bX_whose 28 = .ok (.aload_n 0, 1) := by decide +kernel
theorem dX_whose_29 : decode bX_whose 29 = .ok (.getfield 19, 3) := by decide +kernel
theorem dX_whose_32 : decode bX_whose 32 = .ok (.getfield 120, 3) := by decide +kernel
theorem dX_whose_35 : decode bX_whose 35 = .ok (.iconst 0, 1) := by decide +kernel
theorem dX_whose_36 : decode bX_whose 36 = .ok (.iconst 0, 1) := by decide +kernel
theorem dX_whose_37 : decode bX_whose 37 = .ok (.iconst (-1), 1) := by decide +kernel
theorem dX_whose_38 : decode bX_whose 38 = .ok (.iconst 0, 1) := by decide +kernel
theorem dX_whose_39 : decode bX_whose 39 = .ok (.invokestatic 232, 3) := by decide +kernel
theorem dX_whose_42 : decode bX_whose 42 = .ok (.istore_n 2, 1) := by decide +kernel
theorem dX_whose_43 : decode bX_whose 43 = .ok (.iload_n 1, 1) := by decide +kernel
theorem dX_whose_44 : decode bX_whose 44 = .ok (.iconst (-1), 1) := by decide +kernel
theorem dX_whose_45 : decode bX_whose 45 = .ok (.if_icmp .ne 5, 3) := by decide +kernel
theorem dX_whose_48 : decode bX_whose 48 = .ok (.iload_n 2, 1) := by decide +kernel
theorem dX_whose_49 : decode bX_whose 49 = .ok (.ireturn, 1) := by decide +kernel
theorem dX_whose_50 : decode bX_whose 50 = .ok (.iconst 0, 1) := by decide +kernel
theorem dX_whose_51 : decode bX_whose 51 = .ok (.istore_n 3, 1) := by decide +kernel
theorem dX_whose_52 : decode bX_whose 52 = .ok (.iload_n 3, 1) := by decide +kernel
theorem dX_whose_53 : decode bX_whose 53 = .ok (.aload_n 0, 1) := by decide +kernel
theorem dX_whose_54 : decode bX_whose 54 = .ok (.getfield 19, 3) := by decide +kernel
theorem dX_whose_57 : decode bX_whose 57 = .ok (.getfield 120, 3) := by decide +kernel
theorem dX_whose_60 : decode bX_whose 60 = .ok (.invokevirtual 79, 3) := by decide +kernel
theorem dX_whose_63 : decode bX_whose 63 = .ok (.if_icmp .ge 40, 3) := by decide +kernel
theorem dX_whose_66 : decode bX_whose 66 = .ok (.iload_n 2, 1) := by decide +kernel
theorem dX_whose_67 : decode bX_whose 67 = .ok (.ifCond .le 36, 3) := by decide +kernel
theorem dX_whose_70 : decode bX_whose 70 = .ok (.aload_n 0, 1) := by decide +kernel
theorem dX_whose_71 : decode bX_whose 71 = .ok (.getfield 29, 3) := by decide +kernel
theorem dX_whose_74 : decode bX_whose 74 = .ok (.getfield 136, 3) := by decide +kernel
theorem dX_whose_77 : decode bX_whose 77 = .ok (.aload_n 0, 1) := by decide +kernel
theorem dX_whose_78 : decode bX_whose 78 = .ok (.getfield 19, 3) := by decide +kernel
theorem dX_whose_81 : decode bX_whose 81 = .ok (.getfield 120, 3) := by decide +kernel
theorem dX_whose_84 : decode bX_whose 84 = .ok (.iconst 0, 1) := by decide +kernel
theorem dX_whose_85 : decode bX_whose 85 = .ok (.iconst 0, 1) := by decide +kernel
theorem dX_whose_86 : decode bX_whose 86 = .ok (.iload_n 1, 1) := by decide +kernel
theorem dX_whose_87 : decode bX_whose 87 = .ok (.iload_n 3, 1) := by decide +kernel
theorem dX_whose_88 : decode bX_whose 88 = .ok (.invokestatic 232, 3) := by decide +kernel
theorem dX_whose_91 : decode bX_whose 91 = .ok (.iload_n 2, 1) := by decide +kernel
theorem dX_whose_92 : decode bX_whose 92 = .ok (.if_icmp .ne 5, 3) := by decide +kernel
theorem dX_whose_95 : decode bX_whose 95 = .ok (.iload_n 3, 1) := by decide +kernel
theorem dX_whose_96 : decode bX_whose 96 = .ok (.ireturn, 1) := by decide +kernel
theorem dX_whose_97 : decode bX_whose 97 = .ok (.iinc 3 1, 3) := by decide +kernel
theorem dX_whose_100 : decode bX_whose 100 = .ok (.goto (-48), 3) := by decide +kernel
theorem dX_whose_103 : decode bX_whose 103 = .ok (.bipush (-9), 2) := by decide +kernel
theorem dX_whose_105 : decode bX_whose 105 = .ok (.ireturn, 1) := by decide +kernel
theorem dX_countOwners_0 : decode bX_countOwners 0 = .ok (.iload_n 2, 1) := by decide +kernel
theorem dX_countOwners_1 : decode bX_countOwners 1 = .ok (.aload_n 0, 1) := by decide +kernel
theorem dX_countOwners_2 : decode bX_countOwners 2 = .ok (.invokevirtual 79, 3) := by decide +kernel
theorem dX_countOwners_5 : decode bX_countOwners 5 = .ok (.if_icmp .lt 5, 3) := by decide +kernel
theorem dX_countOwners_8 : decode bX_countOwners 8 = .ok (.iconst 1, 1) := by decide +kernel
theorem dX_countOwners_9 : decode bX_countOwners 9 = .ok (.ireturn, 1) := by decide +kernel
theorem dX_countOwners_10 : decode bX_countOwners 10 = .ok (.iconst 0, 1) := by decide +kernel
theorem dX_countOwners_11 : decode bX_countOwners 11 = .ok (.istore 6, 2) := by decide +kernel
theorem dX_countOwners_13 : decode bX_countOwners 13 = .ok (.iconst 0, 1) := by decide +kernel
theorem dX_countOwners_14 : decode bX_countOwners 14 = .ok (.istore 7, 2) := by decide +kernel
theorem dX_countOwners_16 : decode bX_countOwners 16 = .ok (.iload 7, 2) := by decide +kernel
theorem dX_countOwners_18 : decode bX_countOwners 18 = .ok (.aload_n 1, 1) := by decide +kernel
theorem dX_countOwners_19 : decode bX_countOwners 19 = .ok (.invokevirtual 79, 3) := by decide +kernel
theorem dX_countOwners_22 : decode bX_countOwners 22 = .ok (.if_icmp .ge 92, 3) := by decide +kernel
theorem dX_countOwners_25 : decode bX_countOwners 25 = .ok (.iload_n 3, 1) := by decide +kernel
theorem dX_countOwners_26 : decode bX_countOwners 26 = .ok (.iconst 1, 1) := by decide +kernel
theorem dX_countOwners_27 : decode bX_countOwners 27 = .ok (.iload 7, 2) := by decide +kernel
theorem dX_countOwners_29 : decode bX_countOwners 29 = .ok (.ishl, 1) := by decide +kernel
theorem dX_countOwners_30 : decode bX_countOwners 30 = .ok (.iand, 1) := by decide +kernel
theorem dX_countOwners_31 : decode bX_countOwners 31 = .ok (.ifCond .ne 7, 3) := by decide +kernel
theorem dX_countOwners_34 : decode bX_countOwners 34 = .ok (.iconst 1, 1) := by decide +kernel
theorem dX_countOwners_35 : decode bX_countOwners 35 = .ok (.goto 4, 3) := by decide +kernel
theorem dX_countOwners_38 : decode bX_countOwners 38 = .ok (.iconst 0, 1) := by decide +kernel
theorem dX_countOwners_39 : decode bX_countOwners 39 = .ok (.istore 8, 2) := by decide +kernel
theorem dX_countOwners_41 : decode bX_countOwners 41 = .ok (.iload_n 2, 1) := by decide +kernel
theorem dX_countOwners_42 : decode bX_countOwners 42 = .ok (.iload 4, 2) := by decide +kernel
theorem dX_countOwners_44 : decode bX_countOwners 44 = .ok (.if_icmp .ne 10, 3) := by decide +kernel
theorem dX_countOwners_47 : decode bX_countOwners 47 = .ok (.iload 7, 2) := by decide +kernel
theorem dX_countOwners_49 : decode bX_countOwners 49 = .ok (.iload 5, 2) := by decide +kernel
theorem dX_countOwners_51 : decode bX_countOwners 51 = .ok (.if_icmp .ne 7, 3) := by decide +kernel
theorem dX_countOwners_54 : decode bX_countOwners 54 = .ok (.iconst 1, 1) := by decide +kernel
theorem dX_countOwners_55 : decode bX_countOwners 55 = .ok (.goto 4, 3) := by decide +kernel
theorem dX_countOwners_58 : decode bX_countOwners 58 = .ok (.iconst 0, 1) := by decide +kernel
theorem dX_countOwners_59 : decode bX_countOwners 59 = .ok (.istore 9, 2) := by decide +kernel
theorem dX_countOwners_61 : decode bX_countOwners 61 = .ok (.iload 8, 2) := by decide +kernel
theorem dX_countOwners_63 : decode bX_countOwners 63 = .ok (.ifCond .eq 45, 3) := by decide +kernel
theorem dX_countOwners_66 : decode bX_countOwners 66 = .ok (.iload 9, 2) := by decide +kernel
theorem dX_countOwners_68 : decode bX_countOwners 68 = .ok (.ifCond .eq 40, 3) := by decide +kernel
theorem dX_countOwners_71 : decode bX_countOwners 71 = .ok (.aload_n 1, 1) := by decide +kernel
theorem dX_countOwners_72 : decode bX_countOwners 72 = .ok (.iload 7, 2) := by decide +kernel
theorem dX_countOwners_74 : decode bX_countOwners 74 = .ok (.invokevirtual 104, 3) := by decide +kernel
theorem dX_countOwners_77 : decode bX_countOwners 77 = .ok (.aload_n 0, 1) := by decide +kernel
theorem dX_countOwners_78 : decode bX_countOwners 78 = .ok (.iload_n 2, 1) := by decide +kernel
theorem dX_countOwners_79 : decode bX_countOwners 79 = .ok (.invokevirtual 104, 3) := by decide +kernel
theorem dX_countOwners_82 : decode bX_countOwners 82 = .ok (.if_icmp .lt 26, 3) := by decide +kernel
theorem dX_countOwners_85 : decode bX_countOwners 85 = .ok (.iload 6, 2) := by decide +kernel
theorem dX_countOwners_87 : decode bX_countOwners 87 = .ok (.aload_n 0, 1) := by decide +kernel
theorem dX_countOwners_88 : decode bX_countOwners 88 = .ok (.aload_n 1, 1) := by decide +kernel
theorem dX_countOwners_89 : decode bX_countOwners 89 = .ok (.iload_n 2, 1) := by decide +kernel
theorem dX_countOwners_90 : decode bX_countOwners 90 = .ok (.iconst 1, 1) := by decide +kernel
theorem dX_countOwners_91 : decode bX_countOwners 91 = .ok (.iadd, 1) := by decide +kernel
theorem dX_countOwners_92 : decode bX_countOwners 92 = .ok (.iload_n 3, 1) := by decide +kernel
theorem dX_countOwners_93 : decode bX_countOwners 93 = .ok (.iconst 1, 1) := by decide +kernel
theorem dX_countOwners_94 : decode bX_countOwners 94 = .ok (.iload 7, 2) := by decide +kernel
theorem dX_countOwners_96 : decode bX_countOwners 96 = .ok (.ishl, 1) := by decide +kernel
theorem dX_countOwners_97 : decode bX_countOwners 97 = .ok (.ior, 1) := by decide +kernel
theorem dX_countOwners_98 : decode bX_countOwners 98 = .ok (.iload 4, 2) := by decide +kernel
theorem dX_countOwners_100 : decode bX_countOwners 100 = .ok (.iload 5, 2) := by decide +kernel
theorem dX_countOwners_102 : decode bX_countOwners 102 = .ok (.invokestatic 232, 3) := by decide +kernel
theorem dX_countOwners_105 : decode bX_countOwners 105 = .ok (.iadd, 1) := by decide +kernel
theorem dX_countOwners_106 : decode bX_countOwners 106 = .ok (.istore 6, 2) := by decide +kernel
theorem dX_countOwners_108 : decode bX_countOwners 108 = .ok (.iinc 7 1, 3) := by decide +kernel
theorem dX_countOwners_111 : decode bX_countOwners 111 = .ok (.goto (-95), 3) := by decide +kernel
theorem dX_countOwners_114 : decode bX_countOwners 114 = .ok (.iload 6, 2) := by decide +kernel
theorem dX_countOwners_116 : decode bX_countOwners 116 = .ok (.ireturn, 1) := by decide +kernel
theorem dX_odds_0 : decode bX_odds 0 = .ok (.iload_n 1, 1) := by decide +kernel
theorem dX_odds_1 : decode bX_odds 1 = .ok (.ifCond .lt 27, 3) := by decide +kernel
theorem dX_odds_4 : decode bX_odds 4 = .ok (.iload_n 1, 1) := by decide +kernel
theorem dX_odds_5 : decode bX_odds 5 = .ok (.bipush 10, 2) := by decide +kernel
theorem dX_odds_7 : decode bX_odds 7 = .ok (.if_icmp .gt 21, 3) := by decide +kernel
theorem dX_odds_10 : decode bX_odds 10 = .ok (.iload_n 2, 1) := by decide +kernel
theorem dX_odds_11 : decode bX_odds 11 = .ok (.ifCond .lt 17, 3) := by decide +kernel
theorem dX_odds_14 : decode bX_odds 14 = .ok (.iload_n 2, 1) := by decide +kernel
theorem dX_odds_15 : decode bX_odds 15 = .ok (.iconst 4, 1) := by decide +kernel
theorem dX_odds_16 : decode bX_odds 16 = .ok (.if_icmp .gt 12, 3) := by decide +kernel
theorem dX_odds_19 : decode bX_odds 19 = .ok (.iload_n 3, 1) := by decide +kernel
theorem dX_odds_20 : decode bX_odds 20 = .ok (.ifCond .lt 8, 3) := by decide +kernel
theorem dX_odds_23 : decode bX_odds 23 = .ok (.iload_n 3, 1) := by decide +kernel
theorem dX_odds_24 : decode bX_odds 24 = .ok (.iconst 1, 1) := by decide +kernel
theorem dX_odds_25 : decode bX_odds 25 = .ok (.if_icmp .le 5, 3) := by decide +kernel
theorem dX_odds_28 : decode bX_odds 28 = .ok (.iconst (-1), 1) := by decide +kernel
theorem dX_odds_29 : decode bX_odds 29 = .ok (.ireturn, 1) := by decide +kernel
theorem dX_odds_30 : decode bX_odds 30 = .ok (.aload_n 0, 1) := by decide +kernel
theorem dX_odds_31 : decode bX_odds 31 = .ok (.getfield 19, 3) := by decide +kernel
theorem dX_odds_34 : decode bX_odds 34 = .ok (.getfield 120, 3) := by decide +kernel
theorem dX_odds_37 : decode bX_odds 37 = .ok (.invokevirtual 79, 3) := by decide +kernel
theorem dX_odds_40 : decode bX_odds 40 = .ok (.aload_n 0, 1) := by decide +kernel
theorem dX_odds_41 : decode bX_odds 41 = .ok (.getfield 29, 3) := by decide +kernel
theorem dX_odds_44 : decode bX_odds 44 = .ok (.invokevirtual 142, 3) := by decide +kernel
theorem dX_odds_47 : decode bX_odds 47 = .ok (.isub, 1) := by decide +kernel
theorem dX_odds_48 : decode bX_odds 48 = .ok (.istore 4, 2) := by decide +kernel
theorem dX_odds_50 : decode bX_odds 50 = .ok (.iload_n 1, 1) := by decide +kernel
theorem dX_odds_51 : decode bX_odds 51 = .ok (.iload_n 2, 1) := by decide +kernel
theorem dX_odds_52 : decode bX_odds 52 = .ok (.iload 4, 2) := by decide +kernel
theorem dX_odds_54 : decode bX_odds 54 = .ok (.invokestatic 236, 3) := by decide +kernel
theorem dX_odds_57 : decode bX_odds 57 = .ok (.istore 5, 2) := by decide +kernel
theorem dX_odds_59 : decode bX_odds 59 = .ok (.bipush 10, 2) := by decide +kernel
theorem dX_odds_61 : decode bX_odds 61 = .ok (.iload 4, 2) := by decide +kernel
theorem dX_odds_63 : decode bX_odds 63 = .ok (.invokestatic 239, 3) := by decide +kernel
theorem dX_odds_66 : decode bX_odds 66 = .ok (.istore 6, 2) := by decide +kernel
theorem dX_odds_68 : decode bX_odds 68 = .ok (.iload 5, 2) := by decide +kernel
theorem dX_odds_70 : decode bX_odds 70 = .ok (.iload 6, 2) := by decide +kernel
theorem dX_odds_72 : decode bX_odds 72 = .ok (.invokestatic 242, 3) := by decide +kernel
theorem dX_odds_75 : decode bX_odds 75 = .ok (.istore 7, 2) := by decide +kernel
theorem dX_odds_77 : decode bX_odds 77 = .ok (.iload 7, 2) := by decide +kernel
theorem dX_odds_79 : decode bX_odds 79 = .ok (.iconst 1, 1) := by decide +kernel
theorem dX_odds_80 : decode bX_odds 80 = .ok (.if_icmp .ge 5, 3) := by decide +kernel
theorem dX_odds_83 : decode bX_odds 83 = .ok (.iconst (-1), 1) := by decide +kernel
theorem dX_odds_84 : decode bX_odds 84 = .ok (.ireturn, 1) := by decide +kernel
theorem dX_odds_85 : decode bX_odds 85 = .ok (.iload_n 3, 1) := by decide +kernel
theorem dX_odds_86 : decode bX_odds 86 = .ok (.ifCond .ne 11, 3) := by decide +kernel
theorem dX_odds_89 : decode bX_odds 89 = .ok (.iload 5, 2) := by decide +kernel
theorem dX_odds_91 : decode bX_odds 91 = .ok (.iload 7, 2) := by decide +kernel
theorem dX_odds_93 : decode bX_odds 93 = .ok (.idiv, 1) := by decide +kernel
theorem dX_odds_94 : decode bX_odds 94 = .ok (.goto 8, 3) := by decide +kernel
theorem dX_odds_97 : decode bX_odds 97 = .ok (.iload 6, 2) := by decide +kernel
theorem dX_odds_99 : decode bX_odds 99 = .ok (.iload 7, 2) := by decide +kernel
theorem dX_odds_101 : decode bX_odds 101 = .ok (.idiv, 1) := by decide +kernel
theorem dX_odds_102 : decode bX_odds 102 = .ok (.ireturn, 1) := by decide +kernel
theorem dX_countAway_0 : decode bX_countAway 0 = .ok (.iconst 0, 1) := by decide +kernel
theorem dX_countAway_1 : decode bX_countAway 1 = .ok (.istore_n 3, 1) := by decide +kernel
theorem dX_countAway_2 : decode bX_countAway 2 = .ok (.iconst 0, 1) := by decide +kernel
theorem dX_countAway_3 : decode bX_countAway 3 = .ok (.istore 4, 2) := by decide +kernel
theorem dX_countAway_5 : decode bX_countAway 5 = .ok (.iload 4, 2) := by decide +kernel
theorem dX_countAway_7 : decode bX_countAway 7 = .ok (.iconst 1, 1) := by decide +kernel
theorem dX_countAway_8 : decode bX_countAway 8 = .ok (.iload_n 2, 1) := by decide +kernel
theorem dX_countAway_9 : decode bX_countAway 9 = .ok (.ishl, 1) := by decide +kernel
theorem dX_countAway_10 : decode bX_countAway 10 = .ok (.if_icmp .ge 43, 3) := by decide +kernel
theorem dX_countAway_13 : decode bX_countAway 13 = .ok (.iload 4, 2) := by decide +kernel
theorem dX_countAway_15 : decode bX_countAway 15 = .ok (.invokestatic 290, 3) := by decide +kernel
theorem dX_countAway_18 : decode bX_countAway 18 = .ok (.istore 5, 2) := by decide +kernel
theorem dX_countAway_20 : decode bX_countAway 20 = .ok (.iload 5, 2) := by decide +kernel
theorem dX_countAway_22 : decode bX_countAway 22 = .ok (.iload_n 1, 1) := by decide +kernel
theorem dX_countAway_23 : decode bX_countAway 23 = .ok (.if_icmp .gt 24, 3) := by decide +kernel
theorem dX_countAway_26 : decode bX_countAway 26 = .ok (.iload_n 3, 1) := by decide +kernel
theorem dX_countAway_27 : decode bX_countAway 27 = .ok (.iload_n 0, 1) := by decide +kernel
theorem dX_countAway_28 : decode bX_countAway 28 = .ok (.iload 5, 2) := by decide +kernel
theorem dX_countAway_30 : decode bX_countAway 30 = .ok (.invokestatic 239, 3) := by decide +kernel
theorem dX_countAway_33 : decode bX_countAway 33 = .ok (.bipush 10, 2) := by decide +kernel
theorem dX_countAway_35 : decode bX_countAway 35 = .ok (.iload_n 0, 1) := by decide +kernel
theorem dX_countAway_36 : decode bX_countAway 36 = .ok (.isub, 1) := by decide +kernel
theorem dX_countAway_37 : decode bX_countAway 37 = .ok (.iload_n 2, 1) := by decide +kernel
theorem dX_countAway_38 : decode bX_countAway 38 = .ok (.iload 5, 2) := by decide +kernel
theorem dX_countAway_40 : decode bX_countAway 40 = .ok (.isub, 1) := by decide +kernel
theorem dX_countAway_41 : decode bX_countAway 41 = .ok (.invokestatic 239, 3) := by decide +kernel
theorem dX_countAway_44 : decode bX_countAway 44 = .ok (.imul, 1) := by decide +kernel
theorem dX_countAway_45 : decode bX_countAway 45 = .ok (.iadd, 1) := by decide +kernel
theorem dX_countAway_46 : decode bX_countAway 46 = .ok (.istore_n 3, 1) := by decide +kernel
theorem dX_countAway_47 : decode bX_countAway 47 = .ok (.iinc 4 1, 3) := by decide +kernel
theorem dX_countAway_50 : decode bX_countAway 50 = .ok (.goto (-45), 3) := by decide +kernel
theorem dX_countAway_53 : decode bX_countAway 53 = .ok (.iload_n 3, 1) := by decide +kernel
theorem dX_countAway_54 : decode bX_countAway 54 = .ok (.ireturn, 1) := by decide +kernel
theorem dX_commonFactor_0 : decode bX_commonFactor 0 = .ok (.iload_n 0, 1) := by decide +kernel
theorem dX_commonFactor_1 : decode bX_commonFactor 1 = .ok (.istore_n 2, 1) := by decide +kernel
theorem dX_commonFactor_2 : decode bX_commonFactor 2 = .ok (.iload_n 1, 1) := by decide +kernel
theorem dX_commonFactor_3 : decode bX_commonFactor 3 = .ok (.istore_n 3, 1) := by decide +kernel
theorem dX_commonFactor_4 : decode bX_commonFactor 4 = .ok (.iconst 0, 1) := by decide +kernel
theorem dX_commonFactor_5 : decode bX_commonFactor 5 = .ok (.istore 4, 2) := by decide +kernel
theorem dX_commonFactor_7 : decode bX_commonFactor 7 = .ok (.iload 4, 2) := by decide +kernel
theorem dX_commonFactor_9 : decode bX_commonFactor 9 = .ok (.bipush 64, 2) := by decide +kernel
theorem dX_commonFactor_11 : decode bX_commonFactor 11 = .ok (.if_icmp .ge 23, 3) := by decide +kernel
theorem dX_commonFactor_14 : decode bX_commonFactor 14 = .ok (.iload_n 3, 1) := by decide +kernel
theorem dX_commonFactor_15 : decode bX_commonFactor 15 = .ok (.ifCond .eq 19, 3) := by decide +kernel
theorem dX_commonFactor_18 : decode bX_commonFactor 18 = .ok (.iload_n 2, 1) := by decide +kernel
theorem dX_commonFactor_19 : decode bX_commonFactor 19 = .ok (.iload_n 3, 1) := by decide +kernel
theorem dX_commonFactor_20 : decode bX_commonFactor 20 = .ok (.irem, 1) := by decide +kernel
theorem dX_commonFactor_21 : decode bX_commonFactor 21 = .ok (.istore 5, 2) := by decide +kernel
theorem dX_commonFactor_23 : decode bX_commonFactor 23 = .ok (.iload_n 3, 1) := by decide +kernel
theorem dX_commonFactor_24 : decode bX_commonFactor 24 = .ok (.istore_n 2, 1) := by decide +kernel
theorem dX_commonFactor_25 : decode bX_commonFactor 25 = .ok (.iload 5, 2) := by decide +kernel
theorem dX_commonFactor_27 : decode bX_commonFactor 27 = .ok (.istore_n 3, 1) := by decide +kernel
theorem dX_commonFactor_28 : decode bX_commonFactor 28 = .ok (.iinc 4 1, 3) := by decide +kernel
theorem dX_commonFactor_31 : decode bX_commonFactor 31 = .ok (.goto (-24), 3) := by decide +kernel
theorem dX_commonFactor_34 : decode bX_commonFactor 34 = .ok (.iload_n 2, 1) := by decide +kernel
theorem dX_commonFactor_35 : decode bX_commonFactor 35 = .ok (.ireturn, 1) := by decide +kernel
theorem dX_rate_0 : decode bX_rate 0 = .ok (.aload_n 0, 1) := by decide +kernel
theorem dX_rate_1 : decode bX_rate 1 = .ok (.getfield 19, 3) := by decide +kernel
theorem dX_rate_4 : decode bX_rate 4 = .ok (.iload_n 2, 1) := by decide +kernel
theorem dX_rate_5 : decode bX_rate 5 = .ok (.invokevirtual 96, 3) := by decide +kernel
theorem dX_rate_8 : decode bX_rate 8 = .ok (.ifCond .ne 6, 3) := by decide +kernel
theorem dX_rate_11 : decode bX_rate 11 = .ok (.ldc 100, 2) := by decide +kernel
theorem dX_rate_13 : decode bX_rate 13 = .ok (.ireturn, 1) := by decide +kernel
theorem dX_rate_14 : decode bX_rate 14 = .ok (.iload_n 1, 1) := by decide +kernel
theorem dX_rate_15 : decode bX_rate 15 = .ok (.tableswitch 73 0 5 #[37, 43, 49, 55, 61, 67], 37) := by decide +kernel
theorem dX_rate_52 : decode bX_rate 52 = .ok (.aload_n 0, 1) := by decide +kernel
theorem dX_rate_53 : decode bX_rate 53 = .ok (.iload_n 2, 1) := by decide +kernel
theorem dX_rate_54 : decode bX_rate 54 = .ok (.invokevirtual 245, 3) := by decide +kernel
theorem dX_rate_57 : decode bX_rate 57 = .ok (.ireturn, 1) := by decide +kernel
theorem dX_rate_58 : decode bX_rate 58 = .ok (.aload_n 0, 1) := by decide +kernel
theorem dX_rate_59 : decode bX_rate 59 = .ok (.iload_n 2, 1) := by decide +kernel
theorem dX_rate_60 : decode bX_rate 60 = .ok (.invokevirtual 248, 3) := by decide +kernel
theorem dX_rate_63 : decode bX_rate 63 = .ok (.ireturn, 1) := by decide +kernel
theorem dX_rate_64 : decode bX_rate 64 = .ok (.aload_n 0, 1) := by decide +kernel
theorem dX_rate_65 : decode bX_rate 65 = .ok (.iload_n 2, 1) := by decide +kernel
theorem dX_rate_66 : decode bX_rate 66 = .ok (.invokevirtual 251, 3) := by decide +kernel
theorem dX_rate_69 : decode bX_rate 69 = .ok (.ireturn, 1) := by decide +kernel
theorem dX_rate_70 : decode bX_rate 70 = .ok (.aload_n 0, 1) := by decide +kernel
theorem dX_rate_71 : decode bX_rate 71 = .ok (.iload_n 2, 1) := by decide +kernel
theorem dX_rate_72 : decode bX_rate 72 = .ok (.invokevirtual 254, 3) := by decide +kernel
theorem dX_rate_75 : decode bX_rate 75 = .ok (.ireturn, 1) := by decide +kernel
theorem dX_rate_76 : decode bX_rate 76 = .ok (.aload_n 0, 1) := by decide +kernel
theorem dX_rate_77 : decode bX_rate 77 = .ok (.iload_n 2, 1) := by decide +kernel
theorem dX_rate_78 : decode bX_rate 78 = .ok (.invokevirtual 257, 3) := by decide +kernel
theorem dX_rate_81 : decode bX_rate 81 = .ok (.ireturn, 1) := by decide +kernel
theorem dX_rate_82 : decode bX_rate 82 = .ok (.aload_n 0, 1) := by decide +kernel
theorem dX_rate_83 : decode bX_rate 83 = .ok (.iload_n 2, 1) := by decide +kernel
theorem dX_rate_84 : decode bX_rate 84 = .ok (.invokevirtual 260, 3) := by decide +kernel
theorem dX_rate_87 : decode bX_rate 87 = .ok (.ireturn, 1) := by decide +kernel
theorem dX_rate_88 : decode bX_rate 88 = .ok (.ldc 100, 2) := by decide +kernel
theorem dX_rate_90 : decode bX_rate 90 = .ok (.ireturn, 1) := by decide +kernel
theorem dX_rateStretch_0 : decode bX_rateStretch 0 = .ok (.aload_n 0, 1) := by decide +kernel
theorem dX_rateStretch_1 : decode bX_rateStretch 1 = .ok (.dup, 1) := by decide +kernel
theorem dX_rateStretch_2 : decode bX_rateStretch 2 = .ok (.getfield 273, 3) := by decide +kernel
theorem dX_rateStretch_5 : decode bX_rateStretch 5 = .ok (.lconst 1, 1) := by decide +kernel
theorem dX_rateStretch_6 : decode bX_rateStretch 6 = .ok (.ladd, 1) := by decide +kernel
theorem dX_rateStretch_7 : decode bX_rateStretch 7 = .ok (.putfield 273, 3) := by decide +kernel
theorem dX_rateStretch_10 : decode bX_rateStretch 10 = .ok (.aload_n 0, 1) := by decide +kernel
theorem dX_rateStretch_11 : decode bX_rateStretch 11 = .ok (.getfield 19, 3) := by decide +kernel
theorem dX_rateStretch_14 : decode bX_rateStretch 14 = .ok (.getfield 108, 3) := by decide +kernel
theorem dX_rateStretch_17 : decode bX_rateStretch 17 = .ok (.iload_n 1, 1) := by decide +kernel
theorem dX_rateStretch_18 : decode bX_rateStretch 18 = .ok (.invokevirtual 104, 3) := by decide +kernel
theorem dX_rateStretch_21 : decode bX_rateStretch 21 = .ok (.ireturn, 1) := by decide +kernel
theorem dX_rateFeather_0 : decode bX_rateFeather 0 = .ok (.aload_n 0, 1) := by decide +kernel
theorem dX_rateFeather_1 : decode bX_rateFeather 1 = .ok (.dup, 1) := by decide +kernel
theorem dX_rateFeather_2 : decode bX_rateFeather 2 = .ok (.getfield 273, 3) := by decide +kernel
theorem dX_rateFeather_5 : decode bX_rateFeather 5 = .ok (.ldc2_w 277, 3) := by decide +kernel
theorem dX_rateFeather_8 : decode bX_rateFeather 8 = .ok (.ladd, 1) := by decide +kernel
theorem dX_rateFeather_9 : decode bX_rateFeather 9 = .ok (.putfield 273, 3) := by decide +kernel
theorem dX_rateFeather_12 : decode bX_rateFeather 12 = .ok (.aload_n 0, 1) := by decide +kernel
theorem dX_rateFeather_13 : decode bX_rateFeather 13 = .ok (.iload_n 1, 1) := by decide +kernel
theorem dX_rateFeather_14 : decode bX_rateFeather 14 = .ok (.invokevirtual 245, 3) := by decide +kernel
theorem dX_rateFeather_17 : decode bX_rateFeather 17 = .ok (.aload_n 0, 1) := by decide +kernel
theorem dX_rateFeather_18 : decode bX_rateFeather 18 = .ok (.getfield 29, 3) := by decide +kernel
theorem dX_rateFeather_21 : decode bX_rateFeather 21 = .ok (.aload_n 0, 1) := by decide +kernel
theorem dX_rateFeather_22 : decode bX_rateFeather 22 = .ok (.getfield 19, 3) := by decide +kernel
theorem dX_rateFeather_25 : decode bX_rateFeather 25 = .ok (.iload_n 1, 1) := by decide +kernel
theorem dX_rateFeather_26 : decode bX_rateFeather 26 = .ok (.invokevirtual 114, 3) := by decide +kernel
theorem dX_rateFeather_29 : decode bX_rateFeather 29 = .ok (.aload_n 0, 1) := by decide +kernel
theorem dX_rateFeather_30 : decode bX_rateFeather 30 = .ok (.getfield 19, 3) := by decide +kernel
theorem dX_rateFeather_33 : decode bX_rateFeather 33 = .ok (.iload_n 1, 1) := by decide +kernel
theorem dX_rateFeather_34 : decode bX_rateFeather 34 = .ok (.iconst 1, 1) := by decide +kernel
theorem dX_rateFeather_35 : decode bX_rateFeather 35 = .ok (.iadd, 1) := by decide +kernel
theorem dX_rateFeather_36 : decode bX_rateFeather 36 = .ok (.invokevirtual 114, 3) := by decide +kernel
theorem dX_rateFeather_39 : decode bX_rateFeather 39 = .ok (.invokevirtual 279, 3) := by decide +kernel
theorem dX_rateFeather_42 : decode bX_rateFeather 42 = .ok (.iadd, 1) := by decide +kernel
theorem dX_rateFeather_43 : decode bX_rateFeather 43 = .ok (.ireturn, 1) := by decide +kernel
theorem dX_rateBench_0 : decode bX_rateBench 0 = .ok (.aload_n 0, 1) := by decide +kernel
theorem dX_rateBench_1 : decode bX_rateBench 1 = .ok (.dup, 1) := by decide +kernel
theorem dX_rateBench_2 : decode bX_rateBench 2 = .ok (.getfield 273, 3) := by decide +kernel
theorem dX_rateBench_5 : decode bX_rateBench 5 = .ok (.ldc2_w 282, 3) := by decide +kernel
theorem dX_rateBench_8 : decode bX_rateBench 8 = .ok (.ladd, 1) := by decide +kernel
theorem dX_rateBench_9 : decode bX_rateBench 9 = .ok (.putfield 273, 3) := by decide +kernel
theorem dX_rateBench_12 : decode bX_rateBench 12 = .ok (.aload_n 0, 1) := by decide +kernel
theorem dX_rateBench_13 : decode bX_rateBench 13 = .ok (.iload_n 1, 1) := by decide +kernel
theorem dX_rateBench_14 : decode bX_rateBench 14 = .ok (.invokevirtual 245, 3) := by decide +kernel
theorem dX_rateBench_17 : decode bX_rateBench 17 = .ok (.aload_n 0, 1) := by decide +kernel
theorem dX_rateBench_18 : decode bX_rateBench 18 = .ok (.getfield 19, 3) := by decide +kernel
theorem dX_rateBench_21 : decode bX_rateBench 21 = .ok (.getfield 101, 3) := by decide +kernel
theorem dX_rateBench_24 : decode bX_rateBench 24 = .ok (.iload_n 1, 1) := by decide +kernel
theorem dX_rateBench_25 : decode bX_rateBench 25 = .ok (.invokevirtual 104, 3) := by decide +kernel
theorem dX_rateBench_28 : decode bX_rateBench 28 = .ok (.isub, 1) := by decide +kernel
theorem dX_rateBench_29 : decode bX_rateBench 29 = .ok (.ireturn, 1) := by decide +kernel
theorem dX_rateWing_0 : decode bX_rateWing 0 = .ok (.aload_n 0, 1) := by decide +kernel
theorem dX_rateWing_1 : decode bX_rateWing 1 = .ok (.dup, 1) := by decide +kernel
theorem dX_rateWing_2 : decode bX_rateWing 2 = .ok (.getfield 273, 3) := by decide +kernel
theorem dX_rateWing_5 : decode bX_rateWing 5 = .ok (.ldc2_w 284, 3) := by decide +kernel
theorem dX_rateWing_8 : decode bX_rateWing 8 = .ok (.ladd, 1) := by decide +kernel
theorem dX_rateWing_9 : decode bX_rateWing 9 = .ok (.putfield 273, 3) := by decide +kernel
theorem dX_rateWing_12 : decode bX_rateWing 12 = .ok (.iconst 2, 1) := by decide +kernel
theorem dX_rateWing_13 : decode bX_rateWing 13 = .ok (.aload_n 0, 1) := by decide +kernel
theorem dX_rateWing_14 : decode bX_rateWing 14 = .ok (.iload_n 1, 1) := by decide +kernel
theorem dX_rateWing_15 : decode bX_rateWing 15 = .ok (.invokevirtual 248, 3) := by decide +kernel
theorem dX_rateWing_18 : decode bX_rateWing 18 = .ok (.imul, 1) := by decide +kernel
theorem dX_rateWing_19 : decode bX_rateWing 19 = .ok (.ireturn, 1) := by decide +kernel
theorem dX_rateName_0 : decode bX_rateName 0 = .ok (.aload_n 0, 1) := by decide +kernel
theorem dX_rateName_1 : decode bX_rateName 1 = .ok (.dup, 1) := by decide +kernel
theorem dX_rateName_2 : decode bX_rateName 2 = .ok (.getfield 273, 3) := by decide +kernel
theorem dX_rateName_5 : decode bX_rateName 5 = .ok (.ldc2_w 286, 3) := by decide +kernel
theorem dX_rateName_8 : decode bX_rateName 8 = .ok (.ladd, 1) := by decide +kernel
theorem dX_rateName_9 : decode bX_rateName 9 = .ok (.putfield 273, 3) := by decide +kernel
theorem dX_rateName_12 : decode bX_rateName 12 = .ok (.aload_n 0, 1) := by decide +kernel
theorem dX_rateName_13 : decode bX_rateName 13 = .ok (.iload_n 1, 1) := by decide +kernel
theorem dX_rateName_14 : decode bX_rateName 14 = .ok (.invokevirtual 251, 3) := by decide +kernel
theorem dX_rateName_17 : decode bX_rateName 17 = .ok (.iload_n 1, 1) := by decide +kernel
theorem dX_rateName_18 : decode bX_rateName 18 = .ok (.iadd, 1) := by decide +kernel
theorem dX_rateName_19 : decode bX_rateName 19 = .ok (.ireturn, 1) := by decide +kernel
theorem dX_rateCloud_0 : decode bX_rateCloud 0 = .ok (.aload_n 0, 1) := by decide +kernel
theorem dX_rateCloud_1 : decode bX_rateCloud 1 = .ok (.dup, 1) := by decide +kernel
theorem dX_rateCloud_2 : decode bX_rateCloud 2 = .ok (.getfield 273, 3) := by decide +kernel
theorem dX_rateCloud_5 : decode bX_rateCloud 5 = .ok (.ldc2_w 288, 3) := by decide +kernel
theorem dX_rateCloud_8 : decode bX_rateCloud 8 = .ok (.ladd, 1) := by decide +kernel
theorem dX_rateCloud_9 : decode bX_rateCloud 9 = .ok (.putfield 273, 3) := by decide +kernel
theorem dX_rateCloud_12 : decode bX_rateCloud 12 = .ok (.aload_n 0, 1) := by decide +kernel
theorem dX_rateCloud_13 : decode bX_rateCloud 13 = .ok (.iload_n 1, 1) := by decide +kernel
theorem dX_rateCloud_14 : decode bX_rateCloud 14 = .ok (.invokevirtual 245, 3) := by decide +kernel
theorem dX_rateCloud_17 : decode bX_rateCloud 17 = .ok (.aload_n 0, 1) := by decide +kernel
theorem dX_rateCloud_18 : decode bX_rateCloud 18 = .ok (.getfield 29, 3) := by decide +kernel
theorem dX_rateCloud_21 : decode bX_rateCloud 21 = .ok (.invokevirtual 142, 3) := by decide +kernel
theorem dX_rateCloud_24 : decode bX_rateCloud 24 = .ok (.iadd, 1) := by decide +kernel
theorem dX_rateCloud_25 : decode bX_rateCloud 25 = .ok (.ireturn, 1) := by decide +kernel
theorem dX_keep_0 : decode bX_keep 0 = .ok (.iload_n 1, 1) := by decide +kernel
theorem dX_keep_1 : decode bX_keep 1 = .ok (.ifCond .lt 8, 3) := by decide +kernel
theorem dX_keep_4 : decode bX_keep 4 = .ok (.iload_n 1, 1) := by decide +kernel
theorem dX_keep_5 : decode bX_keep 5 = .ok (.iconst 1, 1) := by decide +kernel
theorem dX_keep_6 : decode bX_keep 6 = .ok (.if_icmp .le 5, 3) := by decide +kernel
theorem dX_keep_9 : decode bX_keep 9 = .ok (.iconst (-1), 1) := by decide +kernel
theorem dX_keep_10 : decode bX_keep 10 = .ok (.ireturn, 1) := by decide +kernel
theorem dX_keep_11 : decode bX_keep 11 = .ok (.aload_n 0, 1) := by decide +kernel
theorem dX_keep_12 : decode bX_keep 12 = .ok (.iload_n 1, 1) := by decide +kernel
theorem dX_keep_13 : decode bX_keep 13 = .ok (.invokevirtual 263, 3) := by decide +kernel
theorem dX_keep_16 : decode bX_keep 16 = .ok (.aload_n 0, 1) := by decide +kernel
theorem dX_keep_17 : decode bX_keep 17 = .ok (.getfield 29, 3) := by decide +kernel
theorem dX_keep_20 : decode bX_keep 20 = .ok (.invokevirtual 267, 3) := by decide +kernel
theorem dX_keep_23 : decode bX_keep 23 = .ok (.aload_n 0, 1) := by decide +kernel
theorem dX_keep_24 : decode bX_keep 24 = .ok (.getfield 44, 3) := by decide +kernel
theorem dX_keep_27 : decode bX_keep 27 = .ok (.iload_n 1, 1) := by decide +kernel
theorem dX_keep_28 : decode bX_keep 28 = .ok (.iconst 1, 1) := by decide +kernel
theorem dX_keep_29 : decode bX_keep 29 = .ok (.invokevirtual 168, 3) := by decide +kernel
theorem dX_keep_32 : decode bX_keep 32 = .ok (.aload_n 0, 1) := by decide +kernel
theorem dX_keep_33 : decode bX_keep 33 = .ok (.getfield 29, 3) := by decide +kernel
theorem dX_keep_36 : decode bX_keep 36 = .ok (.invokevirtual 142, 3) := by decide +kernel
theorem dX_keep_39 : decode bX_keep 39 = .ok (.ireturn, 1) := by decide +kernel
theorem dX_imageOf_0 : decode bX_imageOf 0 = .ok (.iload_n 1, 1) := by decide +kernel
theorem dX_imageOf_1 : decode bX_imageOf 1 = .ok (.ifCond .ne 10, 3) := by decide +kernel
theorem dX_imageOf_4 : decode bX_imageOf 4 = .ok (.aload_n 0, 1) := by decide +kernel
theorem dX_imageOf_5 : decode bX_imageOf 5 = .ok (.getfield 33, 3) := by decide +kernel
theorem dX_imageOf_8 : decode bX_imageOf 8 = .ok (.goto 7, 3) := by decide +kernel
theorem dX_imageOf_11 : decode bX_imageOf 11 = .ok (.aload_n 0, 1) := by decide +kernel
theorem dX_imageOf_12 : decode bX_imageOf 12 = .ok (.getfield 36, 3) := by decide +kernel
theorem dX_imageOf_15 : decode bX_imageOf 15 = .ok (.areturn, 1) := by decide +kernel
theorem dX_back_0 : decode bX_back 0 = .ok (.iload_n 1, 1) := by decide +kernel
theorem dX_back_1 : decode bX_back 1 = .ok (.ifCond .lt 8, 3) := by decide +kernel
theorem dX_back_4 : decode bX_back 4 = .ok (.iload_n 1, 1) := by decide +kernel
theorem dX_back_5 : decode bX_back 5 = .ok (.iconst 1, 1) := by decide +kernel
theorem dX_back_6 : decode bX_back 6 = .ok (.if_icmp .le 5, 3) := by decide +kernel
theorem dX_back_9 : decode bX_back 9 = .ok (.iconst (-1), 1) := by decide +kernel
theorem dX_back_10 : decode bX_back 10 = .ok (.ireturn, 1) := by decide +kernel
theorem dX_back_11 : decode bX_back 11 = .ok (.aload_n 0, 1) := by decide +kernel
theorem dX_back_12 : decode bX_back 12 = .ok (.getfield 44, 3) := by decide +kernel
theorem dX_back_15 : decode bX_back 15 = .ok (.iload_n 1, 1) := by decide +kernel
theorem dX_back_16 : decode bX_back 16 = .ok (.invokevirtual 104, 3) := by decide +kernel
theorem dX_back_19 : decode bX_back 19 = .ok (.ifCond .ne 6, 3) := by decide +kernel
theorem dX_back_22 : decode bX_back 22 = .ok (.bipush (-2), 2) := by decide +kernel
theorem dX_back_24 : decode bX_back 24 = .ok (.ireturn, 1) := by decide +kernel
theorem dX_back_25 : decode bX_back 25 = .ok (.aload_n 0, 1) := by decide +kernel
theorem dX_back_26 : decode bX_back 26 = .ok (.getfield 29, 3) := by decide +kernel
theorem dX_back_29 : decode bX_back 29 = .ok (.aload_n 0, 1) := by decide +kernel
theorem dX_back_30 : decode bX_back 30 = .ok (.iload_n 1, 1) := by decide +kernel
theorem dX_back_31 : decode bX_back 31 = .ok (.invokevirtual 263, 3) := by decide +kernel
theorem dX_back_34 : decode bX_back 34 = .ok (.invokevirtual 267, 3) := by decide +kernel
theorem dX_back_37 : decode bX_back 37 = .ok (.aload_n 0, 1) := by decide +kernel
theorem dX_back_38 : decode bX_back 38 = .ok (.getfield 51, 3) := by decide +kernel
theorem dX_back_41 : decode bX_back 41 = .ok (.invokevirtual 93, 3) := by decide +kernel
theorem dX_back_44 : decode bX_back 44 = .ok (.aload_n 0, 1) := by decide +kernel
theorem dX_back_45 : decode bX_back 45 = .ok (.getfield 29, 3) := by decide +kernel
theorem dX_back_48 : decode bX_back 48 = .ok (.invokevirtual 142, 3) := by decide +kernel
theorem dX_back_51 : decode bX_back 51 = .ok (.ireturn, 1) := by decide +kernel
theorem dX_count_0 : decode bX_count 0 = .ok (.iload_n 1, 1) := by decide +kernel
theorem dX_count_1 : decode bX_count 1 = .ok (.tableswitch 114 0 6 #[43, 54, 65, 73, 81, 92, 103], 43) := by decide +kernel
theorem dX_count_44 : decode bX_count 44 = .ok (.aload_n 0, 1) := by decide +kernel
theorem dX_count_45 : decode bX_count 45 = .ok (.getfield 19, 3) := by decide +kernel
theorem dX_count_48 : decode bX_count 48 = .ok (.getfield 101, 3) := by decide +kernel
theorem dX_count_51 : decode bX_count 51 = .ok (.invokevirtual 79, 3) := by decide +kernel
theorem dX_count_54 : decode bX_count 54 = .ok (.ireturn, 1) := by decide +kernel
theorem dX_count_55 : decode bX_count 55 = .ok (.aload_n 0, 1) := by decide +kernel
theorem dX_count_56 : decode bX_count 56 = .ok (.getfield 19, 3) := by decide +kernel
theorem dX_count_59 : decode bX_count 59 = .ok (.getfield 120, 3) := by decide +kernel
theorem dX_count_62 : decode bX_count 62 = .ok (.invokevirtual 79, 3) := by decide +kernel
theorem dX_count_65 : decode bX_count 65 = .ok (.ireturn, 1) := by decide +kernel
theorem dX_count_66 : decode bX_count 66 = .ok (.aload_n 0, 1) := by decide +kernel
theorem dX_count_67 : decode bX_count 67 = .ok (.getfield 19, 3) := by decide +kernel
theorem dX_count_70 : decode bX_count 70 = .ok (.getfield 270, 3) := by decide +kernel
theorem dX_count_73 : decode bX_count 73 = .ok (.ireturn, 1) := by decide +kernel
theorem dX_count_74 : decode bX_count 74 = .ok (.aload_n 0, 1) := by decide +kernel
theorem dX_count_75 : decode bX_count 75 = .ok (.getfield 19, 3) := by decide +kernel
theorem dX_count_78 : decode bX_count 78 = .ok (.getfield 151, 3) := by decide +kernel
theorem dX_count_81 : decode bX_count 81 = .ok (.ireturn, 1) := by decide +kernel
theorem dX_count_82 : decode bX_count 82 = .ok (.aload_n 0, 1) := by decide +kernel
theorem dX_count_83 : decode bX_count 83 = .ok (.getfield 58, 3) := by decide +kernel
theorem dX_count_86 : decode bX_count 86 = .ok (.getfield 197, 3) := by decide +kernel
theorem dX_count_89 : decode bX_count 89 = .ok (.invokevirtual 79, 3) := by decide +kernel
theorem dX_count_92 : decode bX_count 92 = .ok (.ireturn, 1) := by decide +kernel
theorem dX_count_93 : decode bX_count 93 = .ok (.aload_n 0, 1) := by decide +kernel
theorem dX_count_94 : decode bX_count 94 = .ok (.getfield 65, 3) := by decide +kernel
theorem dX_count_97 : decode bX_count 97 = .ok (.getfield 222, 3) := by decide +kernel
theorem dX_count_100 : decode bX_count 100 = .ok (.invokevirtual 79, 3) := by decide +kernel
theorem dX_count_103 : decode bX_count 103 = .ok (.ireturn, 1) := by decide +kernel
theorem dX_count_104 : decode bX_count 104 = .ok (.aload_n 0, 1) := by decide +kernel
theorem dX_count_105 : decode bX_count 105 = .ok (.getfield 12, 3) := by decide +kernel
theorem dX_count_108 : decode bX_count 108 = .ok (.getfield 69, 3) := by decide +kernel
theorem dX_count_111 : decode bX_count 111 = .ok (.invokevirtual 79, 3) := by decide +kernel
theorem dX_count_114 : decode bX_count 114 = .ok (.ireturn, 1) := by decide +kernel
theorem dX_count_115 : decode bX_count 115 = .ok (.iconst (-1), 1) := by decide +kernel
theorem dX_count_116 : decode bX_count 116 = .ok (.ireturn, 1) := by decide +kernel
theorem dX_trace_0 : decode bX_trace 0 = .ok (.aload_n 0, 1) := by decide +kernel
theorem dX_trace_1 : decode bX_trace 1 = .ok (.getfield 273, 3) := by decide +kernel
theorem dX_trace_4 : decode bX_trace 4 = .ok (.lreturn, 1) := by decide +kernel
