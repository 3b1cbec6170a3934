theorem dT_init_0 : decode bT_init 0 = .ok (.aload_n 0, 1) := by decide +kernel
theorem dT_init_1 : decode bT_init 1 = .ok (.invokespecial 3, 3) := by decide +kernel
theorem dT_init_4 : decode bT_init 4 = .ok (.aload_n 0, 1) := by decide +kernel
theorem dT_init_5 : decode bT_init 5 = .ok (.new 9, 3) := by decide +kernel
theorem dT_init_8 : decode bT_init 8 = .ok (.dup, 1) := by decide +kernel
theorem dT_init_9 : decode bT_init 9 = .ok (.bipush 120, 2) := by decide +kernel
theorem dT_init_11 : decode bT_init 11 = .ok (.invokespecial 11, 3) := by decide +kernel
theorem dT_init_14 : decode bT_init 14 = .ok (.putfield 14, 3) := by decide +kernel
theorem dT_init_17 : decode bT_init 17 = .ok (.return_, 1) := by decide +kernel
theorem dR_init_0 : decode bR_init 0 = .ok (.aload_n 0, 1) := by decide +kernel
theorem dR_init_1 : decode bR_init 1 = .ok (.invokespecial 1, 3) := by decide +kernel
theorem dR_init_4 : decode bR_init 4 = .ok (.aload_n 0, 1) := by decide +kernel
theorem dR_init_5 : decode bR_init 5 = .ok (.iconst 0, 1) := by decide +kernel
theorem dR_init_6 : decode bR_init 6 = .ok (.iload_n 1, 1) := by decide +kernel
theorem dR_init_7 : decode bR_init 7 = .ok (.invokestatic 7, 3) := by decide +kernel
theorem dR_init_10 : decode bR_init 10 = .ok (.newarray .int, 2) := by decide +kernel
theorem dR_init_12 : decode bR_init 12 = .ok (.putfield 13, 3) := by decide +kernel
theorem dR_init_15 : decode bR_init 15 = .ok (.return_, 1) := by decide +kernel
theorem dK_max_0 : decode bK_max 0 = .ok (.iload_n 0, 1) := by decide +kernel
theorem dK_max_1 : decode bK_max 1 = .ok (.iload_n 1, 1) := by decide +kernel
theorem dK_max_2 : decode bK_max 2 = .ok (.if_icmp .lt 7, 3) := by decide +kernel
theorem dK_max_5 : decode bK_max 5 = .ok (.iload_n 0, 1) := by decide +kernel
theorem dK_max_6 : decode bK_max 6 = .ok (.goto 4, 3) := by decide +kernel
theorem dK_max_9 : decode bK_max 9 = .ok (.iload_n 1, 1) := by decide +kernel
theorem dK_max_10 : decode bK_max 10 = .ok (.ireturn, 1) := by decide +kernel
theorem dP_init_0 : decode bP_init 0 = .ok (.aload_n 0, 1) := by decide +kernel
theorem dP_init_1 : decode bP_init 1 = .ok (.invokespecial 3, 3) := by decide +kernel
theorem dP_init_4 : decode bP_init 4 = .ok (.aload_n 0, 1) := by decide +kernel
theorem dP_init_5 : decode bP_init 5 = .ok (.new 9, 3) := by decide +kernel
theorem dP_init_8 : decode bP_init 8 = .ok (.dup, 1) := by decide +kernel
theorem dP_init_9 : decode bP_init 9 = .ok (.iconst 5, 1) := by decide +kernel
theorem dP_init_10 : decode bP_init 10 = .ok (.invokespecial 11, 3) := by decide +kernel
theorem dP_init_13 : decode bP_init 13 = .ok (.putfield 14, 3) := by decide +kernel
theorem dP_init_16 : decode bP_init 16 = .ok (.aload_n 0, 1) := by decide +kernel
theorem dP_init_17 : decode bP_init 17 = .ok (.new 9, 3) := by decide +kernel
theorem dP_init_20 : decode bP_init 20 = .ok (.dup, 1) := by decide +kernel
theorem dP_init_21 : decode bP_init 21 = .ok (.iconst 5, 1) := by decide +kernel
theorem dP_init_22 : decode bP_init 22 = .ok (.invokespecial 11, 3) := by decide +kernel
theorem dP_init_25 : decode bP_init 25 = .ok (.putfield 20, 3) := by decide +kernel
theorem dP_init_28 : decode bP_init 28 = .ok (.aload_n 0, 1) := by decide +kernel
theorem dP_init_29 : decode bP_init 29 = .ok (.new 9, 3) := by decide +kernel
theorem dP_init_32 : decode bP_init 32 = .ok (.dup, 1) := by decide +kernel
theorem dP_init_33 : decode bP_init 33 = .ok (.iconst 5, 1) := by decide +kernel
theorem dP_init_34 : decode bP_init 34 = .ok (.invokespecial 11, 3) := by decide +kernel
theorem dP_init_37 : decode bP_init 37 = .ok (.putfield 23, 3) := by decide +kernel
theorem dP_init_40 : decode bP_init 40 = .ok (.aload_n 0, 1) := by decide +kernel
theorem dP_init_41 : decode bP_init 41 = .ok (.new 9, 3) := by decide +kernel
theorem dP_init_44 : decode bP_init 44 = .ok (.dup, 1) := by decide +kernel
theorem dP_init_45 : decode bP_init 45 = .ok (.iconst 5, 1) := by decide +kernel
theorem dP_init_46 : decode bP_init 46 = .ok (.invokespecial 11, 3) := by decide +kernel
theorem dP_init_49 : decode bP_init 49 = .ok (.putfield 26, 3) := by decide +kernel
theorem dP_init_52 : decode bP_init 52 = .ok (.aload_n 0, 1) := by decide +kernel
theorem dP_init_53 : decode bP_init 53 = .ok (.new 9, 3) := by decide +kernel
theorem dP_init_56 : decode bP_init 56 = .ok (.dup, 1) := by decide +kernel
theorem dP_init_57 : decode bP_init 57 = .ok (.bipush 100, 2) := by decide +kernel
theorem dP_init_59 : decode bP_init 59 = .ok (.invokespecial 11, 3) := by decide +kernel
theorem dP_init_62 : decode bP_init 62 = .ok (.putfield 29, 3) := by decide +kernel
theorem dP_init_65 : decode bP_init 65 = .ok (.aload_n 0, 1) := by decide +kernel
theorem dP_init_66 : decode bP_init 66 = .ok (.new 9, 3) := by decide +kernel
theorem dP_init_69 : decode bP_init 69 = .ok (.dup, 1) := by decide +kernel
theorem dP_init_70 : decode bP_init 70 = .ok (.iconst 4, 1) := by decide +kernel
theorem dP_init_71 : decode bP_init 71 = .ok (.invokespecial 11, 3) := by decide +kernel
theorem dP_init_74 : decode bP_init 74 = .ok (.putfield 32, 3) := by decide +kernel
theorem dP_init_77 : decode bP_init 77 = .ok (.aload_n 0, 1) := by decide +kernel
theorem dP_init_78 : decode bP_init 78 = .ok (.iconst 3, 1) := by decide +kernel
theorem dP_init_79 : decode bP_init 79 = .ok (.putfield 35, 3) := by decide +kernel
theorem dP_init_82 : decode bP_init 82 = .ok (.aload_n 0, 1) := by decide +kernel
theorem dP_init_83 : decode bP_init 83 = .ok (.iconst 3, 1) := by decide +kernel
theorem dP_init_84 : decode bP_init 84 = .ok (.putfield 39, 3) := by decide +kernel
theorem dP_init_87 : decode bP_init 87 = .ok (.return_, 1) := by decide +kernel
theorem dS_init_0 : decode bS_init 0 = .ok (.aload_n 0, 1) := by decide +kernel
theorem dS_init_1 : decode bS_init 1 = .ok (.invokespecial 3, 3) := by decide +kernel
theorem dS_init_4 : decode bS_init 4 = .ok (.aload_n 0, 1) := by decide +kernel
theorem dS_init_5 : decode bS_init 5 = .ok (.new 9, 3) := by decide +kernel
theorem dS_init_8 : decode bS_init 8 = .ok (.dup, 1) := by decide +kernel
theorem dS_init_9 : decode bS_init 9 = .ok (.iconst 4, 1) := by decide +kernel
theorem dS_init_10 : decode bS_init 10 = .ok (.invokespecial 11, 3) := by decide +kernel
theorem dS_init_13 : decode bS_init 13 = .ok (.putfield 14, 3) := by decide +kernel
theorem dS_init_16 : decode bS_init 16 = .ok (.aload_n 0, 1) := by decide +kernel
theorem dS_init_17 : decode bS_init 17 = .ok (.new 9, 3) := by decide +kernel
theorem dS_init_20 : decode bS_init 20 = .ok (.dup, 1) := by decide +kernel
theorem dS_init_21 : decode bS_init 21 = .ok (.iconst 4, 1) := by decide +kernel
theorem dS_init_22 : decode bS_init 22 = .ok (.invokespecial 11, 3) := by decide +kernel
theorem dS_init_25 : decode bS_init 25 = .ok (.putfield 20, 3) := by decide +kernel
theorem dS_init_28 : decode bS_init 28 = .ok (.aload_n 0, 1) := by decide +kernel
theorem dS_init_29 : decode bS_init 29 = .ok (.new 9, 3) := by decide +kernel
theorem dS_init_32 : decode bS_init 32 = .ok (.dup, 1) := by decide +kernel
theorem dS_init_33 : decode bS_init 33 = .ok (.bipush 100, 2) := by decide +kernel
theorem dS_init_35 : decode bS_init 35 = .ok (.invokespecial 11, 3) := by decide +kernel
theorem dS_init_38 : decode bS_init 38 = .ok (.putfield 23, 3) := by decide +kernel
theorem dS_init_41 : decode bS_init 41 = .ok (.aload_n 0, 1) := by decide +kernel
theorem dS_init_42 : decode bS_init 42 = .ok (.new 9, 3) := by decide +kernel
theorem dS_init_45 : decode bS_init 45 = .ok (.dup, 1) := by decide +kernel
theorem dS_init_46 : decode bS_init 46 = .ok (.bipush 100, 2) := by decide +kernel
theorem dS_init_48 : decode bS_init 48 = .ok (.invokespecial 11, 3) := by decide +kernel
theorem dS_init_51 : decode bS_init 51 = .ok (.putfield 26, 3) := by decide +kernel
theorem dS_init_54 : decode bS_init 54 = .ok (.aload_n 0, 1) := by decide +kernel
theorem dS_init_55 : decode bS_init 55 = .ok (.new 9, 3) := by decide +kernel
theorem dS_init_58 : decode bS_init 58 = .ok (.dup, 1) := by decide +kernel
theorem dS_init_59 : decode bS_init 59 = .ok (.bipush 6, 2) := by decide +kernel
theorem dS_init_61 : decode bS_init 61 = .ok (.invokespecial 11, 3) := by decide +kernel
theorem dS_init_64 : decode bS_init 64 = .ok (.putfield 29, 3) := by decide +kernel
theorem dS_init_67 : decode bS_init 67 = .ok (.return_, 1) := by decide +kernel
theorem dD_init_0 : decode bD_init 0 = .ok (.aload_n 0, 1) := by decide +kernel
theorem dD_init_1 : decode bD_init 1 = .ok (.invokespecial 3, 3) := by decide +kernel
theorem dD_init_4 : decode bD_init 4 = .ok (.aload_n 0, 1) := by decide +kernel
theorem dD_init_5 : decode bD_init 5 = .ok (.new 9, 3) := by decide +kernel
theorem dD_init_8 : decode bD_init 8 = .ok (.dup, 1) := by decide +kernel
theorem dD_init_9 : decode bD_init 9 = .ok (.bipush 10, 2) := by decide +kernel
theorem dD_init_11 : decode bD_init 11 = .ok (.invokespecial 11, 3) := by decide +kernel
theorem dD_init_14 : decode bD_init 14 = .ok (.putfield 14, 3) := by decide +kernel
theorem dD_init_17 : decode bD_init 17 = .ok (.aload_n 0, 1) := by decide +kernel
theorem dD_init_18 : decode bD_init 18 = .ok (.new 9, 3) := by decide +kernel
theorem dD_init_21 : decode bD_init 21 = .ok (.dup, 1) := by decide +kernel
theorem dD_init_22 : decode bD_init 22 = .ok (.bipush 10, 2) := by decide +kernel
theorem dD_init_24 : decode bD_init 24 = .ok (.invokespecial 11, 3) := by decide +kernel
theorem dD_init_27 : decode bD_init 27 = .ok (.putfield 20, 3) := by decide +kernel
theorem dD_init_30 : decode bD_init 30 = .ok (.aload_n 0, 1) := by decide +kernel
theorem dD_init_31 : decode bD_init 31 = .ok (.new 9, 3) := by decide +kernel
theorem dD_init_34 : decode bD_init 34 = .ok (.dup, 1) := by decide +kernel
theorem dD_init_35 : decode bD_init 35 = .ok (.bipush 10, 2) := by decide +kernel
theorem dD_init_37 : decode bD_init 37 = .ok (.invokespecial 11, 3) := by decide +kernel
theorem dD_init_40 : decode bD_init 40 = .ok (.putfield 23, 3) := by decide +kernel
theorem dD_init_43 : decode bD_init 43 = .ok (.return_, 1) := by decide +kernel
theorem dN_init_0 : decode bN_init 0 = .ok (.aload_n 0, 1) := by decide +kernel
theorem dN_init_1 : decode bN_init 1 = .ok (.invokespecial 3, 3) := by decide +kernel
theorem dN_init_4 : decode bN_init 4 = .ok (.aload_n 0, 1) := by decide +kernel
theorem dN_init_5 : decode bN_init 5 = .ok (.new 9, 3) := by decide +kernel
theorem dN_init_8 : decode bN_init 8 = .ok (.dup, 1) := by decide +kernel
theorem dN_init_9 : decode bN_init 9 = .ok (.bipush 6, 2) := by decide +kernel
theorem dN_init_11 : decode bN_init 11 = .ok (.invokespecial 11, 3) := by decide +kernel
theorem dN_init_14 : decode bN_init 14 = .ok (.putfield 14, 3) := by decide +kernel
theorem dN_init_17 : decode bN_init 17 = .ok (.aload_n 0, 1) := by decide +kernel
theorem dN_init_18 : decode bN_init 18 = .ok (.new 9, 3) := by decide +kernel
theorem dN_init_21 : decode bN_init 21 = .ok (.dup, 1) := by decide +kernel
theorem dN_init_22 : decode bN_init 22 = .ok (.bipush 6, 2) := by decide +kernel
theorem dN_init_24 : decode bN_init 24 = .ok (.invokespecial 11, 3) := by decide +kernel
theorem dN_init_27 : decode bN_init 27 = .ok (.putfield 20, 3) := by decide +kernel
theorem dN_init_30 : decode bN_init 30 = .ok (.aload_n 0, 1) := by decide +kernel
theorem dN_init_31 : decode bN_init 31 = .ok (.new 9, 3) := by decide +kernel
theorem dN_init_34 : decode bN_init 34 = .ok (.dup, 1) := by decide +kernel
theorem dN_init_35 : decode bN_init 35 = .ok (.bipush 41, 2) := by decide +kernel
theorem dN_init_37 : decode bN_init 37 = .ok (.invokespecial 11, 3) := by decide +kernel
theorem dN_init_40 : decode bN_init 40 = .ok (.putfield 23, 3) := by decide +kernel
theorem dN_init_43 : decode bN_init 43 = .ok (.return_, 1) := by decide +kernel
theorem dM_init_0 : decode bM_init 0 = .ok (.aload_n 0, 1) := by decide +kernel
theorem dM_init_1 : decode bM_init 1 = .ok (.invokespecial 3, 3) := by decide +kernel
theorem dM_init_4 : decode bM_init 4 = .ok (.aload_n 0, 1) := by decide +kernel
theorem dM_init_5 : decode bM_init 5 = .ok (.new 9, 3) := by decide +kernel
theorem dM_init_8 : decode bM_init 8 = .ok (.dup, 1) := by decide +kernel
theorem dM_init_9 : decode bM_init 9 = .ok (.bipush 6, 2) := by decide +kernel
theorem dM_init_11 : decode bM_init 11 = .ok (.invokespecial 11, 3) := by decide +kernel
theorem dM_init_14 : decode bM_init 14 = .ok (.putfield 14, 3) := by decide +kernel
theorem dM_init_17 : decode bM_init 17 = .ok (.aload_n 0, 1) := by decide +kernel
theorem dM_init_18 : decode bM_init 18 = .ok (.new 9, 3) := by decide +kernel
theorem dM_init_21 : decode bM_init 21 = .ok (.dup, 1) := by decide +kernel
theorem dM_init_22 : decode bM_init 22 = .ok (.bipush 6, 2) := by decide +kernel
theorem dM_init_24 : decode bM_init 24 = .ok (.invokespecial 11, 3) := by decide +kernel
theorem dM_init_27 : decode bM_init 27 = .ok (.putfield 20, 3) := by decide +kernel
theorem dM_init_30 : decode bM_init 30 = .ok (.aload_n 0, 1) := by decide +kernel
theorem dM_init_31 : decode bM_init 31 = .ok (.new 9, 3) := by decide +kernel
theorem dM_init_34 : decode bM_init 34 = .ok (.dup, 1) := by decide +kernel
theorem dM_init_35 : decode bM_init 35 = .ok (.bipush 6, 2) := by decide +kernel
theorem dM_init_37 : decode bM_init 37 = .ok (.invokespecial 11, 3) := by decide +kernel
theorem dM_init_40 : decode bM_init 40 = .ok (.putfield 23, 3) := by decide +kernel
theorem dM_init_43 : decode bM_init 43 = .ok (.aload_n 0, 1) := by decide +kernel
theorem dM_init_44 : decode bM_init 44 = .ok (.new 9, 3) := by decide +kernel
theorem dM_init_47 : decode bM_init 47 = .ok (.dup, 1) := by decide +kernel
theorem dM_init_48 : decode bM_init 48 = .ok (.bipush 6, 2) := by decide +kernel
theorem dM_init_50 : decode bM_init 50 = .ok (.invokespecial 11, 3) := by decide +kernel
theorem dM_init_53 : decode bM_init 53 = .ok (.putfield 26, 3) := by decide +kernel
theorem dM_init_56 : decode bM_init 56 = .ok (.return_, 1) := by decide +kernel
theorem dR_isFull_0 : decode bR_isFull 0 = .ok (.aload_n 0, 1) := by decide +kernel
theorem dR_isFull_1 : decode bR_isFull 1 = .ok (.getfield 19, 3) := by decide +kernel
theorem dR_isFull_4 : decode bR_isFull 4 = .ok (.aload_n 0, 1) := by decide +kernel
theorem dR_isFull_5 : decode bR_isFull 5 = .ok (.getfield 13, 3) := by decide +kernel
theorem dR_isFull_8 : decode bR_isFull 8 = .ok (.arraylength, 1) := by decide +kernel
theorem dR_isFull_9 : decode bR_isFull 9 = .ok (.if_icmp .lt 7, 3) := by decide +kernel
theorem dR_isFull_12 : decode bR_isFull 12 = .ok (.iconst 1, 1) := by decide +kernel
theorem dR_isFull_13 : decode bR_isFull 13 = .ok (.goto 4, 3) := by decide +kernel
theorem dR_isFull_16 : decode bR_isFull 16 = .ok (.iconst 0, 1) := by decide +kernel
theorem dR_isFull_17 : decode bR_isFull 17 = .ok (.ireturn, 1) := by decide +kernel
theorem dR_push_0 : decode bR_push 0 = .ok (.aload_n 0, 1) := by decide +kernel
theorem dR_push_1 : decode bR_push 1 = .ok (.invokevirtual 23, 3) := by decide +kernel
theorem dR_push_4 : decode bR_push 4 = .ok (.ifCond .ne 22, 3) := by decide +kernel
theorem dR_push_7 : decode bR_push 7 = .ok (.aload_n 0, 1) := by decide +kernel
theorem dR_push_8 : decode bR_push 8 = .ok (.aload_n 0, 1) := by decide +kernel
theorem dR_push_9 : decode bR_push 9 = .ok (.getfield 19, 3) := by decide +kernel
theorem dR_push_12 : decode bR_push 12 = .ok (.iload_n 1, 1) := by decide +kernel
theorem dR_push_13 : decode bR_push 13 = .ok (.invokevirtual 27, 3) := by decide +kernel
theorem dR_push_16 : decode bR_push 16 = .ok (.aload_n 0, 1) := by decide +kernel
theorem dR_push_17 : decode bR_push 17 = .ok (.dup, 1) := by decide +kernel
theorem dR_push_18 : decode bR_push 18 = .ok (.getfield 19, 3) := by decide +kernel
theorem dR_push_21 : decode bR_push 21 = .ok (.iconst 1, 1) := by decide +kernel
theorem dR_push_22 : decode bR_push 22 = .ok (.iadd, 1) := by decide +kernel
theorem dR_push_23 : decode bR_push 23 = .ok (.putfield 19, 3) := by decide +kernel
theorem dR_push_26 : decode bR_push 26 = .ok (.return_, 1) := by decide +kernel
theorem dR_put_0 : decode bR_put 0 = .ok (.iload_n 1, 1) := by decide +kernel
theorem dR_put_1 : decode bR_put 1 = .ok (.ifCond .lt 19, 3) := by decide +kernel
theorem dR_put_4 : decode bR_put 4 = .ok (.iload_n 1, 1) := by decide +kernel
theorem dR_put_5 : decode bR_put 5 = .ok (.aload_n 0, 1) := by decide +kernel
theorem dR_put_6 : decode bR_put 6 = .ok (.getfield 13, 3) := by decide +kernel
theorem dR_put_9 : decode bR_put 9 = .ok (.arraylength, 1) := by decide +kernel
theorem dR_put_10 : decode bR_put 10 = .ok (.if_icmp .ge 10, 3) := by decide +kernel
theorem dR_put_13 : decode bR_put 13 = .ok (.aload_n 0, 1) := by decide +kernel
theorem dR_put_14 : decode bR_put 14 = .ok (.getfield 13, 3) := by decide +kernel
theorem dR_put_17 : decode bR_put 17 = .ok (.iload_n 1, 1) := by decide +kernel
theorem dR_put_18 : decode bR_put 18 = .ok (.iload_n 2, 1) := by decide +kernel
theorem dR_put_19 : decode bR_put 19 = .ok (.iastore, 1) := by decide +kernel
theorem dR_put_20 : decode bR_put 20 = .ok (.return_, 1) := by decide +kernel
theorem dR_size_0 : decode bR_size 0 = .ok (.aload_n 0, 1) := by decide +kernel
theorem dR_size_1 : decode bR_size 1 = .ok (.getfield 19, 3) := by decide +kernel
theorem dR_size_4 : decode bR_size 4 = .ok (.ireturn, 1) := by decide +kernel
theorem dR_empty_0 : decode bR_empty 0 = .ok (.iconst 0, 1) := by decide +kernel
theorem dR_empty_1 : decode bR_empty 1 = .ok (.istore_n 1, 1) := by decide +kernel
theorem dR_empty_2 : decode bR_empty 2 = .ok (.iload_n 1, 1) := by decide +kernel
theorem dR_empty_3 : decode bR_empty 3 = .ok (.aload_n 0, 1) := by decide +kernel
theorem dR_empty_4 : decode bR_empty 4 = .ok (.getfield 13, 3) := by decide +kernel
theorem dR_empty_7 : decode bR_empty 7 = .ok (.arraylength, 1) := by decide +kernel
theorem dR_empty_8 : decode bR_empty 8 = .ok (.if_icmp .ge 16, 3) := by decide +kernel
theorem dR_empty_11 : decode bR_empty 11 = .ok (.aload_n 0, 1) := by decide +kernel
theorem dR_empty_12 : decode bR_empty 12 = .ok (.getfield 13, 3) := by decide +kernel
theorem dR_empty_15 : decode bR_empty 15 = .ok (.iload_n 1, 1) := by decide +kernel
theorem dR_empty_16 : decode bR_empty 16 = .ok (.iconst 0, 1) := by decide +kernel
theorem dR_empty_17 : decode bR_empty 17 = .ok (.iastore, 1) := by decide +kernel
theorem dR_empty_18 : decode bR_empty 18 = .ok (.iinc 1 1, 3) := by decide +kernel
theorem dR_empty_21 : decode bR_empty 21 = .ok (.goto (-19), 3) := by decide +kernel
theorem dR_empty_24 : decode bR_empty 24 = .ok (.aload_n 0, 1) := by decide +kernel
theorem dR_empty_25 : decode bR_empty 25 = .ok (.iconst 0, 1) := by decide +kernel
theorem dR_empty_26 : decode bR_empty 26 = .ok (.putfield 19, 3) := by decide +kernel
theorem dR_empty_29 : decode bR_empty 29 = .ok (.return_, 1) := by decide +kernel
theorem dT_readInto_0 : decode bT_readInto 0 = .ok (.aload_n 1, 1) := by decide +kernel
theorem dT_readInto_1 : decode bT_readInto 1 = .ok (.invokevirtual 20, 3) := by decide +kernel
theorem dT_readInto_4 : decode bT_readInto 4 = .ok (.aload_n 0, 1) := by decide +kernel
theorem dT_readInto_5 : decode bT_readInto 5 = .ok (.iconst 0, 1) := by decide +kernel
theorem dT_readInto_6 : decode bT_readInto 6 = .ok (.putfield 25, 3) := by decide +kernel
theorem dT_readInto_9 : decode bT_readInto 9 = .ok (.aload_n 0, 1) := by decide +kernel
theorem dT_readInto_10 : decode bT_readInto 10 = .ok (.iconst 0, 1) := by decide +kernel
theorem dT_readInto_11 : decode bT_readInto 11 = .ok (.putfield 29, 3) := by decide +kernel
theorem dT_readInto_14 : decode bT_readInto 14 = .ok (.aload_n 0, 1) := by decide +kernel
theorem dT_readInto_15 : decode bT_readInto 15 = .ok (.iconst 0, 1) := by decide +kernel
theorem dT_readInto_16 : decode bT_readInto 16 = .ok (.putfield 33, 3) := by decide +kernel
theorem dT_readInto_19 : decode bT_readInto 19 = .ok (.aload_n 0, 1) := by decide +kernel
theorem dT_readInto_20 : decode bT_readInto 20 = .ok (.invokevirtual 36, 3) := by decide +kernel
theorem dT_readInto_23 : decode bT_readInto 23 = .ok (.iconst 0, 1) := by decide +kernel
theorem dT_readInto_24 : decode bT_readInto 24 = .ok (.istore_n 2, 1) := by decide +kernel
theorem dT_readInto_25 : decode bT_readInto 25 = .ok (.iload_n 2, 1) := by decide +kernel
theorem dT_readInto_26 : decode bT_readInto 26 = .ok (.bipush 120, 2) := by decide +kernel
theorem dT_readInto_28 : decode bT_readInto 28 = .ok (.if_icmp .gt 36, 3) := by decide +kernel
theorem dT_readInto_31 : decode bT_readInto 31 = .ok (.aload_n 0, 1) := by decide +kernel
theorem dT_readInto_32 : decode bT_readInto 32 = .ok (.getfield 39, 3) := by decide +kernel
theorem dT_readInto_35 : decode bT_readInto 35 = .ok (.sipush 257, 3) := by decide +kernel
theorem dT_readInto_38 : decode bT_readInto 38 = .ok (.if_icmp .ne 5, 3) := by decide +kernel
theorem dT_readInto_41 : decode bT_readInto 41 = .ok (.iload_n 2, 1) := by decide +kernel
theorem dT_readInto_42 : decode bT_readInto 42 = .ok (.ireturn, 1) := by decide +kernel
theorem dT_readInto_43 : decode bT_readInto 43 = .ok (.aload_n 0, 1) := by decide +kernel
theorem dT_readInto_44 : decode bT_readInto 44 = .ok (.aload_n 1, 1) := by decide +kernel
theorem dT_readInto_45 : decode bT_readInto 45 = .ok (.invokevirtual 42, 3) := by decide +kernel
theorem dT_readInto_48 : decode bT_readInto 48 = .ok (.ifCond .ne 6, 3) := by decide +kernel
theorem dT_readInto_51 : decode bT_readInto 51 = .ok (.goto 13, 3) := by decide +kernel
theorem dT_readInto_54 : decode bT_readInto 54 = .ok (.aload_n 0, 1) := by decide +kernel
theorem dT_readInto_55 : decode bT_readInto 55 = .ok (.invokevirtual 36, 3) := by decide +kernel
theorem dT_readInto_58 : decode bT_readInto 58 = .ok (.iinc 2 1, 3) := by decide +kernel
theorem dT_readInto_61 : decode bT_readInto 61 = .ok (.goto (-36), 3) := by decide +kernel
theorem dT_readInto_64 : decode bT_readInto 64 = .ok (.bipush (-10), 2) := by decide +kernel
theorem dT_readInto_66 : decode bT_readInto 66 = .ok (.aload_n 0, 1) := by decide +kernel
theorem dT_readInto_67 : decode bT_readInto 67 = .ok (.getfield 46, 3) := by decide +kernel
theorem dT_readInto_70 : decode bT_readInto 70 = .ok (.isub, 1) := by decide +kernel
theorem dT_readInto_71 : decode bT_readInto 71 = .ok (.ireturn, 1) := by decide +kernel
theorem dP_begin_0 : decode bP_begin 0 = .ok (.aload_n 0, 1) := by decide +kernel
theorem dP_begin_1 : decode bP_begin 1 = .ok (.getfield 14, 3) := by decide +kernel
theorem dP_begin_4 : decode bP_begin 4 = .ok (.invokevirtual 42, 3) := by decide +kernel
theorem dP_begin_7 : decode bP_begin 7 = .ok (.aload_n 0, 1) := by decide +kernel
theorem dP_begin_8 : decode bP_begin 8 = .ok (.getfield 20, 3) := by decide +kernel
theorem dP_begin_11 : decode bP_begin 11 = .ok (.invokevirtual 42, 3) := by decide +kernel
theorem dP_begin_14 : decode bP_begin 14 = .ok (.aload_n 0, 1) := by decide +kernel
theorem dP_begin_15 : decode bP_begin 15 = .ok (.getfield 23, 3) := by decide +kernel
theorem dP_begin_18 : decode bP_begin 18 = .ok (.invokevirtual 42, 3) := by decide +kernel
theorem dP_begin_21 : decode bP_begin 21 = .ok (.aload_n 0, 1) := by decide +kernel
theorem dP_begin_22 : decode bP_begin 22 = .ok (.getfield 26, 3) := by decide +kernel
theorem dP_begin_25 : decode bP_begin 25 = .ok (.invokevirtual 42, 3) := by decide +kernel
theorem dP_begin_28 : decode bP_begin 28 = .ok (.aload_n 0, 1) := by decide +kernel
theorem dP_begin_29 : decode bP_begin 29 = .ok (.getfield 29, 3) := by decide +kernel
theorem dP_begin_32 : decode bP_begin 32 = .ok (.invokevirtual 42, 3) := by decide +kernel
theorem dP_begin_35 : decode bP_begin 35 = .ok (.aload_n 0, 1) := by decide +kernel
theorem dP_begin_36 : decode bP_begin 36 = .ok (.getfield 32, 3) := by decide +kernel
theorem dP_begin_39 : decode bP_begin 39 = .ok (.invokevirtual 42, 3) := by decide +kernel
theorem dP_begin_42 : decode bP_begin 42 = .ok (.aload_n 0, 1) := by decide +kernel
theorem dP_begin_43 : decode bP_begin 43 = .ok (.iconst 3, 1) := by decide +kernel
theorem dP_begin_44 : decode bP_begin 44 = .ok (.putfield 35, 3) := by decide +kernel
theorem dP_begin_47 : decode bP_begin 47 = .ok (.aload_n 0, 1) := by decide +kernel
theorem dP_begin_48 : decode bP_begin 48 = .ok (.iconst 3, 1) := by decide +kernel
theorem dP_begin_49 : decode bP_begin 49 = .ok (.putfield 39, 3) := by decide +kernel
theorem dP_begin_52 : decode bP_begin 52 = .ok (.return_, 1) := by decide +kernel
theorem dT_nextToken_0 : decode bT_nextToken 0 = .ok (.aload_n 0, 1) := by decide +kernel
theorem dT_nextToken_1 : decode bT_nextToken 1 = .ok (.getfield 25, 3) := by decide +kernel
theorem dT_nextToken_4 : decode bT_nextToken 4 = .ok (.aload_n 0, 1) := by decide +kernel
theorem dT_nextToken_5 : decode bT_nextToken 5 = .ok (.getfield 14, 3) := by decide +kernel
theorem dT_nextToken_8 : decode bT_nextToken 8 = .ok (.invokevirtual 94, 3) := by decide +kernel
theorem dT_nextToken_11 : decode bT_nextToken 11 = .ok (.if_icmp .ge 32, 3) := by decide +kernel
theorem dT_nextToken_14 : decode bT_nextToken 14 = .ok (.aload_n 0, 1) := by decide +kernel
theorem dT_nextToken_15 : decode bT_nextToken 15 = .ok (.getfield 14, 3) := by decide +kernel
theorem dT_nextToken_18 : decode bT_nextToken 18 = .ok (.aload_n 0, 1) := by decide +kernel
theorem dT_nextToken_19 : decode bT_nextToken 19 = .ok (.getfield 25, 3) := by decide +kernel
theorem dT_nextToken_22 : decode bT_nextToken 22 = .ok (.invokevirtual 98, 3) := by decide +kernel
theorem dT_nextToken_25 : decode bT_nextToken 25 = .ok (.bipush 32, 2) := by decide +kernel
theorem dT_nextToken_27 : decode bT_nextToken 27 = .ok (.if_icmp .ne 16, 3) := by decide +kernel
theorem dT_nextToken_30 : decode bT_nextToken 30 = .ok (.aload_n 0, 1) := by decide +kernel
theorem dT_nextToken_31 : decode bT_nextToken 31 = .ok (.dup, 1) := by decide +kernel
theorem dT_nextToken_32 : decode bT_nextToken 32 = .ok (.getfield 25, 3) := by decide +kernel
theorem dT_nextToken_35 : decode bT_nextToken 35 = .ok (.iconst 1, 1) := by decide +kernel
theorem dT_nextToken_36 : decode bT_nextToken 36 = .ok (.iadd, 1) := by decide +kernel
theorem dT_nextToken_37 : decode bT_nextToken 37 = .ok (.putfield 25, 3) := by decide +kernel
theorem dT_nextToken_40 : decode bT_nextToken 40 = .ok (.goto (-40), 3) := by decide +kernel
theorem dT_nextToken_43 : decode bT_nextToken 43 = .ok (.aload_n 0, 1) := by decide +kernel
theorem dT_nextToken_44 : decode bT_nextToken 44 = .ok (.aload_n 0, 1) := by decide +kernel
theorem dT_nextToken_45 : decode bT_nextToken 45 = .ok (.getfield 25, 3) := by decide +kernel
theorem dT_nextToken_48 : decode bT_nextToken 48 = .ok (.putfield 46, 3) := by decide +kernel
theorem dT_nextToken_51 : decode bT_nextToken 51 = .ok (.aload_n 0, 1) := by decide +kernel
theorem dT_nextToken_52 : decode bT_nextToken 52 = .ok (.getfield 25, 3) := by decide +kernel
theorem dT_nextToken_55 : decode bT_nextToken 55 = .ok (.aload_n 0, 1) := by decide +kernel
theorem dT_nextToken_56 : decode bT_nextToken 56 = .ok (.getfield 14, 3) := by decide +kernel
theorem dT_nextToken_59 : decode bT_nextToken 59 = .ok (.invokevirtual 94, 3) := by decide +kernel
theorem dT_nextToken_62 : decode bT_nextToken 62 = .ok (.if_icmp .lt 11, 3) := by decide +kernel
theorem dT_nextToken_65 : decode bT_nextToken 65 = .ok (.aload_n 0, 1) := by decide +kernel
theorem dT_nextToken_66 : decode bT_nextToken 66 = .ok (.sipush 257, 3) := by decide +kernel
theorem dT_nextToken_69 : decode bT_nextToken 69 = .ok (.putfield 39, 3) := by decide +kernel
theorem dT_nextToken_72 : decode bT_nextToken 72 = .ok (.return_, 1) := by decide +kernel
theorem dT_nextToken_73 : decode bT_nextToken 73 = .ok (.aload_n 0, 1) := by decide +kernel
theorem dT_nextToken_74 : decode bT_nextToken 74 = .ok (.aload_n 0, 1) := by decide +kernel
theorem dT_nextToken_75 : decode bT_nextToken 75 = .ok (.getfield 14, 3) := by decide +kernel
theorem dT_nextToken_78 : decode bT_nextToken 78 = .ok (.aload_n 0, 1) := by decide +kernel
theorem dT_nextToken_79 : decode bT_nextToken 79 = .ok (.getfield 25, 3) := by decide +kernel
theorem dT_nextToken_82 : decode bT_nextToken 82 = .ok (.invokevirtual 98, 3) := by decide +kernel
theorem dT_nextToken_85 : decode bT_nextToken 85 = .ok (.putfield 39, 3) := by decide +kernel
theorem dT_nextToken_88 : decode bT_nextToken 88 = .ok (.aload_n 0, 1) := by decide +kernel
theorem dT_nextToken_89 : decode bT_nextToken 89 = .ok (.getfield 39, 3) := by decide +kernel
theorem dT_nextToken_92 : decode bT_nextToken 92 = .ok (.invokestatic 102, 3) := by decide +kernel
theorem dT_nextToken_95 : decode bT_nextToken 95 = .ok (.ifCond .ne 14, 3) := by decide +kernel
theorem dT_nextToken_98 : decode bT_nextToken 98 = .ok (.aload_n 0, 1) := by decide +kernel
theorem dT_nextToken_99 : decode bT_nextToken 99 = .ok (.dup, 1) := by decide +kernel
theorem dT_nextToken_100 : decode bT_nextToken 100 = .ok (.getfield 25, 3) := by decide +kernel
theorem dT_nextToken_103 : decode bT_nextToken 103 = .ok (.iconst 1, 1) := by decide +kernel
theorem dT_nextToken_104 : decode bT_nextToken 104 = .ok (.iadd, 1) := by decide +kernel
theorem dT_nextToken_105 : decode bT_nextToken 105 = .ok (.putfield 25, 3) := by decide +kernel
theorem dT_nextToken_108 : decode bT_nextToken 108 = .ok (.return_, 1) := by decide +kernel
theorem dT_nextToken_109 : decode bT_nextToken 109 = .ok (.aload_n 0, 1) := by decide +kernel
theorem dT_nextToken_110 : decode bT_nextToken 110 = .ok (.iconst 0, 1) := by decide +kernel
theorem dT_nextToken_111 : decode bT_nextToken 111 = .ok (.putfield 75, 3) := by decide +kernel
theorem dT_nextToken_114 : decode bT_nextToken 114 = .ok (.aload_n 0, 1) := by decide +kernel
theorem dT_nextToken_115 : decode bT_nextToken 115 = .ok (.getfield 25, 3) := by decide +kernel
theorem dT_nextToken_118 : decode bT_nextToken 118 = .ok (.aload_n 0, 1) := by decide +kernel
theorem dT_nextToken_119 : decode bT_nextToken 119 = .ok (.getfield 14, 3) := by decide +kernel
theorem dT_nextToken_122 : decode bT_nextToken 122 = .ok (.invokevirtual 94, 3) := by decide +kernel
theorem dT_nextToken_125 : decode bT_nextToken 125 = .ok (.if_icmp .ge 64, 3) := by decide +kernel
theorem dT_nextToken_128 : decode bT_nextToken 128 = .ok (.aload_n 0, 1) := by decide +kernel
theorem dT_nextToken_129 : decode bT_nextToken 129 = .ok (.getfield 14, 3) := by decide +kernel
theorem dT_nextToken_132 : decode bT_nextToken 132 = .ok (.aload_n 0, 1) := by decide +kernel
theorem dT_nextToken_133 : decode bT_nextToken 133 = .ok (.getfield 25, 3) := by decide +kernel
theorem dT_nextToken_136 : decode bT_nextToken 136 = .ok (.invokevirtual 98, 3) := by decide +kernel
theorem dT_nextToken_139 : decode bT_nextToken 139 = .ok (.invokestatic 102, 3) := by decide +kernel
theorem dT_nextToken_142 : decode bT_nextToken 142 = .ok (.ifCond .eq 47, 3) := by decide +kernel
theorem dT_nextToken_145 : decode bT_nextToken 145 = .ok (.aload_n 0, 1) := by decide +kernel
theorem dT_nextToken_146 : decode bT_nextToken 146 = .ok (.bipush 100, 2) := by decide +kernel
theorem dT_nextToken_148 : decode bT_nextToken 148 = .ok (.bipush 10, 2) := by decide +kernel
theorem dT_nextToken_150 : decode bT_nextToken 150 = .ok (.aload_n 0, 1) := by decide +kernel
theorem dT_nextToken_151 : decode bT_nextToken 151 = .ok (.getfield 75, 3) := by decide +kernel
theorem dT_nextToken_154 : decode bT_nextToken 154 = .ok (.imul, 1) := by decide +kernel
theorem dT_nextToken_155 : decode bT_nextToken 155 = .ok (.aload_n 0, 1) := by decide +kernel
theorem dT_nextToken_156 : decode bT_nextToken 156 = .ok (.getfield 14, 3) := by decide +kernel
theorem dT_nextToken_159 : decode bT_nextToken 159 = .ok (.aload_n 0, 1) := by decide +kernel
theorem dT_nextToken_160 : decode bT_nextToken 160 = .ok (.getfield 25, 3) := by decide +kernel
theorem dT_nextToken_163 : decode bT_nextToken 163 = .ok (.invokevirtual 98, 3) := by decide +kernel
theorem dT_nextToken_166 : decode bT_nextToken 166 = .ok (.iadd, 1) := by decide +kernel
theorem dT_nextToken_167 : decode bT_nextToken 167 = .ok (.bipush 48, 2) := by decide +kernel
theorem dT_nextToken_169 : decode bT_nextToken 169 = .ok (.isub, 1) := by decide +kernel
theorem dT_nextToken_170 : decode bT_nextToken 170 = .ok (.invokestatic 106, 3) := by decide +kernel
theorem dT_nextToken_173 : decode bT_nextToken 173 = .ok (.putfield 75, 3) := by decide +kernel
theorem dT_nextToken_176 : decode bT_nextToken 176 = .ok (.aload_n 0, 1) := by decide +kernel
theorem dT_nextToken_177 : decode bT_nextToken 177 = .ok (.dup, 1) := by decide +kernel
theorem dT_nextToken_178 : decode bT_nextToken 178 = .ok (.getfield 25, 3) := by decide +kernel
theorem dT_nextToken_181 : decode bT_nextToken 181 = .ok (.iconst 1, 1) := by decide +kernel
theorem dT_nextToken_182 : decode bT_nextToken 182 = .ok (.iadd, 1) := by decide +kernel
theorem dT_nextToken_183 : decode bT_nextToken 183 = .ok (.putfield 25, 3) := by decide +kernel
theorem dT_nextToken_186 : decode bT_nextToken 186 = .ok (.goto (-72), 3) := by decide +kernel
theorem dT_nextToken_189 : decode bT_nextToken 189 = .ok (.aload_n 0, 1) := by decide +kernel
theorem dT_nextToken_190 : decode bT_nextToken 190 = .ok (.getfield 39, 3) := by decide +kernel
theorem dT_nextToken_193 : decode bT_nextToken 193 = .ok (.bipush 48, 2) := by decide +kernel
theorem dT_nextToken_195 : decode bT_nextToken 195 = .ok (.if_icmp .ne 20, 3) := by decide +kernel
theorem dT_nextToken_198 : decode bT_nextToken 198 = .ok (.aload_n 0, 1) := by decide +kernel
theorem dT_nextToken_199 : decode bT_nextToken 199 = .ok (.getfield 25, 3) := by decide +kernel
theorem dT_nextToken_202 : decode bT_nextToken 202 = .ok (.aload_n 0, 1) := by decide +kernel
theorem dT_nextToken_203 : decode bT_nextToken 203 = .ok (.getfield 46, 3) := by decide +kernel
theorem dT_nextToken_206 : decode bT_nextToken 206 = .ok (.iconst 1, 1) := by decide +kernel
theorem dT_nextToken_207 : decode bT_nextToken 207 = .ok (.iadd, 1) := by decide +kernel
theorem dT_nextToken_208 : decode bT_nextToken 208 = .ok (.if_icmp .le 7, 3) := by decide +kernel
theorem dT_nextToken_211 : decode bT_nextToken 211 = .ok (.iconst 1, 1) := by decide +kernel
theorem dT_nextToken_212 : decode bT_nextToken 212 = .ok (.goto 4, 3) := by decide +kernel
theorem dT_nextToken_215 : decode bT_nextToken 215 = .ok (.iconst 0, 1) := by decide +kernel
theorem dT_nextToken_216 : decode bT_nextToken 216 = .ok (.istore_n 1, 1) := by decide +kernel
theorem dT_nextToken_217 : decode bT_nextToken 217 = .ok (.iload_n 1, 1) := by decide +kernel
theorem dT_nextToken_218 : decode bT_nextToken 218 = .ok (.ifCond .ne 12, 3) := by decide +kernel
theorem dT_nextToken_221 : decode bT_nextToken 221 = .ok (.aload_n 0, 1) := by decide +kernel
theorem dT_nextToken_222 : decode bT_nextToken 222 = .ok (.getfield 75, 3) := by decide +kernel
theorem dT_nextToken_225 : decode bT_nextToken 225 = .ok (.bipush 99, 2) := by decide +kernel
theorem dT_nextToken_227 : decode bT_nextToken 227 = .ok (.if_icmp .le 8, 3) := by decide +kernel
theorem dT_nextToken_230 : decode bT_nextToken 230 = .ok (.aload_n 0, 1) := by decide +kernel
theorem dT_nextToken_231 : decode bT_nextToken 231 = .ok (.iconst (-1), 1) := by decide +kernel
theorem dT_nextToken_232 : decode bT_nextToken 232 = .ok (.putfield 75, 3) := by decide +kernel
theorem dT_nextToken_235 : decode bT_nextToken 235 = .ok (.aload_n 0, 1) := by decide +kernel
theorem dT_nextToken_236 : decode bT_nextToken 236 = .ok (.sipush 256, 3) := by decide +kernel
theorem dT_nextToken_239 : decode bT_nextToken 239 = .ok (.putfield 39, 3) := by decide +kernel
theorem dT_nextToken_242 : decode bT_nextToken 242 = .ok (.return_, 1) := by decide +kernel
theorem dR_at_0 : decode bR_at 0 = .ok (.iload_n 1, 1) := by decide +kernel
theorem dR_at_1 : decode bR_at 1 = .ok (.ifCond .lt 12, 3) := by decide +kernel
theorem dR_at_4 : decode bR_at 4 = .ok (.iload_n 1, 1) := by decide +kernel
theorem dR_at_5 : decode bR_at 5 = .ok (.aload_n 0, 1) := by decide +kernel
theorem dR_at_6 : decode bR_at 6 = .ok (.getfield 13, 3) := by decide +kernel
theorem dR_at_9 : decode bR_at 9 = .ok (.arraylength, 1) := by decide +kernel
theorem dR_at_10 : decode bR_at 10 = .ok (.if_icmp .lt 7, 3) := by decide +kernel
theorem dR_at_13 : decode bR_at 13 = .ok (.iconst 0, 1) := by decide +kernel
theorem dR_at_14 : decode bR_at 14 = .ok (.goto 9, 3) := by decide +kernel
theorem dR_at_17 : decode bR_at 17 = .ok (.aload_n 0, 1) := by decide +kernel
theorem dR_at_18 : decode bR_at 18 = .ok (.getfield 13, 3) := by decide +kernel
theorem dR_at_21 : decode bR_at 21 = .ok (.iload_n 1, 1) := by decide +kernel
theorem dR_at_22 : decode bR_at 22 = .ok (.iaload, 1) := by decide +kernel
theorem dR_at_23 : decode bR_at 23 = .ok (.ireturn, 1) := by decide +kernel
theorem dT_isDigit_0 : decode bT_isDigit 0 = .ok (.iload_n 0, 1) := by decide +kernel
theorem dT_isDigit_1 : decode bT_isDigit 1 = .ok (.bipush 48, 2) := by decide +kernel
theorem dT_isDigit_3 : decode bT_isDigit 3 = .ok (.if_icmp .lt 13, 3) := by decide +kernel
theorem dT_isDigit_6 : decode bT_isDigit 6 = .ok (.iload_n 0, 1) := by decide +kernel
theorem dT_isDigit_7 : decode bT_isDigit 7 = .ok (.bipush 57, 2) := by decide +kernel
theorem dT_isDigit_9 : decode bT_isDigit 9 = .ok (.if_icmp .gt 7, 3) := by decide +kernel
theorem dT_isDigit_12 : decode bT_isDigit 12 = .ok (.iconst 1, 1) := by decide +kernel
theorem dT_isDigit_13 : decode bT_isDigit 13 = .ok (.goto 4, 3) := by decide +kernel
theorem dT_isDigit_16 : decode bT_isDigit 16 = .ok (.iconst 0, 1) := by decide +kernel
theorem dT_isDigit_17 : decode bT_isDigit 17 = .ok (.ireturn, 1) := by decide +kernel
theorem dK_min_0 : decode bK_min 0 = .ok (.iload_n 0, 1) := by decide +kernel
theorem dK_min_1 : decode bK_min 1 = .ok (.iload_n 1, 1) := by decide +kernel
theorem dK_min_2 : decode bK_min 2 = .ok (.if_icmp .gt 7, 3) := by decide +kernel
theorem dK_min_5 : decode bK_min 5 = .ok (.iload_n 0, 1) := by decide +kernel
theorem dK_min_6 : decode bK_min 6 = .ok (.goto 4, 3) := by decide +kernel
theorem dK_min_9 : decode bK_min 9 = .ok (.iload_n 1, 1) := by decide +kernel
theorem dK_min_10 : decode bK_min 10 = .ok (.ireturn, 1) := by decide +kernel
theorem dT_readItem_0 : decode bT_readItem 0 = .ok (.aload_n 0, 1) := by decide +kernel
theorem dT_readItem_1 : decode bT_readItem 1 = .ok (.getfield 39, 3) := by decide +kernel
theorem dT_readItem_4 : decode bT_readItem 4 = .ok (.lookupswitch 134 #[(98, 113), (114, 92), (115, 44), (116, 68)], 44) := by decide +kernel
theorem dT_readItem_48 : decode bT_readItem 48 = .ok (.aload_n 1, 1) := by decide +kernel
theorem dT_readItem_49 : decode bT_readItem 49 = .ok (.getfield 49, 3) := by decide +kernel
theorem dT_readItem_52 : decode bT_readItem 52 = .ok (.invokevirtual 52, 3) := by decide +kernel
theorem dT_readItem_55 : decode bT_readItem 55 = .ok (.ifCond .ne 15, 3) := by decide +kernel
theorem dT_readItem_58 : decode bT_readItem 58 = .ok (.aload_n 0, 1) := by decide +kernel
theorem dT_readItem_59 : decode bT_readItem 59 = .ok (.aload_n 1, 1) := by decide +kernel
theorem dT_readItem_60 : decode bT_readItem 60 = .ok (.invokevirtual 56, 3) := by decide +kernel
theorem dT_readItem_63 : decode bT_readItem 63 = .ok (.ifCond .eq 7, 3) := by decide +kernel
theorem dT_readItem_66 : decode bT_readItem 66 = .ok (.iconst 1, 1) := by decide +kernel
theorem dT_readItem_67 : decode bT_readItem 67 = .ok (.goto 4, 3) := by decide +kernel
theorem dT_readItem_70 : decode bT_readItem 70 = .ok (.iconst 0, 1) := by decide +kernel
theorem dT_readItem_71 : decode bT_readItem 71 = .ok (.ireturn, 1) := by decide +kernel
theorem dT_readItem_72 : decode bT_readItem 72 = .ok (.aload_n 1, 1) := by decide +kernel
theorem dT_readItem_73 : decode bT_readItem 73 = .ok (.getfield 59, 3) := by decide +kernel
theorem dT_readItem_76 : decode bT_readItem 76 = .ok (.invokevirtual 52, 3) := by decide +kernel
theorem dT_readItem_79 : decode bT_readItem 79 = .ok (.ifCond .ne 15, 3) := by decide +kernel
theorem dT_readItem_82 : decode bT_readItem 82 = .ok (.aload_n 0, 1) := by decide +kernel
theorem dT_readItem_83 : decode bT_readItem 83 = .ok (.aload_n 1, 1) := by decide +kernel
theorem dT_readItem_84 : decode bT_readItem 84 = .ok (.invokevirtual 62, 3) := by decide +kernel
theorem dT_readItem_87 : decode bT_readItem 87 = .ok (.ifCond .eq 7, 3) := by decide +kernel
theorem dT_readItem_90 : decode bT_readItem 90 = .ok (.iconst 1, 1) := by decide +kernel
theorem dT_readItem_91 : decode bT_readItem 91 = .ok (.goto 4, 3) := by decide +kernel
theorem dT_readItem_94 : decode bT_readItem 94 = .ok (.iconst 0, 1) := by decide +kernel
theorem dT_readItem_95 : decode bT_readItem 95 = .ok (.ireturn, 1) := by decide +kernel
theorem dT_readItem_96 : decode bT_readItem 96 = .ok (.aload_n 0, 1) := by decide +kernel
theorem dT_readItem_97 : decode bT_readItem 97 = .ok (.getfield 29, 3) := by decide +kernel
theorem dT_readItem_100 : decode bT_readItem 100 = .ok (.ifCond .ne 15, 3) := by decide +kernel
theorem dT_readItem_103 : decode bT_readItem 103 = .ok (.aload_n 0, 1) := by decide +kernel
theorem dT_readItem_104 : decode bT_readItem 104 = .ok (.aload_n 1, 1) := by decide +kernel
theorem dT_readItem_105 : decode bT_readItem 105 = .ok (.invokevirtual 65, 3) := by decide +kernel
theorem dT_readItem_108 : decode bT_readItem 108 = .ok (.ifCond .eq 7, 3) := by decide +kernel
theorem dT_readItem_111 : decode bT_readItem 111 = .ok (.iconst 1, 1) := by decide +kernel
theorem dT_readItem_112 : decode bT_readItem 112 = .ok (.goto 4, 3) := by decide +kernel
theorem dT_readItem_115 : decode bT_readItem 115 = .ok (.iconst 0, 1) := by decide +kernel
theorem dT_readItem_116 : decode bT_readItem 116 = .ok (.ireturn, 1) := by decide +kernel
theorem dT_readItem_117 : decode bT_readItem 117 = .ok (.aload_n 0, 1) := by decide +kernel
theorem dT_readItem_118 : decode bT_readItem 118 = .ok (.getfield 33, 3) := by decide +kernel
theorem dT_readItem_121 : decode bT_readItem 121 = .ok (.ifCond .ne 15, 3) := by decide +kernel
theorem dT_readItem_124 : decode bT_readItem 124 = .ok (.aload_n 0, 1) := by decide +kernel
theorem dT_readItem_125 : decode bT_readItem 125 = .ok (.aload_n 1, 1) := by decide +kernel
theorem dT_readItem_126 : decode bT_readItem 126 = .ok (.invokevirtual 68, 3) := by decide +kernel
theorem dT_readItem_129 : decode bT_readItem 129 = .ok (.ifCond .eq 7, 3) := by decide +kernel
theorem dT_readItem_132 : decode bT_readItem 132 = .ok (.iconst 1, 1) := by decide +kernel
theorem dT_readItem_133 : decode bT_readItem 133 = .ok (.goto 4, 3) := by decide +kernel
theorem dT_readItem_136 : decode bT_readItem 136 = .ok (.iconst 0, 1) := by decide +kernel
theorem dT_readItem_137 : decode bT_readItem 137 = .ok (.ireturn, 1) := by decide +kernel
theorem dT_readItem_138 : decode bT_readItem 138 = .ok (.iconst 0, 1) := by decide +kernel
theorem dT_readItem_139 : decode bT_readItem 139 = .ok (.ireturn, 1) := by decide +kernel
theorem dT_readStretch_0 : decode bT_readStretch 0 = .ok (.aload_n 0, 1) := by decide +kernel
theorem dT_readStretch_1 : decode bT_readStretch 1 = .ok (.iconst 1, 1) := by decide +kernel
theorem dT_readStretch_2 : decode bT_readStretch 2 = .ok (.bipush 20, 2) := by decide +kernel
theorem dT_readStretch_4 : decode bT_readStretch 4 = .ok (.invokevirtual 71, 3) := by decide +kernel
theorem dT_readStretch_7 : decode bT_readStretch 7 = .ok (.ifCond .ne 5, 3) := by decide +kernel
theorem dT_readStretch_10 : decode bT_readStretch 10 = .ok (.iconst 0, 1) := by decide +kernel
theorem dT_readStretch_11 : decode bT_readStretch 11 = .ok (.ireturn, 1) := by decide +kernel
theorem dT_readStretch_12 : decode bT_readStretch 12 = .ok (.aload_n 0, 1) := by decide +kernel
theorem dT_readStretch_13 : decode bT_readStretch 13 = .ok (.getfield 75, 3) := by decide +kernel
theorem dT_readStretch_16 : decode bT_readStretch 16 = .ok (.istore_n 2, 1) := by decide +kernel
theorem dT_readStretch_17 : decode bT_readStretch 17 = .ok (.aload_n 0, 1) := by decide +kernel
theorem dT_readStretch_18 : decode bT_readStretch 18 = .ok (.iconst 1, 1) := by decide +kernel
theorem dT_readStretch_19 : decode bT_readStretch 19 = .ok (.bipush 20, 2) := by decide +kernel
theorem dT_readStretch_21 : decode bT_readStretch 21 = .ok (.invokevirtual 71, 3) := by decide +kernel
theorem dT_readStretch_24 : decode bT_readStretch 24 = .ok (.ifCond .ne 5, 3) := by decide +kernel
theorem dT_readStretch_27 : decode bT_readStretch 27 = .ok (.iconst 0, 1) := by decide +kernel
theorem dT_readStretch_28 : decode bT_readStretch 28 = .ok (.ireturn, 1) := by decide +kernel
theorem dT_readStretch_29 : decode bT_readStretch 29 = .ok (.aload_n 0, 1) := by decide +kernel
theorem dT_readStretch_30 : decode bT_readStretch 30 = .ok (.getfield 75, 3) := by decide +kernel
theorem dT_readStretch_33 : decode bT_readStretch 33 = .ok (.istore_n 3, 1) := by decide +kernel
theorem dT_readStretch_34 : decode bT_readStretch 34 = .ok (.aload_n 0, 1) := by decide +kernel
theorem dT_readStretch_35 : decode bT_readStretch 35 = .ok (.iconst 0, 1) := by decide +kernel
theorem dT_readStretch_36 : decode bT_readStretch 36 = .ok (.bipush 6, 2) := by decide +kernel
theorem dT_readStretch_38 : decode bT_readStretch 38 = .ok (.invokevirtual 71, 3) := by decide +kernel
theorem dT_readStretch_41 : decode bT_readStretch 41 = .ok (.ifCond .ne 5, 3) := by decide +kernel
theorem dT_readStretch_44 : decode bT_readStretch 44 = .ok (.iconst 0, 1) := by decide +kernel
theorem dT_readStretch_45 : decode bT_readStretch 45 = .ok (.ireturn, 1) := by decide +kernel
theorem dT_readStretch_46 : decode bT_readStretch 46 = .ok (.aload_n 1, 1) := by decide +kernel
theorem dT_readStretch_47 : decode bT_readStretch 47 = .ok (.iload_n 2, 1) := by decide +kernel
theorem dT_readStretch_48 : decode bT_readStretch 48 = .ok (.iload_n 3, 1) := by decide +kernel
theorem dT_readStretch_49 : decode bT_readStretch 49 = .ok (.aload_n 0, 1) := by decide +kernel
theorem dT_readStretch_50 : decode bT_readStretch 50 = .ok (.getfield 75, 3) := by decide +kernel
theorem dT_readStretch_53 : decode bT_readStretch 53 = .ok (.iconst 3, 1) := by decide +kernel
theorem dT_readStretch_54 : decode bT_readStretch 54 = .ok (.isub, 1) := by decide +kernel
theorem dT_readStretch_55 : decode bT_readStretch 55 = .ok (.invokevirtual 78, 3) := by decide +kernel
theorem dT_readStretch_58 : decode bT_readStretch 58 = .ok (.aload_n 0, 1) := by decide +kernel
theorem dT_readStretch_59 : decode bT_readStretch 59 = .ok (.invokevirtual 82, 3) := by decide +kernel
theorem dT_readStretch_62 : decode bT_readStretch 62 = .ok (.ireturn, 1) := by decide +kernel
theorem dT_readNumber_0 : decode bT_readNumber 0 = .ok (.aload_n 0, 1) := by decide +kernel
theorem dT_readNumber_1 : decode bT_readNumber 1 = .ok (.invokevirtual 36, 3) := by decide +kernel
theorem dT_readNumber_4 : decode bT_readNumber 4 = .ok (.aload_n 0, 1) := by decide +kernel
theorem dT_readNumber_5 : decode bT_readNumber 5 = .ok (.getfield 39, 3) := by decide +kernel
theorem dT_readNumber_8 : decode bT_readNumber 8 = .ok (.sipush 256, 3) := by decide +kernel
theorem dT_readNumber_11 : decode bT_readNumber 11 = .ok (.if_icmp .ne 23, 3) := by decide +kernel
theorem dT_readNumber_14 : decode bT_readNumber 14 = .ok (.aload_n 0, 1) := by decide +kernel
theorem dT_readNumber_15 : decode bT_readNumber 15 = .ok (.getfield 75, 3) := by decide +kernel
theorem dT_readNumber_18 : decode bT_readNumber 18 = .ok (.iload_n 1, 1) := by decide +kernel
theorem dT_readNumber_19 : decode bT_readNumber 19 = .ok (.if_icmp .lt 15, 3) := by decide +kernel
theorem dT_readNumber_22 : decode bT_readNumber 22 = .ok (.aload_n 0, 1) := by decide +kernel
theorem dT_readNumber_23 : decode bT_readNumber 23 = .ok (.getfield 75, 3) := by decide +kernel
theorem dT_readNumber_26 : decode bT_readNumber 26 = .ok (.iload_n 2, 1) := by decide +kernel
theorem dT_readNumber_27 : decode bT_readNumber 27 = .ok (.if_icmp .gt 7, 3) := by decide +kernel
theorem dT_readNumber_30 : decode bT_readNumber 30 = .ok (.iconst 1, 1) := by decide +kernel
theorem dT_readNumber_31 : decode bT_readNumber 31 = .ok (.goto 4, 3) := by decide +kernel
theorem dT_readNumber_34 : decode bT_readNumber 34 = .ok (.iconst 0, 1) := by decide +kernel
theorem dT_readNumber_35 : decode bT_readNumber 35 = .ok (.ireturn, 1) := by decide +kernel
theorem dP_addStretch_0 : decode bP_addStretch 0 = .ok (.aload_n 0, 1) := by decide +kernel
theorem dP_addStretch_1 : decode bP_addStretch 1 = .ok (.getfield 14, 3) := by decide +kernel
theorem dP_addStretch_4 : decode bP_addStretch 4 = .ok (.iload_n 1, 1) := by decide +kernel
theorem dP_addStretch_5 : decode bP_addStretch 5 = .ok (.invokevirtual 45, 3) := by decide +kernel
theorem dP_addStretch_8 : decode bP_addStretch 8 = .ok (.aload_n 0, 1) := by decide +kernel
theorem dP_addStretch_9 : decode bP_addStretch 9 = .ok (.getfield 20, 3) := by decide +kernel
theorem dP_addStretch_12 : decode bP_addStretch 12 = .ok (.iload_n 2, 1) := by decide +kernel
theorem dP_addStretch_13 : decode bP_addStretch 13 = .ok (.invokevirtual 45, 3) := by decide +kernel
theorem dP_addStretch_16 : decode bP_addStretch 16 = .ok (.aload_n 0, 1) := by decide +kernel
theorem dP_addStretch_17 : decode bP_addStretch 17 = .ok (.getfield 23, 3) := by decide +kernel
theorem dP_addStretch_20 : decode bP_addStretch 20 = .ok (.iload_n 3, 1) := by decide +kernel
theorem dP_addStretch_21 : decode bP_addStretch 21 = .ok (.invokevirtual 45, 3) := by decide +kernel
theorem dP_addStretch_24 : decode bP_addStretch 24 = .ok (.iconst 0, 1) := by decide +kernel
theorem dP_addStretch_25 : decode bP_addStretch 25 = .ok (.istore 4, 2) := by decide +kernel
theorem dP_addStretch_27 : decode bP_addStretch 27 = .ok (.iload 4, 2) := by decide +kernel
theorem dP_addStretch_29 : decode bP_addStretch 29 = .ok (.iload_n 1, 1) := by decide +kernel
theorem dP_addStretch_30 : decode bP_addStretch 30 = .ok (.if_icmp .ge 26, 3) := by decide +kernel
theorem dP_addStretch_33 : decode bP_addStretch 33 = .ok (.aload_n 0, 1) := by decide +kernel
theorem dP_addStretch_34 : decode bP_addStretch 34 = .ok (.getfield 29, 3) := by decide +kernel
theorem dP_addStretch_37 : decode bP_addStretch 37 = .ok (.iconst 1, 1) := by decide +kernel
theorem dP_addStretch_38 : decode bP_addStretch 38 = .ok (.iload_n 2, 1) := by decide +kernel
theorem dP_addStretch_39 : decode bP_addStretch 39 = .ok (.iload 4, 2) := by decide +kernel
theorem dP_addStretch_41 : decode bP_addStretch 41 = .ok (.iload_n 3, 1) := by decide +kernel
theorem dP_addStretch_42 : decode bP_addStretch 42 = .ok (.imul, 1) := by decide +kernel
theorem dP_addStretch_43 : decode bP_addStretch 43 = .ok (.iadd, 1) := by decide +kernel
theorem dP_addStretch_44 : decode bP_addStretch 44 = .ok (.invokestatic 48, 3) := by decide +kernel
theorem dP_addStretch_47 : decode bP_addStretch 47 = .ok (.invokevirtual 45, 3) := by decide +kernel
theorem dP_addStretch_50 : decode bP_addStretch 50 = .ok (.iinc 4 1, 3) := by decide +kernel
theorem dP_addStretch_53 : decode bP_addStretch 53 = .ok (.goto (-26), 3) := by decide +kernel
theorem dP_addStretch_56 : decode bP_addStretch 56 = .ok (.aload_n 0, 1) := by decide +kernel
theorem dP_addStretch_57 : decode bP_addStretch 57 = .ok (.getfield 26, 3) := by decide +kernel
theorem dP_addStretch_60 : decode bP_addStretch 60 = .ok (.aload_n 0, 1) := by decide +kernel
theorem dP_addStretch_61 : decode bP_addStretch 61 = .ok (.getfield 29, 3) := by decide +kernel
theorem dP_addStretch_64 : decode bP_addStretch 64 = .ok (.invokevirtual 54, 3) := by decide +kernel
theorem dP_addStretch_67 : decode bP_addStretch 67 = .ok (.invokevirtual 45, 3) := by decide +kernel
theorem dP_addStretch_70 : decode bP_addStretch 70 = .ok (.return_, 1) := by decide +kernel
theorem dT_readItemEnd_0 : decode bT_readItemEnd 0 = .ok (.aload_n 0, 1) := by decide +kernel
theorem dT_readItemEnd_1 : decode bT_readItemEnd 1 = .ok (.invokevirtual 36, 3) := by decide +kernel
theorem dT_readItemEnd_4 : decode bT_readItemEnd 4 = .ok (.aload_n 0, 1) := by decide +kernel
theorem dT_readItemEnd_5 : decode bT_readItemEnd 5 = .ok (.getfield 39, 3) := by decide +kernel
theorem dT_readItemEnd_8 : decode bT_readItemEnd 8 = .ok (.bipush 59, 2) := by decide +kernel
theorem dT_readItemEnd_10 : decode bT_readItemEnd 10 = .ok (.if_icmp .ne 7, 3) := by decide +kernel
theorem dT_readItemEnd_13 : decode bT_readItemEnd 13 = .ok (.iconst 1, 1) := by decide +kernel
theorem dT_readItemEnd_14 : decode bT_readItemEnd 14 = .ok (.goto 4, 3) := by decide +kernel
theorem dT_readItemEnd_17 : decode bT_readItemEnd 17 = .ok (.iconst 0, 1) := by decide +kernel
theorem dT_readItemEnd_18 : decode bT_readItemEnd 18 = .ok (.ireturn, 1) := by decide +kernel
theorem dT_readTraveller_0 : decode bT_readTraveller 0 = .ok (.aload_n 0, 1) := by decide +kernel
theorem dT_readTraveller_1 : decode bT_readTraveller 1 = .ok (.iconst 1, 1) := by decide +kernel
theorem dT_readTraveller_2 : decode bT_readTraveller 2 = .ok (.bipush 99, 2) := by decide +kernel
theorem dT_readTraveller_4 : decode bT_readTraveller 4 = .ok (.invokevirtual 71, 3) := by decide +kernel
theorem dT_readTraveller_7 : decode bT_readTraveller 7 = .ok (.ifCond .ne 5, 3) := by decide +kernel
theorem dT_readTraveller_10 : decode bT_readTraveller 10 = .ok (.iconst 0, 1) := by decide +kernel
theorem dT_readTraveller_11 : decode bT_readTraveller 11 = .ok (.ireturn, 1) := by decide +kernel
theorem dT_readTraveller_12 : decode bT_readTraveller 12 = .ok (.aload_n 1, 1) := by decide +kernel
theorem dT_readTraveller_13 : decode bT_readTraveller 13 = .ok (.getfield 59, 3) := by decide +kernel
theorem dT_readTraveller_16 : decode bT_readTraveller 16 = .ok (.aload_n 0, 1) := by decide +kernel
theorem dT_readTraveller_17 : decode bT_readTraveller 17 = .ok (.getfield 75, 3) := by decide +kernel
theorem dT_readTraveller_20 : decode bT_readTraveller 20 = .ok (.invokevirtual 85, 3) := by decide +kernel
theorem dT_readTraveller_23 : decode bT_readTraveller 23 = .ok (.aload_n 0, 1) := by decide +kernel
theorem dT_readTraveller_24 : decode bT_readTraveller 24 = .ok (.invokevirtual 82, 3) := by decide +kernel
theorem dT_readTraveller_27 : decode bT_readTraveller 27 = .ok (.ireturn, 1) := by decide +kernel
theorem dT_readReach_0 : decode bT_readReach 0 = .ok (.aload_n 0, 1) := by decide +kernel
theorem dT_readReach_1 : decode bT_readReach 1 = .ok (.iconst 1, 1) := by decide +kernel
theorem dT_readReach_2 : decode bT_readReach 2 = .ok (.bipush 9, 2) := by decide +kernel
theorem dT_readReach_4 : decode bT_readReach 4 = .ok (.invokevirtual 71, 3) := by decide +kernel
theorem dT_readReach_7 : decode bT_readReach 7 = .ok (.ifCond .ne 5, 3) := by decide +kernel
theorem dT_readReach_10 : decode bT_readReach 10 = .ok (.iconst 0, 1) := by decide +kernel
theorem dT_readReach_11 : decode bT_readReach 11 = .ok (.ireturn, 1) := by decide +kernel
theorem dT_readReach_12 : decode bT_readReach 12 = .ok (.aload_n 1, 1) := by decide +kernel
theorem dT_readReach_13 : decode bT_readReach 13 = .ok (.aload_n 0, 1) := by decide +kernel
theorem dT_readReach_14 : decode bT_readReach 14 = .ok (.getfield 75, 3) := by decide +kernel
theorem dT_readReach_17 : decode bT_readReach 17 = .ok (.putfield 88, 3) := by decide +kernel
theorem dT_readReach_20 : decode bT_readReach 20 = .ok (.aload_n 0, 1) := by decide +kernel
theorem dT_readReach_21 : decode bT_readReach 21 = .ok (.iconst 1, 1) := by decide +kernel
theorem dT_readReach_22 : decode bT_readReach 22 = .ok (.putfield 29, 3) := by decide +kernel
theorem dT_readReach_25 : decode bT_readReach 25 = .ok (.aload_n 0, 1) := by decide +kernel
theorem dT_readReach_26 : decode bT_readReach 26 = .ok (.invokevirtual 82, 3) := by decide +kernel
theorem dT_readReach_29 : decode bT_readReach 29 = .ok (.ireturn, 1) := by decide +kernel
theorem dT_readBoys_0 : decode bT_readBoys 0 = .ok (.aload_n 0, 1) := by decide +kernel
theorem dT_readBoys_1 : decode bT_readBoys 1 = .ok (.iconst 2, 1) := by decide +kernel
theorem dT_readBoys_2 : decode bT_readBoys 2 = .ok (.bipush 9, 2) := by decide +kernel
theorem dT_readBoys_4 : decode bT_readBoys 4 = .ok (.invokevirtual 71, 3) := by decide +kernel
theorem dT_readBoys_7 : decode bT_readBoys 7 = .ok (.ifCond .ne 5, 3) := by decide +kernel
theorem dT_readBoys_10 : decode bT_readBoys 10 = .ok (.iconst 0, 1) := by decide +kernel
theorem dT_readBoys_11 : decode bT_readBoys 11 = .ok (.ireturn, 1) := by decide +kernel
theorem dT_readBoys_12 : decode bT_readBoys 12 = .ok (.aload_n 1, 1) := by decide +kernel
theorem dT_readBoys_13 : decode bT_readBoys 13 = .ok (.aload_n 0, 1) := by decide +kernel
theorem dT_readBoys_14 : decode bT_readBoys 14 = .ok (.getfield 75, 3) := by decide +kernel
theorem dT_readBoys_17 : decode bT_readBoys 17 = .ok (.putfield 91, 3) := by decide +kernel
theorem dT_readBoys_20 : decode bT_readBoys 20 = .ok (.aload_n 0, 1) := by decide +kernel
theorem dT_readBoys_21 : decode bT_readBoys 21 = .ok (.iconst 1, 1) := by decide +kernel
theorem dT_readBoys_22 : decode bT_readBoys 22 = .ok (.putfield 33, 3) := by decide +kernel
theorem dT_readBoys_25 : decode bT_readBoys 25 = .ok (.aload_n 0, 1) := by decide +kernel
theorem dT_readBoys_26 : decode bT_readBoys 26 = .ok (.invokevirtual 82, 3) := by decide +kernel
theorem dT_readBoys_29 : decode bT_readBoys 29 = .ok (.ireturn, 1) := by decide +kernel
theorem dS_begin_0 : decode bS_begin 0 = .ok (.aload_n 0, 1) := by decide +kernel
theorem dS_begin_1 : decode bS_begin 1 = .ok (.getfield 14, 3) := by decide +kernel
theorem dS_begin_4 : decode bS_begin 4 = .ok (.invokevirtual 32, 3) := by decide +kernel
theorem dS_begin_7 : decode bS_begin 7 = .ok (.aload_n 0, 1) := by decide +kernel
theorem dS_begin_8 : decode bS_begin 8 = .ok (.getfield 20, 3) := by decide +kernel
theorem dS_begin_11 : decode bS_begin 11 = .ok (.invokevirtual 32, 3) := by decide +kernel
theorem dS_begin_14 : decode bS_begin 14 = .ok (.aload_n 0, 1) := by decide +kernel
theorem dS_begin_15 : decode bS_begin 15 = .ok (.getfield 23, 3) := by decide +kernel
theorem dS_begin_18 : decode bS_begin 18 = .ok (.invokevirtual 32, 3) := by decide +kernel
theorem dS_begin_21 : decode bS_begin 21 = .ok (.aload_n 0, 1) := by decide +kernel
theorem dS_begin_22 : decode bS_begin 22 = .ok (.getfield 26, 3) := by decide +kernel
theorem dS_begin_25 : decode bS_begin 25 = .ok (.invokevirtual 32, 3) := by decide +kernel
theorem dS_begin_28 : decode bS_begin 28 = .ok (.aload_n 0, 1) := by decide +kernel
theorem dS_begin_29 : decode bS_begin 29 = .ok (.getfield 29, 3) := by decide +kernel
theorem dS_begin_32 : decode bS_begin 32 = .ok (.invokevirtual 32, 3) := by decide +kernel
theorem dS_begin_35 : decode bS_begin 35 = .ok (.return_, 1) := by decide +kernel
theorem dD_empty_0 : decode bD_empty 0 = .ok (.aload_n 0, 1) := by decide +kernel
theorem dD_empty_1 : decode bD_empty 1 = .ok (.getfield 14, 3) := by decide +kernel
theorem dD_empty_4 : decode bD_empty 4 = .ok (.invokevirtual 30, 3) := by decide +kernel
theorem dD_empty_7 : decode bD_empty 7 = .ok (.aload_n 0, 1) := by decide +kernel
theorem dD_empty_8 : decode bD_empty 8 = .ok (.getfield 20, 3) := by decide +kernel
theorem dD_empty_11 : decode bD_empty 11 = .ok (.invokevirtual 30, 3) := by decide +kernel
theorem dD_empty_14 : decode bD_empty 14 = .ok (.aload_n 0, 1) := by decide +kernel
theorem dD_empty_15 : decode bD_empty 15 = .ok (.getfield 23, 3) := by decide +kernel
theorem dD_empty_18 : decode bD_empty 18 = .ok (.invokevirtual 30, 3) := by decide +kernel
theorem dD_empty_21 : decode bD_empty 21 = .ok (.return_, 1) := by decide +kernel
theorem dN_empty_0 : decode bN_empty 0 = .ok (.aload_n 0, 1) := by decide +kernel
theorem dN_empty_1 : decode bN_empty 1 = .ok (.getfield 14, 3) := by decide +kernel
theorem dN_empty_4 : decode bN_empty 4 = .ok (.invokevirtual 26, 3) := by decide +kernel
theorem dN_empty_7 : decode bN_empty 7 = .ok (.aload_n 0, 1) := by decide +kernel
theorem dN_empty_8 : decode bN_empty 8 = .ok (.getfield 20, 3) := by decide +kernel
theorem dN_empty_11 : decode bN_empty 11 = .ok (.invokevirtual 26, 3) := by decide +kernel
theorem dN_empty_14 : decode bN_empty 14 = .ok (.return_, 1) := by decide +kernel
theorem dM_empty_0 : decode bM_empty 0 = .ok (.aload_n 0, 1) := by decide +kernel
theorem dM_empty_1 : decode bM_empty 1 = .ok (.getfield 14, 3) := by decide +kernel
theorem dM_empty_4 : decode bM_empty 4 = .ok (.invokevirtual 29, 3) := by decide +kernel
theorem dM_empty_7 : decode bM_empty 7 = .ok (.aload_n 0, 1) := by decide +kernel
theorem dM_empty_8 : decode bM_empty 8 = .ok (.getfield 20, 3) := by decide +kernel
theorem dM_empty_11 : decode bM_empty 11 = .ok (.invokevirtual 29, 3) := by decide +kernel
theorem dM_empty_14 : decode bM_empty 14 = .ok (.aload_n 0, 1) := by decide +kernel
theorem dM_empty_15 : decode bM_empty 15 = .ok (.getfield 23, 3) := by decide +kernel
theorem dM_empty_18 : decode bM_empty 18 = .ok (.invokevirtual 29, 3) := by decide +kernel
theorem dM_empty_21 : decode bM_empty 21 = .ok (.return_, 1) := by decide +kernel
theorem dP_hasStretch_0 : decode bP_hasStretch 0 = .ok (.iload_n 1, 1) := by decide +kernel
theorem dP_hasStretch_1 : decode bP_hasStretch 1 = .ok (.ifCond .lt 18, 3) := by decide +kernel
theorem dP_hasStretch_4 : decode bP_hasStretch 4 = .ok (.iload_n 1, 1) := by decide +kernel
theorem dP_hasStretch_5 : decode bP_hasStretch 5 = .ok (.aload_n 0, 1) := by decide +kernel
theorem dP_hasStretch_6 : decode bP_hasStretch 6 = .ok (.getfield 14, 3) := by decide +kernel
theorem dP_hasStretch_9 : decode bP_hasStretch 9 = .ok (.invokevirtual 54, 3) := by decide +kernel
theorem dP_hasStretch_12 : decode bP_hasStretch 12 = .ok (.if_icmp .ge 7, 3) := by decide +kernel
theorem dP_hasStretch_15 : decode bP_hasStretch 15 = .ok (.iconst 1, 1) := by decide +kernel
theorem dP_hasStretch_16 : decode bP_hasStretch 16 = .ok (.goto 4, 3) := by decide +kernel
theorem dP_hasStretch_19 : decode bP_hasStretch 19 = .ok (.iconst 0, 1) := by decide +kernel
theorem dP_hasStretch_20 : decode bP_hasStretch 20 = .ok (.ireturn, 1) := by decide +kernel
theorem dP_landingMark_0 : decode bP_landingMark 0 = .ok (.aload_n 0, 1) := by decide +kernel
theorem dP_landingMark_1 : decode bP_landingMark 1 = .ok (.getfield 26, 3) := by decide +kernel
theorem dP_landingMark_4 : decode bP_landingMark 4 = .ok (.iload_n 1, 1) := by decide +kernel
theorem dP_landingMark_5 : decode bP_landingMark 5 = .ok (.iconst 1, 1) := by decide +kernel
theorem dP_landingMark_6 : decode bP_landingMark 6 = .ok (.isub, 1) := by decide +kernel
theorem dP_landingMark_7 : decode bP_landingMark 7 = .ok (.invokevirtual 58, 3) := by decide +kernel
theorem dP_landingMark_10 : decode bP_landingMark 10 = .ok (.ireturn, 1) := by decide +kernel
theorem dP_hasTraveller_0 : decode bP_hasTraveller 0 = .ok (.iload_n 1, 1) := by decide +kernel
theorem dP_hasTraveller_1 : decode bP_hasTraveller 1 = .ok (.ifCond .lt 18, 3) := by decide +kernel
theorem dP_hasTraveller_4 : decode bP_hasTraveller 4 = .ok (.iload_n 1, 1) := by decide +kernel
theorem dP_hasTraveller_5 : decode bP_hasTraveller 5 = .ok (.aload_n 0, 1) := by decide +kernel
theorem dP_hasTraveller_6 : decode bP_hasTraveller 6 = .ok (.getfield 32, 3) := by decide +kernel
theorem dP_hasTraveller_9 : decode bP_hasTraveller 9 = .ok (.invokevirtual 54, 3) := by decide +kernel
theorem dP_hasTraveller_12 : decode bP_hasTraveller 12 = .ok (.if_icmp .ge 7, 3) := by decide +kernel
theorem dP_hasTraveller_15 : decode bP_hasTraveller 15 = .ok (.iconst 1, 1) := by decide +kernel
theorem dP_hasTraveller_16 : decode bP_hasTraveller 16 = .ok (.goto 4, 3) := by decide +kernel
theorem dP_hasTraveller_19 : decode bP_hasTraveller 19 = .ok (.iconst 0, 1) := by decide +kernel
theorem dP_hasTraveller_20 : decode bP_hasTraveller 20 = .ok (.ireturn, 1) := by decide +kernel
theorem dP_hasThousand_0 : decode bP_hasThousand 0 = .ok (.iload_n 1, 1) := by decide +kernel
theorem dP_hasThousand_1 : decode bP_hasThousand 1 = .ok (.ifCond .lt 18, 3) := by decide +kernel
theorem dP_hasThousand_4 : decode bP_hasThousand 4 = .ok (.iload_n 1, 1) := by decide +kernel
theorem dP_hasThousand_5 : decode bP_hasThousand 5 = .ok (.aload_n 0, 1) := by decide +kernel
theorem dP_hasThousand_6 : decode bP_hasThousand 6 = .ok (.getfield 29, 3) := by decide +kernel
theorem dP_hasThousand_9 : decode bP_hasThousand 9 = .ok (.invokevirtual 54, 3) := by decide +kernel
theorem dP_hasThousand_12 : decode bP_hasThousand 12 = .ok (.if_icmp .ge 7, 3) := by decide +kernel
theorem dP_hasThousand_15 : decode bP_hasThousand 15 = .ok (.iconst 1, 1) := by decide +kernel
theorem dP_hasThousand_16 : decode bP_hasThousand 16 = .ok (.goto 4, 3) := by decide +kernel
theorem dP_hasThousand_19 : decode bP_hasThousand 19 = .ok (.iconst 0, 1) := by decide +kernel
theorem dP_hasThousand_20 : decode bP_hasThousand 20 = .ok (.ireturn, 1) := by decide +kernel
theorem dS_wearOf_0 : decode bS_wearOf 0 = .ok (.sipush 9999, 3) := by decide +kernel
theorem dS_wearOf_3 : decode bS_wearOf 3 = .ok (.iload_n 1, 1) := by decide +kernel
theorem dS_wearOf_4 : decode bS_wearOf 4 = .ok (.ifCond .ne 14, 3) := by decide +kernel
theorem dS_wearOf_7 : decode bS_wearOf 7 = .ok (.aload_n 0, 1) := by decide +kernel
theorem dS_wearOf_8 : decode bS_wearOf 8 = .ok (.getfield 23, 3) := by decide +kernel
theorem dS_wearOf_11 : decode bS_wearOf 11 = .ok (.iload_n 2, 1) := by decide +kernel
theorem dS_wearOf_12 : decode bS_wearOf 12 = .ok (.invokevirtual 39, 3) := by decide +kernel
theorem dS_wearOf_15 : decode bS_wearOf 15 = .ok (.goto 11, 3) := by decide +kernel
theorem dS_wearOf_18 : decode bS_wearOf 18 = .ok (.aload_n 0, 1) := by decide +kernel
theorem dS_wearOf_19 : decode bS_wearOf 19 = .ok (.getfield 26, 3) := by decide +kernel
theorem dS_wearOf_22 : decode bS_wearOf 22 = .ok (.iload_n 2, 1) := by decide +kernel
theorem dS_wearOf_23 : decode bS_wearOf 23 = .ok (.invokevirtual 39, 3) := by decide +kernel
theorem dS_wearOf_26 : decode bS_wearOf 26 = .ok (.invokestatic 53, 3) := by decide +kernel
theorem dS_wearOf_29 : decode bS_wearOf 29 = .ok (.ireturn, 1) := by decide +kernel
theorem dP_topMark_0 : decode bP_topMark 0 = .ok (.aload_n 0, 1) := by decide +kernel
theorem dP_topMark_1 : decode bP_topMark 1 = .ok (.getfield 29, 3) := by decide +kernel
theorem dP_topMark_4 : decode bP_topMark 4 = .ok (.invokevirtual 54, 3) := by decide +kernel
theorem dP_topMark_7 : decode bP_topMark 7 = .ok (.ireturn, 1) := by decide +kernel
theorem dS_staying_0 : decode bS_staying 0 = .ok (.aload_n 0, 1) := by decide +kernel
theorem dS_staying_1 : decode bS_staying 1 = .ok (.getfield 20, 3) := by decide +kernel
theorem dS_staying_4 : decode bS_staying 4 = .ok (.invokevirtual 43, 3) := by decide +kernel
theorem dS_staying_7 : decode bS_staying 7 = .ok (.ireturn, 1) := by decide +kernel
theorem dR_sum_0 : decode bR_sum 0 = .ok (.iconst 0, 1) := by decide +kernel
theorem dR_sum_1 : decode bR_sum 1 = .ok (.istore_n 1, 1) := by decide +kernel
theorem dR_sum_2 : decode bR_sum 2 = .ok (.iconst 0, 1) := by decide +kernel
theorem dR_sum_3 : decode bR_sum 3 = .ok (.istore_n 2, 1) := by decide +kernel
theorem dR_sum_4 : decode bR_sum 4 = .ok (.iload_n 2, 1) := by decide +kernel
theorem dR_sum_5 : decode bR_sum 5 = .ok (.aload_n 0, 1) := by decide +kernel
theorem dR_sum_6 : decode bR_sum 6 = .ok (.getfield 13, 3) := by decide +kernel
theorem dR_sum_9 : decode bR_sum 9 = .ok (.arraylength, 1) := by decide +kernel
theorem dR_sum_10 : decode bR_sum 10 = .ok (.if_icmp .ge 18, 3) := by decide +kernel
theorem dR_sum_13 : decode bR_sum 13 = .ok (.iload_n 1, 1) := by decide +kernel
theorem dR_sum_14 : decode bR_sum 14 = .ok (.aload_n 0, 1) := by decide +kernel
theorem dR_sum_15 : decode bR_sum 15 = .ok (.getfield 13, 3) := by decide +kernel
theorem dR_sum_18 : decode bR_sum 18 = .ok (.iload_n 2, 1) := by decide +kernel
theorem dR_sum_19 : decode bR_sum 19 = .ok (.iaload, 1) := by decide +kernel
theorem dR_sum_20 : decode bR_sum 20 = .ok (.iadd, 1) := by decide +kernel
theorem dR_sum_21 : decode bR_sum 21 = .ok (.istore_n 1, 1) := by decide +kernel
theorem dR_sum_22 : decode bR_sum 22 = .ok (.iinc 2 1, 3) := by decide +kernel
theorem dR_sum_25 : decode bR_sum 25 = .ok (.goto (-21), 3) := by decide +kernel
theorem dR_sum_28 : decode bR_sum 28 = .ok (.iload_n 1, 1) := by decide +kernel
theorem dR_sum_29 : decode bR_sum 29 = .ok (.ireturn, 1) := by decide +kernel
theorem dS_allWear_0 : decode bS_allWear 0 = .ok (.iconst 0, 1) := by decide +kernel
theorem dS_allWear_1 : decode bS_allWear 1 = .ok (.istore_n 1, 1) := by decide +kernel
theorem dS_allWear_2 : decode bS_allWear 2 = .ok (.iconst 0, 1) := by decide +kernel
theorem dS_allWear_3 : decode bS_allWear 3 = .ok (.istore_n 2, 1) := by decide +kernel
theorem dS_allWear_4 : decode bS_allWear 4 = .ok (.iload_n 2, 1) := by decide +kernel
theorem dS_allWear_5 : decode bS_allWear 5 = .ok (.bipush 100, 2) := by decide +kernel
theorem dS_allWear_7 : decode bS_allWear 7 = .ok (.if_icmp .ge 25, 3) := by decide +kernel
theorem dS_allWear_10 : decode bS_allWear 10 = .ok (.iload_n 1, 1) := by decide +kernel
theorem dS_allWear_11 : decode bS_allWear 11 = .ok (.aload_n 0, 1) := by decide +kernel
theorem dS_allWear_12 : decode bS_allWear 12 = .ok (.iconst 0, 1) := by decide +kernel
theorem dS_allWear_13 : decode bS_allWear 13 = .ok (.iload_n 2, 1) := by decide +kernel
theorem dS_allWear_14 : decode bS_allWear 14 = .ok (.invokevirtual 60, 3) := by decide +kernel
theorem dS_allWear_17 : decode bS_allWear 17 = .ok (.aload_n 0, 1) := by decide +kernel
theorem dS_allWear_18 : decode bS_allWear 18 = .ok (.iconst 1, 1) := by decide +kernel
theorem dS_allWear_19 : decode bS_allWear 19 = .ok (.iload_n 2, 1) := by decide +kernel
theorem dS_allWear_20 : decode bS_allWear 20 = .ok (.invokevirtual 60, 3) := by decide +kernel
theorem dS_allWear_23 : decode bS_allWear 23 = .ok (.iadd, 1) := by decide +kernel
theorem dS_allWear_24 : decode bS_allWear 24 = .ok (.iadd, 1) := by decide +kernel
theorem dS_allWear_25 : decode bS_allWear 25 = .ok (.istore_n 1, 1) := by decide +kernel
theorem dS_allWear_26 : decode bS_allWear 26 = .ok (.iinc 2 1, 3) := by decide +kernel
theorem dS_allWear_29 : decode bS_allWear 29 = .ok (.goto (-25), 3) := by decide +kernel
theorem dS_allWear_32 : decode bS_allWear 32 = .ok (.iload_n 1, 1) := by decide +kernel
theorem dS_allWear_33 : decode bS_allWear 33 = .ok (.ireturn, 1) := by decide +kernel
theorem dP_steepest_0 : decode bP_steepest 0 = .ok (.bipush (-9), 2) := by decide +kernel
theorem dP_steepest_2 : decode bP_steepest 2 = .ok (.istore_n 1, 1) := by decide +kernel
theorem dP_steepest_3 : decode bP_steepest 3 = .ok (.iconst 0, 1) := by decide +kernel
theorem dP_steepest_4 : decode bP_steepest 4 = .ok (.istore_n 2, 1) := by decide +kernel
theorem dP_steepest_5 : decode bP_steepest 5 = .ok (.iload_n 2, 1) := by decide +kernel
theorem dP_steepest_6 : decode bP_steepest 6 = .ok (.aload_n 0, 1) := by decide +kernel
theorem dP_steepest_7 : decode bP_steepest 7 = .ok (.getfield 29, 3) := by decide +kernel
theorem dP_steepest_10 : decode bP_steepest 10 = .ok (.invokevirtual 54, 3) := by decide +kernel
theorem dP_steepest_13 : decode bP_steepest 13 = .ok (.if_icmp .ge 36, 3) := by decide +kernel
theorem dP_steepest_16 : decode bP_steepest 16 = .ok (.iload_n 1, 1) := by decide +kernel
theorem dP_steepest_17 : decode bP_steepest 17 = .ok (.bipush (-9), 2) := by decide +kernel
theorem dP_steepest_19 : decode bP_steepest 19 = .ok (.if_icmp .eq 22, 3) := by decide +kernel
theorem dP_steepest_22 : decode bP_steepest 22 = .ok (.aload_n 0, 1) := by decide +kernel
theorem dP_steepest_23 : decode bP_steepest 23 = .ok (.getfield 29, 3) := by decide +kernel
theorem dP_steepest_26 : decode bP_steepest 26 = .ok (.iload_n 2, 1) := by decide +kernel
theorem dP_steepest_27 : decode bP_steepest 27 = .ok (.invokevirtual 58, 3) := by decide +kernel
theorem dP_steepest_30 : decode bP_steepest 30 = .ok (.aload_n 0, 1) := by decide +kernel
theorem dP_steepest_31 : decode bP_steepest 31 = .ok (.getfield 29, 3) := by decide +kernel
theorem dP_steepest_34 : decode bP_steepest 34 = .ok (.iload_n 1, 1) := by decide +kernel
theorem dP_steepest_35 : decode bP_steepest 35 = .ok (.invokevirtual 58, 3) := by decide +kernel
theorem dP_steepest_38 : decode bP_steepest 38 = .ok (.if_icmp .le 5, 3) := by decide +kernel
theorem dP_steepest_41 : decode bP_steepest 41 = .ok (.iload_n 2, 1) := by decide +kernel
theorem dP_steepest_42 : decode bP_steepest 42 = .ok (.istore_n 1, 1) := by decide +kernel
theorem dP_steepest_43 : decode bP_steepest 43 = .ok (.iinc 2 1, 3) := by decide +kernel
theorem dP_steepest_46 : decode bP_steepest 46 = .ok (.goto (-41), 3) := by decide +kernel
theorem dP_steepest_49 : decode bP_steepest 49 = .ok (.iload_n 1, 1) := by decide +kernel
theorem dP_steepest_50 : decode bP_steepest 50 = .ok (.ireturn, 1) := by decide +kernel
theorem dP_daysWith_0 : decode bP_daysWith 0 = .ok (.iconst 0, 1) := by decide +kernel
theorem dP_daysWith_1 : decode bP_daysWith 1 = .ok (.istore_n 2, 1) := by decide +kernel
theorem dP_daysWith_2 : decode bP_daysWith 2 = .ok (.iconst 0, 1) := by decide +kernel
theorem dP_daysWith_3 : decode bP_daysWith 3 = .ok (.istore_n 3, 1) := by decide +kernel
theorem dP_daysWith_4 : decode bP_daysWith 4 = .ok (.iload_n 3, 1) := by decide +kernel
theorem dP_daysWith_5 : decode bP_daysWith 5 = .ok (.aload_n 0, 1) := by decide +kernel
theorem dP_daysWith_6 : decode bP_daysWith 6 = .ok (.getfield 14, 3) := by decide +kernel
theorem dP_daysWith_9 : decode bP_daysWith 9 = .ok (.invokevirtual 54, 3) := by decide +kernel
theorem dP_daysWith_12 : decode bP_daysWith 12 = .ok (.if_icmp .ge 27, 3) := by decide +kernel
theorem dP_daysWith_15 : decode bP_daysWith 15 = .ok (.iload_n 2, 1) := by decide +kernel
theorem dP_daysWith_16 : decode bP_daysWith 16 = .ok (.aload_n 0, 1) := by decide +kernel
theorem dP_daysWith_17 : decode bP_daysWith 17 = .ok (.getfield 14, 3) := by decide +kernel
theorem dP_daysWith_20 : decode bP_daysWith 20 = .ok (.iload_n 3, 1) := by decide +kernel
theorem dP_daysWith_21 : decode bP_daysWith 21 = .ok (.invokevirtual 58, 3) := by decide +kernel
theorem dP_daysWith_24 : decode bP_daysWith 24 = .ok (.aload_n 0, 1) := by decide +kernel
theorem dP_daysWith_25 : decode bP_daysWith 25 = .ok (.getfield 35, 3) := by decide +kernel
theorem dP_daysWith_28 : decode bP_daysWith 28 = .ok (.invokestatic 65, 3) := by decide +kernel
theorem dP_daysWith_31 : decode bP_daysWith 31 = .ok (.iadd, 1) := by decide +kernel
theorem dP_daysWith_32 : decode bP_daysWith 32 = .ok (.istore_n 2, 1) := by decide +kernel
theorem dP_daysWith_33 : decode bP_daysWith 33 = .ok (.iinc 3 1, 3) := by decide +kernel
theorem dP_daysWith_36 : decode bP_daysWith 36 = .ok (.goto (-32), 3) := by decide +kernel
theorem dP_daysWith_39 : decode bP_daysWith 39 = .ok (.iload_n 2, 1) := by decide +kernel
theorem dP_daysWith_40 : decode bP_daysWith 40 = .ok (.iload_n 1, 1) := by decide +kernel
theorem dP_daysWith_41 : decode bP_daysWith 41 = .ok (.iconst 1, 1) := by decide +kernel
theorem dP_daysWith_42 : decode bP_daysWith 42 = .ok (.isub, 1) := by decide +kernel
theorem dP_daysWith_43 : decode bP_daysWith 43 = .ok (.invokestatic 65, 3) := by decide +kernel
theorem dP_daysWith_46 : decode bP_daysWith 46 = .ok (.ireturn, 1) := by decide +kernel
theorem dD_known_0 : decode bD_known 0 = .ok (.aload_n 0, 1) := by decide +kernel
theorem dD_known_1 : decode bD_known 1 = .ok (.getfield 14, 3) := by decide +kernel
theorem dD_known_4 : decode bD_known 4 = .ok (.invokevirtual 26, 3) := by decide +kernel
theorem dD_known_7 : decode bD_known 7 = .ok (.ireturn, 1) := by decide +kernel
theorem dS_hasStayed_0 : decode bS_hasStayed 0 = .ok (.aload_n 0, 1) := by decide +kernel
theorem dS_hasStayed_1 : decode bS_hasStayed 1 = .ok (.getfield 20, 3) := by decide +kernel
theorem dS_hasStayed_4 : decode bS_hasStayed 4 = .ok (.iload_n 1, 1) := by decide +kernel
theorem dS_hasStayed_5 : decode bS_hasStayed 5 = .ok (.invokevirtual 39, 3) := by decide +kernel
theorem dS_hasStayed_8 : decode bS_hasStayed 8 = .ok (.ifCond .eq 7, 3) := by decide +kernel
theorem dS_hasStayed_11 : decode bS_hasStayed 11 = .ok (.iconst 1, 1) := by decide +kernel
theorem dS_hasStayed_12 : decode bS_hasStayed 12 = .ok (.goto 4, 3) := by decide +kernel
theorem dS_hasStayed_15 : decode bS_hasStayed 15 = .ok (.iconst 0, 1) := by decide +kernel
theorem dS_hasStayed_16 : decode bS_hasStayed 16 = .ok (.ireturn, 1) := by decide +kernel
theorem dS_wearWay_0 : decode bS_wearWay 0 = .ok (.iload_n 1, 1) := by decide +kernel
theorem dS_wearWay_1 : decode bS_wearWay 1 = .ok (.iload_n 2, 1) := by decide +kernel
theorem dS_wearWay_2 : decode bS_wearWay 2 = .ok (.if_icmp .ge 10, 3) := by decide +kernel
theorem dS_wearWay_5 : decode bS_wearWay 5 = .ok (.aload_n 0, 1) := by decide +kernel
theorem dS_wearWay_6 : decode bS_wearWay 6 = .ok (.getfield 23, 3) := by decide +kernel
theorem dS_wearWay_9 : decode bS_wearWay 9 = .ok (.goto 7, 3) := by decide +kernel
theorem dS_wearWay_12 : decode bS_wearWay 12 = .ok (.aload_n 0, 1) := by decide +kernel
theorem dS_wearWay_13 : decode bS_wearWay 13 = .ok (.getfield 26, 3) := by decide +kernel
theorem dS_wearWay_16 : decode bS_wearWay 16 = .ok (.astore 4, 2) := by decide +kernel
theorem dS_wearWay_18 : decode bS_wearWay 18 = .ok (.iload_n 1, 1) := by decide +kernel
theorem dS_wearWay_19 : decode bS_wearWay 19 = .ok (.iload_n 2, 1) := by decide +kernel
theorem dS_wearWay_20 : decode bS_wearWay 20 = .ok (.invokestatic 47, 3) := by decide +kernel
theorem dS_wearWay_23 : decode bS_wearWay 23 = .ok (.istore 5, 2) := by decide +kernel
theorem dS_wearWay_25 : decode bS_wearWay 25 = .ok (.iload_n 1, 1) := by decide +kernel
theorem dS_wearWay_26 : decode bS_wearWay 26 = .ok (.iload_n 2, 1) := by decide +kernel
theorem dS_wearWay_27 : decode bS_wearWay 27 = .ok (.invokestatic 53, 3) := by decide +kernel
theorem dS_wearWay_30 : decode bS_wearWay 30 = .ok (.istore 6, 2) := by decide +kernel
theorem dS_wearWay_32 : decode bS_wearWay 32 = .ok (.iload 6, 2) := by decide +kernel
theorem dS_wearWay_34 : decode bS_wearWay 34 = .ok (.iload 5, 2) := by decide +kernel
theorem dS_wearWay_36 : decode bS_wearWay 36 = .ok (.if_icmp .ge 25, 3) := by decide +kernel
theorem dS_wearWay_39 : decode bS_wearWay 39 = .ok (.aload 4, 2) := by decide +kernel
theorem dS_wearWay_41 : decode bS_wearWay 41 = .ok (.iload 6, 2) := by decide +kernel
theorem dS_wearWay_43 : decode bS_wearWay 43 = .ok (.aload 4, 2) := by decide +kernel
theorem dS_wearWay_45 : decode bS_wearWay 45 = .ok (.iload 6, 2) := by decide +kernel
theorem dS_wearWay_47 : decode bS_wearWay 47 = .ok (.invokevirtual 39, 3) := by decide +kernel
theorem dS_wearWay_50 : decode bS_wearWay 50 = .ok (.iload_n 3, 1) := by decide +kernel
theorem dS_wearWay_51 : decode bS_wearWay 51 = .ok (.iadd, 1) := by decide +kernel
theorem dS_wearWay_52 : decode bS_wearWay 52 = .ok (.invokevirtual 56, 3) := by decide +kernel
theorem dS_wearWay_55 : decode bS_wearWay 55 = .ok (.iinc 6 1, 3) := by decide +kernel
theorem dS_wearWay_58 : decode bS_wearWay 58 = .ok (.goto (-26), 3) := by decide +kernel
theorem dS_wearWay_61 : decode bS_wearWay 61 = .ok (.return_, 1) := by decide +kernel
theorem dD_add_0 : decode bD_add 0 = .ok (.aload_n 0, 1) := by decide +kernel
theorem dD_add_1 : decode bD_add 1 = .ok (.getfield 14, 3) := by decide +kernel
theorem dD_add_4 : decode bD_add 4 = .ok (.invokevirtual 33, 3) := by decide +kernel
theorem dD_add_7 : decode bD_add 7 = .ok (.ifCond .eq 8, 3) := by decide +kernel
theorem dD_add_10 : decode bD_add 10 = .ok (.aload_n 0, 1) := by decide +kernel
theorem dD_add_11 : decode bD_add 11 = .ok (.iconst 0, 1) := by decide +kernel
theorem dD_add_12 : decode bD_add 12 = .ok (.invokevirtual 37, 3) := by decide +kernel
theorem dD_add_15 : decode bD_add 15 = .ok (.aload_n 0, 1) := by decide +kernel
theorem dD_add_16 : decode bD_add 16 = .ok (.getfield 14, 3) := by decide +kernel
theorem dD_add_19 : decode bD_add 19 = .ok (.iload_n 1, 1) := by decide +kernel
theorem dD_add_20 : decode bD_add 20 = .ok (.invokevirtual 40, 3) := by decide +kernel
theorem dD_add_23 : decode bD_add 23 = .ok (.aload_n 0, 1) := by decide +kernel
theorem dD_add_24 : decode bD_add 24 = .ok (.getfield 20, 3) := by decide +kernel
theorem dD_add_27 : decode bD_add 27 = .ok (.iload_n 2, 1) := by decide +kernel
theorem dD_add_28 : decode bD_add 28 = .ok (.invokevirtual 40, 3) := by decide +kernel
theorem dD_add_31 : decode bD_add 31 = .ok (.aload_n 0, 1) := by decide +kernel
theorem dD_add_32 : decode bD_add 32 = .ok (.getfield 23, 3) := by decide +kernel
theorem dD_add_35 : decode bD_add 35 = .ok (.iload_n 3, 1) := by decide +kernel
theorem dD_add_36 : decode bD_add 36 = .ok (.invokevirtual 40, 3) := by decide +kernel
theorem dD_add_39 : decode bD_add 39 = .ok (.return_, 1) := by decide +kernel
theorem dD_drop_0 : decode bD_drop 0 = .ok (.aload_n 0, 1) := by decide +kernel
theorem dD_drop_1 : decode bD_drop 1 = .ok (.getfield 14, 3) := by decide +kernel
theorem dD_drop_4 : decode bD_drop 4 = .ok (.iload_n 1, 1) := by decide +kernel
theorem dD_drop_5 : decode bD_drop 5 = .ok (.invokevirtual 66, 3) := by decide +kernel
theorem dD_drop_8 : decode bD_drop 8 = .ok (.aload_n 0, 1) := by decide +kernel
theorem dD_drop_9 : decode bD_drop 9 = .ok (.getfield 20, 3) := by decide +kernel
theorem dD_drop_12 : decode bD_drop 12 = .ok (.iload_n 1, 1) := by decide +kernel
theorem dD_drop_13 : decode bD_drop 13 = .ok (.invokevirtual 66, 3) := by decide +kernel
theorem dD_drop_16 : decode bD_drop 16 = .ok (.aload_n 0, 1) := by decide +kernel
theorem dD_drop_17 : decode bD_drop 17 = .ok (.getfield 23, 3) := by decide +kernel
theorem dD_drop_20 : decode bD_drop 20 = .ok (.iload_n 1, 1) := by decide +kernel
theorem dD_drop_21 : decode bD_drop 21 = .ok (.invokevirtual 66, 3) := by decide +kernel
theorem dD_drop_24 : decode bD_drop 24 = .ok (.return_, 1) := by decide +kernel
theorem dR_remove_0 : decode bR_remove 0 = .ok (.iload_n 1, 1) := by decide +kernel
theorem dR_remove_1 : decode bR_remove 1 = .ok (.ifCond .lt 11, 3) := by decide +kernel
theorem dR_remove_4 : decode bR_remove 4 = .ok (.iload_n 1, 1) := by decide +kernel
theorem dR_remove_5 : decode bR_remove 5 = .ok (.aload_n 0, 1) := by decide +kernel
theorem dR_remove_6 : decode bR_remove 6 = .ok (.getfield 19, 3) := by decide +kernel
theorem dR_remove_9 : decode bR_remove 9 = .ok (.if_icmp .lt 4, 3) := by decide +kernel
theorem dR_remove_12 : decode bR_remove 12 = .ok (.return_, 1) := by decide +kernel
theorem dR_remove_13 : decode bR_remove 13 = .ok (.aload_n 0, 1) := by decide +kernel
theorem dR_remove_14 : decode bR_remove 14 = .ok (.dup, 1) := by decide +kernel
theorem dR_remove_15 : decode bR_remove 15 = .ok (.getfield 19, 3) := by decide +kernel
theorem dR_remove_18 : decode bR_remove 18 = .ok (.iconst 1, 1) := by decide +kernel
theorem dR_remove_19 : decode bR_remove 19 = .ok (.isub, 1) := by decide +kernel
theorem dR_remove_20 : decode bR_remove 20 = .ok (.putfield 19, 3) := by decide +kernel
theorem dR_remove_23 : decode bR_remove 23 = .ok (.iload_n 1, 1) := by decide +kernel
theorem dR_remove_24 : decode bR_remove 24 = .ok (.istore_n 2, 1) := by decide +kernel
theorem dR_remove_25 : decode bR_remove 25 = .ok (.iload_n 2, 1) := by decide +kernel
theorem dR_remove_26 : decode bR_remove 26 = .ok (.aload_n 0, 1) := by decide +kernel
theorem dR_remove_27 : decode bR_remove 27 = .ok (.getfield 19, 3) := by decide +kernel
theorem dR_remove_30 : decode bR_remove 30 = .ok (.if_icmp .ge 21, 3) := by decide +kernel
theorem dR_remove_33 : decode bR_remove 33 = .ok (.aload_n 0, 1) := by decide +kernel
theorem dR_remove_34 : decode bR_remove 34 = .ok (.iload_n 2, 1) := by decide +kernel
theorem dR_remove_35 : decode bR_remove 35 = .ok (.aload_n 0, 1) := by decide +kernel
theorem dR_remove_36 : decode bR_remove 36 = .ok (.iload_n 2, 1) := by decide +kernel
theorem dR_remove_37 : decode bR_remove 37 = .ok (.iconst 1, 1) := by decide +kernel
theorem dR_remove_38 : decode bR_remove 38 = .ok (.iadd, 1) := by decide +kernel
theorem dR_remove_39 : decode bR_remove 39 = .ok (.invokevirtual 31, 3) := by decide +kernel
theorem dR_remove_42 : decode bR_remove 42 = .ok (.invokevirtual 27, 3) := by decide +kernel
theorem dR_remove_45 : decode bR_remove 45 = .ok (.iinc 2 1, 3) := by decide +kernel
theorem dR_remove_48 : decode bR_remove 48 = .ok (.goto (-23), 3) := by decide +kernel
theorem dR_remove_51 : decode bR_remove 51 = .ok (.aload_n 0, 1) := by decide +kernel
theorem dR_remove_52 : decode bR_remove 52 = .ok (.aload_n 0, 1) := by decide +kernel
theorem dR_remove_53 : decode bR_remove 53 = .ok (.getfield 19, 3) := by decide +kernel
theorem dR_remove_56 : decode bR_remove 56 = .ok (.iconst 0, 1) := by decide +kernel
theorem dR_remove_57 : decode bR_remove 57 = .ok (.invokevirtual 27, 3) := by decide +kernel
theorem dR_remove_60 : decode bR_remove 60 = .ok (.return_, 1) := by decide +kernel
theorem dK_abs_0 : decode bK_abs 0 = .ok (.iload_n 0, 1) := by decide +kernel
theorem dK_abs_1 : decode bK_abs 1 = .ok (.ifCond .ge 8, 3) := by decide +kernel
theorem dK_abs_4 : decode bK_abs 4 = .ok (.iload_n 0, 1) := by decide +kernel
theorem dK_abs_5 : decode bK_abs 5 = .ok (.ineg, 1) := by decide +kernel
theorem dK_abs_6 : decode bK_abs 6 = .ok (.goto 4, 3) := by decide +kernel
theorem dK_abs_9 : decode bK_abs 9 = .ok (.iload_n 0, 1) := by decide +kernel
theorem dK_abs_10 : decode bK_abs 10 = .ok (.ireturn, 1) := by decide +kernel
theorem dS_firstThingAt_0 : decode bS_firstThingAt 0 = .ok (.iconst 0, 1) := by decide +kernel
theorem dS_firstThingAt_1 : decode bS_firstThingAt 1 = .ok (.istore_n 2, 1) := by decide +kernel
theorem dS_firstThingAt_2 : decode bS_firstThingAt 2 = .ok (.iload_n 2, 1) := by decide +kernel
theorem dS_firstThingAt_3 : decode bS_firstThingAt 3 = .ok (.aload_n 0, 1) := by decide +kernel
theorem dS_firstThingAt_4 : decode bS_firstThingAt 4 = .ok (.getfield 29, 3) := by decide +kernel
theorem dS_firstThingAt_7 : decode bS_firstThingAt 7 = .ok (.invokevirtual 63, 3) := by decide +kernel
theorem dS_firstThingAt_10 : decode bS_firstThingAt 10 = .ok (.if_icmp .ge 23, 3) := by decide +kernel
theorem dS_firstThingAt_13 : decode bS_firstThingAt 13 = .ok (.aload_n 0, 1) := by decide +kernel
theorem dS_firstThingAt_14 : decode bS_firstThingAt 14 = .ok (.getfield 29, 3) := by decide +kernel
theorem dS_firstThingAt_17 : decode bS_firstThingAt 17 = .ok (.iload_n 2, 1) := by decide +kernel
theorem dS_firstThingAt_18 : decode bS_firstThingAt 18 = .ok (.invokevirtual 39, 3) := by decide +kernel
theorem dS_firstThingAt_21 : decode bS_firstThingAt 21 = .ok (.iload_n 1, 1) := by decide +kernel
theorem dS_firstThingAt_22 : decode bS_firstThingAt 22 = .ok (.if_icmp .ne 5, 3) := by decide +kernel
theorem dS_firstThingAt_25 : decode bS_firstThingAt 25 = .ok (.iload_n 2, 1) := by decide +kernel
theorem dS_firstThingAt_26 : decode bS_firstThingAt 26 = .ok (.ireturn, 1) := by decide +kernel
theorem dS_firstThingAt_27 : decode bS_firstThingAt 27 = .ok (.iinc 2 1, 3) := by decide +kernel
theorem dS_firstThingAt_30 : decode bS_firstThingAt 30 = .ok (.goto (-28), 3) := by decide +kernel
theorem dS_firstThingAt_33 : decode bS_firstThingAt 33 = .ok (.iconst (-1), 1) := by decide +kernel
theorem dS_firstThingAt_34 : decode bS_firstThingAt 34 = .ok (.ireturn, 1) := by decide +kernel
theorem dD_takeBackLatest_0 : decode bD_takeBackLatest 0 = .ok (.aload_n 0, 1) := by decide +kernel
theorem dD_takeBackLatest_1 : decode bD_takeBackLatest 1 = .ok (.getfield 14, 3) := by decide +kernel
theorem dD_takeBackLatest_4 : decode bD_takeBackLatest 4 = .ok (.invokevirtual 26, 3) := by decide +kernel
theorem dD_takeBackLatest_7 : decode bD_takeBackLatest 7 = .ok (.iconst 1, 1) := by decide +kernel
theorem dD_takeBackLatest_8 : decode bD_takeBackLatest 8 = .ok (.isub, 1) := by decide +kernel
theorem dD_takeBackLatest_9 : decode bD_takeBackLatest 9 = .ok (.istore_n 2, 1) := by decide +kernel
theorem dD_takeBackLatest_10 : decode bD_takeBackLatest 10 = .ok (.aload_n 0, 1) := by decide +kernel
theorem dD_takeBackLatest_11 : decode bD_takeBackLatest 11 = .ok (.getfield 20, 3) := by decide +kernel
theorem dD_takeBackLatest_14 : decode bD_takeBackLatest 14 = .ok (.iload_n 2, 1) := by decide +kernel
theorem dD_takeBackLatest_15 : decode bD_takeBackLatest 15 = .ok (.invokevirtual 43, 3) := by decide +kernel
theorem dD_takeBackLatest_18 : decode bD_takeBackLatest 18 = .ok (.istore_n 3, 1) := by decide +kernel
theorem dD_takeBackLatest_19 : decode bD_takeBackLatest 19 = .ok (.aload_n 0, 1) := by decide +kernel
theorem dD_takeBackLatest_20 : decode bD_takeBackLatest 20 = .ok (.getfield 23, 3) := by decide +kernel
theorem dD_takeBackLatest_23 : decode bD_takeBackLatest 23 = .ok (.iload_n 2, 1) := by decide +kernel
theorem dD_takeBackLatest_24 : decode bD_takeBackLatest 24 = .ok (.invokevirtual 43, 3) := by decide +kernel
theorem dD_takeBackLatest_27 : decode bD_takeBackLatest 27 = .ok (.istore 4, 2) := by decide +kernel
theorem dD_takeBackLatest_29 : decode bD_takeBackLatest 29 = .ok (.aload_n 0, 1) := by decide +kernel
theorem dD_takeBackLatest_30 : decode bD_takeBackLatest 30 = .ok (.getfield 14, 3) := by decide +kernel
theorem dD_takeBackLatest_33 : decode bD_takeBackLatest 33 = .ok (.iload_n 2, 1) := by decide +kernel
theorem dD_takeBackLatest_34 : decode bD_takeBackLatest 34 = .ok (.invokevirtual 43, 3) := by decide +kernel
theorem dD_takeBackLatest_37 : decode bD_takeBackLatest 37 = .ok (.tableswitch 110 0 3 #[31, 59, 71, 90], 31) := by decide +kernel
theorem dD_takeBackLatest_68 : decode bD_takeBackLatest 68 = .ok (.aload_n 1, 1) := by decide +kernel
theorem dD_takeBackLatest_69 : decode bD_takeBackLatest 69 = .ok (.iload 4, 2) := by decide +kernel
theorem dD_takeBackLatest_71 : decode bD_takeBackLatest 71 = .ok (.aload_n 1, 1) := by decide +kernel
theorem dD_takeBackLatest_72 : decode bD_takeBackLatest 72 = .ok (.getfield 47, 3) := by decide +kernel
theorem dD_takeBackLatest_75 : decode bD_takeBackLatest 75 = .ok (.iload_n 3, 1) := by decide +kernel
theorem dD_takeBackLatest_76 : decode bD_takeBackLatest 76 = .ok (.invokevirtual 43, 3) := by decide +kernel
theorem dD_takeBackLatest_79 : decode bD_takeBackLatest 79 = .ok (.iconst (-1), 1) := by decide +kernel
theorem dD_takeBackLatest_80 : decode bD_takeBackLatest 80 = .ok (.invokevirtual 52, 3) := by decide +kernel
theorem dD_takeBackLatest_83 : decode bD_takeBackLatest 83 = .ok (.aload_n 1, 1) := by decide +kernel
theorem dD_takeBackLatest_84 : decode bD_takeBackLatest 84 = .ok (.getfield 47, 3) := by decide +kernel
theorem dD_takeBackLatest_87 : decode bD_takeBackLatest 87 = .ok (.iload_n 3, 1) := by decide +kernel
theorem dD_takeBackLatest_88 : decode bD_takeBackLatest 88 = .ok (.iload 4, 2) := by decide +kernel
theorem dD_takeBackLatest_90 : decode bD_takeBackLatest 90 = .ok (.invokevirtual 56, 3) := by decide +kernel
theorem dD_takeBackLatest_93 : decode bD_takeBackLatest 93 = .ok (.goto 54, 3) := by decide +kernel
theorem dD_takeBackLatest_96 : decode bD_takeBackLatest 96 = .ok (.aload_n 1, 1) := by decide +kernel
theorem dD_takeBackLatest_97 : decode bD_takeBackLatest 97 = .ok (.getfield 60, 3) := by decide +kernel
theorem dD_takeBackLatest_100 : decode bD_takeBackLatest 100 = .ok (.iload_n 3, 1) := by decide +kernel
theorem dD_takeBackLatest_101 : decode bD_takeBackLatest 101 = .ok (.iconst 0, 1) := by decide +kernel
theorem dD_takeBackLatest_102 : decode bD_takeBackLatest 102 = .ok (.invokevirtual 56, 3) := by decide +kernel
theorem dD_takeBackLatest_105 : decode bD_takeBackLatest 105 = .ok (.goto 42, 3) := by decide +kernel
theorem dD_takeBackLatest_108 : decode bD_takeBackLatest 108 = .ok (.aload_n 1, 1) := by decide +kernel
theorem dD_takeBackLatest_109 : decode bD_takeBackLatest 109 = .ok (.getfield 63, 3) := by decide +kernel
theorem dD_takeBackLatest_112 : decode bD_takeBackLatest 112 = .ok (.aload_n 1, 1) := by decide +kernel
theorem dD_takeBackLatest_113 : decode bD_takeBackLatest 113 = .ok (.getfield 63, 3) := by decide +kernel
theorem dD_takeBackLatest_116 : decode bD_takeBackLatest 116 = .ok (.invokevirtual 26, 3) := by decide +kernel
theorem dD_takeBackLatest_119 : decode bD_takeBackLatest 119 = .ok (.iconst 1, 1) := by decide +kernel
theorem dD_takeBackLatest_120 : decode bD_takeBackLatest 120 = .ok (.isub, 1) := by decide +kernel
theorem dD_takeBackLatest_121 : decode bD_takeBackLatest 121 = .ok (.invokevirtual 66, 3) := by decide +kernel
theorem dD_takeBackLatest_124 : decode bD_takeBackLatest 124 = .ok (.goto 23, 3) := by decide +kernel
theorem dD_takeBackLatest_127 : decode bD_takeBackLatest 127 = .ok (.aload_n 1, 1) := by decide +kernel
theorem dD_takeBackLatest_128 : decode bD_takeBackLatest 128 = .ok (.getfield 63, 3) := by decide +kernel
theorem dD_takeBackLatest_131 : decode bD_takeBackLatest 131 = .ok (.iload 4, 2) := by decide +kernel
theorem dD_takeBackLatest_133 : decode bD_takeBackLatest 133 = .ok (.aload_n 1, 1) := by decide +kernel
theorem dD_takeBackLatest_134 : decode bD_takeBackLatest 134 = .ok (.getfield 47, 3) := by decide +kernel
theorem dD_takeBackLatest_137 : decode bD_takeBackLatest 137 = .ok (.iload_n 3, 1) := by decide +kernel
theorem dD_takeBackLatest_138 : decode bD_takeBackLatest 138 = .ok (.invokevirtual 43, 3) := by decide +kernel
theorem dD_takeBackLatest_141 : decode bD_takeBackLatest 141 = .ok (.invokevirtual 69, 3) := by decide +kernel
theorem dD_takeBackLatest_144 : decode bD_takeBackLatest 144 = .ok (.goto 3, 3) := by decide +kernel
theorem dD_takeBackLatest_147 : decode bD_takeBackLatest 147 = .ok (.aload_n 0, 1) := by decide +kernel
theorem dD_takeBackLatest_148 : decode bD_takeBackLatest 148 = .ok (.iload_n 2, 1) := by decide +kernel
theorem dD_takeBackLatest_149 : decode bD_takeBackLatest 149 = .ok (.invokevirtual 37, 3) := by decide +kernel
theorem dD_takeBackLatest_152 : decode bD_takeBackLatest 152 = .ok (.return_, 1) := by decide +kernel
theorem dR_insert_0 : decode bR_insert 0 = .ok (.aload_n 0, 1) := by decide +kernel
theorem dR_insert_1 : decode bR_insert 1 = .ok (.invokevirtual 23, 3) := by decide +kernel
theorem dR_insert_4 : decode bR_insert 4 = .ok (.ifCond .ne 15, 3) := by decide +kernel
theorem dR_insert_7 : decode bR_insert 7 = .ok (.iload_n 1, 1) := by decide +kernel
theorem dR_insert_8 : decode bR_insert 8 = .ok (.ifCond .lt 11, 3) := by decide +kernel
theorem dR_insert_11 : decode bR_insert 11 = .ok (.iload_n 1, 1) := by decide +kernel
theorem dR_insert_12 : decode bR_insert 12 = .ok (.aload_n 0, 1) := by decide +kernel
theorem dR_insert_13 : decode bR_insert 13 = .ok (.getfield 19, 3) := by decide +kernel
theorem dR_insert_16 : decode bR_insert 16 = .ok (.if_icmp .le 4, 3) := by decide +kernel
theorem dR_insert_19 : decode bR_insert 19 = .ok (.return_, 1) := by decide +kernel
theorem dR_insert_20 : decode bR_insert 20 = .ok (.aload_n 0, 1) := by decide +kernel
theorem dR_insert_21 : decode bR_insert 21 = .ok (.getfield 19, 3) := by decide +kernel
theorem dR_insert_24 : decode bR_insert 24 = .ok (.istore_n 3, 1) := by decide +kernel
theorem dR_insert_25 : decode bR_insert 25 = .ok (.iload_n 3, 1) := by decide +kernel
theorem dR_insert_26 : decode bR_insert 26 = .ok (.iload_n 1, 1) := by decide +kernel
theorem dR_insert_27 : decode bR_insert 27 = .ok (.if_icmp .le 21, 3) := by decide +kernel
theorem dR_insert_30 : decode bR_insert 30 = .ok (.aload_n 0, 1) := by decide +kernel
theorem dR_insert_31 : decode bR_insert 31 = .ok (.iload_n 3, 1) := by decide +kernel
theorem dR_insert_32 : decode bR_insert 32 = .ok (.aload_n 0, 1) := by decide +kernel
theorem dR_insert_33 : decode bR_insert 33 = .ok (.iload_n 3, 1) := by decide +kernel
theorem dR_insert_34 : decode bR_insert 34 = .ok (.iconst 1, 1) := by decide +kernel
theorem dR_insert_35 : decode bR_insert 35 = .ok (.isub, 1) := by decide +kernel
theorem dR_insert_36 : decode bR_insert 36 = .ok (.invokevirtual 31, 3) := by decide +kernel
theorem dR_insert_39 : decode bR_insert 39 = .ok (.invokevirtual 27, 3) := by decide +kernel
theorem dR_insert_42 : decode bR_insert 42 = .ok (.iinc 3 (-1), 3) := by decide +kernel
theorem dR_insert_45 : decode bR_insert 45 = .ok (.goto (-20), 3) := by decide +kernel
theorem dR_insert_48 : decode bR_insert 48 = .ok (.aload_n 0, 1) := by decide +kernel
theorem dR_insert_49 : decode bR_insert 49 = .ok (.iload_n 1, 1) := by decide +kernel
theorem dR_insert_50 : decode bR_insert 50 = .ok (.iload_n 2, 1) := by decide +kernel
theorem dR_insert_51 : decode bR_insert 51 = .ok (.invokevirtual 27, 3) := by decide +kernel
theorem dR_insert_54 : decode bR_insert 54 = .ok (.aload_n 0, 1) := by decide +kernel
theorem dR_insert_55 : decode bR_insert 55 = .ok (.dup, 1) := by decide +kernel
theorem dR_insert_56 : decode bR_insert 56 = .ok (.getfield 19, 3) := by decide +kernel
theorem dR_insert_59 : decode bR_insert 59 = .ok (.iconst 1, 1) := by decide +kernel
theorem dR_insert_60 : decode bR_insert 60 = .ok (.iadd, 1) := by decide +kernel
theorem dR_insert_61 : decode bR_insert 61 = .ok (.putfield 19, 3) := by decide +kernel
theorem dR_insert_64 : decode bR_insert 64 = .ok (.return_, 1) := by decide +kernel
theorem dP_altitudeOf_0 : decode bP_altitudeOf 0 = .ok (.iconst 0, 1) := by decide +kernel
theorem dP_altitudeOf_1 : decode bP_altitudeOf 1 = .ok (.istore_n 2, 1) := by decide +kernel
theorem dP_altitudeOf_2 : decode bP_altitudeOf 2 = .ok (.iconst 0, 1) := by decide +kernel
theorem dP_altitudeOf_3 : decode bP_altitudeOf 3 = .ok (.istore_n 3, 1) := by decide +kernel
theorem dP_altitudeOf_4 : decode bP_altitudeOf 4 = .ok (.iload_n 3, 1) := by decide +kernel
theorem dP_altitudeOf_5 : decode bP_altitudeOf 5 = .ok (.aload_n 0, 1) := by decide +kernel
theorem dP_altitudeOf_6 : decode bP_altitudeOf 6 = .ok (.getfield 29, 3) := by decide +kernel
theorem dP_altitudeOf_9 : decode bP_altitudeOf 9 = .ok (.invokevirtual 54, 3) := by decide +kernel
theorem dP_altitudeOf_12 : decode bP_altitudeOf 12 = .ok (.if_icmp .ge 42, 3) := by decide +kernel
theorem dP_altitudeOf_15 : decode bP_altitudeOf 15 = .ok (.iconst 0, 1) := by decide +kernel
theorem dP_altitudeOf_16 : decode bP_altitudeOf 16 = .ok (.sipush 1000, 3) := by decide +kernel
theorem dP_altitudeOf_19 : decode bP_altitudeOf 19 = .ok (.iload_n 1, 1) := by decide +kernel
theorem dP_altitudeOf_20 : decode bP_altitudeOf 20 = .ok (.sipush 1000, 3) := by decide +kernel
theorem dP_altitudeOf_23 : decode bP_altitudeOf 23 = .ok (.iload_n 3, 1) := by decide +kernel
theorem dP_altitudeOf_24 : decode bP_altitudeOf 24 = .ok (.imul, 1) := by decide +kernel
theorem dP_altitudeOf_25 : decode bP_altitudeOf 25 = .ok (.isub, 1) := by decide +kernel
theorem dP_altitudeOf_26 : decode bP_altitudeOf 26 = .ok (.invokestatic 62, 3) := by decide +kernel
theorem dP_altitudeOf_29 : decode bP_altitudeOf 29 = .ok (.invokestatic 48, 3) := by decide +kernel
theorem dP_altitudeOf_32 : decode bP_altitudeOf 32 = .ok (.istore 4, 2) := by decide +kernel
theorem dP_altitudeOf_34 : decode bP_altitudeOf 34 = .ok (.iload_n 2, 1) := by decide +kernel
theorem dP_altitudeOf_35 : decode bP_altitudeOf 35 = .ok (.iload 4, 2) := by decide +kernel
theorem dP_altitudeOf_37 : decode bP_altitudeOf 37 = .ok (.aload_n 0, 1) := by decide +kernel
theorem dP_altitudeOf_38 : decode bP_altitudeOf 38 = .ok (.getfield 29, 3) := by decide +kernel
theorem dP_altitudeOf_41 : decode bP_altitudeOf 41 = .ok (.iload_n 3, 1) := by decide +kernel
theorem dP_altitudeOf_42 : decode bP_altitudeOf 42 = .ok (.invokevirtual 58, 3) := by decide +kernel
theorem dP_altitudeOf_45 : decode bP_altitudeOf 45 = .ok (.imul, 1) := by decide +kernel
theorem dP_altitudeOf_46 : decode bP_altitudeOf 46 = .ok (.iadd, 1) := by decide +kernel
theorem dP_altitudeOf_47 : decode bP_altitudeOf 47 = .ok (.istore_n 2, 1) := by decide +kernel
theorem dP_altitudeOf_48 : decode bP_altitudeOf 48 = .ok (.iinc 3 1, 3) := by decide +kernel
theorem dP_altitudeOf_51 : decode bP_altitudeOf 51 = .ok (.goto (-47), 3) := by decide +kernel
theorem dP_altitudeOf_54 : decode bP_altitudeOf 54 = .ok (.iload_n 2, 1) := by decide +kernel
theorem dP_altitudeOf_55 : decode bP_altitudeOf 55 = .ok (.ireturn, 1) := by decide +kernel
theorem dP_firstStepAt_0 : decode bP_firstStepAt 0 = .ok (.iconst 0, 1) := by decide +kernel
theorem dP_firstStepAt_1 : decode bP_firstStepAt 1 = .ok (.istore_n 2, 1) := by decide +kernel
theorem dP_firstStepAt_2 : decode bP_firstStepAt 2 = .ok (.iconst 0, 1) := by decide +kernel
theorem dP_firstStepAt_3 : decode bP_firstStepAt 3 = .ok (.istore_n 3, 1) := by decide +kernel
theorem dP_firstStepAt_4 : decode bP_firstStepAt 4 = .ok (.iload_n 3, 1) := by decide +kernel
theorem dP_firstStepAt_5 : decode bP_firstStepAt 5 = .ok (.aload_n 0, 1) := by decide +kernel
theorem dP_firstStepAt_6 : decode bP_firstStepAt 6 = .ok (.getfield 29, 3) := by decide +kernel
theorem dP_firstStepAt_9 : decode bP_firstStepAt 9 = .ok (.invokevirtual 54, 3) := by decide +kernel
theorem dP_firstStepAt_12 : decode bP_firstStepAt 12 = .ok (.if_icmp .ge 60, 3) := by decide +kernel
theorem dP_firstStepAt_15 : decode bP_firstStepAt 15 = .ok (.iload_n 2, 1) := by decide +kernel
theorem dP_firstStepAt_16 : decode bP_firstStepAt 16 = .ok (.iload_n 1, 1) := by decide +kernel
theorem dP_firstStepAt_17 : decode bP_firstStepAt 17 = .ok (.if_icmp .ge 55, 3) := by decide +kernel
theorem dP_firstStepAt_20 : decode bP_firstStepAt 20 = .ok (.iload_n 2, 1) := by decide +kernel
theorem dP_firstStepAt_21 : decode bP_firstStepAt 21 = .ok (.sipush 1000, 3) := by decide +kernel
theorem dP_firstStepAt_24 : decode bP_firstStepAt 24 = .ok (.aload_n 0, 1) := by decide +kernel
theorem dP_firstStepAt_25 : decode bP_firstStepAt 25 = .ok (.getfield 29, 3) := by decide +kernel
theorem dP_firstStepAt_28 : decode bP_firstStepAt 28 = .ok (.iload_n 3, 1) := by decide +kernel
theorem dP_firstStepAt_29 : decode bP_firstStepAt 29 = .ok (.invokevirtual 58, 3) := by decide +kernel
theorem dP_firstStepAt_32 : decode bP_firstStepAt 32 = .ok (.imul, 1) := by decide +kernel
theorem dP_firstStepAt_33 : decode bP_firstStepAt 33 = .ok (.iadd, 1) := by decide +kernel
theorem dP_firstStepAt_34 : decode bP_firstStepAt 34 = .ok (.istore 4, 2) := by decide +kernel
theorem dP_firstStepAt_36 : decode bP_firstStepAt 36 = .ok (.iload_n 1, 1) := by decide +kernel
theorem dP_firstStepAt_37 : decode bP_firstStepAt 37 = .ok (.iload 4, 2) := by decide +kernel
theorem dP_firstStepAt_39 : decode bP_firstStepAt 39 = .ok (.if_icmp .gt 24, 3) := by decide +kernel
theorem dP_firstStepAt_42 : decode bP_firstStepAt 42 = .ok (.sipush 1000, 3) := by decide +kernel
theorem dP_firstStepAt_45 : decode bP_firstStepAt 45 = .ok (.iload_n 3, 1) := by decide +kernel
theorem dP_firstStepAt_46 : decode bP_firstStepAt 46 = .ok (.imul, 1) := by decide +kernel
theorem dP_firstStepAt_47 : decode bP_firstStepAt 47 = .ok (.iload_n 1, 1) := by decide +kernel
theorem dP_firstStepAt_48 : decode bP_firstStepAt 48 = .ok (.iload_n 2, 1) := by decide +kernel
theorem dP_firstStepAt_49 : decode bP_firstStepAt 49 = .ok (.isub, 1) := by decide +kernel
theorem dP_firstStepAt_50 : decode bP_firstStepAt 50 = .ok (.aload_n 0, 1) := by decide +kernel
theorem dP_firstStepAt_51 : decode bP_firstStepAt 51 = .ok (.getfield 29, 3) := by decide +kernel
theorem dP_firstStepAt_54 : decode bP_firstStepAt 54 = .ok (.iload_n 3, 1) := by decide +kernel
theorem dP_firstStepAt_55 : decode bP_firstStepAt 55 = .ok (.invokevirtual 58, 3) := by decide +kernel
theorem dP_firstStepAt_58 : decode bP_firstStepAt 58 = .ok (.invokestatic 65, 3) := by decide +kernel
theorem dP_firstStepAt_61 : decode bP_firstStepAt 61 = .ok (.iadd, 1) := by decide +kernel
theorem dP_firstStepAt_62 : decode bP_firstStepAt 62 = .ok (.ireturn, 1) := by decide +kernel
theorem dP_firstStepAt_63 : decode bP_firstStepAt 63 = .ok (.iload 4, 2) := by decide +kernel
theorem dP_firstStepAt_65 : decode bP_firstStepAt 65 = .ok (.istore_n 2, 1) := by decide +kernel
theorem dP_firstStepAt_66 : decode bP_firstStepAt 66 = .ok (.iinc 3 1, 3) := by decide +kernel
theorem dP_firstStepAt_69 : decode bP_firstStepAt 69 = .ok (.goto (-65), 3) := by decide +kernel
theorem dP_firstStepAt_72 : decode bP_firstStepAt 72 = .ok (.iload_n 1, 1) := by decide +kernel
theorem dP_firstStepAt_73 : decode bP_firstStepAt 73 = .ok (.ifCond .ne 7, 3) := by decide +kernel
theorem dP_firstStepAt_76 : decode bP_firstStepAt 76 = .ok (.iconst 0, 1) := by decide +kernel
theorem dP_firstStepAt_77 : decode bP_firstStepAt 77 = .ok (.goto 5, 3) := by decide +kernel
theorem dP_firstStepAt_80 : decode bP_firstStepAt 80 = .ok (.bipush (-9), 2) := by decide +kernel
theorem dP_firstStepAt_82 : decode bP_firstStepAt 82 = .ok (.ireturn, 1) := by decide +kernel
theorem dP_climbersAbove_0 : decode bP_climbersAbove 0 = .ok (.iconst 0, 1) := by decide +kernel
theorem dP_climbersAbove_1 : decode bP_climbersAbove 1 = .ok (.istore_n 2, 1) := by decide +kernel
theorem dP_climbersAbove_2 : decode bP_climbersAbove 2 = .ok (.iconst 0, 1) := by decide +kernel
theorem dP_climbersAbove_3 : decode bP_climbersAbove 3 = .ok (.istore_n 3, 1) := by decide +kernel
theorem dP_climbersAbove_4 : decode bP_climbersAbove 4 = .ok (.iload_n 3, 1) := by decide +kernel
theorem dP_climbersAbove_5 : decode bP_climbersAbove 5 = .ok (.aload_n 0, 1) := by decide +kernel
theorem dP_climbersAbove_6 : decode bP_climbersAbove 6 = .ok (.getfield 32, 3) := by decide +kernel
theorem dP_climbersAbove_9 : decode bP_climbersAbove 9 = .ok (.invokevirtual 54, 3) := by decide +kernel
theorem dP_climbersAbove_12 : decode bP_climbersAbove 12 = .ok (.if_icmp .ge 24, 3) := by decide +kernel
theorem dP_climbersAbove_15 : decode bP_climbersAbove 15 = .ok (.aload_n 0, 1) := by decide +kernel
theorem dP_climbersAbove_16 : decode bP_climbersAbove 16 = .ok (.getfield 32, 3) := by decide +kernel
theorem dP_climbersAbove_19 : decode bP_climbersAbove 19 = .ok (.iload_n 3, 1) := by decide +kernel
theorem dP_climbersAbove_20 : decode bP_climbersAbove 20 = .ok (.invokevirtual 58, 3) := by decide +kernel
theorem dP_climbersAbove_23 : decode bP_climbersAbove 23 = .ok (.iload_n 1, 1) := by decide +kernel
theorem dP_climbersAbove_24 : decode bP_climbersAbove 24 = .ok (.if_icmp .le 6, 3) := by decide +kernel
theorem dP_climbersAbove_27 : decode bP_climbersAbove 27 = .ok (.iinc 2 1, 3) := by decide +kernel
theorem dP_climbersAbove_30 : decode bP_climbersAbove 30 = .ok (.iinc 3 1, 3) := by decide +kernel
theorem dP_climbersAbove_33 : decode bP_climbersAbove 33 = .ok (.goto (-29), 3) := by decide +kernel
theorem dP_climbersAbove_36 : decode bP_climbersAbove 36 = .ok (.iload_n 2, 1) := by decide +kernel
theorem dP_climbersAbove_37 : decode bP_climbersAbove 37 = .ok (.ireturn, 1) := by decide +kernel
theorem dN_add_0 : decode bN_add 0 = .ok (.aload_n 0, 1) := by decide +kernel
theorem dN_add_1 : decode bN_add 1 = .ok (.getfield 14, 3) := by decide +kernel
theorem dN_add_4 : decode bN_add 4 = .ok (.iload_n 1, 1) := by decide +kernel
theorem dN_add_5 : decode bN_add 5 = .ok (.invokevirtual 29, 3) := by decide +kernel
theorem dN_add_8 : decode bN_add 8 = .ok (.aload_n 0, 1) := by decide +kernel
theorem dN_add_9 : decode bN_add 9 = .ok (.getfield 20, 3) := by decide +kernel
theorem dN_add_12 : decode bN_add 12 = .ok (.iload_n 2, 1) := by decide +kernel
theorem dN_add_13 : decode bN_add 13 = .ok (.invokevirtual 29, 3) := by decide +kernel
theorem dN_add_16 : decode bN_add 16 = .ok (.return_, 1) := by decide +kernel
theorem dN_countWays_0 : decode bN_countWays 0 = .ok (.aload_n 0, 1) := by decide +kernel
theorem dN_countWays_1 : decode bN_countWays 1 = .ok (.getfield 23, 3) := by decide +kernel
theorem dN_countWays_4 : decode bN_countWays 4 = .ok (.invokevirtual 26, 3) := by decide +kernel
theorem dN_countWays_7 : decode bN_countWays 7 = .ok (.aload_n 0, 1) := by decide +kernel
theorem dN_countWays_8 : decode bN_countWays 8 = .ok (.getfield 23, 3) := by decide +kernel
theorem dN_countWays_11 : decode bN_countWays 11 = .ok (.iconst 0, 1) := by decide +kernel
theorem dN_countWays_12 : decode bN_countWays 12 = .ok (.iconst 1, 1) := by decide +kernel
theorem dN_countWays_13 : decode bN_countWays 13 = .ok (.invokevirtual 32, 3) := by decide +kernel
theorem dN_countWays_16 : decode bN_countWays 16 = .ok (.aload_n 0, 1) := by decide +kernel
theorem dN_countWays_17 : decode bN_countWays 17 = .ok (.iconst 0, 1) := by decide +kernel
theorem dN_countWays_18 : decode bN_countWays 18 = .ok (.invokevirtual 36, 3) := by decide +kernel
theorem dN_countWays_21 : decode bN_countWays 21 = .ok (.iconst 0, 1) := by decide +kernel
theorem dN_countWays_22 : decode bN_countWays 22 = .ok (.istore 4, 2) := by decide +kernel
theorem dN_countWays_24 : decode bN_countWays 24 = .ok (.iload 4, 2) := by decide +kernel
theorem dN_countWays_26 : decode bN_countWays 26 = .ok (.iload_n 1, 1) := by decide +kernel
theorem dN_countWays_27 : decode bN_countWays 27 = .ok (.if_icmp .ge 55, 3) := by decide +kernel
theorem dN_countWays_30 : decode bN_countWays 30 = .ok (.iload 4, 2) := by decide +kernel
theorem dN_countWays_32 : decode bN_countWays 32 = .ok (.iload_n 2, 1) := by decide +kernel
theorem dN_countWays_33 : decode bN_countWays 33 = .ok (.if_icmp .ne 7, 3) := by decide +kernel
theorem dN_countWays_36 : decode bN_countWays 36 = .ok (.iconst 1, 1) := by decide +kernel
theorem dN_countWays_37 : decode bN_countWays 37 = .ok (.goto 4, 3) := by decide +kernel
theorem dN_countWays_40 : decode bN_countWays 40 = .ok (.iconst 0, 1) := by decide +kernel
theorem dN_countWays_41 : decode bN_countWays 41 = .ok (.istore 5, 2) := by decide +kernel
theorem dN_countWays_43 : decode bN_countWays 43 = .ok (.aload_n 0, 1) := by decide +kernel
theorem dN_countWays_44 : decode bN_countWays 44 = .ok (.iload 5, 2) := by decide +kernel
theorem dN_countWays_46 : decode bN_countWays 46 = .ok (.ifCond .eq 7, 3) := by decide +kernel
theorem dN_countWays_49 : decode bN_countWays 49 = .ok (.iload_n 3, 1) := by decide +kernel
theorem dN_countWays_50 : decode bN_countWays 50 = .ok (.goto 4, 3) := by decide +kernel
theorem dN_countWays_53 : decode bN_countWays 53 = .ok (.iconst 0, 1) := by decide +kernel
theorem dN_countWays_54 : decode bN_countWays 54 = .ok (.iload 5, 2) := by decide +kernel
theorem dN_countWays_56 : decode bN_countWays 56 = .ok (.ifCond .eq 7, 3) := by decide +kernel
theorem dN_countWays_59 : decode bN_countWays 59 = .ok (.iload_n 3, 1) := by decide +kernel
theorem dN_countWays_60 : decode bN_countWays 60 = .ok (.goto 5, 3) := by decide +kernel
theorem dN_countWays_63 : decode bN_countWays 63 = .ok (.bipush 9, 2) := by decide +kernel
theorem dN_countWays_65 : decode bN_countWays 65 = .ok (.invokevirtual 39, 3) := by decide +kernel
theorem dN_countWays_68 : decode bN_countWays 68 = .ok (.aload_n 0, 1) := by decide +kernel
theorem dN_countWays_69 : decode bN_countWays 69 = .ok (.iload 4, 2) := by decide +kernel
theorem dN_countWays_71 : decode bN_countWays 71 = .ok (.iconst 1, 1) := by decide +kernel
theorem dN_countWays_72 : decode bN_countWays 72 = .ok (.iadd, 1) := by decide +kernel
theorem dN_countWays_73 : decode bN_countWays 73 = .ok (.invokevirtual 36, 3) := by decide +kernel
theorem dN_countWays_76 : decode bN_countWays 76 = .ok (.iinc 4 1, 3) := by decide +kernel
theorem dN_countWays_79 : decode bN_countWays 79 = .ok (.goto (-55), 3) := by decide +kernel
theorem dN_countWays_82 : decode bN_countWays 82 = .ok (.aload_n 0, 1) := by decide +kernel
theorem dN_countWays_83 : decode bN_countWays 83 = .ok (.getfield 23, 3) := by decide +kernel
theorem dN_countWays_86 : decode bN_countWays 86 = .ok (.invokevirtual 42, 3) := by decide +kernel
theorem dN_countWays_89 : decode bN_countWays 89 = .ok (.ireturn, 1) := by decide +kernel
theorem dN_dropUnlikeSeen_0 : decode bN_dropUnlikeSeen 0 = .ok (.iconst 0, 1) := by decide +kernel
theorem dN_dropUnlikeSeen_1 : decode bN_dropUnlikeSeen 1 = .ok (.istore_n 2, 1) := by decide +kernel
theorem dN_dropUnlikeSeen_2 : decode bN_dropUnlikeSeen 2 = .ok (.iload_n 2, 1) := by decide +kernel
theorem dN_dropUnlikeSeen_3 : decode bN_dropUnlikeSeen 3 = .ok (.aload_n 0, 1) := by decide +kernel
theorem dN_dropUnlikeSeen_4 : decode bN_dropUnlikeSeen 4 = .ok (.getfield 20, 3) := by decide +kernel
theorem dN_dropUnlikeSeen_7 : decode bN_dropUnlikeSeen 7 = .ok (.invokevirtual 54, 3) := by decide +kernel
theorem dN_dropUnlikeSeen_10 : decode bN_dropUnlikeSeen 10 = .ok (.if_icmp .ge 33, 3) := by decide +kernel
theorem dN_dropUnlikeSeen_13 : decode bN_dropUnlikeSeen 13 = .ok (.aload_n 0, 1) := by decide +kernel
theorem dN_dropUnlikeSeen_14 : decode bN_dropUnlikeSeen 14 = .ok (.getfield 14, 3) := by decide +kernel
theorem dN_dropUnlikeSeen_17 : decode bN_dropUnlikeSeen 17 = .ok (.iload_n 2, 1) := by decide +kernel
theorem dN_dropUnlikeSeen_18 : decode bN_dropUnlikeSeen 18 = .ok (.invokevirtual 50, 3) := by decide +kernel
theorem dN_dropUnlikeSeen_21 : decode bN_dropUnlikeSeen 21 = .ok (.iload_n 1, 1) := by decide +kernel
theorem dN_dropUnlikeSeen_22 : decode bN_dropUnlikeSeen 22 = .ok (.if_icmp .ne 15, 3) := by decide +kernel
theorem dN_dropUnlikeSeen_25 : decode bN_dropUnlikeSeen 25 = .ok (.aload_n 0, 1) := by decide +kernel
theorem dN_dropUnlikeSeen_26 : decode bN_dropUnlikeSeen 26 = .ok (.aload_n 0, 1) := by decide +kernel
theorem dN_dropUnlikeSeen_27 : decode bN_dropUnlikeSeen 27 = .ok (.getfield 20, 3) := by decide +kernel
theorem dN_dropUnlikeSeen_30 : decode bN_dropUnlikeSeen 30 = .ok (.iload_n 2, 1) := by decide +kernel
theorem dN_dropUnlikeSeen_31 : decode bN_dropUnlikeSeen 31 = .ok (.invokevirtual 50, 3) := by decide +kernel
theorem dN_dropUnlikeSeen_34 : decode bN_dropUnlikeSeen 34 = .ok (.invokevirtual 57, 3) := by decide +kernel
theorem dN_dropUnlikeSeen_37 : decode bN_dropUnlikeSeen 37 = .ok (.iinc 2 1, 3) := by decide +kernel
theorem dN_dropUnlikeSeen_40 : decode bN_dropUnlikeSeen 40 = .ok (.goto (-38), 3) := by decide +kernel
theorem dN_dropUnlikeSeen_43 : decode bN_dropUnlikeSeen 43 = .ok (.return_, 1) := by decide +kernel
theorem dN_keepOnly_0 : decode bN_keepOnly 0 = .ok (.aload_n 0, 1) := by decide +kernel
theorem dN_keepOnly_1 : decode bN_keepOnly 1 = .ok (.getfield 23, 3) := by decide +kernel
theorem dN_keepOnly_4 : decode bN_keepOnly 4 = .ok (.iload_n 1, 1) := by decide +kernel
theorem dN_keepOnly_5 : decode bN_keepOnly 5 = .ok (.invokevirtual 50, 3) := by decide +kernel
theorem dN_keepOnly_8 : decode bN_keepOnly 8 = .ok (.istore_n 2, 1) := by decide +kernel
theorem dN_keepOnly_9 : decode bN_keepOnly 9 = .ok (.aload_n 0, 1) := by decide +kernel
theorem dN_keepOnly_10 : decode bN_keepOnly 10 = .ok (.getfield 23, 3) := by decide +kernel
theorem dN_keepOnly_13 : decode bN_keepOnly 13 = .ok (.invokevirtual 26, 3) := by decide +kernel
theorem dN_keepOnly_16 : decode bN_keepOnly 16 = .ok (.aload_n 0, 1) := by decide +kernel
theorem dN_keepOnly_17 : decode bN_keepOnly 17 = .ok (.getfield 23, 3) := by decide +kernel
theorem dN_keepOnly_20 : decode bN_keepOnly 20 = .ok (.iload_n 1, 1) := by decide +kernel
theorem dN_keepOnly_21 : decode bN_keepOnly 21 = .ok (.iload_n 2, 1) := by decide +kernel
theorem dN_keepOnly_22 : decode bN_keepOnly 22 = .ok (.invokevirtual 32, 3) := by decide +kernel
theorem dN_keepOnly_25 : decode bN_keepOnly 25 = .ok (.return_, 1) := by decide +kernel
theorem dN_addGoings_0 : decode bN_addGoings 0 = .ok (.bipush 40, 2) := by decide +kernel
theorem dN_addGoings_2 : decode bN_addGoings 2 = .ok (.istore_n 3, 1) := by decide +kernel
theorem dN_addGoings_3 : decode bN_addGoings 3 = .ok (.iload_n 3, 1) := by decide +kernel
theorem dN_addGoings_4 : decode bN_addGoings 4 = .ok (.ifCond .lt 53, 3) := by decide +kernel
theorem dN_addGoings_7 : decode bN_addGoings 7 = .ok (.iconst 0, 1) := by decide +kernel
theorem dN_addGoings_8 : decode bN_addGoings 8 = .ok (.istore 4, 2) := by decide +kernel
theorem dN_addGoings_10 : decode bN_addGoings 10 = .ok (.iload_n 1, 1) := by decide +kernel
theorem dN_addGoings_11 : decode bN_addGoings 11 = .ok (.istore 5, 2) := by decide +kernel
theorem dN_addGoings_13 : decode bN_addGoings 13 = .ok (.iload 5, 2) := by decide +kernel
theorem dN_addGoings_15 : decode bN_addGoings 15 = .ok (.iload_n 2, 1) := by decide +kernel
theorem dN_addGoings_16 : decode bN_addGoings 16 = .ok (.if_icmp .gt 25, 3) := by decide +kernel
theorem dN_addGoings_19 : decode bN_addGoings 19 = .ok (.iload 4, 2) := by decide +kernel
theorem dN_addGoings_21 : decode bN_addGoings 21 = .ok (.aload_n 0, 1) := by decide +kernel
theorem dN_addGoings_22 : decode bN_addGoings 22 = .ok (.getfield 23, 3) := by decide +kernel
theorem dN_addGoings_25 : decode bN_addGoings 25 = .ok (.iload_n 3, 1) := by decide +kernel
theorem dN_addGoings_26 : decode bN_addGoings 26 = .ok (.iload 5, 2) := by decide +kernel
theorem dN_addGoings_28 : decode bN_addGoings 28 = .ok (.isub, 1) := by decide +kernel
theorem dN_addGoings_29 : decode bN_addGoings 29 = .ok (.invokevirtual 50, 3) := by decide +kernel
theorem dN_addGoings_32 : decode bN_addGoings 32 = .ok (.iadd, 1) := by decide +kernel
theorem dN_addGoings_33 : decode bN_addGoings 33 = .ok (.istore 4, 2) := by decide +kernel
theorem dN_addGoings_35 : decode bN_addGoings 35 = .ok (.iinc 5 1, 3) := by decide +kernel
theorem dN_addGoings_38 : decode bN_addGoings 38 = .ok (.goto (-25), 3) := by decide +kernel
theorem dN_addGoings_41 : decode bN_addGoings 41 = .ok (.aload_n 0, 1) := by decide +kernel
theorem dN_addGoings_42 : decode bN_addGoings 42 = .ok (.getfield 23, 3) := by decide +kernel
theorem dN_addGoings_45 : decode bN_addGoings 45 = .ok (.iload_n 3, 1) := by decide +kernel
theorem dN_addGoings_46 : decode bN_addGoings 46 = .ok (.iload 4, 2) := by decide +kernel
theorem dN_addGoings_48 : decode bN_addGoings 48 = .ok (.invokevirtual 32, 3) := by decide +kernel
theorem dN_addGoings_51 : decode bN_addGoings 51 = .ok (.iinc 3 (-1), 3) := by decide +kernel
theorem dN_addGoings_54 : decode bN_addGoings 54 = .ok (.goto (-51), 3) := by decide +kernel
theorem dN_addGoings_57 : decode bN_addGoings 57 = .ok (.return_, 1) := by decide +kernel
theorem dN_fewestGoings_0 : decode bN_fewestGoings 0 = .ok (.aload_n 0, 1) := by decide +kernel
theorem dN_fewestGoings_1 : decode bN_fewestGoings 1 = .ok (.iload_n 1, 1) := by decide +kernel
theorem dN_fewestGoings_2 : decode bN_fewestGoings 2 = .ok (.iconst (-1), 1) := by decide +kernel
theorem dN_fewestGoings_3 : decode bN_fewestGoings 3 = .ok (.iconst 0, 1) := by decide +kernel
theorem dN_fewestGoings_4 : decode bN_fewestGoings 4 = .ok (.invokevirtual 46, 3) := by decide +kernel
theorem dN_fewestGoings_7 : decode bN_fewestGoings 7 = .ok (.pop, 1) := by decide +kernel
theorem dN_fewestGoings_8 : decode bN_fewestGoings 8 = .ok (.iconst 0, 1) := by decide +kernel
theorem dN_fewestGoings_9 : decode bN_fewestGoings 9 = .ok (.istore_n 2, 1) := by decide +kernel
theorem dN_fewestGoings_10 : decode bN_fewestGoings 10 = .ok (.iload_n 2, 1) := by decide +kernel
theorem dN_fewestGoings_11 : decode bN_fewestGoings 11 = .ok (.bipush 40, 2) := by decide +kernel
theorem dN_fewestGoings_13 : decode bN_fewestGoings 13 = .ok (.if_icmp .gt 22, 3) := by decide +kernel
theorem dN_fewestGoings_16 : decode bN_fewestGoings 16 = .ok (.aload_n 0, 1) := by decide +kernel
theorem dN_fewestGoings_17 : decode bN_fewestGoings 17 = .ok (.getfield 23, 3) := by decide +kernel
theorem dN_fewestGoings_20 : decode bN_fewestGoings 20 = .ok (.iload_n 2, 1) := by decide +kernel
theorem dN_fewestGoings_21 : decode bN_fewestGoings 21 = .ok (.invokevirtual 50, 3) := by decide +kernel
theorem dN_fewestGoings_24 : decode bN_fewestGoings 24 = .ok (.ifCond .le 5, 3) := by decide +kernel
theorem dN_fewestGoings_27 : decode bN_fewestGoings 27 = .ok (.iload_n 2, 1) := by decide +kernel
theorem dN_fewestGoings_28 : decode bN_fewestGoings 28 = .ok (.ireturn, 1) := by decide +kernel
theorem dN_fewestGoings_29 : decode bN_fewestGoings 29 = .ok (.iinc 2 1, 3) := by decide +kernel
theorem dN_fewestGoings_32 : decode bN_fewestGoings 32 = .ok (.goto (-22), 3) := by decide +kernel
theorem dN_fewestGoings_35 : decode bN_fewestGoings 35 = .ok (.bipush (-9), 2) := by decide +kernel
theorem dN_fewestGoings_37 : decode bN_fewestGoings 37 = .ok (.ireturn, 1) := by decide +kernel
theorem dP_rankOf_0 : decode bP_rankOf 0 = .ok (.iconst 0, 1) := by decide +kernel
theorem dP_rankOf_1 : decode bP_rankOf 1 = .ok (.istore_n 2, 1) := by decide +kernel
theorem dP_rankOf_2 : decode bP_rankOf 2 = .ok (.iconst 0, 1) := by decide +kernel
theorem dP_rankOf_3 : decode bP_rankOf 3 = .ok (.istore_n 3, 1) := by decide +kernel
theorem dP_rankOf_4 : decode bP_rankOf 4 = .ok (.iload_n 3, 1) := by decide +kernel
theorem dP_rankOf_5 : decode bP_rankOf 5 = .ok (.aload_n 0, 1) := by decide +kernel
theorem dP_rankOf_6 : decode bP_rankOf 6 = .ok (.getfield 32, 3) := by decide +kernel
theorem dP_rankOf_9 : decode bP_rankOf 9 = .ok (.invokevirtual 54, 3) := by decide +kernel
theorem dP_rankOf_12 : decode bP_rankOf 12 = .ok (.if_icmp .ge 55, 3) := by decide +kernel
theorem dP_rankOf_15 : decode bP_rankOf 15 = .ok (.aload_n 0, 1) := by decide +kernel
theorem dP_rankOf_16 : decode bP_rankOf 16 = .ok (.getfield 32, 3) := by decide +kernel
theorem dP_rankOf_19 : decode bP_rankOf 19 = .ok (.iload_n 3, 1) := by decide +kernel
theorem dP_rankOf_20 : decode bP_rankOf 20 = .ok (.invokevirtual 58, 3) := by decide +kernel
theorem dP_rankOf_23 : decode bP_rankOf 23 = .ok (.aload_n 0, 1) := by decide +kernel
theorem dP_rankOf_24 : decode bP_rankOf 24 = .ok (.getfield 32, 3) := by decide +kernel
theorem dP_rankOf_27 : decode bP_rankOf 27 = .ok (.iload_n 1, 1) := by decide +kernel
theorem dP_rankOf_28 : decode bP_rankOf 28 = .ok (.invokevirtual 58, 3) := by decide +kernel
theorem dP_rankOf_31 : decode bP_rankOf 31 = .ok (.if_icmp .gt 27, 3) := by decide +kernel
theorem dP_rankOf_34 : decode bP_rankOf 34 = .ok (.aload_n 0, 1) := by decide +kernel
theorem dP_rankOf_35 : decode bP_rankOf 35 = .ok (.getfield 32, 3) := by decide +kernel
theorem dP_rankOf_38 : decode bP_rankOf 38 = .ok (.iload_n 3, 1) := by decide +kernel
theorem dP_rankOf_39 : decode bP_rankOf 39 = .ok (.invokevirtual 58, 3) := by decide +kernel
theorem dP_rankOf_42 : decode bP_rankOf 42 = .ok (.aload_n 0, 1) := by decide +kernel
theorem dP_rankOf_43 : decode bP_rankOf 43 = .ok (.getfield 32, 3) := by decide +kernel
theorem dP_rankOf_46 : decode bP_rankOf 46 = .ok (.iload_n 1, 1) := by decide +kernel
theorem dP_rankOf_47 : decode bP_rankOf 47 = .ok (.invokevirtual 58, 3) := by decide +kernel
theorem dP_rankOf_50 : decode bP_rankOf 50 = .ok (.if_icmp .ne 11, 3) := by decide +kernel
theorem dP_rankOf_53 : decode bP_rankOf 53 = .ok (.iload_n 3, 1) := by decide +kernel
theorem dP_rankOf_54 : decode bP_rankOf 54 = .ok (.iload_n 1, 1) := by decide +kernel
theorem dP_rankOf_55 : decode bP_rankOf 55 = .ok (.if_icmp .ge 6, 3) := by decide +kernel
theorem dP_rankOf_58 : decode bP_rankOf 58 = .ok (.iinc 2 1, 3) := by decide +kernel
theorem dP_rankOf_61 : decode bP_rankOf 61 = .ok (.iinc 3 1, 3) := by decide +kernel
theorem dP_rankOf_64 : decode bP_rankOf 64 = .ok (.goto (-60), 3) := by decide +kernel
theorem dP_rankOf_67 : decode bP_rankOf 67 = .ok (.iload_n 2, 1) := by decide +kernel
theorem dP_rankOf_68 : decode bP_rankOf 68 = .ok (.ireturn, 1) := by decide +kernel
theorem dN_timesInAll_0 : decode bN_timesInAll 0 = .ok (.aload_n 0, 1) := by decide +kernel
theorem dN_timesInAll_1 : decode bN_timesInAll 1 = .ok (.iload_n 1, 1) := by decide +kernel
theorem dN_timesInAll_2 : decode bN_timesInAll 2 = .ok (.iconst (-1), 1) := by decide +kernel
theorem dN_timesInAll_3 : decode bN_timesInAll 3 = .ok (.iconst 0, 1) := by decide +kernel
theorem dN_timesInAll_4 : decode bN_timesInAll 4 = .ok (.invokevirtual 46, 3) := by decide +kernel
theorem dN_timesInAll_7 : decode bN_timesInAll 7 = .ok (.istore_n 3, 1) := by decide +kernel
theorem dN_timesInAll_8 : decode bN_timesInAll 8 = .ok (.iconst 0, 1) := by decide +kernel
theorem dN_timesInAll_9 : decode bN_timesInAll 9 = .ok (.istore 4, 2) := by decide +kernel
theorem dN_timesInAll_11 : decode bN_timesInAll 11 = .ok (.iload 4, 2) := by decide +kernel
theorem dN_timesInAll_13 : decode bN_timesInAll 13 = .ok (.bipush 9, 2) := by decide +kernel
theorem dN_timesInAll_15 : decode bN_timesInAll 15 = .ok (.if_icmp .gt 28, 3) := by decide +kernel
theorem dN_timesInAll_18 : decode bN_timesInAll 18 = .ok (.iload_n 3, 1) := by decide +kernel
theorem dN_timesInAll_19 : decode bN_timesInAll 19 = .ok (.ifCond .le 24, 3) := by decide +kernel
theorem dN_timesInAll_22 : decode bN_timesInAll 22 = .ok (.aload_n 0, 1) := by decide +kernel
theorem dN_timesInAll_23 : decode bN_timesInAll 23 = .ok (.iload_n 1, 1) := by decide +kernel
theorem dN_timesInAll_24 : decode bN_timesInAll 24 = .ok (.iload_n 2, 1) := by decide +kernel
theorem dN_timesInAll_25 : decode bN_timesInAll 25 = .ok (.iload 4, 2) := by decide +kernel
theorem dN_timesInAll_27 : decode bN_timesInAll 27 = .ok (.invokevirtual 46, 3) := by decide +kernel
theorem dN_timesInAll_30 : decode bN_timesInAll 30 = .ok (.iload_n 3, 1) := by decide +kernel
theorem dN_timesInAll_31 : decode bN_timesInAll 31 = .ok (.if_icmp .ne 6, 3) := by decide +kernel
theorem dN_timesInAll_34 : decode bN_timesInAll 34 = .ok (.iload 4, 2) := by decide +kernel
theorem dN_timesInAll_36 : decode bN_timesInAll 36 = .ok (.ireturn, 1) := by decide +kernel
theorem dN_timesInAll_37 : decode bN_timesInAll 37 = .ok (.iinc 4 1, 3) := by decide +kernel
theorem dN_timesInAll_40 : decode bN_timesInAll 40 = .ok (.goto (-29), 3) := by decide +kernel
theorem dN_timesInAll_43 : decode bN_timesInAll 43 = .ok (.bipush (-9), 2) := by decide +kernel
theorem dN_timesInAll_45 : decode bN_timesInAll 45 = .ok (.ireturn, 1) := by decide +kernel
theorem dP_hasLanding_0 : decode bP_hasLanding 0 = .ok (.iload_n 1, 1) := by decide +kernel
theorem dP_hasLanding_1 : decode bP_hasLanding 1 = .ok (.ifCond .lt 18, 3) := by decide +kernel
theorem dP_hasLanding_4 : decode bP_hasLanding 4 = .ok (.iload_n 1, 1) := by decide +kernel
theorem dP_hasLanding_5 : decode bP_hasLanding 5 = .ok (.aload_n 0, 1) := by decide +kernel
theorem dP_hasLanding_6 : decode bP_hasLanding 6 = .ok (.getfield 14, 3) := by decide +kernel
theorem dP_hasLanding_9 : decode bP_hasLanding 9 = .ok (.invokevirtual 54, 3) := by decide +kernel
theorem dP_hasLanding_12 : decode bP_hasLanding 12 = .ok (.if_icmp .gt 7, 3) := by decide +kernel
theorem dP_hasLanding_15 : decode bP_hasLanding 15 = .ok (.iconst 1, 1) := by decide +kernel
theorem dP_hasLanding_16 : decode bP_hasLanding 16 = .ok (.goto 4, 3) := by decide +kernel
theorem dP_hasLanding_19 : decode bP_hasLanding 19 = .ok (.iconst 0, 1) := by decide +kernel
theorem dP_hasLanding_20 : decode bP_hasLanding 20 = .ok (.ireturn, 1) := by decide +kernel
theorem dM_add_0 : decode bM_add 0 = .ok (.aload_n 0, 1) := by decide +kernel
theorem dM_add_1 : decode bM_add 1 = .ok (.getfield 14, 3) := by decide +kernel
theorem dM_add_4 : decode bM_add 4 = .ok (.iload_n 1, 1) := by decide +kernel
theorem dM_add_5 : decode bM_add 5 = .ok (.invokevirtual 32, 3) := by decide +kernel
theorem dM_add_8 : decode bM_add 8 = .ok (.aload_n 0, 1) := by decide +kernel
theorem dM_add_9 : decode bM_add 9 = .ok (.getfield 20, 3) := by decide +kernel
theorem dM_add_12 : decode bM_add 12 = .ok (.iload_n 2, 1) := by decide +kernel
theorem dM_add_13 : decode bM_add 13 = .ok (.invokevirtual 32, 3) := by decide +kernel
theorem dM_add_16 : decode bM_add 16 = .ok (.aload_n 0, 1) := by decide +kernel
theorem dM_add_17 : decode bM_add 17 = .ok (.getfield 23, 3) := by decide +kernel
theorem dM_add_20 : decode bM_add 20 = .ok (.iload_n 3, 1) := by decide +kernel
theorem dM_add_21 : decode bM_add 21 = .ok (.invokevirtual 32, 3) := by decide +kernel
theorem dM_add_24 : decode bM_add 24 = .ok (.return_, 1) := by decide +kernel
theorem dM_leastChange_0 : decode bM_leastChange 0 = .ok (.iconst 0, 1) := by decide +kernel
theorem dM_leastChange_1 : decode bM_leastChange 1 = .ok (.istore_n 1, 1) := by decide +kernel
theorem dM_leastChange_2 : decode bM_leastChange 2 = .ok (.iconst 3, 1) := by decide +kernel
theorem dM_leastChange_3 : decode bM_leastChange 3 = .ok (.aload_n 0, 1) := by decide +kernel
theorem dM_leastChange_4 : decode bM_leastChange 4 = .ok (.getfield 23, 3) := by decide +kernel
theorem dM_leastChange_7 : decode bM_leastChange 7 = .ok (.invokevirtual 35, 3) := by decide +kernel
theorem dM_leastChange_10 : decode bM_leastChange 10 = .ok (.invokestatic 56, 3) := by decide +kernel
theorem dM_leastChange_13 : decode bM_leastChange 13 = .ok (.istore_n 2, 1) := by decide +kernel
theorem dM_leastChange_14 : decode bM_leastChange 14 = .ok (.iconst 0, 1) := by decide +kernel
theorem dM_leastChange_15 : decode bM_leastChange 15 = .ok (.istore_n 3, 1) := by decide +kernel
theorem dM_leastChange_16 : decode bM_leastChange 16 = .ok (.iload_n 3, 1) := by decide +kernel
theorem dM_leastChange_17 : decode bM_leastChange 17 = .ok (.iload_n 2, 1) := by decide +kernel
theorem dM_leastChange_18 : decode bM_leastChange 18 = .ok (.if_icmp .ge 19, 3) := by decide +kernel
theorem dM_leastChange_21 : decode bM_leastChange 21 = .ok (.iload_n 1, 1) := by decide +kernel
theorem dM_leastChange_22 : decode bM_leastChange 22 = .ok (.aload_n 0, 1) := by decide +kernel
theorem dM_leastChange_23 : decode bM_leastChange 23 = .ok (.iload_n 3, 1) := by decide +kernel
theorem dM_leastChange_24 : decode bM_leastChange 24 = .ok (.invokevirtual 60, 3) := by decide +kernel
theorem dM_leastChange_27 : decode bM_leastChange 27 = .ok (.invokestatic 63, 3) := by decide +kernel
theorem dM_leastChange_30 : decode bM_leastChange 30 = .ok (.istore_n 1, 1) := by decide +kernel
theorem dM_leastChange_31 : decode bM_leastChange 31 = .ok (.iinc 3 1, 3) := by decide +kernel
theorem dM_leastChange_34 : decode bM_leastChange 34 = .ok (.goto (-18), 3) := by decide +kernel
theorem dM_leastChange_37 : decode bM_leastChange 37 = .ok (.iload_n 1, 1) := by decide +kernel
theorem dM_leastChange_38 : decode bM_leastChange 38 = .ok (.ireturn, 1) := by decide +kernel
theorem dM_gapOf_0 : decode bM_gapOf 0 = .ok (.aload_n 0, 1) := by decide +kernel
theorem dM_gapOf_1 : decode bM_gapOf 1 = .ok (.getfield 26, 3) := by decide +kernel
theorem dM_gapOf_4 : decode bM_gapOf 4 = .ok (.invokevirtual 29, 3) := by decide +kernel
theorem dM_gapOf_7 : decode bM_gapOf 7 = .ok (.iconst 0, 1) := by decide +kernel
theorem dM_gapOf_8 : decode bM_gapOf 8 = .ok (.istore_n 2, 1) := by decide +kernel
theorem dM_gapOf_9 : decode bM_gapOf 9 = .ok (.iload_n 1, 1) := by decide +kernel
theorem dM_gapOf_10 : decode bM_gapOf 10 = .ok (.istore_n 3, 1) := by decide +kernel
theorem dM_gapOf_11 : decode bM_gapOf 11 = .ok (.iconst 0, 1) := by decide +kernel
theorem dM_gapOf_12 : decode bM_gapOf 12 = .ok (.istore 4, 2) := by decide +kernel
theorem dM_gapOf_14 : decode bM_gapOf 14 = .ok (.iload 4, 2) := by decide +kernel
theorem dM_gapOf_16 : decode bM_gapOf 16 = .ok (.aload_n 0, 1) := by decide +kernel
theorem dM_gapOf_17 : decode bM_gapOf 17 = .ok (.getfield 23, 3) := by decide +kernel
theorem dM_gapOf_20 : decode bM_gapOf 20 = .ok (.invokevirtual 35, 3) := by decide +kernel
theorem dM_gapOf_23 : decode bM_gapOf 23 = .ok (.if_icmp .ge 105, 3) := by decide +kernel
theorem dM_gapOf_26 : decode bM_gapOf 26 = .ok (.iload_n 3, 1) := by decide +kernel
theorem dM_gapOf_27 : decode bM_gapOf 27 = .ok (.iconst 3, 1) := by decide +kernel
theorem dM_gapOf_28 : decode bM_gapOf 28 = .ok (.irem, 1) := by decide +kernel
theorem dM_gapOf_29 : decode bM_gapOf 29 = .ok (.iconst 1, 1) := by decide +kernel
theorem dM_gapOf_30 : decode bM_gapOf 30 = .ok (.isub, 1) := by decide +kernel
theorem dM_gapOf_31 : decode bM_gapOf 31 = .ok (.istore 5, 2) := by decide +kernel
theorem dM_gapOf_33 : decode bM_gapOf 33 = .ok (.iload_n 3, 1) := by decide +kernel
theorem dM_gapOf_34 : decode bM_gapOf 34 = .ok (.iconst 3, 1) := by decide +kernel
theorem dM_gapOf_35 : decode bM_gapOf 35 = .ok (.idiv, 1) := by decide +kernel
theorem dM_gapOf_36 : decode bM_gapOf 36 = .ok (.istore_n 3, 1) := by decide +kernel
theorem dM_gapOf_37 : decode bM_gapOf 37 = .ok (.iload_n 2, 1) := by decide +kernel
theorem dM_gapOf_38 : decode bM_gapOf 38 = .ok (.iload 5, 2) := by decide +kernel
theorem dM_gapOf_40 : decode bM_gapOf 40 = .ok (.aload_n 0, 1) := by decide +kernel
theorem dM_gapOf_41 : decode bM_gapOf 41 = .ok (.getfield 23, 3) := by decide +kernel
theorem dM_gapOf_44 : decode bM_gapOf 44 = .ok (.iload 4, 2) := by decide +kernel
theorem dM_gapOf_46 : decode bM_gapOf 46 = .ok (.invokevirtual 39, 3) := by decide +kernel
theorem dM_gapOf_49 : decode bM_gapOf 49 = .ok (.imul, 1) := by decide +kernel
theorem dM_gapOf_50 : decode bM_gapOf 50 = .ok (.iadd, 1) := by decide +kernel
theorem dM_gapOf_51 : decode bM_gapOf 51 = .ok (.istore_n 2, 1) := by decide +kernel
theorem dM_gapOf_52 : decode bM_gapOf 52 = .ok (.aload_n 0, 1) := by decide +kernel
theorem dM_gapOf_53 : decode bM_gapOf 53 = .ok (.getfield 26, 3) := by decide +kernel
theorem dM_gapOf_56 : decode bM_gapOf 56 = .ok (.aload_n 0, 1) := by decide +kernel
theorem dM_gapOf_57 : decode bM_gapOf 57 = .ok (.getfield 14, 3) := by decide +kernel
theorem dM_gapOf_60 : decode bM_gapOf 60 = .ok (.iload 4, 2) := by decide +kernel
theorem dM_gapOf_62 : decode bM_gapOf 62 = .ok (.invokevirtual 39, 3) := by decide +kernel
theorem dM_gapOf_65 : decode bM_gapOf 65 = .ok (.aload_n 0, 1) := by decide +kernel
theorem dM_gapOf_66 : decode bM_gapOf 66 = .ok (.getfield 26, 3) := by decide +kernel
theorem dM_gapOf_69 : decode bM_gapOf 69 = .ok (.aload_n 0, 1) := by decide +kernel
theorem dM_gapOf_70 : decode bM_gapOf 70 = .ok (.getfield 14, 3) := by decide +kernel
theorem dM_gapOf_73 : decode bM_gapOf 73 = .ok (.iload 4, 2) := by decide +kernel
theorem dM_gapOf_75 : decode bM_gapOf 75 = .ok (.invokevirtual 39, 3) := by decide +kernel
theorem dM_gapOf_78 : decode bM_gapOf 78 = .ok (.invokevirtual 39, 3) := by decide +kernel
theorem dM_gapOf_81 : decode bM_gapOf 81 = .ok (.iload 5, 2) := by decide +kernel
theorem dM_gapOf_83 : decode bM_gapOf 83 = .ok (.isub, 1) := by decide +kernel
theorem dM_gapOf_84 : decode bM_gapOf 84 = .ok (.invokevirtual 66, 3) := by decide +kernel
theorem dM_gapOf_87 : decode bM_gapOf 87 = .ok (.aload_n 0, 1) := by decide +kernel
theorem dM_gapOf_88 : decode bM_gapOf 88 = .ok (.getfield 26, 3) := by decide +kernel
theorem dM_gapOf_91 : decode bM_gapOf 91 = .ok (.aload_n 0, 1) := by decide +kernel
theorem dM_gapOf_92 : decode bM_gapOf 92 = .ok (.getfield 20, 3) := by decide +kernel
theorem dM_gapOf_95 : decode bM_gapOf 95 = .ok (.iload 4, 2) := by decide +kernel
theorem dM_gapOf_97 : decode bM_gapOf 97 = .ok (.invokevirtual 39, 3) := by decide +kernel
theorem dM_gapOf_100 : decode bM_gapOf 100 = .ok (.aload_n 0, 1) := by decide +kernel
theorem dM_gapOf_101 : decode bM_gapOf 101 = .ok (.getfield 26, 3) := by decide +kernel
theorem dM_gapOf_104 : decode bM_gapOf 104 = .ok (.aload_n 0, 1) := by decide +kernel
theorem dM_gapOf_105 : decode bM_gapOf 105 = .ok (.getfield 20, 3) := by decide +kernel
theorem dM_gapOf_108 : decode bM_gapOf 108 = .ok (.iload 4, 2) := by decide +kernel
theorem dM_gapOf_110 : decode bM_gapOf 110 = .ok (.invokevirtual 39, 3) := by decide +kernel
theorem dM_gapOf_113 : decode bM_gapOf 113 = .ok (.invokevirtual 39, 3) := by decide +kernel
theorem dM_gapOf_116 : decode bM_gapOf 116 = .ok (.iload 5, 2) := by decide +kernel
theorem dM_gapOf_118 : decode bM_gapOf 118 = .ok (.iadd, 1) := by decide +kernel
theorem dM_gapOf_119 : decode bM_gapOf 119 = .ok (.invokevirtual 66, 3) := by decide +kernel
theorem dM_gapOf_122 : decode bM_gapOf 122 = .ok (.iinc 4 1, 3) := by decide +kernel
theorem dM_gapOf_125 : decode bM_gapOf 125 = .ok (.goto (-111), 3) := by decide +kernel
theorem dM_gapOf_128 : decode bM_gapOf 128 = .ok (.iconst 0, 1) := by decide +kernel
theorem dM_gapOf_129 : decode bM_gapOf 129 = .ok (.istore 4, 2) := by decide +kernel
theorem dM_gapOf_131 : decode bM_gapOf 131 = .ok (.iload 4, 2) := by decide +kernel
theorem dM_gapOf_133 : decode bM_gapOf 133 = .ok (.iconst 5, 1) := by decide +kernel
theorem dM_gapOf_134 : decode bM_gapOf 134 = .ok (.if_icmp .gt 23, 3) := by decide +kernel
theorem dM_gapOf_137 : decode bM_gapOf 137 = .ok (.aload_n 0, 1) := by decide +kernel
theorem dM_gapOf_138 : decode bM_gapOf 138 = .ok (.getfield 26, 3) := by decide +kernel
theorem dM_gapOf_141 : decode bM_gapOf 141 = .ok (.iload 4, 2) := by decide +kernel
theorem dM_gapOf_143 : decode bM_gapOf 143 = .ok (.invokevirtual 39, 3) := by decide +kernel
theorem dM_gapOf_146 : decode bM_gapOf 146 = .ok (.ifCond .eq 5, 3) := by decide +kernel
theorem dM_gapOf_149 : decode bM_gapOf 149 = .ok (.iconst 0, 1) := by decide +kernel
theorem dM_gapOf_150 : decode bM_gapOf 150 = .ok (.ireturn, 1) := by decide +kernel
theorem dM_gapOf_151 : decode bM_gapOf 151 = .ok (.iinc 4 1, 3) := by decide +kernel
theorem dM_gapOf_154 : decode bM_gapOf 154 = .ok (.goto (-23), 3) := by decide +kernel
theorem dM_gapOf_157 : decode bM_gapOf 157 = .ok (.iload_n 2, 1) := by decide +kernel
theorem dM_gapOf_158 : decode bM_gapOf 158 = .ok (.ireturn, 1) := by decide +kernel
theorem dM_offBy_0 : decode bM_offBy 0 = .ok (.iconst 0, 1) := by decide +kernel
theorem dM_offBy_1 : decode bM_offBy 1 = .ok (.istore_n 2, 1) := by decide +kernel
theorem dM_offBy_2 : decode bM_offBy 2 = .ok (.iconst 0, 1) := by decide +kernel
theorem dM_offBy_3 : decode bM_offBy 3 = .ok (.istore_n 3, 1) := by decide +kernel
theorem dM_offBy_4 : decode bM_offBy 4 = .ok (.iload_n 3, 1) := by decide +kernel
theorem dM_offBy_5 : decode bM_offBy 5 = .ok (.aload_n 0, 1) := by decide +kernel
theorem dM_offBy_6 : decode bM_offBy 6 = .ok (.getfield 23, 3) := by decide +kernel
theorem dM_offBy_9 : decode bM_offBy 9 = .ok (.invokevirtual 35, 3) := by decide +kernel
theorem dM_offBy_12 : decode bM_offBy 12 = .ok (.if_icmp .ge 73, 3) := by decide +kernel
theorem dM_offBy_15 : decode bM_offBy 15 = .ok (.aload_n 1, 1) := by decide +kernel
theorem dM_offBy_16 : decode bM_offBy 16 = .ok (.sipush 1000, 3) := by decide +kernel
theorem dM_offBy_19 : decode bM_offBy 19 = .ok (.aload_n 1, 1) := by decide +kernel
theorem dM_offBy_20 : decode bM_offBy 20 = .ok (.aload_n 0, 1) := by decide +kernel
theorem dM_offBy_21 : decode bM_offBy 21 = .ok (.getfield 14, 3) := by decide +kernel
theorem dM_offBy_24 : decode bM_offBy 24 = .ok (.iload_n 3, 1) := by decide +kernel
theorem dM_offBy_25 : decode bM_offBy 25 = .ok (.invokevirtual 39, 3) := by decide +kernel
theorem dM_offBy_28 : decode bM_offBy 28 = .ok (.invokevirtual 43, 3) := by decide +kernel
theorem dM_offBy_31 : decode bM_offBy 31 = .ok (.imul, 1) := by decide +kernel
theorem dM_offBy_32 : decode bM_offBy 32 = .ok (.invokevirtual 48, 3) := by decide +kernel
theorem dM_offBy_35 : decode bM_offBy 35 = .ok (.istore 4, 2) := by decide +kernel
theorem dM_offBy_37 : decode bM_offBy 37 = .ok (.aload_n 1, 1) := by decide +kernel
theorem dM_offBy_38 : decode bM_offBy 38 = .ok (.sipush 1000, 3) := by decide +kernel
theorem dM_offBy_41 : decode bM_offBy 41 = .ok (.aload_n 1, 1) := by decide +kernel
theorem dM_offBy_42 : decode bM_offBy 42 = .ok (.aload_n 0, 1) := by decide +kernel
theorem dM_offBy_43 : decode bM_offBy 43 = .ok (.getfield 20, 3) := by decide +kernel
theorem dM_offBy_46 : decode bM_offBy 46 = .ok (.iload_n 3, 1) := by decide +kernel
theorem dM_offBy_47 : decode bM_offBy 47 = .ok (.invokevirtual 39, 3) := by decide +kernel
theorem dM_offBy_50 : decode bM_offBy 50 = .ok (.invokevirtual 43, 3) := by decide +kernel
theorem dM_offBy_53 : decode bM_offBy 53 = .ok (.imul, 1) := by decide +kernel
theorem dM_offBy_54 : decode bM_offBy 54 = .ok (.invokevirtual 48, 3) := by decide +kernel
theorem dM_offBy_57 : decode bM_offBy 57 = .ok (.istore 5, 2) := by decide +kernel
theorem dM_offBy_59 : decode bM_offBy 59 = .ok (.iload_n 2, 1) := by decide +kernel
theorem dM_offBy_60 : decode bM_offBy 60 = .ok (.iload 5, 2) := by decide +kernel
theorem dM_offBy_62 : decode bM_offBy 62 = .ok (.iload 4, 2) := by decide +kernel
theorem dM_offBy_64 : decode bM_offBy 64 = .ok (.isub, 1) := by decide +kernel
theorem dM_offBy_65 : decode bM_offBy 65 = .ok (.aload_n 0, 1) := by decide +kernel
theorem dM_offBy_66 : decode bM_offBy 66 = .ok (.getfield 23, 3) := by decide +kernel
theorem dM_offBy_69 : decode bM_offBy 69 = .ok (.iload_n 3, 1) := by decide +kernel
theorem dM_offBy_70 : decode bM_offBy 70 = .ok (.invokevirtual 39, 3) := by decide +kernel
theorem dM_offBy_73 : decode bM_offBy 73 = .ok (.isub, 1) := by decide +kernel
theorem dM_offBy_74 : decode bM_offBy 74 = .ok (.invokestatic 51, 3) := by decide +kernel
theorem dM_offBy_77 : decode bM_offBy 77 = .ok (.iadd, 1) := by decide +kernel
theorem dM_offBy_78 : decode bM_offBy 78 = .ok (.istore_n 2, 1) := by decide +kernel
theorem dM_offBy_79 : decode bM_offBy 79 = .ok (.iinc 3 1, 3) := by decide +kernel
theorem dM_offBy_82 : decode bM_offBy 82 = .ok (.goto (-78), 3) := by decide +kernel
theorem dM_offBy_85 : decode bM_offBy 85 = .ok (.iload_n 2, 1) := by decide +kernel
theorem dM_offBy_86 : decode bM_offBy 86 = .ok (.ireturn, 1) := by decide +kernel
theorem dJ_bitCount_0 : decode bJ_bitCount 0 = .ok (.iload_n 0, 1) := by decide +kernel
theorem dJ_bitCount_1 : decode bJ_bitCount 1 = .ok (.iload_n 0, 1) := by decide +kernel
theorem dJ_bitCount_2 : decode bJ_bitCount 2 = .ok (.iconst 1, 1) := by decide +kernel
theorem dJ_bitCount_3 : decode bJ_bitCount 3 = .ok (.iushr, 1) := by decide +kernel
theorem dJ_bitCount_4 : decode bJ_bitCount 4 = .ok (.ldc_w 265, 3) := by decide +kernel
theorem dJ_bitCount_7 : decode bJ_bitCount 7 = .ok (.iand, 1) := by decide +kernel
theorem dJ_bitCount_8 : decode bJ_bitCount 8 = .ok (.isub, 1) := by decide +kernel
theorem dJ_bitCount_9 : decode bJ_bitCount 9 = .ok (.istore_n 0, 1) := by decide +kernel
theorem dJ_bitCount_10 : decode bJ_bitCount 10 = .ok (.iload_n 0, 1) := by decide +kernel
theorem dJ_bitCount_11 : decode bJ_bitCount 11 = .ok (.ldc_w 266, 3) := by decide +kernel
theorem dJ_bitCount_14 : decode bJ_bitCount 14 = .ok (.iand, 1) := by decide +kernel
theorem dJ_bitCount_15 : decode bJ_bitCount 15 = .ok (.iload_n 0, 1) := by decide +kernel
theorem dJ_bitCount_16 : decode bJ_bitCount 16 = .ok (.iconst 2, 1) := by decide +kernel
theorem dJ_bitCount_17 : decode bJ_bitCount 17 = .ok (.iushr, 1) := by decide +kernel
theorem dJ_bitCount_18 : decode bJ_bitCount 18 = .ok (.ldc_w 266, 3) := by decide +kernel
theorem dJ_bitCount_21 : decode bJ_bitCount 21 = .ok (.iand, 1) := by decide +kernel
theorem dJ_bitCount_22 : decode bJ_bitCount 22 = .ok (.iadd, 1) := by decide +kernel
theorem dJ_bitCount_23 : decode bJ_bitCount 23 = .ok (.istore_n 0, 1) := by decide +kernel
theorem dJ_bitCount_24 : decode bJ_bitCount 24 = .ok (.iload_n 0, 1) := by decide +kernel
theorem dJ_bitCount_25 : decode bJ_bitCount 25 = .ok (.iload_n 0, 1) := by decide +kernel
theorem dJ_bitCount_26 : decode bJ_bitCount 26 = .ok (.iconst 4, 1) := by decide +kernel
theorem dJ_bitCount_27 : decode bJ_bitCount 27 = .ok (.iushr, 1) := by decide +kernel
theorem dJ_bitCount_28 : decode bJ_bitCount 28 = .ok (.iadd, 1) := by decide +kernel
theorem dJ_bitCount_29 : decode bJ_bitCount 29 = .ok (.ldc_w 267, 3) := by decide +kernel
theorem dJ_bitCount_32 : decode bJ_bitCount 32 = .ok (.iand, 1) := by decide +kernel
theorem dJ_bitCount_33 : decode bJ_bitCount 33 = .ok (.istore_n 0, 1) := by decide +kernel
theorem dJ_bitCount_34 : decode bJ_bitCount 34 = .ok (.iload_n 0, 1) := by decide +kernel
theorem dJ_bitCount_35 : decode bJ_bitCount 35 = .ok (.iload_n 0, 1) := by decide +kernel
theorem dJ_bitCount_36 : decode bJ_bitCount 36 = .ok (.bipush 8, 2) := by decide +kernel
theorem dJ_bitCount_38 : decode bJ_bitCount 38 = .ok (.iushr, 1) := by decide +kernel
theorem dJ_bitCount_39 : decode bJ_bitCount 39 = .ok (.iadd, 1) := by decide +kernel
theorem dJ_bitCount_40 : decode bJ_bitCount 40 = .ok (.istore_n 0, 1) := by decide +kernel
theorem dJ_bitCount_41 : decode bJ_bitCount 41 = .ok (.iload_n 0, 1) := by decide +kernel
theorem dJ_bitCount_42 : decode bJ_bitCount 42 = .ok (.iload_n 0, 1) := by decide +kernel
theorem dJ_bitCount_43 : decode bJ_bitCount 43 = .ok (.bipush 16, 2) := by decide +kernel
theorem dJ_bitCount_45 : decode bJ_bitCount 45 = .ok (.iushr, 1) := by decide +kernel
theorem dJ_bitCount_46 : decode bJ_bitCount 46 = .ok (.iadd, 1) := by decide +kernel
theorem dJ_bitCount_47 : decode bJ_bitCount 47 = .ok (.istore_n 0, 1) := by decide +kernel
theorem dJ_bitCount_48 : decode bJ_bitCount 48 = .ok (.iload_n 0, 1) := by decide +kernel
theorem dJ_bitCount_49 : decode bJ_bitCount 49 = .ok (.bipush 63, 2) := by decide +kernel
theorem dJ_bitCount_51 : decode bJ_bitCount 51 = .ok (.iand, 1) := by decide +kernel
theorem dJ_bitCount_52 : decode bJ_bitCount 52 = .ok (.ireturn, 1) := by decide +kernel
theorem dS_thingsBetween_0 : decode bS_thingsBetween 0 = .ok (.iconst 0, 1) := by decide +kernel
theorem dS_thingsBetween_1 : decode bS_thingsBetween 1 = .ok (.istore_n 3, 1) := by decide +kernel
theorem dS_thingsBetween_2 : decode bS_thingsBetween 2 = .ok (.iconst 0, 1) := by decide +kernel
theorem dS_thingsBetween_3 : decode bS_thingsBetween 3 = .ok (.istore 4, 2) := by decide +kernel
theorem dS_thingsBetween_5 : decode bS_thingsBetween 5 = .ok (.iload 4, 2) := by decide +kernel
theorem dS_thingsBetween_7 : decode bS_thingsBetween 7 = .ok (.aload_n 0, 1) := by decide +kernel
theorem dS_thingsBetween_8 : decode bS_thingsBetween 8 = .ok (.getfield 29, 3) := by decide +kernel
theorem dS_thingsBetween_11 : decode bS_thingsBetween 11 = .ok (.invokevirtual 63, 3) := by decide +kernel
theorem dS_thingsBetween_14 : decode bS_thingsBetween 14 = .ok (.if_icmp .ge 38, 3) := by decide +kernel
theorem dS_thingsBetween_17 : decode bS_thingsBetween 17 = .ok (.aload_n 0, 1) := by decide +kernel
theorem dS_thingsBetween_18 : decode bS_thingsBetween 18 = .ok (.getfield 29, 3) := by decide +kernel
theorem dS_thingsBetween_21 : decode bS_thingsBetween 21 = .ok (.iload 4, 2) := by decide +kernel
theorem dS_thingsBetween_23 : decode bS_thingsBetween 23 = .ok (.invokevirtual 39, 3) := by decide +kernel
theorem dS_thingsBetween_26 : decode bS_thingsBetween 26 = .ok (.iload_n 1, 1) := by decide +kernel
theorem dS_thingsBetween_27 : decode bS_thingsBetween 27 = .ok (.if_icmp .lt 19, 3) := by decide +kernel
theorem dS_thingsBetween_30 : decode bS_thingsBetween 30 = .ok (.aload_n 0, 1) := by decide +kernel
theorem dS_thingsBetween_31 : decode bS_thingsBetween 31 = .ok (.getfield 29, 3) := by decide +kernel
theorem dS_thingsBetween_34 : decode bS_thingsBetween 34 = .ok (.iload 4, 2) := by decide +kernel
theorem dS_thingsBetween_36 : decode bS_thingsBetween 36 = .ok (.invokevirtual 39, 3) := by decide +kernel
theorem dS_thingsBetween_39 : decode bS_thingsBetween 39 = .ok (.iload_n 2, 1) := by decide +kernel
theorem dS_thingsBetween_40 : decode bS_thingsBetween 40 = .ok (.if_icmp .ge 6, 3) := by decide +kernel
theorem dS_thingsBetween_43 : decode bS_thingsBetween 43 = .ok (.iinc 3 1, 3) := by decide +kernel
theorem dS_thingsBetween_46 : decode bS_thingsBetween 46 = .ok (.iinc 4 1, 3) := by decide +kernel
theorem dS_thingsBetween_49 : decode bS_thingsBetween 49 = .ok (.goto (-44), 3) := by decide +kernel
theorem dS_thingsBetween_52 : decode bS_thingsBetween 52 = .ok (.iload_n 3, 1) := by decide +kernel
theorem dS_thingsBetween_53 : decode bS_thingsBetween 53 = .ok (.ireturn, 1) := by decide +kernel
theorem dS_copy_0 : decode bS_copy 0 = .ok (.aload_n 0, 1) := by decide +kernel
theorem dS_copy_1 : decode bS_copy 1 = .ok (.getfield 14, 3) := by decide +kernel
theorem dS_copy_4 : decode bS_copy 4 = .ok (.aload_n 1, 1) := by decide +kernel
theorem dS_copy_5 : decode bS_copy 5 = .ok (.getfield 14, 3) := by decide +kernel
theorem dS_copy_8 : decode bS_copy 8 = .ok (.invokevirtual 35, 3) := by decide +kernel
theorem dS_copy_11 : decode bS_copy 11 = .ok (.aload_n 0, 1) := by decide +kernel
theorem dS_copy_12 : decode bS_copy 12 = .ok (.getfield 20, 3) := by decide +kernel
theorem dS_copy_15 : decode bS_copy 15 = .ok (.aload_n 1, 1) := by decide +kernel
theorem dS_copy_16 : decode bS_copy 16 = .ok (.getfield 20, 3) := by decide +kernel
theorem dS_copy_19 : decode bS_copy 19 = .ok (.invokevirtual 35, 3) := by decide +kernel
theorem dS_copy_22 : decode bS_copy 22 = .ok (.aload_n 0, 1) := by decide +kernel
theorem dS_copy_23 : decode bS_copy 23 = .ok (.getfield 23, 3) := by decide +kernel
theorem dS_copy_26 : decode bS_copy 26 = .ok (.aload_n 1, 1) := by decide +kernel
theorem dS_copy_27 : decode bS_copy 27 = .ok (.getfield 23, 3) := by decide +kernel
theorem dS_copy_30 : decode bS_copy 30 = .ok (.invokevirtual 35, 3) := by decide +kernel
theorem dS_copy_33 : decode bS_copy 33 = .ok (.aload_n 0, 1) := by decide +kernel
theorem dS_copy_34 : decode bS_copy 34 = .ok (.getfield 26, 3) := by decide +kernel
theorem dS_copy_37 : decode bS_copy 37 = .ok (.aload_n 1, 1) := by decide +kernel
theorem dS_copy_38 : decode bS_copy 38 = .ok (.getfield 26, 3) := by decide +kernel
theorem dS_copy_41 : decode bS_copy 41 = .ok (.invokevirtual 35, 3) := by decide +kernel
theorem dS_copy_44 : decode bS_copy 44 = .ok (.aload_n 0, 1) := by decide +kernel
theorem dS_copy_45 : decode bS_copy 45 = .ok (.getfield 29, 3) := by decide +kernel
theorem dS_copy_48 : decode bS_copy 48 = .ok (.aload_n 1, 1) := by decide +kernel
theorem dS_copy_49 : decode bS_copy 49 = .ok (.getfield 29, 3) := by decide +kernel
theorem dS_copy_52 : decode bS_copy 52 = .ok (.invokevirtual 35, 3) := by decide +kernel
theorem dS_copy_55 : decode bS_copy 55 = .ok (.return_, 1) := by decide +kernel
theorem dR_copy_0 : decode bR_copy 0 = .ok (.iconst 0, 1) := by decide +kernel
theorem dR_copy_1 : decode bR_copy 1 = .ok (.istore_n 2, 1) := by decide +kernel
theorem dR_copy_2 : decode bR_copy 2 = .ok (.iload_n 2, 1) := by decide +kernel
theorem dR_copy_3 : decode bR_copy 3 = .ok (.aload_n 0, 1) := by decide +kernel
theorem dR_copy_4 : decode bR_copy 4 = .ok (.getfield 13, 3) := by decide +kernel
theorem dR_copy_7 : decode bR_copy 7 = .ok (.arraylength, 1) := by decide +kernel
theorem dR_copy_8 : decode bR_copy 8 = .ok (.if_icmp .ge 20, 3) := by decide +kernel
theorem dR_copy_11 : decode bR_copy 11 = .ok (.aload_n 0, 1) := by decide +kernel
theorem dR_copy_12 : decode bR_copy 12 = .ok (.getfield 13, 3) := by decide +kernel
theorem dR_copy_15 : decode bR_copy 15 = .ok (.iload_n 2, 1) := by decide +kernel
theorem dR_copy_16 : decode bR_copy 16 = .ok (.aload_n 1, 1) := by decide +kernel
theorem dR_copy_17 : decode bR_copy 17 = .ok (.iload_n 2, 1) := by decide +kernel
theorem dR_copy_18 : decode bR_copy 18 = .ok (.invokevirtual 31, 3) := by decide +kernel
theorem dR_copy_21 : decode bR_copy 21 = .ok (.iastore, 1) := by decide +kernel
theorem dR_copy_22 : decode bR_copy 22 = .ok (.iinc 2 1, 3) := by decide +kernel
theorem dR_copy_25 : decode bR_copy 25 = .ok (.goto (-23), 3) := by decide +kernel
theorem dR_copy_28 : decode bR_copy 28 = .ok (.aload_n 0, 1) := by decide +kernel
theorem dR_copy_29 : decode bR_copy 29 = .ok (.aload_n 0, 1) := by decide +kernel
theorem dR_copy_30 : decode bR_copy 30 = .ok (.getfield 13, 3) := by decide +kernel
theorem dR_copy_33 : decode bR_copy 33 = .ok (.arraylength, 1) := by decide +kernel
theorem dR_copy_34 : decode bR_copy 34 = .ok (.aload_n 1, 1) := by decide +kernel
theorem dR_copy_35 : decode bR_copy 35 = .ok (.getfield 19, 3) := by decide +kernel
theorem dR_copy_38 : decode bR_copy 38 = .ok (.invokestatic 35, 3) := by decide +kernel
theorem dR_copy_41 : decode bR_copy 41 = .ok (.putfield 19, 3) := by decide +kernel
theorem dR_copy_44 : decode bR_copy 44 = .ok (.return_, 1) := by decide +kernel
