theorem dZ_init_0 : decode bZ_init 0 = .ok (.aload_n 0, 1) := by decide +kernel
theorem dZ_init_1 : decode bZ_init 1 = .ok (.invokespecial 1, 3) := by decide +kernel
theorem dZ_init_4 : decode bZ_init 4 = .ok (.aload_n 0, 1) := by decide +kernel
theorem dZ_init_5 : decode bZ_init 5 = .ok (.bipush 120, 2) := by decide +kernel
theorem dZ_init_7 : decode bZ_init 7 = .ok (.newarray .int, 2) := by decide +kernel
theorem dZ_init_9 : decode bZ_init 9 = .ok (.putfield 7, 3) := by decide +kernel
theorem dZ_init_12 : decode bZ_init 12 = .ok (.aload_n 0, 1) := by decide +kernel
theorem dZ_init_13 : decode bZ_init 13 = .ok (.bipush 8, 2) := by decide +kernel
theorem dZ_init_15 : decode bZ_init 15 = .ok (.newarray .int, 2) := by decide +kernel
theorem dZ_init_17 : decode bZ_init 17 = .ok (.putfield 13, 3) := by decide +kernel
theorem dZ_init_20 : decode bZ_init 20 = .ok (.aload_n 0, 1) := by decide +kernel
theorem dZ_init_21 : decode bZ_init 21 = .ok (.bipush 10, 2) := by decide +kernel
theorem dZ_init_23 : decode bZ_init 23 = .ok (.newarray .int, 2) := by decide +kernel
theorem dZ_init_25 : decode bZ_init 25 = .ok (.putfield 16, 3) := by decide +kernel
theorem dZ_init_28 : decode bZ_init 28 = .ok (.aload_n 0, 1) := by decide +kernel
theorem dZ_init_29 : decode bZ_init 29 = .ok (.bipush 10, 2) := by decide +kernel
theorem dZ_init_31 : decode bZ_init 31 = .ok (.newarray .int, 2) := by decide +kernel
theorem dZ_init_33 : decode bZ_init 33 = .ok (.putfield 19, 3) := by decide +kernel
theorem dZ_init_36 : decode bZ_init 36 = .ok (.aload_n 0, 1) := by decide +kernel
theorem dZ_init_37 : decode bZ_init 37 = .ok (.bipush 10, 2) := by decide +kernel
theorem dZ_init_39 : decode bZ_init 39 = .ok (.newarray .int, 2) := by decide +kernel
theorem dZ_init_41 : decode bZ_init 41 = .ok (.putfield 22, 3) := by decide +kernel
theorem dZ_init_44 : decode bZ_init 44 = .ok (.aload_n 0, 1) := by decide +kernel
theorem dZ_init_45 : decode bZ_init 45 = .ok (.bipush 8, 2) := by decide +kernel
theorem dZ_init_47 : decode bZ_init 47 = .ok (.newarray .int, 2) := by decide +kernel
theorem dZ_init_49 : decode bZ_init 49 = .ok (.putfield 25, 3) := by decide +kernel
theorem dZ_init_52 : decode bZ_init 52 = .ok (.aload_n 0, 1) := by decide +kernel
theorem dZ_init_53 : decode bZ_init 53 = .ok (.sipush 212, 3) := by decide +kernel
theorem dZ_init_56 : decode bZ_init 56 = .ok (.newarray .int, 2) := by decide +kernel
theorem dZ_init_58 : decode bZ_init 58 = .ok (.putfield 28, 3) := by decide +kernel
theorem dZ_init_61 : decode bZ_init 61 = .ok (.aload_n 0, 1) := by decide +kernel
theorem dZ_init_62 : decode bZ_init 62 = .ok (.sipush 424, 3) := by decide +kernel
theorem dZ_init_65 : decode bZ_init 65 = .ok (.newarray .int, 2) := by decide +kernel
theorem dZ_init_67 : decode bZ_init 67 = .ok (.putfield 31, 3) := by decide +kernel
theorem dZ_init_70 : decode bZ_init 70 = .ok (.aload_n 0, 1) := by decide +kernel
theorem dZ_init_71 : decode bZ_init 71 = .ok (.iconst 2, 1) := by decide +kernel
theorem dZ_init_72 : decode bZ_init 72 = .ok (.newarray .boolean, 2) := by decide +kernel
theorem dZ_init_74 : decode bZ_init 74 = .ok (.putfield 34, 3) := by decide +kernel
theorem dZ_init_77 : decode bZ_init 77 = .ok (.aload_n 0, 1) := by decide +kernel
theorem dZ_init_78 : decode bZ_init 78 = .ok (.sipush 2120, 3) := by decide +kernel
theorem dZ_init_81 : decode bZ_init 81 = .ok (.newarray .int, 2) := by decide +kernel
theorem dZ_init_83 : decode bZ_init 83 = .ok (.putfield 38, 3) := by decide +kernel
theorem dZ_init_86 : decode bZ_init 86 = .ok (.aload_n 0, 1) := by decide +kernel
theorem dZ_init_87 : decode bZ_init 87 = .ok (.bipush 6, 2) := by decide +kernel
theorem dZ_init_89 : decode bZ_init 89 = .ok (.newarray .int, 2) := by decide +kernel
theorem dZ_init_91 : decode bZ_init 91 = .ok (.putfield 41, 3) := by decide +kernel
theorem dZ_init_94 : decode bZ_init 94 = .ok (.aload_n 0, 1) := by decide +kernel
theorem dZ_init_95 : decode bZ_init 95 = .ok (.bipush 6, 2) := by decide +kernel
theorem dZ_init_97 : decode bZ_init 97 = .ok (.newarray .int, 2) := by decide +kernel
theorem dZ_init_99 : decode bZ_init 99 = .ok (.putfield 44, 3) := by decide +kernel
theorem dZ_init_102 : decode bZ_init 102 = .ok (.aload_n 0, 1) := by decide +kernel
theorem dZ_init_103 : decode bZ_init 103 = .ok (.bipush 6, 2) := by decide +kernel
theorem dZ_init_105 : decode bZ_init 105 = .ok (.newarray .int, 2) := by decide +kernel
theorem dZ_init_107 : decode bZ_init 107 = .ok (.putfield 47, 3) := by decide +kernel
theorem dZ_init_110 : decode bZ_init 110 = .ok (.aload_n 0, 1) := by decide +kernel
theorem dZ_init_111 : decode bZ_init 111 = .ok (.bipush 6, 2) := by decide +kernel
theorem dZ_init_113 : decode bZ_init 113 = .ok (.newarray .int, 2) := by decide +kernel
theorem dZ_init_115 : decode bZ_init 115 = .ok (.putfield 50, 3) := by decide +kernel
theorem dZ_init_118 : decode bZ_init 118 = .ok (.aload_n 0, 1) := by decide +kernel
theorem dZ_init_119 : decode bZ_init 119 = .ok (.bipush 6, 2) := by decide +kernel
theorem dZ_init_121 : decode bZ_init 121 = .ok (.newarray .int, 2) := by decide +kernel
theorem dZ_init_123 : decode bZ_init 123 = .ok (.putfield 53, 3) := by decide +kernel
theorem dZ_init_126 : decode bZ_init 126 = .ok (.aload_n 0, 1) := by decide +kernel
theorem dZ_init_127 : decode bZ_init 127 = .ok (.bipush 6, 2) := by decide +kernel
theorem dZ_init_129 : decode bZ_init 129 = .ok (.newarray .int, 2) := by decide +kernel
theorem dZ_init_131 : decode bZ_init 131 = .ok (.putfield 56, 3) := by decide +kernel
theorem dZ_init_134 : decode bZ_init 134 = .ok (.aload_n 0, 1) := by decide +kernel
theorem dZ_init_135 : decode bZ_init 135 = .ok (.bipush 6, 2) := by decide +kernel
theorem dZ_init_137 : decode bZ_init 137 = .ok (.newarray .int, 2) := by decide +kernel
theorem dZ_init_139 : decode bZ_init 139 = .ok (.putfield 59, 3) := by decide +kernel
theorem dZ_init_142 : decode bZ_init 142 = .ok (.aload_n 0, 1) := by decide +kernel
theorem dZ_init_143 : decode bZ_init 143 = .ok (.invokevirtual 62, 3) := by decide +kernel
theorem dZ_init_146 : decode bZ_init 146 = .ok (.aload_n 0, 1) := by decide +kernel
theorem dZ_init_147 : decode bZ_init 147 = .ok (.invokevirtual 65, 3) := by decide +kernel
theorem dZ_init_150 : decode bZ_init 150 = .ok (.return_, 1) := by decide +kernel
theorem dZ_begins_0 : decode bZ_begins 0 = .ok (.aload_n 0, 1) := by decide +kernel
theorem dZ_begins_1 : decode bZ_begins 1 = .ok (.iconst 0, 1) := by decide +kernel
theorem dZ_begins_2 : decode bZ_begins 2 = .ok (.putfield 113, 3) := by decide +kernel
theorem dZ_begins_5 : decode bZ_begins 5 = .ok (.aload_n 0, 1) := by decide +kernel
theorem dZ_begins_6 : decode bZ_begins 6 = .ok (.getfield 13, 3) := by decide +kernel
theorem dZ_begins_9 : decode bZ_begins 9 = .ok (.iconst 4, 1) := by decide +kernel
theorem dZ_begins_10 : decode bZ_begins 10 = .ok (.iconst 0, 1) := by decide +kernel
theorem dZ_begins_11 : decode bZ_begins 11 = .ok (.iastore, 1) := by decide +kernel
theorem dZ_begins_12 : decode bZ_begins 12 = .ok (.aload_n 0, 1) := by decide +kernel
theorem dZ_begins_13 : decode bZ_begins 13 = .ok (.getfield 13, 3) := by decide +kernel
theorem dZ_begins_16 : decode bZ_begins 16 = .ok (.iconst 5, 1) := by decide +kernel
theorem dZ_begins_17 : decode bZ_begins 17 = .ok (.iconst 0, 1) := by decide +kernel
theorem dZ_begins_18 : decode bZ_begins 18 = .ok (.iastore, 1) := by decide +kernel
theorem dZ_begins_19 : decode bZ_begins 19 = .ok (.aload_n 0, 1) := by decide +kernel
theorem dZ_begins_20 : decode bZ_begins 20 = .ok (.getfield 13, 3) := by decide +kernel
theorem dZ_begins_23 : decode bZ_begins 23 = .ok (.bipush 6, 2) := by decide +kernel
theorem dZ_begins_25 : decode bZ_begins 25 = .ok (.iconst 3, 1) := by decide +kernel
theorem dZ_begins_26 : decode bZ_begins 26 = .ok (.iastore, 1) := by decide +kernel
theorem dZ_begins_27 : decode bZ_begins 27 = .ok (.aload_n 0, 1) := by decide +kernel
theorem dZ_begins_28 : decode bZ_begins 28 = .ok (.getfield 13, 3) := by decide +kernel
theorem dZ_begins_31 : decode bZ_begins 31 = .ok (.bipush 7, 2) := by decide +kernel
theorem dZ_begins_33 : decode bZ_begins 33 = .ok (.iconst 3, 1) := by decide +kernel
theorem dZ_begins_34 : decode bZ_begins 34 = .ok (.iastore, 1) := by decide +kernel
theorem dZ_begins_35 : decode bZ_begins 35 = .ok (.return_, 1) := by decide +kernel
theorem dZ_settles_0 : decode bZ_settles 0 = .ok (.iconst 0, 1) := by decide +kernel
theorem dZ_settles_1 : decode bZ_settles 1 = .ok (.istore_n 1, 1) := by decide +kernel
theorem dZ_settles_2 : decode bZ_settles 2 = .ok (.iload_n 1, 1) := by decide +kernel
theorem dZ_settles_3 : decode bZ_settles 3 = .ok (.iconst 4, 1) := by decide +kernel
theorem dZ_settles_4 : decode bZ_settles 4 = .ok (.if_icmp .ge 23, 3) := by decide +kernel
theorem dZ_settles_7 : decode bZ_settles 7 = .ok (.aload_n 0, 1) := by decide +kernel
theorem dZ_settles_8 : decode bZ_settles 8 = .ok (.getfield 13, 3) := by decide +kernel
theorem dZ_settles_11 : decode bZ_settles 11 = .ok (.iload_n 1, 1) := by decide +kernel
theorem dZ_settles_12 : decode bZ_settles 12 = .ok (.aload_n 0, 1) := by decide +kernel
theorem dZ_settles_13 : decode bZ_settles 13 = .ok (.getfield 13, 3) := by decide +kernel
theorem dZ_settles_16 : decode bZ_settles 16 = .ok (.iconst 4, 1) := by decide +kernel
theorem dZ_settles_17 : decode bZ_settles 17 = .ok (.iload_n 1, 1) := by decide +kernel
theorem dZ_settles_18 : decode bZ_settles 18 = .ok (.iadd, 1) := by decide +kernel
theorem dZ_settles_19 : decode bZ_settles 19 = .ok (.iaload, 1) := by decide +kernel
theorem dZ_settles_20 : decode bZ_settles 20 = .ok (.iastore, 1) := by decide +kernel
theorem dZ_settles_21 : decode bZ_settles 21 = .ok (.iinc 1 1, 3) := by decide +kernel
theorem dZ_settles_24 : decode bZ_settles 24 = .ok (.goto (-22), 3) := by decide +kernel
theorem dZ_settles_27 : decode bZ_settles 27 = .ok (.iconst 0, 1) := by decide +kernel
theorem dZ_settles_28 : decode bZ_settles 28 = .ok (.istore_n 1, 1) := by decide +kernel
theorem dZ_settles_29 : decode bZ_settles 29 = .ok (.iload_n 1, 1) := by decide +kernel
theorem dZ_settles_30 : decode bZ_settles 30 = .ok (.iconst 5, 1) := by decide +kernel
theorem dZ_settles_31 : decode bZ_settles 31 = .ok (.if_icmp .ge 51, 3) := by decide +kernel
theorem dZ_settles_34 : decode bZ_settles 34 = .ok (.aload_n 0, 1) := by decide +kernel
theorem dZ_settles_35 : decode bZ_settles 35 = .ok (.getfield 16, 3) := by decide +kernel
theorem dZ_settles_38 : decode bZ_settles 38 = .ok (.iload_n 1, 1) := by decide +kernel
theorem dZ_settles_39 : decode bZ_settles 39 = .ok (.aload_n 0, 1) := by decide +kernel
theorem dZ_settles_40 : decode bZ_settles 40 = .ok (.getfield 16, 3) := by decide +kernel
theorem dZ_settles_43 : decode bZ_settles 43 = .ok (.iconst 5, 1) := by decide +kernel
theorem dZ_settles_44 : decode bZ_settles 44 = .ok (.iload_n 1, 1) := by decide +kernel
theorem dZ_settles_45 : decode bZ_settles 45 = .ok (.iadd, 1) := by decide +kernel
theorem dZ_settles_46 : decode bZ_settles 46 = .ok (.iaload, 1) := by decide +kernel
theorem dZ_settles_47 : decode bZ_settles 47 = .ok (.iastore, 1) := by decide +kernel
theorem dZ_settles_48 : decode bZ_settles 48 = .ok (.aload_n 0, 1) := by decide +kernel
theorem dZ_settles_49 : decode bZ_settles 49 = .ok (.getfield 19, 3) := by decide +kernel
theorem dZ_settles_52 : decode bZ_settles 52 = .ok (.iload_n 1, 1) := by decide +kernel
theorem dZ_settles_53 : decode bZ_settles 53 = .ok (.aload_n 0, 1) := by decide +kernel
theorem dZ_settles_54 : decode bZ_settles 54 = .ok (.getfield 19, 3) := by decide +kernel
theorem dZ_settles_57 : decode bZ_settles 57 = .ok (.iconst 5, 1) := by decide +kernel
theorem dZ_settles_58 : decode bZ_settles 58 = .ok (.iload_n 1, 1) := by decide +kernel
theorem dZ_settles_59 : decode bZ_settles 59 = .ok (.iadd, 1) := by decide +kernel
theorem dZ_settles_60 : decode bZ_settles 60 = .ok (.iaload, 1) := by decide +kernel
theorem dZ_settles_61 : decode bZ_settles 61 = .ok (.iastore, 1) := by decide +kernel
theorem dZ_settles_62 : decode bZ_settles 62 = .ok (.aload_n 0, 1) := by decide +kernel
theorem dZ_settles_63 : decode bZ_settles 63 = .ok (.getfield 22, 3) := by decide +kernel
theorem dZ_settles_66 : decode bZ_settles 66 = .ok (.iload_n 1, 1) := by decide +kernel
theorem dZ_settles_67 : decode bZ_settles 67 = .ok (.aload_n 0, 1) := by decide +kernel
theorem dZ_settles_68 : decode bZ_settles 68 = .ok (.getfield 22, 3) := by decide +kernel
theorem dZ_settles_71 : decode bZ_settles 71 = .ok (.iconst 5, 1) := by decide +kernel
theorem dZ_settles_72 : decode bZ_settles 72 = .ok (.iload_n 1, 1) := by decide +kernel
theorem dZ_settles_73 : decode bZ_settles 73 = .ok (.iadd, 1) := by decide +kernel
theorem dZ_settles_74 : decode bZ_settles 74 = .ok (.iaload, 1) := by decide +kernel
theorem dZ_settles_75 : decode bZ_settles 75 = .ok (.iastore, 1) := by decide +kernel
theorem dZ_settles_76 : decode bZ_settles 76 = .ok (.iinc 1 1, 3) := by decide +kernel
theorem dZ_settles_79 : decode bZ_settles 79 = .ok (.goto (-50), 3) := by decide +kernel
theorem dZ_settles_82 : decode bZ_settles 82 = .ok (.iconst 0, 1) := by decide +kernel
theorem dZ_settles_83 : decode bZ_settles 83 = .ok (.istore_n 1, 1) := by decide +kernel
theorem dZ_settles_84 : decode bZ_settles 84 = .ok (.iload_n 1, 1) := by decide +kernel
theorem dZ_settles_85 : decode bZ_settles 85 = .ok (.iconst 4, 1) := by decide +kernel
theorem dZ_settles_86 : decode bZ_settles 86 = .ok (.if_icmp .ge 23, 3) := by decide +kernel
theorem dZ_settles_89 : decode bZ_settles 89 = .ok (.aload_n 0, 1) := by decide +kernel
theorem dZ_settles_90 : decode bZ_settles 90 = .ok (.getfield 25, 3) := by decide +kernel
theorem dZ_settles_93 : decode bZ_settles 93 = .ok (.iload_n 1, 1) := by decide +kernel
theorem dZ_settles_94 : decode bZ_settles 94 = .ok (.aload_n 0, 1) := by decide +kernel
theorem dZ_settles_95 : decode bZ_settles 95 = .ok (.getfield 25, 3) := by decide +kernel
theorem dZ_settles_98 : decode bZ_settles 98 = .ok (.iconst 4, 1) := by decide +kernel
theorem dZ_settles_99 : decode bZ_settles 99 = .ok (.iload_n 1, 1) := by decide +kernel
theorem dZ_settles_100 : decode bZ_settles 100 = .ok (.iadd, 1) := by decide +kernel
theorem dZ_settles_101 : decode bZ_settles 101 = .ok (.iaload, 1) := by decide +kernel
theorem dZ_settles_102 : decode bZ_settles 102 = .ok (.iastore, 1) := by decide +kernel
theorem dZ_settles_103 : decode bZ_settles 103 = .ok (.iinc 1 1, 3) := by decide +kernel
theorem dZ_settles_106 : decode bZ_settles 106 = .ok (.goto (-22), 3) := by decide +kernel
theorem dZ_settles_109 : decode bZ_settles 109 = .ok (.iconst 0, 1) := by decide +kernel
theorem dZ_settles_110 : decode bZ_settles 110 = .ok (.istore_n 1, 1) := by decide +kernel
theorem dZ_settles_111 : decode bZ_settles 111 = .ok (.iload_n 1, 1) := by decide +kernel
theorem dZ_settles_112 : decode bZ_settles 112 = .ok (.sipush 212, 3) := by decide +kernel
theorem dZ_settles_115 : decode bZ_settles 115 = .ok (.if_icmp .ge 16, 3) := by decide +kernel
theorem dZ_settles_118 : decode bZ_settles 118 = .ok (.aload_n 0, 1) := by decide +kernel
theorem dZ_settles_119 : decode bZ_settles 119 = .ok (.getfield 28, 3) := by decide +kernel
theorem dZ_settles_122 : decode bZ_settles 122 = .ok (.iload_n 1, 1) := by decide +kernel
theorem dZ_settles_123 : decode bZ_settles 123 = .ok (.iconst 0, 1) := by decide +kernel
theorem dZ_settles_124 : decode bZ_settles 124 = .ok (.iastore, 1) := by decide +kernel
theorem dZ_settles_125 : decode bZ_settles 125 = .ok (.iinc 1 1, 3) := by decide +kernel
theorem dZ_settles_128 : decode bZ_settles 128 = .ok (.goto (-17), 3) := by decide +kernel
theorem dZ_settles_131 : decode bZ_settles 131 = .ok (.aload_n 0, 1) := by decide +kernel
theorem dZ_settles_132 : decode bZ_settles 132 = .ok (.iconst 0, 1) := by decide +kernel
theorem dZ_settles_133 : decode bZ_settles 133 = .ok (.putfield 76, 3) := by decide +kernel
theorem dZ_settles_136 : decode bZ_settles 136 = .ok (.aload_n 0, 1) := by decide +kernel
theorem dZ_settles_137 : decode bZ_settles 137 = .ok (.iconst 0, 1) := by decide +kernel
theorem dZ_settles_138 : decode bZ_settles 138 = .ok (.putfield 127, 3) := by decide +kernel
theorem dZ_settles_141 : decode bZ_settles 141 = .ok (.aload_n 0, 1) := by decide +kernel
theorem dZ_settles_142 : decode bZ_settles 142 = .ok (.iconst 0, 1) := by decide +kernel
theorem dZ_settles_143 : decode bZ_settles 143 = .ok (.putfield 130, 3) := by decide +kernel
theorem dZ_settles_146 : decode bZ_settles 146 = .ok (.aload_n 0, 1) := by decide +kernel
theorem dZ_settles_147 : decode bZ_settles 147 = .ok (.iconst 0, 1) := by decide +kernel
theorem dZ_settles_148 : decode bZ_settles 148 = .ok (.putfield 133, 3) := by decide +kernel
theorem dZ_settles_151 : decode bZ_settles 151 = .ok (.aload_n 0, 1) := by decide +kernel
theorem dZ_settles_152 : decode bZ_settles 152 = .ok (.getfield 34, 3) := by decide +kernel
theorem dZ_settles_155 : decode bZ_settles 155 = .ok (.iconst 0, 1) := by decide +kernel
theorem dZ_settles_156 : decode bZ_settles 156 = .ok (.iconst 0, 1) := by decide +kernel
theorem dZ_settles_157 : decode bZ_settles 157 = .ok (.bastore, 1) := by decide +kernel
theorem dZ_settles_158 : decode bZ_settles 158 = .ok (.aload_n 0, 1) := by decide +kernel
theorem dZ_settles_159 : decode bZ_settles 159 = .ok (.getfield 34, 3) := by decide +kernel
theorem dZ_settles_162 : decode bZ_settles 162 = .ok (.iconst 1, 1) := by decide +kernel
theorem dZ_settles_163 : decode bZ_settles 163 = .ok (.iconst 0, 1) := by decide +kernel
theorem dZ_settles_164 : decode bZ_settles 164 = .ok (.bastore, 1) := by decide +kernel
theorem dZ_settles_165 : decode bZ_settles 165 = .ok (.return_, 1) := by decide +kernel
theorem dZ_type_0 : decode bZ_type 0 = .ok (.aload_n 0, 1) := by decide +kernel
theorem dZ_type_1 : decode bZ_type 1 = .ok (.iconst 0, 1) := by decide +kernel
theorem dZ_type_2 : decode bZ_type 2 = .ok (.putfield 68, 3) := by decide +kernel
theorem dZ_type_5 : decode bZ_type 5 = .ok (.iload_n 1, 1) := by decide +kernel
theorem dZ_type_6 : decode bZ_type 6 = .ok (.iconst 0, 1) := by decide +kernel
theorem dZ_type_7 : decode bZ_type 7 = .ok (.sipush 255, 3) := by decide +kernel
theorem dZ_type_10 : decode bZ_type 10 = .ok (.invokestatic 72, 3) := by decide +kernel
theorem dZ_type_13 : decode bZ_type 13 = .ok (.ifCond .ne 5, 3) := by decide +kernel
theorem dZ_type_16 : decode bZ_type 16 = .ok (.iconst (-1), 1) := by decide +kernel
theorem dZ_type_17 : decode bZ_type 17 = .ok (.ireturn, 1) := by decide +kernel
theorem dZ_type_18 : decode bZ_type 18 = .ok (.aload_n 0, 1) := by decide +kernel
theorem dZ_type_19 : decode bZ_type 19 = .ok (.getfield 76, 3) := by decide +kernel
theorem dZ_type_22 : decode bZ_type 22 = .ok (.bipush 120, 2) := by decide +kernel
theorem dZ_type_24 : decode bZ_type 24 = .ok (.if_icmp .ne 6, 3) := by decide +kernel
theorem dZ_type_27 : decode bZ_type 27 = .ok (.bipush (-3), 2) := by decide +kernel
theorem dZ_type_29 : decode bZ_type 29 = .ok (.ireturn, 1) := by decide +kernel
theorem dZ_type_30 : decode bZ_type 30 = .ok (.aload_n 0, 1) := by decide +kernel
theorem dZ_type_31 : decode bZ_type 31 = .ok (.getfield 7, 3) := by decide +kernel
theorem dZ_type_34 : decode bZ_type 34 = .ok (.aload_n 0, 1) := by decide +kernel
theorem dZ_type_35 : decode bZ_type 35 = .ok (.getfield 76, 3) := by decide +kernel
theorem dZ_type_38 : decode bZ_type 38 = .ok (.iload_n 1, 1) := by decide +kernel
theorem dZ_type_39 : decode bZ_type 39 = .ok (.iastore, 1) := by decide +kernel
theorem dZ_type_40 : decode bZ_type 40 = .ok (.aload_n 0, 1) := by decide +kernel
theorem dZ_type_41 : decode bZ_type 41 = .ok (.dup, 1) := by decide +kernel
theorem dZ_type_42 : decode bZ_type 42 = .ok (.getfield 76, 3) := by decide +kernel
theorem dZ_type_45 : decode bZ_type 45 = .ok (.iconst 1, 1) := by decide +kernel
theorem dZ_type_46 : decode bZ_type 46 = .ok (.iadd, 1) := by decide +kernel
theorem dZ_type_47 : decode bZ_type 47 = .ok (.putfield 76, 3) := by decide +kernel
theorem dZ_type_50 : decode bZ_type 50 = .ok (.aload_n 0, 1) := by decide +kernel
theorem dZ_type_51 : decode bZ_type 51 = .ok (.getfield 76, 3) := by decide +kernel
theorem dZ_type_54 : decode bZ_type 54 = .ok (.ireturn, 1) := by decide +kernel
theorem dZ_in_0 : decode bZ_in 0 = .ok (.iload_n 0, 1) := by decide +kernel
theorem dZ_in_1 : decode bZ_in 1 = .ok (.iload_n 1, 1) := by decide +kernel
theorem dZ_in_2 : decode bZ_in 2 = .ok (.if_icmp .lt 12, 3) := by decide +kernel
theorem dZ_in_5 : decode bZ_in 5 = .ok (.iload_n 0, 1) := by decide +kernel
theorem dZ_in_6 : decode bZ_in 6 = .ok (.iload_n 2, 1) := by decide +kernel
theorem dZ_in_7 : decode bZ_in 7 = .ok (.if_icmp .gt 7, 3) := by decide +kernel
theorem dZ_in_10 : decode bZ_in 10 = .ok (.iconst 1, 1) := by decide +kernel
theorem dZ_in_11 : decode bZ_in 11 = .ok (.goto 4, 3) := by decide +kernel
theorem dZ_in_14 : decode bZ_in 14 = .ok (.iconst 0, 1) := by decide +kernel
theorem dZ_in_15 : decode bZ_in 15 = .ok (.ireturn, 1) := by decide +kernel
theorem dZ_clear_0 : decode bZ_clear 0 = .ok (.aload_n 0, 1) := by decide +kernel
theorem dZ_clear_1 : decode bZ_clear 1 = .ok (.iconst 0, 1) := by decide +kernel
theorem dZ_clear_2 : decode bZ_clear 2 = .ok (.putfield 68, 3) := by decide +kernel
theorem dZ_clear_5 : decode bZ_clear 5 = .ok (.aload_n 0, 1) := by decide +kernel
theorem dZ_clear_6 : decode bZ_clear 6 = .ok (.getfield 76, 3) := by decide +kernel
theorem dZ_clear_9 : decode bZ_clear 9 = .ok (.istore_n 1, 1) := by decide +kernel
theorem dZ_clear_10 : decode bZ_clear 10 = .ok (.aload_n 0, 1) := by decide +kernel
theorem dZ_clear_11 : decode bZ_clear 11 = .ok (.iconst 0, 1) := by decide +kernel
theorem dZ_clear_12 : decode bZ_clear 12 = .ok (.putfield 76, 3) := by decide +kernel
theorem dZ_clear_15 : decode bZ_clear 15 = .ok (.iload_n 1, 1) := by decide +kernel
theorem dZ_clear_16 : decode bZ_clear 16 = .ok (.ireturn, 1) := by decide +kernel
theorem dZ_ladder_0 : decode bZ_ladder 0 = .ok (.aload_n 0, 1) := by decide +kernel
theorem dZ_ladder_1 : decode bZ_ladder 1 = .ok (.iconst 0, 1) := by decide +kernel
theorem dZ_ladder_2 : decode bZ_ladder 2 = .ok (.putfield 68, 3) := by decide +kernel
theorem dZ_ladder_5 : decode bZ_ladder 5 = .ok (.aload_n 0, 1) := by decide +kernel
theorem dZ_ladder_6 : decode bZ_ladder 6 = .ok (.iconst (-1), 1) := by decide +kernel
theorem dZ_ladder_7 : decode bZ_ladder 7 = .ok (.putfield 99, 3) := by decide +kernel
theorem dZ_ladder_10 : decode bZ_ladder 10 = .ok (.aload_n 0, 1) := by decide +kernel
theorem dZ_ladder_11 : decode bZ_ladder 11 = .ok (.iconst 0, 1) := by decide +kernel
theorem dZ_ladder_12 : decode bZ_ladder 12 = .ok (.putfield 79, 3) := by decide +kernel
theorem dZ_ladder_15 : decode bZ_ladder 15 = .ok (.aload_n 0, 1) := by decide +kernel
theorem dZ_ladder_16 : decode bZ_ladder 16 = .ok (.invokevirtual 62, 3) := by decide +kernel
theorem dZ_ladder_19 : decode bZ_ladder 19 = .ok (.iconst 0, 1) := by decide +kernel
theorem dZ_ladder_20 : decode bZ_ladder 20 = .ok (.istore_n 1, 1) := by decide +kernel
theorem dZ_ladder_21 : decode bZ_ladder 21 = .ok (.aload_n 0, 1) := by decide +kernel
theorem dZ_ladder_22 : decode bZ_ladder 22 = .ok (.invokevirtual 106, 3) := by decide +kernel
theorem dZ_ladder_25 : decode bZ_ladder 25 = .ok (.aload_n 0, 1) := by decide +kernel
theorem dZ_ladder_26 : decode bZ_ladder 26 = .ok (.invokevirtual 102, 3) := by decide +kernel
theorem dZ_ladder_29 : decode bZ_ladder 29 = .ok (.ifCond .eq 71, 3) := by decide +kernel
theorem dZ_ladder_32 : decode bZ_ladder 32 = .ok (.aload_n 0, 1) := by decide +kernel
theorem dZ_ladder_33 : decode bZ_ladder 33 = .ok (.getfield 89, 3) := by decide +kernel
theorem dZ_ladder_36 : decode bZ_ladder 36 = .ok (.ifCond .eq 64, 3) := by decide +kernel
theorem dZ_ladder_39 : decode bZ_ladder 39 = .ok (.aload_n 0, 1) := by decide +kernel
theorem dZ_ladder_40 : decode bZ_ladder 40 = .ok (.aload_n 0, 1) := by decide +kernel
theorem dZ_ladder_41 : decode bZ_ladder 41 = .ok (.getfield 89, 3) := by decide +kernel
theorem dZ_ladder_44 : decode bZ_ladder 44 = .ok (.iconst 1, 1) := by decide +kernel
theorem dZ_ladder_45 : decode bZ_ladder 45 = .ok (.if_icmp .ne 14, 3) := by decide +kernel
theorem dZ_ladder_48 : decode bZ_ladder 48 = .ok (.aload_n 0, 1) := by decide +kernel
theorem dZ_ladder_49 : decode bZ_ladder 49 = .ok (.invokevirtual 120, 3) := by decide +kernel
theorem dZ_ladder_52 : decode bZ_ladder 52 = .ok (.ifCond .eq 7, 3) := by decide +kernel
theorem dZ_ladder_55 : decode bZ_ladder 55 = .ok (.iconst 1, 1) := by decide +kernel
theorem dZ_ladder_56 : decode bZ_ladder 56 = .ok (.goto 4, 3) := by decide +kernel
theorem dZ_ladder_59 : decode bZ_ladder 59 = .ok (.iconst 0, 1) := by decide +kernel
theorem dZ_ladder_60 : decode bZ_ladder 60 = .ok (.invokevirtual 109, 3) := by decide +kernel
theorem dZ_ladder_63 : decode bZ_ladder 63 = .ok (.istore_n 2, 1) := by decide +kernel
theorem dZ_ladder_64 : decode bZ_ladder 64 = .ok (.aload_n 0, 1) := by decide +kernel
theorem dZ_ladder_65 : decode bZ_ladder 65 = .ok (.invokevirtual 102, 3) := by decide +kernel
theorem dZ_ladder_68 : decode bZ_ladder 68 = .ok (.ifCond .eq 8, 3) := by decide +kernel
theorem dZ_ladder_71 : decode bZ_ladder 71 = .ok (.aload_n 0, 1) := by decide +kernel
theorem dZ_ladder_72 : decode bZ_ladder 72 = .ok (.iload_n 2, 1) := by decide +kernel
theorem dZ_ladder_73 : decode bZ_ladder 73 = .ok (.invokevirtual 123, 3) := by decide +kernel
theorem dZ_ladder_76 : decode bZ_ladder 76 = .ok (.aload_n 0, 1) := by decide +kernel
theorem dZ_ladder_77 : decode bZ_ladder 77 = .ok (.aload_n 0, 1) := by decide +kernel
theorem dZ_ladder_78 : decode bZ_ladder 78 = .ok (.getfield 89, 3) := by decide +kernel
theorem dZ_ladder_81 : decode bZ_ladder 81 = .ok (.iconst 3, 1) := by decide +kernel
theorem dZ_ladder_82 : decode bZ_ladder 82 = .ok (.if_icmp .ne 7, 3) := by decide +kernel
theorem dZ_ladder_85 : decode bZ_ladder 85 = .ok (.iconst 1, 1) := by decide +kernel
theorem dZ_ladder_86 : decode bZ_ladder 86 = .ok (.goto 4, 3) := by decide +kernel
theorem dZ_ladder_89 : decode bZ_ladder 89 = .ok (.iconst 0, 1) := by decide +kernel
theorem dZ_ladder_90 : decode bZ_ladder 90 = .ok (.invokevirtual 109, 3) := by decide +kernel
theorem dZ_ladder_93 : decode bZ_ladder 93 = .ok (.pop, 1) := by decide +kernel
theorem dZ_ladder_94 : decode bZ_ladder 94 = .ok (.iinc 1 1, 3) := by decide +kernel
theorem dZ_ladder_97 : decode bZ_ladder 97 = .ok (.goto (-72), 3) := by decide +kernel
theorem dZ_ladder_100 : decode bZ_ladder 100 = .ok (.aload_n 0, 1) := by decide +kernel
theorem dZ_ladder_101 : decode bZ_ladder 101 = .ok (.invokevirtual 102, 3) := by decide +kernel
theorem dZ_ladder_104 : decode bZ_ladder 104 = .ok (.ifCond .ne 11, 3) := by decide +kernel
theorem dZ_ladder_107 : decode bZ_ladder 107 = .ok (.bipush (-10), 2) := by decide +kernel
theorem dZ_ladder_109 : decode bZ_ladder 109 = .ok (.aload_n 0, 1) := by decide +kernel
theorem dZ_ladder_110 : decode bZ_ladder 110 = .ok (.getfield 99, 3) := by decide +kernel
theorem dZ_ladder_113 : decode bZ_ladder 113 = .ok (.isub, 1) := by decide +kernel
theorem dZ_ladder_114 : decode bZ_ladder 114 = .ok (.ireturn, 1) := by decide +kernel
theorem dZ_ladder_115 : decode bZ_ladder 115 = .ok (.aload_n 0, 1) := by decide +kernel
theorem dZ_ladder_116 : decode bZ_ladder 116 = .ok (.invokevirtual 65, 3) := by decide +kernel
theorem dZ_ladder_119 : decode bZ_ladder 119 = .ok (.iload_n 1, 1) := by decide +kernel
theorem dZ_ladder_120 : decode bZ_ladder 120 = .ok (.ireturn, 1) := by decide +kernel
theorem dZ_advances_0 : decode bZ_advances 0 = .ok (.aload_n 0, 1) := by decide +kernel
theorem dZ_advances_1 : decode bZ_advances 1 = .ok (.aload_n 0, 1) := by decide +kernel
theorem dZ_advances_2 : decode bZ_advances 2 = .ok (.getfield 79, 3) := by decide +kernel
theorem dZ_advances_5 : decode bZ_advances 5 = .ok (.invokevirtual 82, 3) := by decide +kernel
theorem dZ_advances_8 : decode bZ_advances 8 = .ok (.bipush 32, 2) := by decide +kernel
theorem dZ_advances_10 : decode bZ_advances 10 = .ok (.if_icmp .ne 16, 3) := by decide +kernel
theorem dZ_advances_13 : decode bZ_advances 13 = .ok (.aload_n 0, 1) := by decide +kernel
theorem dZ_advances_14 : decode bZ_advances 14 = .ok (.dup, 1) := by decide +kernel
theorem dZ_advances_15 : decode bZ_advances 15 = .ok (.getfield 79, 3) := by decide +kernel
theorem dZ_advances_18 : decode bZ_advances 18 = .ok (.iconst 1, 1) := by decide +kernel
theorem dZ_advances_19 : decode bZ_advances 19 = .ok (.iadd, 1) := by decide +kernel
theorem dZ_advances_20 : decode bZ_advances 20 = .ok (.putfield 79, 3) := by decide +kernel
theorem dZ_advances_23 : decode bZ_advances 23 = .ok (.goto (-23), 3) := by decide +kernel
theorem dZ_advances_26 : decode bZ_advances 26 = .ok (.aload_n 0, 1) := by decide +kernel
theorem dZ_advances_27 : decode bZ_advances 27 = .ok (.aload_n 0, 1) := by decide +kernel
theorem dZ_advances_28 : decode bZ_advances 28 = .ok (.getfield 79, 3) := by decide +kernel
theorem dZ_advances_31 : decode bZ_advances 31 = .ok (.putfield 86, 3) := by decide +kernel
theorem dZ_advances_34 : decode bZ_advances 34 = .ok (.aload_n 0, 1) := by decide +kernel
theorem dZ_advances_35 : decode bZ_advances 35 = .ok (.aload_n 0, 1) := by decide +kernel
theorem dZ_advances_36 : decode bZ_advances 36 = .ok (.getfield 79, 3) := by decide +kernel
theorem dZ_advances_39 : decode bZ_advances 39 = .ok (.invokevirtual 82, 3) := by decide +kernel
theorem dZ_advances_42 : decode bZ_advances 42 = .ok (.istore_n 1, 1) := by decide +kernel
theorem dZ_advances_43 : decode bZ_advances 43 = .ok (.iload_n 1, 1) := by decide +kernel
theorem dZ_advances_44 : decode bZ_advances 44 = .ok (.ifCond .ge 11, 3) := by decide +kernel
theorem dZ_advances_47 : decode bZ_advances 47 = .ok (.aload_n 0, 1) := by decide +kernel
theorem dZ_advances_48 : decode bZ_advances 48 = .ok (.iconst 0, 1) := by decide +kernel
theorem dZ_advances_49 : decode bZ_advances 49 = .ok (.putfield 89, 3) := by decide +kernel
theorem dZ_advances_52 : decode bZ_advances 52 = .ok (.goto 170, 3) := by decide +kernel
theorem dZ_advances_55 : decode bZ_advances 55 = .ok (.iload_n 1, 1) := by decide +kernel
theorem dZ_advances_56 : decode bZ_advances 56 = .ok (.bipush 48, 2) := by decide +kernel
theorem dZ_advances_58 : decode bZ_advances 58 = .ok (.bipush 57, 2) := by decide +kernel
theorem dZ_advances_60 : decode bZ_advances 60 = .ok (.invokestatic 72, 3) := by decide +kernel
theorem dZ_advances_63 : decode bZ_advances 63 = .ok (.ifCond .eq 118, 3) := by decide +kernel
theorem dZ_advances_66 : decode bZ_advances 66 = .ok (.aload_n 0, 1) := by decide +kernel
theorem dZ_advances_67 : decode bZ_advances 67 = .ok (.iconst 0, 1) := by decide +kernel
theorem dZ_advances_68 : decode bZ_advances 68 = .ok (.putfield 92, 3) := by decide +kernel
theorem dZ_advances_71 : decode bZ_advances 71 = .ok (.aload_n 0, 1) := by decide +kernel
theorem dZ_advances_72 : decode bZ_advances 72 = .ok (.aload_n 0, 1) := by decide +kernel
theorem dZ_advances_73 : decode bZ_advances 73 = .ok (.getfield 79, 3) := by decide +kernel
theorem dZ_advances_76 : decode bZ_advances 76 = .ok (.invokevirtual 82, 3) := by decide +kernel
theorem dZ_advances_79 : decode bZ_advances 79 = .ok (.bipush 48, 2) := by decide +kernel
theorem dZ_advances_81 : decode bZ_advances 81 = .ok (.bipush 57, 2) := by decide +kernel
theorem dZ_advances_83 : decode bZ_advances 83 = .ok (.invokestatic 72, 3) := by decide +kernel
theorem dZ_advances_86 : decode bZ_advances 86 = .ok (.ifCond .eq 55, 3) := by decide +kernel
theorem dZ_advances_89 : decode bZ_advances 89 = .ok (.aload_n 0, 1) := by decide +kernel
theorem dZ_advances_90 : decode bZ_advances 90 = .ok (.aload_n 0, 1) := by decide +kernel
theorem dZ_advances_91 : decode bZ_advances 91 = .ok (.getfield 92, 3) := by decide +kernel
theorem dZ_advances_94 : decode bZ_advances 94 = .ok (.bipush 99, 2) := by decide +kernel
theorem dZ_advances_96 : decode bZ_advances 96 = .ok (.if_icmp .le 10, 3) := by decide +kernel
theorem dZ_advances_99 : decode bZ_advances 99 = .ok (.aload_n 0, 1) := by decide +kernel
theorem dZ_advances_100 : decode bZ_advances 100 = .ok (.getfield 92, 3) := by decide +kernel
theorem dZ_advances_103 : decode bZ_advances 103 = .ok (.goto 22, 3) := by decide +kernel
theorem dZ_advances_106 : decode bZ_advances 106 = .ok (.bipush 10, 2) := by decide +kernel
theorem dZ_advances_108 : decode bZ_advances 108 = .ok (.aload_n 0, 1) := by decide +kernel
theorem dZ_advances_109 : decode bZ_advances 109 = .ok (.getfield 92, 3) := by decide +kernel
theorem dZ_advances_112 : decode bZ_advances 112 = .ok (.imul, 1) := by decide +kernel
theorem dZ_advances_113 : decode bZ_advances 113 = .ok (.aload_n 0, 1) := by decide +kernel
theorem dZ_advances_114 : decode bZ_advances 114 = .ok (.aload_n 0, 1) := by decide +kernel
theorem dZ_advances_115 : decode bZ_advances 115 = .ok (.getfield 79, 3) := by decide +kernel
theorem dZ_advances_118 : decode bZ_advances 118 = .ok (.invokevirtual 82, 3) := by decide +kernel
theorem dZ_advances_121 : decode bZ_advances 121 = .ok (.iadd, 1) := by decide +kernel
theorem dZ_advances_122 : decode bZ_advances 122 = .ok (.bipush 48, 2) := by decide +kernel
theorem dZ_advances_124 : decode bZ_advances 124 = .ok (.isub, 1) := by decide +kernel
theorem dZ_advances_125 : decode bZ_advances 125 = .ok (.putfield 92, 3) := by decide +kernel
theorem dZ_advances_128 : decode bZ_advances 128 = .ok (.aload_n 0, 1) := by decide +kernel
theorem dZ_advances_129 : decode bZ_advances 129 = .ok (.dup, 1) := by decide +kernel
theorem dZ_advances_130 : decode bZ_advances 130 = .ok (.getfield 79, 3) := by decide +kernel
theorem dZ_advances_133 : decode bZ_advances 133 = .ok (.iconst 1, 1) := by decide +kernel
theorem dZ_advances_134 : decode bZ_advances 134 = .ok (.iadd, 1) := by decide +kernel
theorem dZ_advances_135 : decode bZ_advances 135 = .ok (.putfield 79, 3) := by decide +kernel
theorem dZ_advances_138 : decode bZ_advances 138 = .ok (.goto (-67), 3) := by decide +kernel
theorem dZ_advances_141 : decode bZ_advances 141 = .ok (.aload_n 0, 1) := by decide +kernel
theorem dZ_advances_142 : decode bZ_advances 142 = .ok (.aload_n 0, 1) := by decide +kernel
theorem dZ_advances_143 : decode bZ_advances 143 = .ok (.getfield 92, 3) := by decide +kernel
theorem dZ_advances_146 : decode bZ_advances 146 = .ok (.bipush 99, 2) := by decide +kernel
theorem dZ_advances_148 : decode bZ_advances 148 = .ok (.if_icmp .gt 22, 3) := by decide +kernel
theorem dZ_advances_151 : decode bZ_advances 151 = .ok (.iload_n 1, 1) := by decide +kernel
theorem dZ_advances_152 : decode bZ_advances 152 = .ok (.bipush 48, 2) := by decide +kernel
theorem dZ_advances_154 : decode bZ_advances 154 = .ok (.if_icmp .ne 20, 3) := by decide +kernel
theorem dZ_advances_157 : decode bZ_advances 157 = .ok (.aload_n 0, 1) := by decide +kernel
theorem dZ_advances_158 : decode bZ_advances 158 = .ok (.getfield 79, 3) := by decide +kernel
theorem dZ_advances_161 : decode bZ_advances 161 = .ok (.aload_n 0, 1) := by decide +kernel
theorem dZ_advances_162 : decode bZ_advances 162 = .ok (.getfield 86, 3) := by decide +kernel
theorem dZ_advances_165 : decode bZ_advances 165 = .ok (.isub, 1) := by decide +kernel
theorem dZ_advances_166 : decode bZ_advances 166 = .ok (.iconst 1, 1) := by decide +kernel
theorem dZ_advances_167 : decode bZ_advances 167 = .ok (.if_icmp .le 7, 3) := by decide +kernel
theorem dZ_advances_170 : decode bZ_advances 170 = .ok (.iconst 4, 1) := by decide +kernel
theorem dZ_advances_171 : decode bZ_advances 171 = .ok (.goto 4, 3) := by decide +kernel
theorem dZ_advances_174 : decode bZ_advances 174 = .ok (.iconst 2, 1) := by decide +kernel
theorem dZ_advances_175 : decode bZ_advances 175 = .ok (.putfield 89, 3) := by decide +kernel
theorem dZ_advances_178 : decode bZ_advances 178 = .ok (.goto 44, 3) := by decide +kernel
theorem dZ_advances_181 : decode bZ_advances 181 = .ok (.aload_n 0, 1) := by decide +kernel
theorem dZ_advances_182 : decode bZ_advances 182 = .ok (.dup, 1) := by decide +kernel
theorem dZ_advances_183 : decode bZ_advances 183 = .ok (.getfield 79, 3) := by decide +kernel
theorem dZ_advances_186 : decode bZ_advances 186 = .ok (.iconst 1, 1) := by decide +kernel
theorem dZ_advances_187 : decode bZ_advances 187 = .ok (.iadd, 1) := by decide +kernel
theorem dZ_advances_188 : decode bZ_advances 188 = .ok (.putfield 79, 3) := by decide +kernel
theorem dZ_advances_191 : decode bZ_advances 191 = .ok (.aload_n 0, 1) := by decide +kernel
theorem dZ_advances_192 : decode bZ_advances 192 = .ok (.iload_n 1, 1) := by decide +kernel
theorem dZ_advances_193 : decode bZ_advances 193 = .ok (.putfield 92, 3) := by decide +kernel
theorem dZ_advances_196 : decode bZ_advances 196 = .ok (.aload_n 0, 1) := by decide +kernel
theorem dZ_advances_197 : decode bZ_advances 197 = .ok (.iload_n 1, 1) := by decide +kernel
theorem dZ_advances_198 : decode bZ_advances 198 = .ok (.bipush 59, 2) := by decide +kernel
theorem dZ_advances_200 : decode bZ_advances 200 = .ok (.if_icmp .ne 7, 3) := by decide +kernel
theorem dZ_advances_203 : decode bZ_advances 203 = .ok (.iconst 3, 1) := by decide +kernel
theorem dZ_advances_204 : decode bZ_advances 204 = .ok (.goto 15, 3) := by decide +kernel
theorem dZ_advances_207 : decode bZ_advances 207 = .ok (.iload_n 1, 1) := by decide +kernel
theorem dZ_advances_208 : decode bZ_advances 208 = .ok (.invokestatic 95, 3) := by decide +kernel
theorem dZ_advances_211 : decode bZ_advances 211 = .ok (.ifCond .eq 7, 3) := by decide +kernel
theorem dZ_advances_214 : decode bZ_advances 214 = .ok (.iconst 1, 1) := by decide +kernel
theorem dZ_advances_215 : decode bZ_advances 215 = .ok (.goto 4, 3) := by decide +kernel
theorem dZ_advances_218 : decode bZ_advances 218 = .ok (.iconst 4, 1) := by decide +kernel
theorem dZ_advances_219 : decode bZ_advances 219 = .ok (.putfield 89, 3) := by decide +kernel
theorem dZ_advances_222 : decode bZ_advances 222 = .ok (.return_, 1) := by decide +kernel
theorem dZ_letterAt_0 : decode bZ_letterAt 0 = .ok (.iload_n 1, 1) := by decide +kernel
theorem dZ_letterAt_1 : decode bZ_letterAt 1 = .ok (.aload_n 0, 1) := by decide +kernel
theorem dZ_letterAt_2 : decode bZ_letterAt 2 = .ok (.getfield 76, 3) := by decide +kernel
theorem dZ_letterAt_5 : decode bZ_letterAt 5 = .ok (.if_icmp .ge 12, 3) := by decide +kernel
theorem dZ_letterAt_8 : decode bZ_letterAt 8 = .ok (.aload_n 0, 1) := by decide +kernel
theorem dZ_letterAt_9 : decode bZ_letterAt 9 = .ok (.getfield 7, 3) := by decide +kernel
theorem dZ_letterAt_12 : decode bZ_letterAt 12 = .ok (.iload_n 1, 1) := by decide +kernel
theorem dZ_letterAt_13 : decode bZ_letterAt 13 = .ok (.iaload, 1) := by decide +kernel
theorem dZ_letterAt_14 : decode bZ_letterAt 14 = .ok (.goto 4, 3) := by decide +kernel
theorem dZ_letterAt_17 : decode bZ_letterAt 17 = .ok (.iconst (-1), 1) := by decide +kernel
theorem dZ_letterAt_18 : decode bZ_letterAt 18 = .ok (.ireturn, 1) := by decide +kernel
theorem dZ_isLetter_0 : decode bZ_isLetter 0 = .ok (.iload_n 0, 1) := by decide +kernel
theorem dZ_isLetter_1 : decode bZ_isLetter 1 = .ok (.bipush 115, 2) := by decide +kernel
theorem dZ_isLetter_3 : decode bZ_isLetter 3 = .ok (.if_icmp .eq 21, 3) := by decide +kernel
theorem dZ_isLetter_6 : decode bZ_isLetter 6 = .ok (.iload_n 0, 1) := by decide +kernel
theorem dZ_isLetter_7 : decode bZ_isLetter 7 = .ok (.bipush 116, 2) := by decide +kernel
theorem dZ_isLetter_9 : decode bZ_isLetter 9 = .ok (.if_icmp .eq 15, 3) := by decide +kernel
theorem dZ_isLetter_12 : decode bZ_isLetter 12 = .ok (.iload_n 0, 1) := by decide +kernel
theorem dZ_isLetter_13 : decode bZ_isLetter 13 = .ok (.bipush 114, 2) := by decide +kernel
theorem dZ_isLetter_15 : decode bZ_isLetter 15 = .ok (.if_icmp .eq 9, 3) := by decide +kernel
theorem dZ_isLetter_18 : decode bZ_isLetter 18 = .ok (.iload_n 0, 1) := by decide +kernel
theorem dZ_isLetter_19 : decode bZ_isLetter 19 = .ok (.bipush 98, 2) := by decide +kernel
theorem dZ_isLetter_21 : decode bZ_isLetter 21 = .ok (.if_icmp .ne 7, 3) := by decide +kernel
theorem dZ_isLetter_24 : decode bZ_isLetter 24 = .ok (.iconst 1, 1) := by decide +kernel
theorem dZ_isLetter_25 : decode bZ_isLetter 25 = .ok (.goto 4, 3) := by decide +kernel
theorem dZ_isLetter_28 : decode bZ_isLetter 28 = .ok (.iconst 0, 1) := by decide +kernel
theorem dZ_isLetter_29 : decode bZ_isLetter 29 = .ok (.ireturn, 1) := by decide +kernel
theorem dZ_isWell_0 : decode bZ_isWell 0 = .ok (.aload_n 0, 1) := by decide +kernel
theorem dZ_isWell_1 : decode bZ_isWell 1 = .ok (.getfield 99, 3) := by decide +kernel
theorem dZ_isWell_4 : decode bZ_isWell 4 = .ok (.ifCond .ge 7, 3) := by decide +kernel
theorem dZ_isWell_7 : decode bZ_isWell 7 = .ok (.iconst 1, 1) := by decide +kernel
theorem dZ_isWell_8 : decode bZ_isWell 8 = .ok (.goto 4, 3) := by decide +kernel
theorem dZ_isWell_11 : decode bZ_isWell 11 = .ok (.iconst 0, 1) := by decide +kernel
theorem dZ_isWell_12 : decode bZ_isWell 12 = .ok (.ireturn, 1) := by decide +kernel
theorem dZ_mayBegin_0 : decode bZ_mayBegin 0 = .ok (.aload_n 0, 1) := by decide +kernel
theorem dZ_mayBegin_1 : decode bZ_mayBegin 1 = .ok (.getfield 92, 3) := by decide +kernel
theorem dZ_mayBegin_4 : decode bZ_mayBegin 4 = .ok (.bipush 115, 2) := by decide +kernel
theorem dZ_mayBegin_6 : decode bZ_mayBegin 6 = .ok (.if_icmp .eq 12, 3) := by decide +kernel
theorem dZ_mayBegin_9 : decode bZ_mayBegin 9 = .ok (.aload_n 0, 1) := by decide +kernel
theorem dZ_mayBegin_10 : decode bZ_mayBegin 10 = .ok (.getfield 92, 3) := by decide +kernel
theorem dZ_mayBegin_13 : decode bZ_mayBegin 13 = .ok (.bipush 116, 2) := by decide +kernel
theorem dZ_mayBegin_15 : decode bZ_mayBegin 15 = .ok (.if_icmp .ne 46, 3) := by decide +kernel
theorem dZ_mayBegin_18 : decode bZ_mayBegin 18 = .ok (.aload_n 0, 1) := by decide +kernel
theorem dZ_mayBegin_19 : decode bZ_mayBegin 19 = .ok (.getfield 92, 3) := by decide +kernel
theorem dZ_mayBegin_22 : decode bZ_mayBegin 22 = .ok (.bipush 115, 2) := by decide +kernel
theorem dZ_mayBegin_24 : decode bZ_mayBegin 24 = .ok (.if_icmp .ne 21, 3) := by decide +kernel
theorem dZ_mayBegin_27 : decode bZ_mayBegin 27 = .ok (.aload_n 0, 1) := by decide +kernel
theorem dZ_mayBegin_28 : decode bZ_mayBegin 28 = .ok (.getfield 13, 3) := by decide +kernel
theorem dZ_mayBegin_31 : decode bZ_mayBegin 31 = .ok (.iconst 4, 1) := by decide +kernel
theorem dZ_mayBegin_32 : decode bZ_mayBegin 32 = .ok (.iaload, 1) := by decide +kernel
theorem dZ_mayBegin_33 : decode bZ_mayBegin 33 = .ok (.iconst 5, 1) := by decide +kernel
theorem dZ_mayBegin_34 : decode bZ_mayBegin 34 = .ok (.if_icmp .ge 7, 3) := by decide +kernel
theorem dZ_mayBegin_37 : decode bZ_mayBegin 37 = .ok (.iconst 1, 1) := by decide +kernel
theorem dZ_mayBegin_38 : decode bZ_mayBegin 38 = .ok (.goto 22, 3) := by decide +kernel
theorem dZ_mayBegin_41 : decode bZ_mayBegin 41 = .ok (.iconst 0, 1) := by decide +kernel
theorem dZ_mayBegin_42 : decode bZ_mayBegin 42 = .ok (.goto 18, 3) := by decide +kernel
theorem dZ_mayBegin_45 : decode bZ_mayBegin 45 = .ok (.aload_n 0, 1) := by decide +kernel
theorem dZ_mayBegin_46 : decode bZ_mayBegin 46 = .ok (.getfield 13, 3) := by decide +kernel
theorem dZ_mayBegin_49 : decode bZ_mayBegin 49 = .ok (.iconst 5, 1) := by decide +kernel
theorem dZ_mayBegin_50 : decode bZ_mayBegin 50 = .ok (.iaload, 1) := by decide +kernel
theorem dZ_mayBegin_51 : decode bZ_mayBegin 51 = .ok (.iconst 4, 1) := by decide +kernel
theorem dZ_mayBegin_52 : decode bZ_mayBegin 52 = .ok (.if_icmp .ge 7, 3) := by decide +kernel
theorem dZ_mayBegin_55 : decode bZ_mayBegin 55 = .ok (.iconst 1, 1) := by decide +kernel
theorem dZ_mayBegin_56 : decode bZ_mayBegin 56 = .ok (.goto 4, 3) := by decide +kernel
theorem dZ_mayBegin_59 : decode bZ_mayBegin 59 = .ok (.iconst 0, 1) := by decide +kernel
theorem dZ_mayBegin_60 : decode bZ_mayBegin 60 = .ok (.ireturn, 1) := by decide +kernel
theorem dZ_mayBegin_61 : decode bZ_mayBegin 61 = .ok (.aload_n 0, 1) := by decide +kernel
theorem dZ_mayBegin_62 : decode bZ_mayBegin 62 = .ok (.getfield 113, 3) := by decide +kernel
theorem dZ_mayBegin_65 : decode bZ_mayBegin 65 = .ok (.aload_n 0, 1) := by decide +kernel
theorem dZ_mayBegin_66 : decode bZ_mayBegin 66 = .ok (.getfield 92, 3) := by decide +kernel
theorem dZ_mayBegin_69 : decode bZ_mayBegin 69 = .ok (.bipush 114, 2) := by decide +kernel
theorem dZ_mayBegin_71 : decode bZ_mayBegin 71 = .ok (.if_icmp .ne 7, 3) := by decide +kernel
theorem dZ_mayBegin_74 : decode bZ_mayBegin 74 = .ok (.iconst 1, 1) := by decide +kernel
theorem dZ_mayBegin_75 : decode bZ_mayBegin 75 = .ok (.goto 4, 3) := by decide +kernel
theorem dZ_mayBegin_78 : decode bZ_mayBegin 78 = .ok (.iconst 2, 1) := by decide +kernel
theorem dZ_mayBegin_79 : decode bZ_mayBegin 79 = .ok (.iand, 1) := by decide +kernel
theorem dZ_mayBegin_80 : decode bZ_mayBegin 80 = .ok (.ifCond .ne 7, 3) := by decide +kernel
theorem dZ_mayBegin_83 : decode bZ_mayBegin 83 = .ok (.iconst 1, 1) := by decide +kernel
theorem dZ_mayBegin_84 : decode bZ_mayBegin 84 = .ok (.goto 4, 3) := by decide +kernel
theorem dZ_mayBegin_87 : decode bZ_mayBegin 87 = .ok (.iconst 0, 1) := by decide +kernel
theorem dZ_mayBegin_88 : decode bZ_mayBegin 88 = .ok (.ireturn, 1) := by decide +kernel
theorem dZ_takes_0 : decode bZ_takes 0 = .ok (.aload_n 0, 1) := by decide +kernel
theorem dZ_takes_1 : decode bZ_takes 1 = .ok (.invokevirtual 102, 3) := by decide +kernel
theorem dZ_takes_4 : decode bZ_takes 4 = .ok (.ifCond .ne 5, 3) := by decide +kernel
theorem dZ_takes_7 : decode bZ_takes 7 = .ok (.iconst 0, 1) := by decide +kernel
theorem dZ_takes_8 : decode bZ_takes 8 = .ok (.ireturn, 1) := by decide +kernel
theorem dZ_takes_9 : decode bZ_takes 9 = .ok (.iload_n 1, 1) := by decide +kernel
theorem dZ_takes_10 : decode bZ_takes 10 = .ok (.ifCond .ne 13, 3) := by decide +kernel
theorem dZ_takes_13 : decode bZ_takes 13 = .ok (.aload_n 0, 1) := by decide +kernel
theorem dZ_takes_14 : decode bZ_takes 14 = .ok (.aload_n 0, 1) := by decide +kernel
theorem dZ_takes_15 : decode bZ_takes 15 = .ok (.getfield 86, 3) := by decide +kernel
theorem dZ_takes_18 : decode bZ_takes 18 = .ok (.putfield 99, 3) := by decide +kernel
theorem dZ_takes_21 : decode bZ_takes 21 = .ok (.iconst 0, 1) := by decide +kernel
theorem dZ_takes_22 : decode bZ_takes 22 = .ok (.ireturn, 1) := by decide +kernel
theorem dZ_takes_23 : decode bZ_takes 23 = .ok (.aload_n 0, 1) := by decide +kernel
theorem dZ_takes_24 : decode bZ_takes 24 = .ok (.getfield 92, 3) := by decide +kernel
theorem dZ_takes_27 : decode bZ_takes 27 = .ok (.istore_n 2, 1) := by decide +kernel
theorem dZ_takes_28 : decode bZ_takes 28 = .ok (.aload_n 0, 1) := by decide +kernel
theorem dZ_takes_29 : decode bZ_takes 29 = .ok (.invokevirtual 106, 3) := by decide +kernel
theorem dZ_takes_32 : decode bZ_takes 32 = .ok (.iload_n 2, 1) := by decide +kernel
theorem dZ_takes_33 : decode bZ_takes 33 = .ok (.ireturn, 1) := by decide +kernel
theorem dZ_readsItem_0 : decode bZ_readsItem 0 = .ok (.iload_n 1, 1) := by decide +kernel
theorem dZ_readsItem_1 : decode bZ_readsItem 1 = .ok (.bipush 115, 2) := by decide +kernel
theorem dZ_readsItem_3 : decode bZ_readsItem 3 = .ok (.if_icmp .ne 66, 3) := by decide +kernel
theorem dZ_readsItem_6 : decode bZ_readsItem 6 = .ok (.iconst 5, 1) := by decide +kernel
theorem dZ_readsItem_7 : decode bZ_readsItem 7 = .ok (.aload_n 0, 1) := by decide +kernel
theorem dZ_readsItem_8 : decode bZ_readsItem 8 = .ok (.getfield 13, 3) := by decide +kernel
theorem dZ_readsItem_11 : decode bZ_readsItem 11 = .ok (.iconst 4, 1) := by decide +kernel
theorem dZ_readsItem_12 : decode bZ_readsItem 12 = .ok (.iaload, 1) := by decide +kernel
theorem dZ_readsItem_13 : decode bZ_readsItem 13 = .ok (.iadd, 1) := by decide +kernel
theorem dZ_readsItem_14 : decode bZ_readsItem 14 = .ok (.istore_n 2, 1) := by decide +kernel
theorem dZ_readsItem_15 : decode bZ_readsItem 15 = .ok (.aload_n 0, 1) := by decide +kernel
theorem dZ_readsItem_16 : decode bZ_readsItem 16 = .ok (.getfield 16, 3) := by decide +kernel
theorem dZ_readsItem_19 : decode bZ_readsItem 19 = .ok (.iload_n 2, 1) := by decide +kernel
theorem dZ_readsItem_20 : decode bZ_readsItem 20 = .ok (.aload_n 0, 1) := by decide +kernel
theorem dZ_readsItem_21 : decode bZ_readsItem 21 = .ok (.iconst 1, 1) := by decide +kernel
theorem dZ_readsItem_22 : decode bZ_readsItem 22 = .ok (.bipush 20, 2) := by decide +kernel
theorem dZ_readsItem_24 : decode bZ_readsItem 24 = .ok (.invokevirtual 116, 3) := by decide +kernel
theorem dZ_readsItem_27 : decode bZ_readsItem 27 = .ok (.iastore, 1) := by decide +kernel
theorem dZ_readsItem_28 : decode bZ_readsItem 28 = .ok (.aload_n 0, 1) := by decide +kernel
theorem dZ_readsItem_29 : decode bZ_readsItem 29 = .ok (.getfield 19, 3) := by decide +kernel
theorem dZ_readsItem_32 : decode bZ_readsItem 32 = .ok (.iload_n 2, 1) := by decide +kernel
theorem dZ_readsItem_33 : decode bZ_readsItem 33 = .ok (.aload_n 0, 1) := by decide +kernel
theorem dZ_readsItem_34 : decode bZ_readsItem 34 = .ok (.iconst 1, 1) := by decide +kernel
theorem dZ_readsItem_35 : decode bZ_readsItem 35 = .ok (.bipush 20, 2) := by decide +kernel
theorem dZ_readsItem_37 : decode bZ_readsItem 37 = .ok (.invokevirtual 116, 3) := by decide +kernel
theorem dZ_readsItem_40 : decode bZ_readsItem 40 = .ok (.iastore, 1) := by decide +kernel
theorem dZ_readsItem_41 : decode bZ_readsItem 41 = .ok (.aload_n 0, 1) := by decide +kernel
theorem dZ_readsItem_42 : decode bZ_readsItem 42 = .ok (.getfield 22, 3) := by decide +kernel
theorem dZ_readsItem_45 : decode bZ_readsItem 45 = .ok (.iload_n 2, 1) := by decide +kernel
theorem dZ_readsItem_46 : decode bZ_readsItem 46 = .ok (.aload_n 0, 1) := by decide +kernel
theorem dZ_readsItem_47 : decode bZ_readsItem 47 = .ok (.iconst 0, 1) := by decide +kernel
theorem dZ_readsItem_48 : decode bZ_readsItem 48 = .ok (.bipush 6, 2) := by decide +kernel
theorem dZ_readsItem_50 : decode bZ_readsItem 50 = .ok (.invokevirtual 116, 3) := by decide +kernel
theorem dZ_readsItem_53 : decode bZ_readsItem 53 = .ok (.iconst 3, 1) := by decide +kernel
theorem dZ_readsItem_54 : decode bZ_readsItem 54 = .ok (.isub, 1) := by decide +kernel
theorem dZ_readsItem_55 : decode bZ_readsItem 55 = .ok (.iastore, 1) := by decide +kernel
theorem dZ_readsItem_56 : decode bZ_readsItem 56 = .ok (.aload_n 0, 1) := by decide +kernel
theorem dZ_readsItem_57 : decode bZ_readsItem 57 = .ok (.getfield 13, 3) := by decide +kernel
theorem dZ_readsItem_60 : decode bZ_readsItem 60 = .ok (.iconst 4, 1) := by decide +kernel
theorem dZ_readsItem_61 : decode bZ_readsItem 61 = .ok (.dup2, 1) := by decide +kernel
theorem dZ_readsItem_62 : decode bZ_readsItem 62 = .ok (.iaload, 1) := by decide +kernel
theorem dZ_readsItem_63 : decode bZ_readsItem 63 = .ok (.iconst 1, 1) := by decide +kernel
theorem dZ_readsItem_64 : decode bZ_readsItem 64 = .ok (.iadd, 1) := by decide +kernel
theorem dZ_readsItem_65 : decode bZ_readsItem 65 = .ok (.iastore, 1) := by decide +kernel
theorem dZ_readsItem_66 : decode bZ_readsItem 66 = .ok (.goto 97, 3) := by decide +kernel
theorem dZ_readsItem_69 : decode bZ_readsItem 69 = .ok (.iload_n 1, 1) := by decide +kernel
theorem dZ_readsItem_70 : decode bZ_readsItem 70 = .ok (.bipush 116, 2) := by decide +kernel
theorem dZ_readsItem_72 : decode bZ_readsItem 72 = .ok (.if_icmp .ne 36, 3) := by decide +kernel
theorem dZ_readsItem_75 : decode bZ_readsItem 75 = .ok (.aload_n 0, 1) := by decide +kernel
theorem dZ_readsItem_76 : decode bZ_readsItem 76 = .ok (.getfield 25, 3) := by decide +kernel
theorem dZ_readsItem_79 : decode bZ_readsItem 79 = .ok (.iconst 4, 1) := by decide +kernel
theorem dZ_readsItem_80 : decode bZ_readsItem 80 = .ok (.aload_n 0, 1) := by decide +kernel
theorem dZ_readsItem_81 : decode bZ_readsItem 81 = .ok (.getfield 13, 3) := by decide +kernel
theorem dZ_readsItem_84 : decode bZ_readsItem 84 = .ok (.iconst 5, 1) := by decide +kernel
theorem dZ_readsItem_85 : decode bZ_readsItem 85 = .ok (.iaload, 1) := by decide +kernel
theorem dZ_readsItem_86 : decode bZ_readsItem 86 = .ok (.iadd, 1) := by decide +kernel
theorem dZ_readsItem_87 : decode bZ_readsItem 87 = .ok (.aload_n 0, 1) := by decide +kernel
theorem dZ_readsItem_88 : decode bZ_readsItem 88 = .ok (.iconst 1, 1) := by decide +kernel
theorem dZ_readsItem_89 : decode bZ_readsItem 89 = .ok (.bipush 99, 2) := by decide +kernel
theorem dZ_readsItem_91 : decode bZ_readsItem 91 = .ok (.invokevirtual 116, 3) := by decide +kernel
theorem dZ_readsItem_94 : decode bZ_readsItem 94 = .ok (.iastore, 1) := by decide +kernel
theorem dZ_readsItem_95 : decode bZ_readsItem 95 = .ok (.aload_n 0, 1) := by decide +kernel
theorem dZ_readsItem_96 : decode bZ_readsItem 96 = .ok (.getfield 13, 3) := by decide +kernel
theorem dZ_readsItem_99 : decode bZ_readsItem 99 = .ok (.iconst 5, 1) := by decide +kernel
theorem dZ_readsItem_100 : decode bZ_readsItem 100 = .ok (.dup2, 1) := by decide +kernel
theorem dZ_readsItem_101 : decode bZ_readsItem 101 = .ok (.iaload, 1) := by decide +kernel
theorem dZ_readsItem_102 : decode bZ_readsItem 102 = .ok (.iconst 1, 1) := by decide +kernel
theorem dZ_readsItem_103 : decode bZ_readsItem 103 = .ok (.iadd, 1) := by decide +kernel
theorem dZ_readsItem_104 : decode bZ_readsItem 104 = .ok (.iastore, 1) := by decide +kernel
theorem dZ_readsItem_105 : decode bZ_readsItem 105 = .ok (.goto 58, 3) := by decide +kernel
theorem dZ_readsItem_108 : decode bZ_readsItem 108 = .ok (.aload_n 0, 1) := by decide +kernel
theorem dZ_readsItem_109 : decode bZ_readsItem 109 = .ok (.getfield 13, 3) := by decide +kernel
theorem dZ_readsItem_112 : decode bZ_readsItem 112 = .ok (.iconst 4, 1) := by decide +kernel
theorem dZ_readsItem_113 : decode bZ_readsItem 113 = .ok (.iload_n 1, 1) := by decide +kernel
theorem dZ_readsItem_114 : decode bZ_readsItem 114 = .ok (.bipush 114, 2) := by decide +kernel
theorem dZ_readsItem_116 : decode bZ_readsItem 116 = .ok (.if_icmp .ne 7, 3) := by decide +kernel
theorem dZ_readsItem_119 : decode bZ_readsItem 119 = .ok (.iconst 2, 1) := by decide +kernel
theorem dZ_readsItem_120 : decode bZ_readsItem 120 = .ok (.goto 4, 3) := by decide +kernel
theorem dZ_readsItem_123 : decode bZ_readsItem 123 = .ok (.iconst 3, 1) := by decide +kernel
theorem dZ_readsItem_124 : decode bZ_readsItem 124 = .ok (.iadd, 1) := by decide +kernel
theorem dZ_readsItem_125 : decode bZ_readsItem 125 = .ok (.aload_n 0, 1) := by decide +kernel
theorem dZ_readsItem_126 : decode bZ_readsItem 126 = .ok (.iload_n 1, 1) := by decide +kernel
theorem dZ_readsItem_127 : decode bZ_readsItem 127 = .ok (.bipush 114, 2) := by decide +kernel
theorem dZ_readsItem_129 : decode bZ_readsItem 129 = .ok (.if_icmp .ne 7, 3) := by decide +kernel
theorem dZ_readsItem_132 : decode bZ_readsItem 132 = .ok (.iconst 1, 1) := by decide +kernel
theorem dZ_readsItem_133 : decode bZ_readsItem 133 = .ok (.goto 4, 3) := by decide +kernel
theorem dZ_readsItem_136 : decode bZ_readsItem 136 = .ok (.iconst 2, 1) := by decide +kernel
theorem dZ_readsItem_137 : decode bZ_readsItem 137 = .ok (.bipush 9, 2) := by decide +kernel
theorem dZ_readsItem_139 : decode bZ_readsItem 139 = .ok (.invokevirtual 116, 3) := by decide +kernel
theorem dZ_readsItem_142 : decode bZ_readsItem 142 = .ok (.iastore, 1) := by decide +kernel
theorem dZ_readsItem_143 : decode bZ_readsItem 143 = .ok (.aload_n 0, 1) := by decide +kernel
theorem dZ_readsItem_144 : decode bZ_readsItem 144 = .ok (.dup, 1) := by decide +kernel
theorem dZ_readsItem_145 : decode bZ_readsItem 145 = .ok (.getfield 113, 3) := by decide +kernel
theorem dZ_readsItem_148 : decode bZ_readsItem 148 = .ok (.iload_n 1, 1) := by decide +kernel
theorem dZ_readsItem_149 : decode bZ_readsItem 149 = .ok (.bipush 114, 2) := by decide +kernel
theorem dZ_readsItem_151 : decode bZ_readsItem 151 = .ok (.if_icmp .ne 7, 3) := by decide +kernel
theorem dZ_readsItem_154 : decode bZ_readsItem 154 = .ok (.iconst 1, 1) := by decide +kernel
theorem dZ_readsItem_155 : decode bZ_readsItem 155 = .ok (.goto 4, 3) := by decide +kernel
theorem dZ_readsItem_158 : decode bZ_readsItem 158 = .ok (.iconst 2, 1) := by decide +kernel
theorem dZ_readsItem_159 : decode bZ_readsItem 159 = .ok (.ior, 1) := by decide +kernel
theorem dZ_readsItem_160 : decode bZ_readsItem 160 = .ok (.putfield 113, 3) := by decide +kernel
theorem dZ_readsItem_163 : decode bZ_readsItem 163 = .ok (.return_, 1) := by decide +kernel
theorem dZ_number_0 : decode bZ_number 0 = .ok (.aload_n 0, 1) := by decide +kernel
theorem dZ_number_1 : decode bZ_number 1 = .ok (.aload_n 0, 1) := by decide +kernel
theorem dZ_number_2 : decode bZ_number 2 = .ok (.getfield 89, 3) := by decide +kernel
theorem dZ_number_5 : decode bZ_number 5 = .ok (.iconst 2, 1) := by decide +kernel
theorem dZ_number_6 : decode bZ_number 6 = .ok (.if_icmp .ne 19, 3) := by decide +kernel
theorem dZ_number_9 : decode bZ_number 9 = .ok (.aload_n 0, 1) := by decide +kernel
theorem dZ_number_10 : decode bZ_number 10 = .ok (.getfield 92, 3) := by decide +kernel
theorem dZ_number_13 : decode bZ_number 13 = .ok (.iload_n 1, 1) := by decide +kernel
theorem dZ_number_14 : decode bZ_number 14 = .ok (.iload_n 2, 1) := by decide +kernel
theorem dZ_number_15 : decode bZ_number 15 = .ok (.invokestatic 72, 3) := by decide +kernel
theorem dZ_number_18 : decode bZ_number 18 = .ok (.ifCond .eq 7, 3) := by decide +kernel
theorem dZ_number_21 : decode bZ_number 21 = .ok (.iconst 1, 1) := by decide +kernel
theorem dZ_number_22 : decode bZ_number 22 = .ok (.goto 4, 3) := by decide +kernel
theorem dZ_number_25 : decode bZ_number 25 = .ok (.iconst 0, 1) := by decide +kernel
theorem dZ_number_26 : decode bZ_number 26 = .ok (.invokevirtual 109, 3) := by decide +kernel
theorem dZ_number_29 : decode bZ_number 29 = .ok (.ireturn, 1) := by decide +kernel
theorem dZ_stretch_0 : decode bZ_stretch 0 = .ok (.aload_n 0, 1) := by decide +kernel
theorem dZ_stretch_1 : decode bZ_stretch 1 = .ok (.iconst 0, 1) := by decide +kernel
theorem dZ_stretch_2 : decode bZ_stretch 2 = .ok (.putfield 68, 3) := by decide +kernel
theorem dZ_stretch_5 : decode bZ_stretch 5 = .ok (.aload_n 0, 1) := by decide +kernel
theorem dZ_stretch_6 : decode bZ_stretch 6 = .ok (.iload_n 1, 1) := by decide +kernel
theorem dZ_stretch_7 : decode bZ_stretch 7 = .ok (.invokevirtual 139, 3) := by decide +kernel
theorem dZ_stretch_10 : decode bZ_stretch 10 = .ok (.ifCond .eq 12, 3) := by decide +kernel
theorem dZ_stretch_13 : decode bZ_stretch 13 = .ok (.iload_n 2, 1) := by decide +kernel
theorem dZ_stretch_14 : decode bZ_stretch 14 = .ok (.iconst 0, 1) := by decide +kernel
theorem dZ_stretch_15 : decode bZ_stretch 15 = .ok (.iconst 3, 1) := by decide +kernel
theorem dZ_stretch_16 : decode bZ_stretch 16 = .ok (.invokestatic 72, 3) := by decide +kernel
theorem dZ_stretch_19 : decode bZ_stretch 19 = .ok (.ifCond .ne 6, 3) := by decide +kernel
theorem dZ_stretch_22 : decode bZ_stretch 22 = .ok (.ldc 142, 2) := by decide +kernel
theorem dZ_stretch_24 : decode bZ_stretch 24 = .ok (.ireturn, 1) := by decide +kernel
theorem dZ_stretch_25 : decode bZ_stretch 25 = .ok (.iload_n 2, 1) := by decide +kernel
theorem dZ_stretch_26 : decode bZ_stretch 26 = .ok (.ifCond .ne 12, 3) := by decide +kernel
theorem dZ_stretch_29 : decode bZ_stretch 29 = .ok (.aload_n 0, 1) := by decide +kernel
theorem dZ_stretch_30 : decode bZ_stretch 30 = .ok (.getfield 16, 3) := by decide +kernel
theorem dZ_stretch_33 : decode bZ_stretch 33 = .ok (.iload_n 1, 1) := by decide +kernel
theorem dZ_stretch_34 : decode bZ_stretch 34 = .ok (.iaload, 1) := by decide +kernel
theorem dZ_stretch_35 : decode bZ_stretch 35 = .ok (.goto 38, 3) := by decide +kernel
theorem dZ_stretch_38 : decode bZ_stretch 38 = .ok (.iload_n 2, 1) := by decide +kernel
theorem dZ_stretch_39 : decode bZ_stretch 39 = .ok (.iconst 1, 1) := by decide +kernel
theorem dZ_stretch_40 : decode bZ_stretch 40 = .ok (.if_icmp .ne 12, 3) := by decide +kernel
theorem dZ_stretch_43 : decode bZ_stretch 43 = .ok (.aload_n 0, 1) := by decide +kernel
theorem dZ_stretch_44 : decode bZ_stretch 44 = .ok (.getfield 19, 3) := by decide +kernel
theorem dZ_stretch_47 : decode bZ_stretch 47 = .ok (.iload_n 1, 1) := by decide +kernel
theorem dZ_stretch_48 : decode bZ_stretch 48 = .ok (.iaload, 1) := by decide +kernel
theorem dZ_stretch_49 : decode bZ_stretch 49 = .ok (.goto 24, 3) := by decide +kernel
theorem dZ_stretch_52 : decode bZ_stretch 52 = .ok (.iload_n 2, 1) := by decide +kernel
theorem dZ_stretch_53 : decode bZ_stretch 53 = .ok (.iconst 2, 1) := by decide +kernel
theorem dZ_stretch_54 : decode bZ_stretch 54 = .ok (.if_icmp .ne 12, 3) := by decide +kernel
theorem dZ_stretch_57 : decode bZ_stretch 57 = .ok (.aload_n 0, 1) := by decide +kernel
theorem dZ_stretch_58 : decode bZ_stretch 58 = .ok (.getfield 22, 3) := by decide +kernel
theorem dZ_stretch_61 : decode bZ_stretch 61 = .ok (.iload_n 1, 1) := by decide +kernel
theorem dZ_stretch_62 : decode bZ_stretch 62 = .ok (.iaload, 1) := by decide +kernel
theorem dZ_stretch_63 : decode bZ_stretch 63 = .ok (.goto 10, 3) := by decide +kernel
theorem dZ_stretch_66 : decode bZ_stretch 66 = .ok (.aload_n 0, 1) := by decide +kernel
theorem dZ_stretch_67 : decode bZ_stretch 67 = .ok (.iload_n 1, 1) := by decide +kernel
theorem dZ_stretch_68 : decode bZ_stretch 68 = .ok (.iconst 1, 1) := by decide +kernel
theorem dZ_stretch_69 : decode bZ_stretch 69 = .ok (.iadd, 1) := by decide +kernel
theorem dZ_stretch_70 : decode bZ_stretch 70 = .ok (.invokevirtual 136, 3) := by decide +kernel
theorem dZ_stretch_73 : decode bZ_stretch 73 = .ok (.ireturn, 1) := by decide +kernel
theorem dZ_isStretch_0 : decode bZ_isStretch 0 = .ok (.iload_n 1, 1) := by decide +kernel
theorem dZ_isStretch_1 : decode bZ_isStretch 1 = .ok (.iconst 0, 1) := by decide +kernel
theorem dZ_isStretch_2 : decode bZ_isStretch 2 = .ok (.aload_n 0, 1) := by decide +kernel
theorem dZ_isStretch_3 : decode bZ_isStretch 3 = .ok (.getfield 13, 3) := by decide +kernel
theorem dZ_isStretch_6 : decode bZ_isStretch 6 = .ok (.iconst 0, 1) := by decide +kernel
theorem dZ_isStretch_7 : decode bZ_isStretch 7 = .ok (.iaload, 1) := by decide +kernel
theorem dZ_isStretch_8 : decode bZ_isStretch 8 = .ok (.iconst 1, 1) := by decide +kernel
theorem dZ_isStretch_9 : decode bZ_isStretch 9 = .ok (.isub, 1) := by decide +kernel
theorem dZ_isStretch_10 : decode bZ_isStretch 10 = .ok (.invokestatic 72, 3) := by decide +kernel
theorem dZ_isStretch_13 : decode bZ_isStretch 13 = .ok (.ireturn, 1) := by decide +kernel
theorem dZ_markOf_0 : decode bZ_markOf 0 = .ok (.iconst 0, 1) := by decide +kernel
theorem dZ_markOf_1 : decode bZ_markOf 1 = .ok (.istore_n 2, 1) := by decide +kernel
theorem dZ_markOf_2 : decode bZ_markOf 2 = .ok (.iconst 0, 1) := by decide +kernel
theorem dZ_markOf_3 : decode bZ_markOf 3 = .ok (.istore_n 3, 1) := by decide +kernel
theorem dZ_markOf_4 : decode bZ_markOf 4 = .ok (.iload_n 3, 1) := by decide +kernel
theorem dZ_markOf_5 : decode bZ_markOf 5 = .ok (.iload_n 1, 1) := by decide +kernel
theorem dZ_markOf_6 : decode bZ_markOf 6 = .ok (.if_icmp .ge 18, 3) := by decide +kernel
theorem dZ_markOf_9 : decode bZ_markOf 9 = .ok (.iload_n 2, 1) := by decide +kernel
theorem dZ_markOf_10 : decode bZ_markOf 10 = .ok (.aload_n 0, 1) := by decide +kernel
theorem dZ_markOf_11 : decode bZ_markOf 11 = .ok (.getfield 16, 3) := by decide +kernel
theorem dZ_markOf_14 : decode bZ_markOf 14 = .ok (.iload_n 3, 1) := by decide +kernel
theorem dZ_markOf_15 : decode bZ_markOf 15 = .ok (.iaload, 1) := by decide +kernel
theorem dZ_markOf_16 : decode bZ_markOf 16 = .ok (.iadd, 1) := by decide +kernel
theorem dZ_markOf_17 : decode bZ_markOf 17 = .ok (.istore_n 2, 1) := by decide +kernel
theorem dZ_markOf_18 : decode bZ_markOf 18 = .ok (.iinc 3 1, 3) := by decide +kernel
theorem dZ_markOf_21 : decode bZ_markOf 21 = .ok (.goto (-17), 3) := by decide +kernel
theorem dZ_markOf_24 : decode bZ_markOf 24 = .ok (.iload_n 2, 1) := by decide +kernel
theorem dZ_markOf_25 : decode bZ_markOf 25 = .ok (.ireturn, 1) := by decide +kernel
theorem dZ_traveller_0 : decode bZ_traveller 0 = .ok (.aload_n 0, 1) := by decide +kernel
theorem dZ_traveller_1 : decode bZ_traveller 1 = .ok (.iconst 0, 1) := by decide +kernel
theorem dZ_traveller_2 : decode bZ_traveller 2 = .ok (.putfield 68, 3) := by decide +kernel
theorem dZ_traveller_5 : decode bZ_traveller 5 = .ok (.aload_n 0, 1) := by decide +kernel
theorem dZ_traveller_6 : decode bZ_traveller 6 = .ok (.iload_n 1, 1) := by decide +kernel
theorem dZ_traveller_7 : decode bZ_traveller 7 = .ok (.invokevirtual 143, 3) := by decide +kernel
theorem dZ_traveller_10 : decode bZ_traveller 10 = .ok (.ifCond .eq 12, 3) := by decide +kernel
theorem dZ_traveller_13 : decode bZ_traveller 13 = .ok (.iload_n 2, 1) := by decide +kernel
theorem dZ_traveller_14 : decode bZ_traveller 14 = .ok (.iconst 0, 1) := by decide +kernel
theorem dZ_traveller_15 : decode bZ_traveller 15 = .ok (.iconst 2, 1) := by decide +kernel
theorem dZ_traveller_16 : decode bZ_traveller 16 = .ok (.invokestatic 72, 3) := by decide +kernel
theorem dZ_traveller_19 : decode bZ_traveller 19 = .ok (.ifCond .ne 5, 3) := by decide +kernel
theorem dZ_traveller_22 : decode bZ_traveller 22 = .ok (.iconst (-1), 1) := by decide +kernel
theorem dZ_traveller_23 : decode bZ_traveller 23 = .ok (.ireturn, 1) := by decide +kernel
theorem dZ_traveller_24 : decode bZ_traveller 24 = .ok (.iload_n 2, 1) := by decide +kernel
theorem dZ_traveller_25 : decode bZ_traveller 25 = .ok (.ifCond .ne 12, 3) := by decide +kernel
theorem dZ_traveller_28 : decode bZ_traveller 28 = .ok (.aload_n 0, 1) := by decide +kernel
theorem dZ_traveller_29 : decode bZ_traveller 29 = .ok (.getfield 25, 3) := by decide +kernel
theorem dZ_traveller_32 : decode bZ_traveller 32 = .ok (.iload_n 1, 1) := by decide +kernel
theorem dZ_traveller_33 : decode bZ_traveller 33 = .ok (.iaload, 1) := by decide +kernel
theorem dZ_traveller_34 : decode bZ_traveller 34 = .ok (.goto 29, 3) := by decide +kernel
theorem dZ_traveller_37 : decode bZ_traveller 37 = .ok (.iload_n 2, 1) := by decide +kernel
theorem dZ_traveller_38 : decode bZ_traveller 38 = .ok (.iconst 1, 1) := by decide +kernel
theorem dZ_traveller_39 : decode bZ_traveller 39 = .ok (.if_icmp .ne 14, 3) := by decide +kernel
theorem dZ_traveller_42 : decode bZ_traveller 42 = .ok (.aload_n 0, 1) := by decide +kernel
theorem dZ_traveller_43 : decode bZ_traveller 43 = .ok (.getfield 28, 3) := by decide +kernel
theorem dZ_traveller_46 : decode bZ_traveller 46 = .ok (.iconst 0, 1) := by decide +kernel
theorem dZ_traveller_47 : decode bZ_traveller 47 = .ok (.iload_n 1, 1) := by decide +kernel
theorem dZ_traveller_48 : decode bZ_traveller 48 = .ok (.iadd, 1) := by decide +kernel
theorem dZ_traveller_49 : decode bZ_traveller 49 = .ok (.iaload, 1) := by decide +kernel
theorem dZ_traveller_50 : decode bZ_traveller 50 = .ok (.goto 13, 3) := by decide +kernel
theorem dZ_traveller_53 : decode bZ_traveller 53 = .ok (.aload_n 0, 1) := by decide +kernel
theorem dZ_traveller_54 : decode bZ_traveller 54 = .ok (.getfield 28, 3) := by decide +kernel
theorem dZ_traveller_57 : decode bZ_traveller 57 = .ok (.iconst 4, 1) := by decide +kernel
theorem dZ_traveller_58 : decode bZ_traveller 58 = .ok (.iaload, 1) := by decide +kernel
theorem dZ_traveller_59 : decode bZ_traveller 59 = .ok (.iload_n 1, 1) := by decide +kernel
theorem dZ_traveller_60 : decode bZ_traveller 60 = .ok (.ishr, 1) := by decide +kernel
theorem dZ_traveller_61 : decode bZ_traveller 61 = .ok (.iconst 1, 1) := by decide +kernel
theorem dZ_traveller_62 : decode bZ_traveller 62 = .ok (.iand, 1) := by decide +kernel
theorem dZ_traveller_63 : decode bZ_traveller 63 = .ok (.ireturn, 1) := by decide +kernel
theorem dZ_isTraveller_0 : decode bZ_isTraveller 0 = .ok (.iload_n 1, 1) := by decide +kernel
theorem dZ_isTraveller_1 : decode bZ_isTraveller 1 = .ok (.iconst 0, 1) := by decide +kernel
theorem dZ_isTraveller_2 : decode bZ_isTraveller 2 = .ok (.aload_n 0, 1) := by decide +kernel
theorem dZ_isTraveller_3 : decode bZ_isTraveller 3 = .ok (.getfield 13, 3) := by decide +kernel
theorem dZ_isTraveller_6 : decode bZ_isTraveller 6 = .ok (.iconst 1, 1) := by decide +kernel
theorem dZ_isTraveller_7 : decode bZ_isTraveller 7 = .ok (.iaload, 1) := by decide +kernel
theorem dZ_isTraveller_8 : decode bZ_isTraveller 8 = .ok (.iconst 1, 1) := by decide +kernel
theorem dZ_isTraveller_9 : decode bZ_isTraveller 9 = .ok (.isub, 1) := by decide +kernel
theorem dZ_isTraveller_10 : decode bZ_isTraveller 10 = .ok (.invokestatic 72, 3) := by decide +kernel
theorem dZ_isTraveller_13 : decode bZ_isTraveller 13 = .ok (.ireturn, 1) := by decide +kernel
theorem dZ_wear_0 : decode bZ_wear 0 = .ok (.aload_n 0, 1) := by decide +kernel
theorem dZ_wear_1 : decode bZ_wear 1 = .ok (.iconst 0, 1) := by decide +kernel
theorem dZ_wear_2 : decode bZ_wear 2 = .ok (.putfield 68, 3) := by decide +kernel
theorem dZ_wear_5 : decode bZ_wear 5 = .ok (.iload_n 1, 1) := by decide +kernel
theorem dZ_wear_6 : decode bZ_wear 6 = .ok (.iconst 0, 1) := by decide +kernel
theorem dZ_wear_7 : decode bZ_wear 7 = .ok (.iconst 1, 1) := by decide +kernel
theorem dZ_wear_8 : decode bZ_wear 8 = .ok (.invokestatic 72, 3) := by decide +kernel
theorem dZ_wear_11 : decode bZ_wear 11 = .ok (.ifCond .eq 34, 3) := by decide +kernel
theorem dZ_wear_14 : decode bZ_wear 14 = .ok (.iload_n 2, 1) := by decide +kernel
theorem dZ_wear_15 : decode bZ_wear 15 = .ok (.iconst 0, 1) := by decide +kernel
theorem dZ_wear_16 : decode bZ_wear 16 = .ok (.aload_n 0, 1) := by decide +kernel
theorem dZ_wear_17 : decode bZ_wear 17 = .ok (.invokevirtual 146, 3) := by decide +kernel
theorem dZ_wear_20 : decode bZ_wear 20 = .ok (.iconst 1, 1) := by decide +kernel
theorem dZ_wear_21 : decode bZ_wear 21 = .ok (.isub, 1) := by decide +kernel
theorem dZ_wear_22 : decode bZ_wear 22 = .ok (.invokestatic 72, 3) := by decide +kernel
theorem dZ_wear_25 : decode bZ_wear 25 = .ok (.ifCond .eq 20, 3) := by decide +kernel
theorem dZ_wear_28 : decode bZ_wear 28 = .ok (.aload_n 0, 1) := by decide +kernel
theorem dZ_wear_29 : decode bZ_wear 29 = .ok (.getfield 28, 3) := by decide +kernel
theorem dZ_wear_32 : decode bZ_wear 32 = .ok (.bipush 12, 2) := by decide +kernel
theorem dZ_wear_34 : decode bZ_wear 34 = .ok (.bipush 100, 2) := by decide +kernel
theorem dZ_wear_36 : decode bZ_wear 36 = .ok (.iload_n 1, 1) := by decide +kernel
theorem dZ_wear_37 : decode bZ_wear 37 = .ok (.imul, 1) := by decide +kernel
theorem dZ_wear_38 : decode bZ_wear 38 = .ok (.iadd, 1) := by decide +kernel
theorem dZ_wear_39 : decode bZ_wear 39 = .ok (.iload_n 2, 1) := by decide +kernel
theorem dZ_wear_40 : decode bZ_wear 40 = .ok (.iadd, 1) := by decide +kernel
theorem dZ_wear_41 : decode bZ_wear 41 = .ok (.iaload, 1) := by decide +kernel
theorem dZ_wear_42 : decode bZ_wear 42 = .ok (.goto 4, 3) := by decide +kernel
theorem dZ_wear_45 : decode bZ_wear 45 = .ok (.iconst (-1), 1) := by decide +kernel
theorem dZ_wear_46 : decode bZ_wear 46 = .ok (.ireturn, 1) := by decide +kernel
theorem dZ_top_0 : decode bZ_top 0 = .ok (.aload_n 0, 1) := by decide +kernel
theorem dZ_top_1 : decode bZ_top 1 = .ok (.aload_n 0, 1) := by decide +kernel
theorem dZ_top_2 : decode bZ_top 2 = .ok (.getfield 13, 3) := by decide +kernel
theorem dZ_top_5 : decode bZ_top 5 = .ok (.iconst 0, 1) := by decide +kernel
theorem dZ_top_6 : decode bZ_top 6 = .ok (.iaload, 1) := by decide +kernel
theorem dZ_top_7 : decode bZ_top 7 = .ok (.invokevirtual 136, 3) := by decide +kernel
theorem dZ_top_10 : decode bZ_top 10 = .ok (.ireturn, 1) := by decide +kernel
theorem dZ_thing_0 : decode bZ_thing 0 = .ok (.aload_n 0, 1) := by decide +kernel
theorem dZ_thing_1 : decode bZ_thing 1 = .ok (.iconst 0, 1) := by decide +kernel
theorem dZ_thing_2 : decode bZ_thing 2 = .ok (.putfield 68, 3) := by decide +kernel
theorem dZ_thing_5 : decode bZ_thing 5 = .ok (.iload_n 1, 1) := by decide +kernel
theorem dZ_thing_6 : decode bZ_thing 6 = .ok (.iconst 0, 1) := by decide +kernel
theorem dZ_thing_7 : decode bZ_thing 7 = .ok (.iconst 5, 1) := by decide +kernel
theorem dZ_thing_8 : decode bZ_thing 8 = .ok (.invokestatic 72, 3) := by decide +kernel
theorem dZ_thing_11 : decode bZ_thing 11 = .ok (.ifCond .ne 5, 3) := by decide +kernel
theorem dZ_thing_14 : decode bZ_thing 14 = .ok (.iconst (-1), 1) := by decide +kernel
theorem dZ_thing_15 : decode bZ_thing 15 = .ok (.ireturn, 1) := by decide +kernel
theorem dZ_thing_16 : decode bZ_thing 16 = .ok (.iload_n 1, 1) := by decide +kernel
theorem dZ_thing_17 : decode bZ_thing 17 = .ok (.aload_n 0, 1) := by decide +kernel
theorem dZ_thing_18 : decode bZ_thing 18 = .ok (.getfield 28, 3) := by decide +kernel
theorem dZ_thing_21 : decode bZ_thing 21 = .ok (.iconst 5, 1) := by decide +kernel
theorem dZ_thing_22 : decode bZ_thing 22 = .ok (.iaload, 1) := by decide +kernel
theorem dZ_thing_23 : decode bZ_thing 23 = .ok (.if_icmp .ge 15, 3) := by decide +kernel
theorem dZ_thing_26 : decode bZ_thing 26 = .ok (.aload_n 0, 1) := by decide +kernel
theorem dZ_thing_27 : decode bZ_thing 27 = .ok (.getfield 28, 3) := by decide +kernel
theorem dZ_thing_30 : decode bZ_thing 30 = .ok (.bipush 6, 2) := by decide +kernel
theorem dZ_thing_32 : decode bZ_thing 32 = .ok (.iload_n 1, 1) := by decide +kernel
theorem dZ_thing_33 : decode bZ_thing 33 = .ok (.iadd, 1) := by decide +kernel
theorem dZ_thing_34 : decode bZ_thing 34 = .ok (.iaload, 1) := by decide +kernel
theorem dZ_thing_35 : decode bZ_thing 35 = .ok (.goto 5, 3) := by decide +kernel
theorem dZ_thing_38 : decode bZ_thing 38 = .ok (.bipush (-9), 2) := by decide +kernel
theorem dZ_thing_40 : decode bZ_thing 40 = .ok (.ireturn, 1) := by decide +kernel
theorem dZ_now_0 : decode bZ_now 0 = .ok (.aload_n 0, 1) := by decide +kernel
theorem dZ_now_1 : decode bZ_now 1 = .ok (.iconst 0, 1) := by decide +kernel
theorem dZ_now_2 : decode bZ_now 2 = .ok (.putfield 68, 3) := by decide +kernel
theorem dZ_now_5 : decode bZ_now 5 = .ok (.iload_n 1, 1) := by decide +kernel
theorem dZ_now_6 : decode bZ_now 6 = .ok (.iconst 0, 1) := by decide +kernel
theorem dZ_now_7 : decode bZ_now 7 = .ok (.bipush 6, 2) := by decide +kernel
theorem dZ_now_9 : decode bZ_now 9 = .ok (.invokestatic 72, 3) := by decide +kernel
theorem dZ_now_12 : decode bZ_now 12 = .ok (.ifCond .ne 5, 3) := by decide +kernel
theorem dZ_now_15 : decode bZ_now 15 = .ok (.iconst (-1), 1) := by decide +kernel
theorem dZ_now_16 : decode bZ_now 16 = .ok (.ireturn, 1) := by decide +kernel
theorem dZ_now_17 : decode bZ_now 17 = .ok (.iload_n 1, 1) := by decide +kernel
theorem dZ_now_18 : decode bZ_now 18 = .ok (.iconst 4, 1) := by decide +kernel
theorem dZ_now_19 : decode bZ_now 19 = .ok (.if_icmp .ge 50, 3) := by decide +kernel
theorem dZ_now_22 : decode bZ_now 22 = .ok (.iload_n 1, 1) := by decide +kernel
theorem dZ_now_23 : decode bZ_now 23 = .ok (.ifCond .ne 10, 3) := by decide +kernel
theorem dZ_now_26 : decode bZ_now 26 = .ok (.aload_n 0, 1) := by decide +kernel
theorem dZ_now_27 : decode bZ_now 27 = .ok (.invokevirtual 146, 3) := by decide +kernel
theorem dZ_now_30 : decode bZ_now 30 = .ok (.goto 38, 3) := by decide +kernel
theorem dZ_now_33 : decode bZ_now 33 = .ok (.iload_n 1, 1) := by decide +kernel
theorem dZ_now_34 : decode bZ_now 34 = .ok (.iconst 1, 1) := by decide +kernel
theorem dZ_now_35 : decode bZ_now 35 = .ok (.if_icmp .ne 12, 3) := by decide +kernel
theorem dZ_now_38 : decode bZ_now 38 = .ok (.aload_n 0, 1) := by decide +kernel
theorem dZ_now_39 : decode bZ_now 39 = .ok (.getfield 28, 3) := by decide +kernel
theorem dZ_now_42 : decode bZ_now 42 = .ok (.iconst 5, 1) := by decide +kernel
theorem dZ_now_43 : decode bZ_now 43 = .ok (.iaload, 1) := by decide +kernel
theorem dZ_now_44 : decode bZ_now 44 = .ok (.goto 24, 3) := by decide +kernel
theorem dZ_now_47 : decode bZ_now 47 = .ok (.iload_n 1, 1) := by decide +kernel
theorem dZ_now_48 : decode bZ_now 48 = .ok (.iconst 2, 1) := by decide +kernel
theorem dZ_now_49 : decode bZ_now 49 = .ok (.if_icmp .ne 15, 3) := by decide +kernel
theorem dZ_now_52 : decode bZ_now 52 = .ok (.aload_n 0, 1) := by decide +kernel
theorem dZ_now_53 : decode bZ_now 53 = .ok (.getfield 28, 3) := by decide +kernel
theorem dZ_now_56 : decode bZ_now 56 = .ok (.iconst 4, 1) := by decide +kernel
theorem dZ_now_57 : decode bZ_now 57 = .ok (.iaload, 1) := by decide +kernel
theorem dZ_now_58 : decode bZ_now 58 = .ok (.invokestatic 153, 3) := by decide +kernel
theorem dZ_now_61 : decode bZ_now 61 = .ok (.goto 7, 3) := by decide +kernel
theorem dZ_now_64 : decode bZ_now 64 = .ok (.aload_n 0, 1) := by decide +kernel
theorem dZ_now_65 : decode bZ_now 65 = .ok (.invokevirtual 156, 3) := by decide +kernel
theorem dZ_now_68 : decode bZ_now 68 = .ok (.ireturn, 1) := by decide +kernel
theorem dZ_now_69 : decode bZ_now 69 = .ok (.iload_n 1, 1) := by decide +kernel
theorem dZ_now_70 : decode bZ_now 70 = .ok (.iconst 4, 1) := by decide +kernel
theorem dZ_now_71 : decode bZ_now 71 = .ok (.if_icmp .ne 10, 3) := by decide +kernel
theorem dZ_now_74 : decode bZ_now 74 = .ok (.aload_n 0, 1) := by decide +kernel
theorem dZ_now_75 : decode bZ_now 75 = .ok (.invokevirtual 159, 3) := by decide +kernel
theorem dZ_now_78 : decode bZ_now 78 = .ok (.goto 25, 3) := by decide +kernel
theorem dZ_now_81 : decode bZ_now 81 = .ok (.iload_n 1, 1) := by decide +kernel
theorem dZ_now_82 : decode bZ_now 82 = .ok (.iconst 5, 1) := by decide +kernel
theorem dZ_now_83 : decode bZ_now 83 = .ok (.if_icmp .ne 16, 3) := by decide +kernel
theorem dZ_now_86 : decode bZ_now 86 = .ok (.aload_n 0, 1) := by decide +kernel
theorem dZ_now_87 : decode bZ_now 87 = .ok (.aload_n 0, 1) := by decide +kernel
theorem dZ_now_88 : decode bZ_now 88 = .ok (.getfield 13, 3) := by decide +kernel
theorem dZ_now_91 : decode bZ_now 91 = .ok (.iconst 3, 1) := by decide +kernel
theorem dZ_now_92 : decode bZ_now 92 = .ok (.iaload, 1) := by decide +kernel
theorem dZ_now_93 : decode bZ_now 93 = .ok (.invokevirtual 162, 3) := by decide +kernel
theorem dZ_now_96 : decode bZ_now 96 = .ok (.goto 7, 3) := by decide +kernel
theorem dZ_now_99 : decode bZ_now 99 = .ok (.aload_n 0, 1) := by decide +kernel
theorem dZ_now_100 : decode bZ_now 100 = .ok (.getfield 133, 3) := by decide +kernel
theorem dZ_now_103 : decode bZ_now 103 = .ok (.ireturn, 1) := by decide +kernel
theorem dZ_ones_0 : decode bZ_ones 0 = .ok (.iconst 0, 1) := by decide +kernel
theorem dZ_ones_1 : decode bZ_ones 1 = .ok (.istore_n 1, 1) := by decide +kernel
theorem dZ_ones_2 : decode bZ_ones 2 = .ok (.iconst 0, 1) := by decide +kernel
theorem dZ_ones_3 : decode bZ_ones 3 = .ok (.istore_n 2, 1) := by decide +kernel
theorem dZ_ones_4 : decode bZ_ones 4 = .ok (.iload_n 2, 1) := by decide +kernel
theorem dZ_ones_5 : decode bZ_ones 5 = .ok (.bipush 6, 2) := by decide +kernel
theorem dZ_ones_7 : decode bZ_ones 7 = .ok (.if_icmp .ge 17, 3) := by decide +kernel
theorem dZ_ones_10 : decode bZ_ones 10 = .ok (.iload_n 1, 1) := by decide +kernel
theorem dZ_ones_11 : decode bZ_ones 11 = .ok (.iload_n 0, 1) := by decide +kernel
theorem dZ_ones_12 : decode bZ_ones 12 = .ok (.iload_n 2, 1) := by decide +kernel
theorem dZ_ones_13 : decode bZ_ones 13 = .ok (.ishr, 1) := by decide +kernel
theorem dZ_ones_14 : decode bZ_ones 14 = .ok (.iconst 1, 1) := by decide +kernel
theorem dZ_ones_15 : decode bZ_ones 15 = .ok (.iand, 1) := by decide +kernel
theorem dZ_ones_16 : decode bZ_ones 16 = .ok (.iadd, 1) := by decide +kernel
theorem dZ_ones_17 : decode bZ_ones 17 = .ok (.istore_n 1, 1) := by decide +kernel
theorem dZ_ones_18 : decode bZ_ones 18 = .ok (.iinc 2 1, 3) := by decide +kernel
theorem dZ_ones_21 : decode bZ_ones 21 = .ok (.goto (-17), 3) := by decide +kernel
theorem dZ_ones_24 : decode bZ_ones 24 = .ok (.iload_n 1, 1) := by decide +kernel
theorem dZ_ones_25 : decode bZ_ones 25 = .ok (.ireturn, 1) := by decide +kernel
theorem dZ_allWear_0 : decode bZ_allWear 0 = .ok (.iconst 0, 1) := by decide +kernel
theorem dZ_allWear_1 : decode bZ_allWear 1 = .ok (.istore_n 1, 1) := by decide +kernel
theorem dZ_allWear_2 : decode bZ_allWear 2 = .ok (.bipush 12, 2) := by decide +kernel
theorem dZ_allWear_4 : decode bZ_allWear 4 = .ok (.istore_n 2, 1) := by decide +kernel
theorem dZ_allWear_5 : decode bZ_allWear 5 = .ok (.iload_n 2, 1) := by decide +kernel
theorem dZ_allWear_6 : decode bZ_allWear 6 = .ok (.sipush 212, 3) := by decide +kernel
theorem dZ_allWear_9 : decode bZ_allWear 9 = .ok (.if_icmp .ge 18, 3) := by decide +kernel
theorem dZ_allWear_12 : decode bZ_allWear 12 = .ok (.iload_n 1, 1) := by decide +kernel
theorem dZ_allWear_13 : decode bZ_allWear 13 = .ok (.aload_n 0, 1) := by decide +kernel
theorem dZ_allWear_14 : decode bZ_allWear 14 = .ok (.getfield 28, 3) := by decide +kernel
theorem dZ_allWear_17 : decode bZ_allWear 17 = .ok (.iload_n 2, 1) := by decide +kernel
theorem dZ_allWear_18 : decode bZ_allWear 18 = .ok (.iaload, 1) := by decide +kernel
theorem dZ_allWear_19 : decode bZ_allWear 19 = .ok (.iadd, 1) := by decide +kernel
theorem dZ_allWear_20 : decode bZ_allWear 20 = .ok (.istore_n 1, 1) := by decide +kernel
theorem dZ_allWear_21 : decode bZ_allWear 21 = .ok (.iinc 2 1, 3) := by decide +kernel
theorem dZ_allWear_24 : decode bZ_allWear 24 = .ok (.goto (-19), 3) := by decide +kernel
theorem dZ_allWear_27 : decode bZ_allWear 27 = .ok (.iload_n 1, 1) := by decide +kernel
theorem dZ_allWear_28 : decode bZ_allWear 28 = .ok (.ireturn, 1) := by decide +kernel
theorem dZ_steepest_0 : decode bZ_steepest 0 = .ok (.bipush (-9), 2) := by decide +kernel
theorem dZ_steepest_2 : decode bZ_steepest 2 = .ok (.istore_n 1, 1) := by decide +kernel
theorem dZ_steepest_3 : decode bZ_steepest 3 = .ok (.iconst 0, 1) := by decide +kernel
theorem dZ_steepest_4 : decode bZ_steepest 4 = .ok (.istore_n 2, 1) := by decide +kernel
theorem dZ_steepest_5 : decode bZ_steepest 5 = .ok (.iload_n 2, 1) := by decide +kernel
theorem dZ_steepest_6 : decode bZ_steepest 6 = .ok (.aload_n 0, 1) := by decide +kernel
theorem dZ_steepest_7 : decode bZ_steepest 7 = .ok (.invokevirtual 146, 3) := by decide +kernel
theorem dZ_steepest_10 : decode bZ_steepest 10 = .ok (.if_icmp .ge 34, 3) := by decide +kernel
theorem dZ_steepest_13 : decode bZ_steepest 13 = .ok (.iload_n 1, 1) := by decide +kernel
theorem dZ_steepest_14 : decode bZ_steepest 14 = .ok (.bipush (-9), 2) := by decide +kernel
theorem dZ_steepest_16 : decode bZ_steepest 16 = .ok (.if_icmp .eq 16, 3) := by decide +kernel
theorem dZ_steepest_19 : decode bZ_steepest 19 = .ok (.aload_n 0, 1) := by decide +kernel
theorem dZ_steepest_20 : decode bZ_steepest 20 = .ok (.iload_n 2, 1) := by decide +kernel
theorem dZ_steepest_21 : decode bZ_steepest 21 = .ok (.invokevirtual 150, 3) := by decide +kernel
theorem dZ_steepest_24 : decode bZ_steepest 24 = .ok (.aload_n 0, 1) := by decide +kernel
theorem dZ_steepest_25 : decode bZ_steepest 25 = .ok (.iload_n 1, 1) := by decide +kernel
theorem dZ_steepest_26 : decode bZ_steepest 26 = .ok (.invokevirtual 150, 3) := by decide +kernel
theorem dZ_steepest_29 : decode bZ_steepest 29 = .ok (.if_icmp .le 7, 3) := by decide +kernel
theorem dZ_steepest_32 : decode bZ_steepest 32 = .ok (.iload_n 2, 1) := by decide +kernel
theorem dZ_steepest_33 : decode bZ_steepest 33 = .ok (.goto 4, 3) := by decide +kernel
theorem dZ_steepest_36 : decode bZ_steepest 36 = .ok (.iload_n 1, 1) := by decide +kernel
theorem dZ_steepest_37 : decode bZ_steepest 37 = .ok (.istore_n 1, 1) := by decide +kernel
theorem dZ_steepest_38 : decode bZ_steepest 38 = .ok (.iinc 2 1, 3) := by decide +kernel
theorem dZ_steepest_41 : decode bZ_steepest 41 = .ok (.goto (-36), 3) := by decide +kernel
theorem dZ_steepest_44 : decode bZ_steepest 44 = .ok (.iload_n 1, 1) := by decide +kernel
theorem dZ_steepest_45 : decode bZ_steepest 45 = .ok (.ireturn, 1) := by decide +kernel
theorem dZ_heightAt_0 : decode bZ_heightAt 0 = .ok (.iconst 0, 1) := by decide +kernel
theorem dZ_heightAt_1 : decode bZ_heightAt 1 = .ok (.istore_n 2, 1) := by decide +kernel
theorem dZ_heightAt_2 : decode bZ_heightAt 2 = .ok (.iload_n 1, 1) := by decide +kernel
theorem dZ_heightAt_3 : decode bZ_heightAt 3 = .ok (.istore_n 3, 1) := by decide +kernel
theorem dZ_heightAt_4 : decode bZ_heightAt 4 = .ok (.iload_n 3, 1) := by decide +kernel
theorem dZ_heightAt_5 : decode bZ_heightAt 5 = .ok (.aload_n 0, 1) := by decide +kernel
theorem dZ_heightAt_6 : decode bZ_heightAt 6 = .ok (.getfield 16, 3) := by decide +kernel
theorem dZ_heightAt_9 : decode bZ_heightAt 9 = .ok (.iload_n 2, 1) := by decide +kernel
theorem dZ_heightAt_10 : decode bZ_heightAt 10 = .ok (.iaload, 1) := by decide +kernel
theorem dZ_heightAt_11 : decode bZ_heightAt 11 = .ok (.if_icmp .lt 18, 3) := by decide +kernel
theorem dZ_heightAt_14 : decode bZ_heightAt 14 = .ok (.iload_n 3, 1) := by decide +kernel
theorem dZ_heightAt_15 : decode bZ_heightAt 15 = .ok (.aload_n 0, 1) := by decide +kernel
theorem dZ_heightAt_16 : decode bZ_heightAt 16 = .ok (.getfield 16, 3) := by decide +kernel
theorem dZ_heightAt_19 : decode bZ_heightAt 19 = .ok (.iload_n 2, 1) := by decide +kernel
theorem dZ_heightAt_20 : decode bZ_heightAt 20 = .ok (.iaload, 1) := by decide +kernel
theorem dZ_heightAt_21 : decode bZ_heightAt 21 = .ok (.isub, 1) := by decide +kernel
theorem dZ_heightAt_22 : decode bZ_heightAt 22 = .ok (.istore_n 3, 1) := by decide +kernel
theorem dZ_heightAt_23 : decode bZ_heightAt 23 = .ok (.iinc 2 1, 3) := by decide +kernel
theorem dZ_heightAt_26 : decode bZ_heightAt 26 = .ok (.goto (-22), 3) := by decide +kernel
theorem dZ_heightAt_29 : decode bZ_heightAt 29 = .ok (.aload_n 0, 1) := by decide +kernel
theorem dZ_heightAt_30 : decode bZ_heightAt 30 = .ok (.getfield 19, 3) := by decide +kernel
theorem dZ_heightAt_33 : decode bZ_heightAt 33 = .ok (.iload_n 2, 1) := by decide +kernel
theorem dZ_heightAt_34 : decode bZ_heightAt 34 = .ok (.iaload, 1) := by decide +kernel
theorem dZ_heightAt_35 : decode bZ_heightAt 35 = .ok (.iload_n 3, 1) := by decide +kernel
theorem dZ_heightAt_36 : decode bZ_heightAt 36 = .ok (.aload_n 0, 1) := by decide +kernel
theorem dZ_heightAt_37 : decode bZ_heightAt 37 = .ok (.getfield 22, 3) := by decide +kernel
theorem dZ_heightAt_40 : decode bZ_heightAt 40 = .ok (.iload_n 2, 1) := by decide +kernel
theorem dZ_heightAt_41 : decode bZ_heightAt 41 = .ok (.iaload, 1) := by decide +kernel
theorem dZ_heightAt_42 : decode bZ_heightAt 42 = .ok (.imul, 1) := by decide +kernel
theorem dZ_heightAt_43 : decode bZ_heightAt 43 = .ok (.iadd, 1) := by decide +kernel
theorem dZ_heightAt_44 : decode bZ_heightAt 44 = .ok (.istore 4, 2) := by decide +kernel
theorem dZ_heightAt_46 : decode bZ_heightAt 46 = .ok (.iload 4, 2) := by decide +kernel
theorem dZ_heightAt_48 : decode bZ_heightAt 48 = .ok (.iconst 1, 1) := by decide +kernel
theorem dZ_heightAt_49 : decode bZ_heightAt 49 = .ok (.if_icmp .ge 7, 3) := by decide +kernel
theorem dZ_heightAt_52 : decode bZ_heightAt 52 = .ok (.iconst 1, 1) := by decide +kernel
theorem dZ_heightAt_53 : decode bZ_heightAt 53 = .ok (.goto 5, 3) := by decide +kernel
theorem dZ_heightAt_56 : decode bZ_heightAt 56 = .ok (.iload 4, 2) := by decide +kernel
theorem dZ_heightAt_58 : decode bZ_heightAt 58 = .ok (.ireturn, 1) := by decide +kernel
theorem dZ_daysBy_0 : decode bZ_daysBy 0 = .ok (.iconst 0, 1) := by decide +kernel
theorem dZ_daysBy_1 : decode bZ_daysBy 1 = .ok (.istore_n 2, 1) := by decide +kernel
theorem dZ_daysBy_2 : decode bZ_daysBy 2 = .ok (.iconst 0, 1) := by decide +kernel
theorem dZ_daysBy_3 : decode bZ_daysBy 3 = .ok (.istore_n 3, 1) := by decide +kernel
theorem dZ_daysBy_4 : decode bZ_daysBy 4 = .ok (.iload_n 3, 1) := by decide +kernel
theorem dZ_daysBy_5 : decode bZ_daysBy 5 = .ok (.aload_n 0, 1) := by decide +kernel
theorem dZ_daysBy_6 : decode bZ_daysBy 6 = .ok (.getfield 13, 3) := by decide +kernel
theorem dZ_daysBy_9 : decode bZ_daysBy 9 = .ok (.iconst 0, 1) := by decide +kernel
theorem dZ_daysBy_10 : decode bZ_daysBy 10 = .ok (.iaload, 1) := by decide +kernel
theorem dZ_daysBy_11 : decode bZ_daysBy 11 = .ok (.if_icmp .ge 34, 3) := by decide +kernel
theorem dZ_daysBy_14 : decode bZ_daysBy 14 = .ok (.iload_n 2, 1) := by decide +kernel
theorem dZ_daysBy_15 : decode bZ_daysBy 15 = .ok (.aload_n 0, 1) := by decide +kernel
theorem dZ_daysBy_16 : decode bZ_daysBy 16 = .ok (.getfield 16, 3) := by decide +kernel
theorem dZ_daysBy_19 : decode bZ_daysBy 19 = .ok (.iload_n 3, 1) := by decide +kernel
theorem dZ_daysBy_20 : decode bZ_daysBy 20 = .ok (.iaload, 1) := by decide +kernel
theorem dZ_daysBy_21 : decode bZ_daysBy 21 = .ok (.aload_n 0, 1) := by decide +kernel
theorem dZ_daysBy_22 : decode bZ_daysBy 22 = .ok (.getfield 13, 3) := by decide +kernel
theorem dZ_daysBy_25 : decode bZ_daysBy 25 = .ok (.iconst 2, 1) := by decide +kernel
theorem dZ_daysBy_26 : decode bZ_daysBy 26 = .ok (.iaload, 1) := by decide +kernel
theorem dZ_daysBy_27 : decode bZ_daysBy 27 = .ok (.iadd, 1) := by decide +kernel
theorem dZ_daysBy_28 : decode bZ_daysBy 28 = .ok (.iconst 1, 1) := by decide +kernel
theorem dZ_daysBy_29 : decode bZ_daysBy 29 = .ok (.isub, 1) := by decide +kernel
theorem dZ_daysBy_30 : decode bZ_daysBy 30 = .ok (.aload_n 0, 1) := by decide +kernel
theorem dZ_daysBy_31 : decode bZ_daysBy 31 = .ok (.getfield 13, 3) := by decide +kernel
theorem dZ_daysBy_34 : decode bZ_daysBy 34 = .ok (.iconst 2, 1) := by decide +kernel
theorem dZ_daysBy_35 : decode bZ_daysBy 35 = .ok (.iaload, 1) := by decide +kernel
theorem dZ_daysBy_36 : decode bZ_daysBy 36 = .ok (.idiv, 1) := by decide +kernel
theorem dZ_daysBy_37 : decode bZ_daysBy 37 = .ok (.iadd, 1) := by decide +kernel
theorem dZ_daysBy_38 : decode bZ_daysBy 38 = .ok (.istore_n 2, 1) := by decide +kernel
theorem dZ_daysBy_39 : decode bZ_daysBy 39 = .ok (.iinc 3 1, 3) := by decide +kernel
theorem dZ_daysBy_42 : decode bZ_daysBy 42 = .ok (.goto (-38), 3) := by decide +kernel
theorem dZ_daysBy_45 : decode bZ_daysBy 45 = .ok (.iload_n 2, 1) := by decide +kernel
theorem dZ_daysBy_46 : decode bZ_daysBy 46 = .ok (.iload_n 1, 1) := by decide +kernel
theorem dZ_daysBy_47 : decode bZ_daysBy 47 = .ok (.iadd, 1) := by decide +kernel
theorem dZ_daysBy_48 : decode bZ_daysBy 48 = .ok (.iconst 2, 1) := by decide +kernel
theorem dZ_daysBy_49 : decode bZ_daysBy 49 = .ok (.isub, 1) := by decide +kernel
theorem dZ_daysBy_50 : decode bZ_daysBy 50 = .ok (.iload_n 1, 1) := by decide +kernel
theorem dZ_daysBy_51 : decode bZ_daysBy 51 = .ok (.iconst 1, 1) := by decide +kernel
theorem dZ_daysBy_52 : decode bZ_daysBy 52 = .ok (.isub, 1) := by decide +kernel
theorem dZ_daysBy_53 : decode bZ_daysBy 53 = .ok (.idiv, 1) := by decide +kernel
theorem dZ_daysBy_54 : decode bZ_daysBy 54 = .ok (.ireturn, 1) := by decide +kernel
theorem dZ_goes_0 : decode bZ_goes 0 = .ok (.aload_n 0, 1) := by decide +kernel
theorem dZ_goes_1 : decode bZ_goes 1 = .ok (.iconst 0, 1) := by decide +kernel
theorem dZ_goes_2 : decode bZ_goes 2 = .ok (.putfield 68, 3) := by decide +kernel
theorem dZ_goes_5 : decode bZ_goes 5 = .ok (.aload_n 0, 1) := by decide +kernel
theorem dZ_goes_6 : decode bZ_goes 6 = .ok (.iload_n 1, 1) := by decide +kernel
theorem dZ_goes_7 : decode bZ_goes 7 = .ok (.invokevirtual 143, 3) := by decide +kernel
theorem dZ_goes_10 : decode bZ_goes 10 = .ok (.ifCond .eq 15, 3) := by decide +kernel
theorem dZ_goes_13 : decode bZ_goes 13 = .ok (.iload_n 2, 1) := by decide +kernel
theorem dZ_goes_14 : decode bZ_goes 14 = .ok (.iconst 0, 1) := by decide +kernel
theorem dZ_goes_15 : decode bZ_goes 15 = .ok (.aload_n 0, 1) := by decide +kernel
theorem dZ_goes_16 : decode bZ_goes 16 = .ok (.invokevirtual 146, 3) := by decide +kernel
theorem dZ_goes_19 : decode bZ_goes 19 = .ok (.invokestatic 72, 3) := by decide +kernel
theorem dZ_goes_22 : decode bZ_goes 22 = .ok (.ifCond .ne 5, 3) := by decide +kernel
theorem dZ_goes_25 : decode bZ_goes 25 = .ok (.iconst (-1), 1) := by decide +kernel
theorem dZ_goes_26 : decode bZ_goes 26 = .ok (.ireturn, 1) := by decide +kernel
theorem dZ_goes_27 : decode bZ_goes 27 = .ok (.aload_n 0, 1) := by decide +kernel
theorem dZ_goes_28 : decode bZ_goes 28 = .ok (.getfield 28, 3) := by decide +kernel
theorem dZ_goes_31 : decode bZ_goes 31 = .ok (.iconst 0, 1) := by decide +kernel
theorem dZ_goes_32 : decode bZ_goes 32 = .ok (.iload_n 1, 1) := by decide +kernel
theorem dZ_goes_33 : decode bZ_goes 33 = .ok (.iadd, 1) := by decide +kernel
theorem dZ_goes_34 : decode bZ_goes 34 = .ok (.iaload, 1) := by decide +kernel
theorem dZ_goes_35 : decode bZ_goes 35 = .ok (.istore_n 3, 1) := by decide +kernel
theorem dZ_goes_36 : decode bZ_goes 36 = .ok (.aload_n 0, 1) := by decide +kernel
theorem dZ_goes_37 : decode bZ_goes 37 = .ok (.iload_n 1, 1) := by decide +kernel
theorem dZ_goes_38 : decode bZ_goes 38 = .ok (.invokevirtual 165, 3) := by decide +kernel
theorem dZ_goes_41 : decode bZ_goes 41 = .ok (.ifCond .ne 18, 3) := by decide +kernel
theorem dZ_goes_44 : decode bZ_goes 44 = .ok (.iload_n 3, 1) := by decide +kernel
theorem dZ_goes_45 : decode bZ_goes 45 = .ok (.iload_n 2, 1) := by decide +kernel
theorem dZ_goes_46 : decode bZ_goes 46 = .ok (.if_icmp .eq 13, 3) := by decide +kernel
theorem dZ_goes_49 : decode bZ_goes 49 = .ok (.iload_n 2, 1) := by decide +kernel
theorem dZ_goes_50 : decode bZ_goes 50 = .ok (.aload_n 0, 1) := by decide +kernel
theorem dZ_goes_51 : decode bZ_goes 51 = .ok (.getfield 25, 3) := by decide +kernel
theorem dZ_goes_54 : decode bZ_goes 54 = .ok (.iload_n 1, 1) := by decide +kernel
theorem dZ_goes_55 : decode bZ_goes 55 = .ok (.iaload, 1) := by decide +kernel
theorem dZ_goes_56 : decode bZ_goes 56 = .ok (.if_icmp .le 6, 3) := by decide +kernel
theorem dZ_goes_59 : decode bZ_goes 59 = .ok (.bipush (-2), 2) := by decide +kernel
theorem dZ_goes_61 : decode bZ_goes 61 = .ok (.ireturn, 1) := by decide +kernel
theorem dZ_goes_62 : decode bZ_goes 62 = .ok (.aload_n 0, 1) := by decide +kernel
theorem dZ_goes_63 : decode bZ_goes 63 = .ok (.invokevirtual 168, 3) := by decide +kernel
theorem dZ_goes_66 : decode bZ_goes 66 = .ok (.iload_n 2, 1) := by decide +kernel
theorem dZ_goes_67 : decode bZ_goes 67 = .ok (.iload_n 3, 1) := by decide +kernel
theorem dZ_goes_68 : decode bZ_goes 68 = .ok (.if_icmp .le 7, 3) := by decide +kernel
theorem dZ_goes_71 : decode bZ_goes 71 = .ok (.iconst 0, 1) := by decide +kernel
theorem dZ_goes_72 : decode bZ_goes 72 = .ok (.goto 4, 3) := by decide +kernel
theorem dZ_goes_75 : decode bZ_goes 75 = .ok (.iconst 1, 1) := by decide +kernel
theorem dZ_goes_76 : decode bZ_goes 76 = .ok (.istore 4, 2) := by decide +kernel
theorem dZ_goes_78 : decode bZ_goes 78 = .ok (.iload 4, 2) := by decide +kernel
theorem dZ_goes_80 : decode bZ_goes 80 = .ok (.ifCond .ne 7, 3) := by decide +kernel
theorem dZ_goes_83 : decode bZ_goes 83 = .ok (.iload_n 3, 1) := by decide +kernel
theorem dZ_goes_84 : decode bZ_goes 84 = .ok (.goto 4, 3) := by decide +kernel
theorem dZ_goes_87 : decode bZ_goes 87 = .ok (.iload_n 2, 1) := by decide +kernel
theorem dZ_goes_88 : decode bZ_goes 88 = .ok (.istore 5, 2) := by decide +kernel
theorem dZ_goes_90 : decode bZ_goes 90 = .ok (.iload 4, 2) := by decide +kernel
theorem dZ_goes_92 : decode bZ_goes 92 = .ok (.ifCond .ne 7, 3) := by decide +kernel
theorem dZ_goes_95 : decode bZ_goes 95 = .ok (.iload_n 2, 1) := by decide +kernel
theorem dZ_goes_96 : decode bZ_goes 96 = .ok (.goto 4, 3) := by decide +kernel
theorem dZ_goes_99 : decode bZ_goes 99 = .ok (.iload_n 3, 1) := by decide +kernel
theorem dZ_goes_100 : decode bZ_goes 100 = .ok (.istore 6, 2) := by decide +kernel
theorem dZ_goes_102 : decode bZ_goes 102 = .ok (.iload 5, 2) := by decide +kernel
theorem dZ_goes_104 : decode bZ_goes 104 = .ok (.istore 7, 2) := by decide +kernel
theorem dZ_goes_106 : decode bZ_goes 106 = .ok (.iload 7, 2) := by decide +kernel
theorem dZ_goes_108 : decode bZ_goes 108 = .ok (.iload 6, 2) := by decide +kernel
theorem dZ_goes_110 : decode bZ_goes 110 = .ok (.if_icmp .ge 57, 3) := by decide +kernel
theorem dZ_goes_113 : decode bZ_goes 113 = .ok (.bipush 12, 2) := by decide +kernel
theorem dZ_goes_115 : decode bZ_goes 115 = .ok (.bipush 100, 2) := by decide +kernel
theorem dZ_goes_117 : decode bZ_goes 117 = .ok (.iload 4, 2) := by decide +kernel
theorem dZ_goes_119 : decode bZ_goes 119 = .ok (.imul, 1) := by decide +kernel
theorem dZ_goes_120 : decode bZ_goes 120 = .ok (.iadd, 1) := by decide +kernel
theorem dZ_goes_121 : decode bZ_goes 121 = .ok (.iload 7, 2) := by decide +kernel
theorem dZ_goes_123 : decode bZ_goes 123 = .ok (.iadd, 1) := by decide +kernel
theorem dZ_goes_124 : decode bZ_goes 124 = .ok (.istore 8, 2) := by decide +kernel
theorem dZ_goes_126 : decode bZ_goes 126 = .ok (.aload_n 0, 1) := by decide +kernel
theorem dZ_goes_127 : decode bZ_goes 127 = .ok (.getfield 28, 3) := by decide +kernel
theorem dZ_goes_130 : decode bZ_goes 130 = .ok (.iload 8, 2) := by decide +kernel
theorem dZ_goes_132 : decode bZ_goes 132 = .ok (.aload_n 0, 1) := by decide +kernel
theorem dZ_goes_133 : decode bZ_goes 133 = .ok (.getfield 28, 3) := by decide +kernel
theorem dZ_goes_136 : decode bZ_goes 136 = .ok (.iload 8, 2) := by decide +kernel
theorem dZ_goes_138 : decode bZ_goes 138 = .ok (.iaload, 1) := by decide +kernel
theorem dZ_goes_139 : decode bZ_goes 139 = .ok (.sipush 9999, 3) := by decide +kernel
theorem dZ_goes_142 : decode bZ_goes 142 = .ok (.if_icmp .ge 15, 3) := by decide +kernel
theorem dZ_goes_145 : decode bZ_goes 145 = .ok (.aload_n 0, 1) := by decide +kernel
theorem dZ_goes_146 : decode bZ_goes 146 = .ok (.getfield 28, 3) := by decide +kernel
theorem dZ_goes_149 : decode bZ_goes 149 = .ok (.iload 8, 2) := by decide +kernel
theorem dZ_goes_151 : decode bZ_goes 151 = .ok (.iaload, 1) := by decide +kernel
theorem dZ_goes_152 : decode bZ_goes 152 = .ok (.iconst 1, 1) := by decide +kernel
theorem dZ_goes_153 : decode bZ_goes 153 = .ok (.iadd, 1) := by decide +kernel
theorem dZ_goes_154 : decode bZ_goes 154 = .ok (.goto 6, 3) := by decide +kernel
theorem dZ_goes_157 : decode bZ_goes 157 = .ok (.sipush 9999, 3) := by decide +kernel
theorem dZ_goes_160 : decode bZ_goes 160 = .ok (.iastore, 1) := by decide +kernel
theorem dZ_goes_161 : decode bZ_goes 161 = .ok (.iinc 7 1, 3) := by decide +kernel
theorem dZ_goes_164 : decode bZ_goes 164 = .ok (.goto (-58), 3) := by decide +kernel
theorem dZ_goes_167 : decode bZ_goes 167 = .ok (.aload_n 0, 1) := by decide +kernel
theorem dZ_goes_168 : decode bZ_goes 168 = .ok (.getfield 28, 3) := by decide +kernel
theorem dZ_goes_171 : decode bZ_goes 171 = .ok (.iconst 0, 1) := by decide +kernel
theorem dZ_goes_172 : decode bZ_goes 172 = .ok (.iload_n 1, 1) := by decide +kernel
theorem dZ_goes_173 : decode bZ_goes 173 = .ok (.iadd, 1) := by decide +kernel
theorem dZ_goes_174 : decode bZ_goes 174 = .ok (.iload_n 2, 1) := by decide +kernel
theorem dZ_goes_175 : decode bZ_goes 175 = .ok (.iastore, 1) := by decide +kernel
theorem dZ_goes_176 : decode bZ_goes 176 = .ok (.iload 6, 2) := by decide +kernel
theorem dZ_goes_178 : decode bZ_goes 178 = .ok (.iload 5, 2) := by decide +kernel
theorem dZ_goes_180 : decode bZ_goes 180 = .ok (.isub, 1) := by decide +kernel
theorem dZ_goes_181 : decode bZ_goes 181 = .ok (.ireturn, 1) := by decide +kernel
theorem dZ_isStaying_0 : decode bZ_isStaying 0 = .ok (.aload_n 0, 1) := by decide +kernel
theorem dZ_isStaying_1 : decode bZ_isStaying 1 = .ok (.getfield 28, 3) := by decide +kernel
theorem dZ_isStaying_4 : decode bZ_isStaying 4 = .ok (.iconst 4, 1) := by decide +kernel
theorem dZ_isStaying_5 : decode bZ_isStaying 5 = .ok (.iaload, 1) := by decide +kernel
theorem dZ_isStaying_6 : decode bZ_isStaying 6 = .ok (.iload_n 1, 1) := by decide +kernel
theorem dZ_isStaying_7 : decode bZ_isStaying 7 = .ok (.ishr, 1) := by decide +kernel
theorem dZ_isStaying_8 : decode bZ_isStaying 8 = .ok (.iconst 1, 1) := by decide +kernel
theorem dZ_isStaying_9 : decode bZ_isStaying 9 = .ok (.iand, 1) := by decide +kernel
theorem dZ_isStaying_10 : decode bZ_isStaying 10 = .ok (.iconst 1, 1) := by decide +kernel
theorem dZ_isStaying_11 : decode bZ_isStaying 11 = .ok (.if_icmp .ne 7, 3) := by decide +kernel
theorem dZ_isStaying_14 : decode bZ_isStaying 14 = .ok (.iconst 1, 1) := by decide +kernel
theorem dZ_isStaying_15 : decode bZ_isStaying 15 = .ok (.goto 4, 3) := by decide +kernel
theorem dZ_isStaying_18 : decode bZ_isStaying 18 = .ok (.iconst 0, 1) := by decide +kernel
theorem dZ_isStaying_19 : decode bZ_isStaying 19 = .ok (.ireturn, 1) := by decide +kernel
theorem dZ_notes_0 : decode bZ_notes 0 = .ok (.aload_n 0, 1) := by decide +kernel
theorem dZ_notes_1 : decode bZ_notes 1 = .ok (.getfield 133, 3) := by decide +kernel
theorem dZ_notes_4 : decode bZ_notes 4 = .ok (.bipush 10, 2) := by decide +kernel
theorem dZ_notes_6 : decode bZ_notes 6 = .ok (.if_icmp .ne 40, 3) := by decide +kernel
theorem dZ_notes_9 : decode bZ_notes 9 = .ok (.iconst 0, 1) := by decide +kernel
theorem dZ_notes_10 : decode bZ_notes 10 = .ok (.istore_n 1, 1) := by decide +kernel
theorem dZ_notes_11 : decode bZ_notes 11 = .ok (.iload_n 1, 1) := by decide +kernel
theorem dZ_notes_12 : decode bZ_notes 12 = .ok (.sipush 1908, 3) := by decide +kernel
theorem dZ_notes_15 : decode bZ_notes 15 = .ok (.if_icmp .ge 25, 3) := by decide +kernel
theorem dZ_notes_18 : decode bZ_notes 18 = .ok (.aload_n 0, 1) := by decide +kernel
theorem dZ_notes_19 : decode bZ_notes 19 = .ok (.getfield 38, 3) := by decide +kernel
theorem dZ_notes_22 : decode bZ_notes 22 = .ok (.iload_n 1, 1) := by decide +kernel
theorem dZ_notes_23 : decode bZ_notes 23 = .ok (.aload_n 0, 1) := by decide +kernel
theorem dZ_notes_24 : decode bZ_notes 24 = .ok (.getfield 38, 3) := by decide +kernel
theorem dZ_notes_27 : decode bZ_notes 27 = .ok (.iload_n 1, 1) := by decide +kernel
theorem dZ_notes_28 : decode bZ_notes 28 = .ok (.sipush 212, 3) := by decide +kernel
theorem dZ_notes_31 : decode bZ_notes 31 = .ok (.iadd, 1) := by decide +kernel
theorem dZ_notes_32 : decode bZ_notes 32 = .ok (.iaload, 1) := by decide +kernel
theorem dZ_notes_33 : decode bZ_notes 33 = .ok (.iastore, 1) := by decide +kernel
theorem dZ_notes_34 : decode bZ_notes 34 = .ok (.iinc 1 1, 3) := by decide +kernel
theorem dZ_notes_37 : decode bZ_notes 37 = .ok (.goto (-26), 3) := by decide +kernel
theorem dZ_notes_40 : decode bZ_notes 40 = .ok (.aload_n 0, 1) := by decide +kernel
theorem dZ_notes_41 : decode bZ_notes 41 = .ok (.bipush 9, 2) := by decide +kernel
theorem dZ_notes_43 : decode bZ_notes 43 = .ok (.putfield 133, 3) := by decide +kernel
theorem dZ_notes_46 : decode bZ_notes 46 = .ok (.iconst 0, 1) := by decide +kernel
theorem dZ_notes_47 : decode bZ_notes 47 = .ok (.istore_n 1, 1) := by decide +kernel
theorem dZ_notes_48 : decode bZ_notes 48 = .ok (.iload_n 1, 1) := by decide +kernel
theorem dZ_notes_49 : decode bZ_notes 49 = .ok (.sipush 212, 3) := by decide +kernel
theorem dZ_notes_52 : decode bZ_notes 52 = .ok (.if_icmp .ge 30, 3) := by decide +kernel
theorem dZ_notes_55 : decode bZ_notes 55 = .ok (.aload_n 0, 1) := by decide +kernel
theorem dZ_notes_56 : decode bZ_notes 56 = .ok (.getfield 38, 3) := by decide +kernel
theorem dZ_notes_59 : decode bZ_notes 59 = .ok (.sipush 212, 3) := by decide +kernel
theorem dZ_notes_62 : decode bZ_notes 62 = .ok (.aload_n 0, 1) := by decide +kernel
theorem dZ_notes_63 : decode bZ_notes 63 = .ok (.getfield 133, 3) := by decide +kernel
theorem dZ_notes_66 : decode bZ_notes 66 = .ok (.imul, 1) := by decide +kernel
theorem dZ_notes_67 : decode bZ_notes 67 = .ok (.iload_n 1, 1) := by decide +kernel
theorem dZ_notes_68 : decode bZ_notes 68 = .ok (.iadd, 1) := by decide +kernel
theorem dZ_notes_69 : decode bZ_notes 69 = .ok (.aload_n 0, 1) := by decide +kernel
theorem dZ_notes_70 : decode bZ_notes 70 = .ok (.getfield 28, 3) := by decide +kernel
theorem dZ_notes_73 : decode bZ_notes 73 = .ok (.iload_n 1, 1) := by decide +kernel
theorem dZ_notes_74 : decode bZ_notes 74 = .ok (.iaload, 1) := by decide +kernel
theorem dZ_notes_75 : decode bZ_notes 75 = .ok (.iastore, 1) := by decide +kernel
theorem dZ_notes_76 : decode bZ_notes 76 = .ok (.iinc 1 1, 3) := by decide +kernel
theorem dZ_notes_79 : decode bZ_notes 79 = .ok (.goto (-31), 3) := by decide +kernel
theorem dZ_notes_82 : decode bZ_notes 82 = .ok (.aload_n 0, 1) := by decide +kernel
theorem dZ_notes_83 : decode bZ_notes 83 = .ok (.dup, 1) := by decide +kernel
theorem dZ_notes_84 : decode bZ_notes 84 = .ok (.getfield 133, 3) := by decide +kernel
theorem dZ_notes_87 : decode bZ_notes 87 = .ok (.iconst 1, 1) := by decide +kernel
theorem dZ_notes_88 : decode bZ_notes 88 = .ok (.iadd, 1) := by decide +kernel
theorem dZ_notes_89 : decode bZ_notes 89 = .ok (.putfield 133, 3) := by decide +kernel
theorem dZ_notes_92 : decode bZ_notes 92 = .ok (.return_, 1) := by decide +kernel
