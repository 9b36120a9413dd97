theorem dX9_init_0 : decode cX9_init 0 = .ok (.aload_n 0, 1) := by decide +kernel
theorem dX9_init_1 : decode cX9_init 1 = .ok (.invokespecial 1, 3) := by decide +kernel
theorem dX9_init_4 : decode cX9_init 4 = .ok (.aload_n 0, 1) := by decide +kernel
theorem dX9_init_5 : decode cX9_init 5 = .ok (.sipush 306, 3) := by decide +kernel
theorem dX9_init_8 : decode cX9_init 8 = .ok (.newarray .int, 2) := by decide +kernel
theorem dX9_init_10 : decode cX9_init 10 = .ok (.putfield 7, 3) := by decide +kernel
theorem dX9_init_13 : decode cX9_init 13 = .ok (.aload_n 0, 1) := by decide +kernel
theorem dX9_init_14 : decode cX9_init 14 = .ok (.sipush 306, 3) := by decide +kernel
theorem dX9_init_17 : decode cX9_init 17 = .ok (.newarray .int, 2) := by decide +kernel
theorem dX9_init_19 : decode cX9_init 19 = .ok (.putfield 13, 3) := by decide +kernel
theorem dX9_init_22 : decode cX9_init 22 = .ok (.aload_n 0, 1) := by decide +kernel
theorem dX9_init_23 : decode cX9_init 23 = .ok (.sipush 306, 3) := by decide +kernel
theorem dX9_init_26 : decode cX9_init 26 = .ok (.newarray .int, 2) := by decide +kernel
theorem dX9_init_28 : decode cX9_init 28 = .ok (.putfield 16, 3) := by decide +kernel
theorem dX9_init_31 : decode cX9_init 31 = .ok (.aload_n 0, 1) := by decide +kernel
theorem dX9_init_32 : decode cX9_init 32 = .ok (.sipush 2448, 3) := by decide +kernel
theorem dX9_init_35 : decode cX9_init 35 = .ok (.newarray .int, 2) := by decide +kernel
theorem dX9_init_37 : decode cX9_init 37 = .ok (.putfield 19, 3) := by decide +kernel
theorem dX9_init_40 : decode cX9_init 40 = .ok (.aload_n 0, 1) := by decide +kernel
theorem dX9_init_41 : decode cX9_init 41 = .ok (.sipush 612, 3) := by decide +kernel
theorem dX9_init_44 : decode cX9_init 44 = .ok (.newarray .int, 2) := by decide +kernel
theorem dX9_init_46 : decode cX9_init 46 = .ok (.putfield 22, 3) := by decide +kernel
theorem dX9_init_49 : decode cX9_init 49 = .ok (.aload_n 0, 1) := by decide +kernel
theorem dX9_init_50 : decode cX9_init 50 = .ok (.iconst 2, 1) := by decide +kernel
theorem dX9_init_51 : decode cX9_init 51 = .ok (.newarray .boolean, 2) := by decide +kernel
theorem dX9_init_53 : decode cX9_init 53 = .ok (.putfield 25, 3) := by decide +kernel
theorem dX9_init_56 : decode cX9_init 56 = .ok (.aload_n 0, 1) := by decide +kernel
theorem dX9_init_57 : decode cX9_init 57 = .ok (.sipush 600, 3) := by decide +kernel
theorem dX9_init_60 : decode cX9_init 60 = .ok (.newarray .int, 2) := by decide +kernel
theorem dX9_init_62 : decode cX9_init 62 = .ok (.putfield 29, 3) := by decide +kernel
theorem dX9_init_65 : decode cX9_init 65 = .ok (.aload_n 0, 1) := by decide +kernel
theorem dX9_init_66 : decode cX9_init 66 = .ok (.iconst (-1), 1) := by decide +kernel
theorem dX9_init_67 : decode cX9_init 67 = .ok (.putfield 32, 3) := by decide +kernel
theorem dX9_init_70 : decode cX9_init 70 = .ok (.aload_n 0, 1) := by decide +kernel
theorem dX9_init_71 : decode cX9_init 71 = .ok (.sipush 400, 3) := by decide +kernel
theorem dX9_init_74 : decode cX9_init 74 = .ok (.newarray .int, 2) := by decide +kernel
theorem dX9_init_76 : decode cX9_init 76 = .ok (.putfield 36, 3) := by decide +kernel
theorem dX9_init_79 : decode cX9_init 79 = .ok (.aload_n 0, 1) := by decide +kernel
theorem dX9_init_80 : decode cX9_init 80 = .ok (.getfield 7, 3) := by decide +kernel
theorem dX9_init_83 : decode cX9_init 83 = .ok (.iconst 1, 1) := by decide +kernel
theorem dX9_init_84 : decode cX9_init 84 = .ok (.iconst 2, 1) := by decide +kernel
theorem dX9_init_85 : decode cX9_init 85 = .ok (.iastore, 1) := by decide +kernel
theorem dX9_init_86 : decode cX9_init 86 = .ok (.aload_n 0, 1) := by decide +kernel
theorem dX9_init_87 : decode cX9_init 87 = .ok (.getfield 7, 3) := by decide +kernel
theorem dX9_init_90 : decode cX9_init 90 = .ok (.iconst 2, 1) := by decide +kernel
theorem dX9_init_91 : decode cX9_init 91 = .ok (.bipush 90, 2) := by decide +kernel
theorem dX9_init_93 : decode cX9_init 93 = .ok (.iastore, 1) := by decide +kernel
theorem dX9_init_94 : decode cX9_init 94 = .ok (.aload_n 0, 1) := by decide +kernel
theorem dX9_init_95 : decode cX9_init 95 = .ok (.getfield 7, 3) := by decide +kernel
theorem dX9_init_98 : decode cX9_init 98 = .ok (.sipush 1121, 3) := by decide +kernel
theorem dX9_init_101 : decode cX9_init 101 = .ok (.iconst 5, 1) := by decide +kernel
theorem dX9_init_102 : decode cX9_init 102 = .ok (.iconst 4, 1) := by decide +kernel
theorem dX9_init_103 : decode cX9_init 103 = .ok (.invokestatic 39, 3) := by decide +kernel
theorem dX9_init_106 : decode cX9_init 106 = .ok (.istore_n 1, 1) := by decide +kernel
theorem dX9_init_107 : decode cX9_init 107 = .ok (.aload_n 0, 1) := by decide +kernel
theorem dX9_init_108 : decode cX9_init 108 = .ok (.getfield 7, 3) := by decide +kernel
theorem dX9_init_111 : decode cX9_init 111 = .ok (.sipush 1865, 3) := by decide +kernel
theorem dX9_init_114 : decode cX9_init 114 = .ok (.bipush 8, 2) := by decide +kernel
theorem dX9_init_116 : decode cX9_init 116 = .ok (.iconst 0, 1) := by decide +kernel
theorem dX9_init_117 : decode cX9_init 117 = .ok (.invokestatic 39, 3) := by decide +kernel
theorem dX9_init_120 : decode cX9_init 120 = .ok (.istore_n 2, 1) := by decide +kernel
theorem dX9_init_121 : decode cX9_init 121 = .ok (.aload_n 0, 1) := by decide +kernel
theorem dX9_init_122 : decode cX9_init 122 = .ok (.getfield 7, 3) := by decide +kernel
theorem dX9_init_125 : decode cX9_init 125 = .ok (.ldc 43, 2) := by decide +kernel
theorem dX9_init_127 : decode cX9_init 127 = .ok (.iconst 3, 1) := by decide +kernel
theorem dX9_init_128 : decode cX9_init 128 = .ok (.iconst 0, 1) := by decide +kernel
theorem dX9_init_129 : decode cX9_init 129 = .ok (.invokestatic 39, 3) := by decide +kernel
theorem dX9_init_132 : decode cX9_init 132 = .ok (.pop, 1) := by decide +kernel
theorem dX9_init_133 : decode cX9_init 133 = .ok (.aload_n 0, 1) := by decide +kernel
theorem dX9_init_134 : decode cX9_init 134 = .ok (.getfield 7, 3) := by decide +kernel
theorem dX9_init_137 : decode cX9_init 137 = .ok (.iload_n 1, 1) := by decide +kernel
theorem dX9_init_138 : decode cX9_init 138 = .ok (.bipush 60, 2) := by decide +kernel
theorem dX9_init_140 : decode cX9_init 140 = .ok (.invokestatic 44, 3) := by decide +kernel
theorem dX9_init_143 : decode cX9_init 143 = .ok (.pop, 1) := by decide +kernel
theorem dX9_init_144 : decode cX9_init 144 = .ok (.aload_n 0, 1) := by decide +kernel
theorem dX9_init_145 : decode cX9_init 145 = .ok (.getfield 7, 3) := by decide +kernel
theorem dX9_init_148 : decode cX9_init 148 = .ok (.iload_n 2, 1) := by decide +kernel
theorem dX9_init_149 : decode cX9_init 149 = .ok (.bipush 10, 2) := by decide +kernel
theorem dX9_init_151 : decode cX9_init 151 = .ok (.invokestatic 44, 3) := by decide +kernel
theorem dX9_init_154 : decode cX9_init 154 = .ok (.pop, 1) := by decide +kernel
theorem dX9_init_155 : decode cX9_init 155 = .ok (.aload_n 0, 1) := by decide +kernel
theorem dX9_init_156 : decode cX9_init 156 = .ok (.getfield 7, 3) := by decide +kernel
theorem dX9_init_159 : decode cX9_init 159 = .ok (.iload_n 2, 1) := by decide +kernel
theorem dX9_init_160 : decode cX9_init 160 = .ok (.iconst 0, 1) := by decide +kernel
theorem dX9_init_161 : decode cX9_init 161 = .ok (.invokestatic 44, 3) := by decide +kernel
theorem dX9_init_164 : decode cX9_init 164 = .ok (.pop, 1) := by decide +kernel
theorem dX9_init_165 : decode cX9_init 165 = .ok (.return_, 1) := by decide +kernel
theorem dX9_thrown_0 : decode cX9_thrown 0 = .ok (.aload_n 0, 1) := by decide +kernel
theorem dX9_thrown_1 : decode cX9_thrown 1 = .ok (.getfield 48, 3) := by decide +kernel
theorem dX9_thrown_4 : decode cX9_thrown 4 = .ok (.ireturn, 1) := by decide +kernel
theorem dX9_fails_0 : decode cX9_fails 0 = .ok (.aload_n 0, 1) := by decide +kernel
theorem dX9_fails_1 : decode cX9_fails 1 = .ok (.iload_n 1, 1) := by decide +kernel
theorem dX9_fails_2 : decode cX9_fails 2 = .ok (.putfield 48, 3) := by decide +kernel
theorem dX9_fails_5 : decode cX9_fails 5 = .ok (.iconst 0, 1) := by decide +kernel
theorem dX9_fails_6 : decode cX9_fails 6 = .ok (.ireturn, 1) := by decide +kernel
theorem dX9_isFailed_0 : decode cX9_isFailed 0 = .ok (.aload_n 0, 1) := by decide +kernel
theorem dX9_isFailed_1 : decode cX9_isFailed 1 = .ok (.iload_n 1, 1) := by decide +kernel
theorem dX9_isFailed_2 : decode cX9_isFailed 2 = .ok (.putfield 48, 3) := by decide +kernel
theorem dX9_isFailed_5 : decode cX9_isFailed 5 = .ok (.iconst 0, 1) := by decide +kernel
theorem dX9_isFailed_6 : decode cX9_isFailed 6 = .ok (.ireturn, 1) := by decide +kernel
theorem dX9_in_0 : decode cX9_in 0 = .ok (.iload_n 1, 1) := by decide +kernel
theorem dX9_in_1 : decode cX9_in 1 = .ok (.iload_n 0, 1) := by decide +kernel
theorem dX9_in_2 : decode cX9_in 2 = .ok (.if_icmp .gt 12, 3) := by decide +kernel
theorem dX9_in_5 : decode cX9_in 5 = .ok (.iload_n 0, 1) := by decide +kernel
theorem dX9_in_6 : decode cX9_in 6 = .ok (.iload_n 2, 1) := by decide +kernel
theorem dX9_in_7 : decode cX9_in 7 = .ok (.if_icmp .gt 7, 3) := by decide +kernel
theorem dX9_in_10 : decode cX9_in 10 = .ok (.iconst 1, 1) := by decide +kernel
theorem dX9_in_11 : decode cX9_in 11 = .ok (.goto 4, 3) := by decide +kernel
theorem dX9_in_14 : decode cX9_in 14 = .ok (.iconst 0, 1) := by decide +kernel
theorem dX9_in_15 : decode cX9_in 15 = .ok (.ireturn, 1) := by decide +kernel
theorem dX9_less_0 : decode cX9_less 0 = .ok (.iload_n 0, 1) := by decide +kernel
theorem dX9_less_1 : decode cX9_less 1 = .ok (.iload_n 1, 1) := by decide +kernel
theorem dX9_less_2 : decode cX9_less 2 = .ok (.if_icmp .ge 5, 3) := by decide +kernel
theorem dX9_less_5 : decode cX9_less 5 = .ok (.iload_n 0, 1) := by decide +kernel
theorem dX9_less_6 : decode cX9_less 6 = .ok (.ireturn, 1) := by decide +kernel
theorem dX9_less_7 : decode cX9_less 7 = .ok (.iload_n 1, 1) := by decide +kernel
theorem dX9_less_8 : decode cX9_less 8 = .ok (.ireturn, 1) := by decide +kernel
theorem dX9_more_0 : decode cX9_more 0 = .ok (.iload_n 0, 1) := by decide +kernel
theorem dX9_more_1 : decode cX9_more 1 = .ok (.iload_n 1, 1) := by decide +kernel
theorem dX9_more_2 : decode cX9_more 2 = .ok (.if_icmp .le 5, 3) := by decide +kernel
theorem dX9_more_5 : decode cX9_more 5 = .ok (.iload_n 0, 1) := by decide +kernel
theorem dX9_more_6 : decode cX9_more 6 = .ok (.ireturn, 1) := by decide +kernel
theorem dX9_more_7 : decode cX9_more 7 = .ok (.iload_n 1, 1) := by decide +kernel
theorem dX9_more_8 : decode cX9_more 8 = .ok (.ireturn, 1) := by decide +kernel
theorem dX9_layRow_0 : decode cX9_layRow 0 = .ok (.iconst 0, 1) := by decide +kernel
theorem dX9_layRow_1 : decode cX9_layRow 1 = .ok (.istore 4, 2) := by decide +kernel
theorem dX9_layRow_3 : decode cX9_layRow 3 = .ok (.iload 4, 2) := by decide +kernel
theorem dX9_layRow_5 : decode cX9_layRow 5 = .ok (.sipush 306, 3) := by decide +kernel
theorem dX9_layRow_8 : decode cX9_layRow 8 = .ok (.if_icmp .ge 21, 3) := by decide +kernel
theorem dX9_layRow_11 : decode cX9_layRow 11 = .ok (.aload_n 2, 1) := by decide +kernel
theorem dX9_layRow_12 : decode cX9_layRow 12 = .ok (.iload_n 3, 1) := by decide +kernel
theorem dX9_layRow_13 : decode cX9_layRow 13 = .ok (.iload 4, 2) := by decide +kernel
theorem dX9_layRow_15 : decode cX9_layRow 15 = .ok (.iadd, 1) := by decide +kernel
theorem dX9_layRow_16 : decode cX9_layRow 16 = .ok (.aload_n 0, 1) := by decide +kernel
theorem dX9_layRow_17 : decode cX9_layRow 17 = .ok (.iload_n 1, 1) := by decide +kernel
theorem dX9_layRow_18 : decode cX9_layRow 18 = .ok (.iload 4, 2) := by decide +kernel
theorem dX9_layRow_20 : decode cX9_layRow 20 = .ok (.iadd, 1) := by decide +kernel
theorem dX9_layRow_21 : decode cX9_layRow 21 = .ok (.iaload, 1) := by decide +kernel
theorem dX9_layRow_22 : decode cX9_layRow 22 = .ok (.iastore, 1) := by decide +kernel
theorem dX9_layRow_23 : decode cX9_layRow 23 = .ok (.iinc 4 1, 3) := by decide +kernel
theorem dX9_layRow_26 : decode cX9_layRow 26 = .ok (.goto (-23), 3) := by decide +kernel
theorem dX9_layRow_29 : decode cX9_layRow 29 = .ok (.return_, 1) := by decide +kernel
theorem dX9_takesSpare_0 : decode cX9_takesSpare 0 = .ok (.aload_n 0, 1) := by decide +kernel
theorem dX9_takesSpare_1 : decode cX9_takesSpare 1 = .ok (.getfield 7, 3) := by decide +kernel
theorem dX9_takesSpare_4 : decode cX9_takesSpare 4 = .ok (.iconst 0, 1) := by decide +kernel
theorem dX9_takesSpare_5 : decode cX9_takesSpare 5 = .ok (.aload_n 0, 1) := by decide +kernel
theorem dX9_takesSpare_6 : decode cX9_takesSpare 6 = .ok (.getfield 16, 3) := by decide +kernel
theorem dX9_takesSpare_9 : decode cX9_takesSpare 9 = .ok (.iconst 0, 1) := by decide +kernel
theorem dX9_takesSpare_10 : decode cX9_takesSpare 10 = .ok (.invokestatic 51, 3) := by decide +kernel
theorem dX9_takesSpare_13 : decode cX9_takesSpare 13 = .ok (.return_, 1) := by decide +kernel
theorem dX9_guestAt_0 : decode cX9_guestAt 0 = .ok (.bipush 10, 2) := by decide +kernel
theorem dX9_guestAt_2 : decode cX9_guestAt 2 = .ok (.bipush 8, 2) := by decide +kernel
theorem dX9_guestAt_4 : decode cX9_guestAt 4 = .ok (.iload_n 0, 1) := by decide +kernel
theorem dX9_guestAt_5 : decode cX9_guestAt 5 = .ok (.imul, 1) := by decide +kernel
theorem dX9_guestAt_6 : decode cX9_guestAt 6 = .ok (.iadd, 1) := by decide +kernel
theorem dX9_guestAt_7 : decode cX9_guestAt 7 = .ok (.iload_n 1, 1) := by decide +kernel
theorem dX9_guestAt_8 : decode cX9_guestAt 8 = .ok (.iadd, 1) := by decide +kernel
theorem dX9_guestAt_9 : decode cX9_guestAt 9 = .ok (.ireturn, 1) := by decide +kernel
theorem dX9_umbrellaAt_0 : decode cX9_umbrellaAt 0 = .ok (.bipush 90, 2) := by decide +kernel
theorem dX9_umbrellaAt_2 : decode cX9_umbrellaAt 2 = .ok (.iconst 3, 1) := by decide +kernel
theorem dX9_umbrellaAt_3 : decode cX9_umbrellaAt 3 = .ok (.iload_n 0, 1) := by decide +kernel
theorem dX9_umbrellaAt_4 : decode cX9_umbrellaAt 4 = .ok (.imul, 1) := by decide +kernel
theorem dX9_umbrellaAt_5 : decode cX9_umbrellaAt 5 = .ok (.iadd, 1) := by decide +kernel
theorem dX9_umbrellaAt_6 : decode cX9_umbrellaAt 6 = .ok (.iload_n 1, 1) := by decide +kernel
theorem dX9_umbrellaAt_7 : decode cX9_umbrellaAt 7 = .ok (.iadd, 1) := by decide +kernel
theorem dX9_umbrellaAt_8 : decode cX9_umbrellaAt 8 = .ok (.ireturn, 1) := by decide +kernel
theorem dX9_entryAt_0 : decode cX9_entryAt 0 = .ok (.bipush 126, 2) := by decide +kernel
theorem dX9_entryAt_2 : decode cX9_entryAt 2 = .ok (.iconst 3, 1) := by decide +kernel
theorem dX9_entryAt_3 : decode cX9_entryAt 3 = .ok (.iload_n 0, 1) := by decide +kernel
theorem dX9_entryAt_4 : decode cX9_entryAt 4 = .ok (.imul, 1) := by decide +kernel
theorem dX9_entryAt_5 : decode cX9_entryAt 5 = .ok (.iadd, 1) := by decide +kernel
theorem dX9_entryAt_6 : decode cX9_entryAt 6 = .ok (.iload_n 1, 1) := by decide +kernel
theorem dX9_entryAt_7 : decode cX9_entryAt 7 = .ok (.iadd, 1) := by decide +kernel
theorem dX9_entryAt_8 : decode cX9_entryAt 8 = .ok (.ireturn, 1) := by decide +kernel
theorem dX9_isGuest_0 : decode cX9_isGuest 0 = .ok (.iload_n 1, 1) := by decide +kernel
theorem dX9_isGuest_1 : decode cX9_isGuest 1 = .ok (.iconst 0, 1) := by decide +kernel
theorem dX9_isGuest_2 : decode cX9_isGuest 2 = .ok (.aload_n 0, 1) := by decide +kernel
theorem dX9_isGuest_3 : decode cX9_isGuest 3 = .ok (.getfield 7, 3) := by decide +kernel
theorem dX9_isGuest_6 : decode cX9_isGuest 6 = .ok (.bipush 7, 2) := by decide +kernel
theorem dX9_isGuest_8 : decode cX9_isGuest 8 = .ok (.iaload, 1) := by decide +kernel
theorem dX9_isGuest_9 : decode cX9_isGuest 9 = .ok (.iconst 1, 1) := by decide +kernel
theorem dX9_isGuest_10 : decode cX9_isGuest 10 = .ok (.isub, 1) := by decide +kernel
theorem dX9_isGuest_11 : decode cX9_isGuest 11 = .ok (.invokestatic 55, 3) := by decide +kernel
theorem dX9_isGuest_14 : decode cX9_isGuest 14 = .ok (.ireturn, 1) := by decide +kernel
theorem dX9_isUmbrella_0 : decode cX9_isUmbrella 0 = .ok (.iload_n 1, 1) := by decide +kernel
theorem dX9_isUmbrella_1 : decode cX9_isUmbrella 1 = .ok (.iconst 0, 1) := by decide +kernel
theorem dX9_isUmbrella_2 : decode cX9_isUmbrella 2 = .ok (.aload_n 0, 1) := by decide +kernel
theorem dX9_isUmbrella_3 : decode cX9_isUmbrella 3 = .ok (.getfield 7, 3) := by decide +kernel
theorem dX9_isUmbrella_6 : decode cX9_isUmbrella 6 = .ok (.bipush 8, 2) := by decide +kernel
theorem dX9_isUmbrella_8 : decode cX9_isUmbrella 8 = .ok (.iaload, 1) := by decide +kernel
theorem dX9_isUmbrella_9 : decode cX9_isUmbrella 9 = .ok (.iconst 1, 1) := by decide +kernel
theorem dX9_isUmbrella_10 : decode cX9_isUmbrella 10 = .ok (.isub, 1) := by decide +kernel
theorem dX9_isUmbrella_11 : decode cX9_isUmbrella 11 = .ok (.invokestatic 55, 3) := by decide +kernel
theorem dX9_isUmbrella_14 : decode cX9_isUmbrella 14 = .ok (.ireturn, 1) := by decide +kernel
theorem dX9_addsGuest_0 : decode cX9_addsGuest 0 = .ok (.aload_n 0, 1) := by decide +kernel
theorem dX9_addsGuest_1 : decode cX9_addsGuest 1 = .ok (.bipush 7, 2) := by decide +kernel
theorem dX9_addsGuest_3 : decode cX9_addsGuest 3 = .ok (.iaload, 1) := by decide +kernel
theorem dX9_addsGuest_4 : decode cX9_addsGuest 4 = .ok (.istore 4, 2) := by decide +kernel
theorem dX9_addsGuest_6 : decode cX9_addsGuest 6 = .ok (.aload_n 0, 1) := by decide +kernel
theorem dX9_addsGuest_7 : decode cX9_addsGuest 7 = .ok (.iload 4, 2) := by decide +kernel
theorem dX9_addsGuest_9 : decode cX9_addsGuest 9 = .ok (.iconst 0, 1) := by decide +kernel
theorem dX9_addsGuest_10 : decode cX9_addsGuest 10 = .ok (.invokestatic 59, 3) := by decide +kernel
theorem dX9_addsGuest_13 : decode cX9_addsGuest 13 = .ok (.iload_n 1, 1) := by decide +kernel
theorem dX9_addsGuest_14 : decode cX9_addsGuest 14 = .ok (.iastore, 1) := by decide +kernel
theorem dX9_addsGuest_15 : decode cX9_addsGuest 15 = .ok (.aload_n 0, 1) := by decide +kernel
theorem dX9_addsGuest_16 : decode cX9_addsGuest 16 = .ok (.iload 4, 2) := by decide +kernel
theorem dX9_addsGuest_18 : decode cX9_addsGuest 18 = .ok (.iconst 1, 1) := by decide +kernel
theorem dX9_addsGuest_19 : decode cX9_addsGuest 19 = .ok (.invokestatic 59, 3) := by decide +kernel
theorem dX9_addsGuest_22 : decode cX9_addsGuest 22 = .ok (.iload_n 2, 1) := by decide +kernel
theorem dX9_addsGuest_23 : decode cX9_addsGuest 23 = .ok (.iastore, 1) := by decide +kernel
theorem dX9_addsGuest_24 : decode cX9_addsGuest 24 = .ok (.aload_n 0, 1) := by decide +kernel
theorem dX9_addsGuest_25 : decode cX9_addsGuest 25 = .ok (.iload 4, 2) := by decide +kernel
theorem dX9_addsGuest_27 : decode cX9_addsGuest 27 = .ok (.iconst 2, 1) := by decide +kernel
theorem dX9_addsGuest_28 : decode cX9_addsGuest 28 = .ok (.invokestatic 59, 3) := by decide +kernel
theorem dX9_addsGuest_31 : decode cX9_addsGuest 31 = .ok (.iload_n 3, 1) := by decide +kernel
theorem dX9_addsGuest_32 : decode cX9_addsGuest 32 = .ok (.iastore, 1) := by decide +kernel
theorem dX9_addsGuest_33 : decode cX9_addsGuest 33 = .ok (.aload_n 0, 1) := by decide +kernel
theorem dX9_addsGuest_34 : decode cX9_addsGuest 34 = .ok (.iload 4, 2) := by decide +kernel
theorem dX9_addsGuest_36 : decode cX9_addsGuest 36 = .ok (.iconst 3, 1) := by decide +kernel
theorem dX9_addsGuest_37 : decode cX9_addsGuest 37 = .ok (.invokestatic 59, 3) := by decide +kernel
theorem dX9_addsGuest_40 : decode cX9_addsGuest 40 = .ok (.iconst 0, 1) := by decide +kernel
theorem dX9_addsGuest_41 : decode cX9_addsGuest 41 = .ok (.iastore, 1) := by decide +kernel
theorem dX9_addsGuest_42 : decode cX9_addsGuest 42 = .ok (.aload_n 0, 1) := by decide +kernel
theorem dX9_addsGuest_43 : decode cX9_addsGuest 43 = .ok (.iload 4, 2) := by decide +kernel
theorem dX9_addsGuest_45 : decode cX9_addsGuest 45 = .ok (.iconst 4, 1) := by decide +kernel
theorem dX9_addsGuest_46 : decode cX9_addsGuest 46 = .ok (.invokestatic 59, 3) := by decide +kernel
theorem dX9_addsGuest_49 : decode cX9_addsGuest 49 = .ok (.iconst 0, 1) := by decide +kernel
theorem dX9_addsGuest_50 : decode cX9_addsGuest 50 = .ok (.iastore, 1) := by decide +kernel
theorem dX9_addsGuest_51 : decode cX9_addsGuest 51 = .ok (.aload_n 0, 1) := by decide +kernel
theorem dX9_addsGuest_52 : decode cX9_addsGuest 52 = .ok (.iload 4, 2) := by decide +kernel
theorem dX9_addsGuest_54 : decode cX9_addsGuest 54 = .ok (.iconst 5, 1) := by decide +kernel
theorem dX9_addsGuest_55 : decode cX9_addsGuest 55 = .ok (.invokestatic 59, 3) := by decide +kernel
theorem dX9_addsGuest_58 : decode cX9_addsGuest 58 = .ok (.iconst 0, 1) := by decide +kernel
theorem dX9_addsGuest_59 : decode cX9_addsGuest 59 = .ok (.iastore, 1) := by decide +kernel
theorem dX9_addsGuest_60 : decode cX9_addsGuest 60 = .ok (.aload_n 0, 1) := by decide +kernel
theorem dX9_addsGuest_61 : decode cX9_addsGuest 61 = .ok (.iload 4, 2) := by decide +kernel
theorem dX9_addsGuest_63 : decode cX9_addsGuest 63 = .ok (.bipush 6, 2) := by decide +kernel
theorem dX9_addsGuest_65 : decode cX9_addsGuest 65 = .ok (.invokestatic 59, 3) := by decide +kernel
theorem dX9_addsGuest_68 : decode cX9_addsGuest 68 = .ok (.iconst (-1), 1) := by decide +kernel
theorem dX9_addsGuest_69 : decode cX9_addsGuest 69 = .ok (.iastore, 1) := by decide +kernel
theorem dX9_addsGuest_70 : decode cX9_addsGuest 70 = .ok (.aload_n 0, 1) := by decide +kernel
theorem dX9_addsGuest_71 : decode cX9_addsGuest 71 = .ok (.iload 4, 2) := by decide +kernel
theorem dX9_addsGuest_73 : decode cX9_addsGuest 73 = .ok (.bipush 7, 2) := by decide +kernel
theorem dX9_addsGuest_75 : decode cX9_addsGuest 75 = .ok (.invokestatic 59, 3) := by decide +kernel
theorem dX9_addsGuest_78 : decode cX9_addsGuest 78 = .ok (.iconst 0, 1) := by decide +kernel
theorem dX9_addsGuest_79 : decode cX9_addsGuest 79 = .ok (.iastore, 1) := by decide +kernel
theorem dX9_addsGuest_80 : decode cX9_addsGuest 80 = .ok (.aload_n 0, 1) := by decide +kernel
theorem dX9_addsGuest_81 : decode cX9_addsGuest 81 = .ok (.bipush 7, 2) := by decide +kernel
theorem dX9_addsGuest_83 : decode cX9_addsGuest 83 = .ok (.dup2, 1) := by decide +kernel
theorem dX9_addsGuest_84 : decode cX9_addsGuest 84 = .ok (.iaload, 1) := by decide +kernel
theorem dX9_addsGuest_85 : decode cX9_addsGuest 85 = .ok (.iconst 1, 1) := by decide +kernel
theorem dX9_addsGuest_86 : decode cX9_addsGuest 86 = .ok (.iadd, 1) := by decide +kernel
theorem dX9_addsGuest_87 : decode cX9_addsGuest 87 = .ok (.iastore, 1) := by decide +kernel
theorem dX9_addsGuest_88 : decode cX9_addsGuest 88 = .ok (.iload 4, 2) := by decide +kernel
theorem dX9_addsGuest_90 : decode cX9_addsGuest 90 = .ok (.ireturn, 1) := by decide +kernel
theorem dX9_guestBy_0 : decode cX9_guestBy 0 = .ok (.iconst 0, 1) := by decide +kernel
theorem dX9_guestBy_1 : decode cX9_guestBy 1 = .ok (.istore_n 2, 1) := by decide +kernel
theorem dX9_guestBy_2 : decode cX9_guestBy 2 = .ok (.iload_n 2, 1) := by decide +kernel
theorem dX9_guestBy_3 : decode cX9_guestBy 3 = .ok (.aload_n 0, 1) := by decide +kernel
theorem dX9_guestBy_4 : decode cX9_guestBy 4 = .ok (.bipush 7, 2) := by decide +kernel
theorem dX9_guestBy_6 : decode cX9_guestBy 6 = .ok (.iaload, 1) := by decide +kernel
theorem dX9_guestBy_7 : decode cX9_guestBy 7 = .ok (.if_icmp .ge 22, 3) := by decide +kernel
theorem dX9_guestBy_10 : decode cX9_guestBy 10 = .ok (.aload_n 0, 1) := by decide +kernel
theorem dX9_guestBy_11 : decode cX9_guestBy 11 = .ok (.iload_n 2, 1) := by decide +kernel
theorem dX9_guestBy_12 : decode cX9_guestBy 12 = .ok (.iconst 0, 1) := by decide +kernel
theorem dX9_guestBy_13 : decode cX9_guestBy 13 = .ok (.invokestatic 59, 3) := by decide +kernel
theorem dX9_guestBy_16 : decode cX9_guestBy 16 = .ok (.iaload, 1) := by decide +kernel
theorem dX9_guestBy_17 : decode cX9_guestBy 17 = .ok (.iload_n 1, 1) := by decide +kernel
theorem dX9_guestBy_18 : decode cX9_guestBy 18 = .ok (.if_icmp .ne 5, 3) := by decide +kernel
theorem dX9_guestBy_21 : decode cX9_guestBy 21 = .ok (.iload_n 2, 1) := by decide +kernel
theorem dX9_guestBy_22 : decode cX9_guestBy 22 = .ok (.ireturn, 1) := by decide +kernel
theorem dX9_guestBy_23 : decode cX9_guestBy 23 = .ok (.iinc 2 1, 3) := by decide +kernel
theorem dX9_guestBy_26 : decode cX9_guestBy 26 = .ok (.goto (-24), 3) := by decide +kernel
theorem dX9_guestBy_29 : decode cX9_guestBy 29 = .ok (.iconst (-1), 1) := by decide +kernel
theorem dX9_guestBy_30 : decode cX9_guestBy 30 = .ok (.ireturn, 1) := by decide +kernel
theorem dX9_addsUmbrella_0 : decode cX9_addsUmbrella 0 = .ok (.aload_n 0, 1) := by decide +kernel
theorem dX9_addsUmbrella_1 : decode cX9_addsUmbrella 1 = .ok (.bipush 8, 2) := by decide +kernel
theorem dX9_addsUmbrella_3 : decode cX9_addsUmbrella 3 = .ok (.iaload, 1) := by decide +kernel
theorem dX9_addsUmbrella_4 : decode cX9_addsUmbrella 4 = .ok (.istore_n 3, 1) := by decide +kernel
theorem dX9_addsUmbrella_5 : decode cX9_addsUmbrella 5 = .ok (.aload_n 0, 1) := by decide +kernel
theorem dX9_addsUmbrella_6 : decode cX9_addsUmbrella 6 = .ok (.iload_n 3, 1) := by decide +kernel
theorem dX9_addsUmbrella_7 : decode cX9_addsUmbrella 7 = .ok (.iconst 0, 1) := by decide +kernel
theorem dX9_addsUmbrella_8 : decode cX9_addsUmbrella 8 = .ok (.invokestatic 63, 3) := by decide +kernel
theorem dX9_addsUmbrella_11 : decode cX9_addsUmbrella 11 = .ok (.iload_n 1, 1) := by decide +kernel
theorem dX9_addsUmbrella_12 : decode cX9_addsUmbrella 12 = .ok (.iastore, 1) := by decide +kernel
theorem dX9_addsUmbrella_13 : decode cX9_addsUmbrella 13 = .ok (.aload_n 0, 1) := by decide +kernel
theorem dX9_addsUmbrella_14 : decode cX9_addsUmbrella 14 = .ok (.iload_n 3, 1) := by decide +kernel
theorem dX9_addsUmbrella_15 : decode cX9_addsUmbrella 15 = .ok (.iconst 1, 1) := by decide +kernel
theorem dX9_addsUmbrella_16 : decode cX9_addsUmbrella 16 = .ok (.invokestatic 63, 3) := by decide +kernel
theorem dX9_addsUmbrella_19 : decode cX9_addsUmbrella 19 = .ok (.iload_n 2, 1) := by decide +kernel
theorem dX9_addsUmbrella_20 : decode cX9_addsUmbrella 20 = .ok (.iastore, 1) := by decide +kernel
theorem dX9_addsUmbrella_21 : decode cX9_addsUmbrella 21 = .ok (.aload_n 0, 1) := by decide +kernel
theorem dX9_addsUmbrella_22 : decode cX9_addsUmbrella 22 = .ok (.iload_n 3, 1) := by decide +kernel
theorem dX9_addsUmbrella_23 : decode cX9_addsUmbrella 23 = .ok (.iconst 2, 1) := by decide +kernel
theorem dX9_addsUmbrella_24 : decode cX9_addsUmbrella 24 = .ok (.invokestatic 63, 3) := by decide +kernel
theorem dX9_addsUmbrella_27 : decode cX9_addsUmbrella 27 = .ok (.iconst (-1), 1) := by decide +kernel
theorem dX9_addsUmbrella_28 : decode cX9_addsUmbrella 28 = .ok (.iastore, 1) := by decide +kernel
theorem dX9_addsUmbrella_29 : decode cX9_addsUmbrella 29 = .ok (.aload_n 0, 1) := by decide +kernel
theorem dX9_addsUmbrella_30 : decode cX9_addsUmbrella 30 = .ok (.bipush 8, 2) := by decide +kernel
theorem dX9_addsUmbrella_32 : decode cX9_addsUmbrella 32 = .ok (.dup2, 1) := by decide +kernel
theorem dX9_addsUmbrella_33 : decode cX9_addsUmbrella 33 = .ok (.iaload, 1) := by decide +kernel
theorem dX9_addsUmbrella_34 : decode cX9_addsUmbrella 34 = .ok (.iconst 1, 1) := by decide +kernel
theorem dX9_addsUmbrella_35 : decode cX9_addsUmbrella 35 = .ok (.iadd, 1) := by decide +kernel
theorem dX9_addsUmbrella_36 : decode cX9_addsUmbrella 36 = .ok (.iastore, 1) := by decide +kernel
theorem dX9_addsUmbrella_37 : decode cX9_addsUmbrella 37 = .ok (.iload_n 3, 1) := by decide +kernel
theorem dX9_addsUmbrella_38 : decode cX9_addsUmbrella 38 = .ok (.ireturn, 1) := by decide +kernel
theorem dX9_isAway_0 : decode cX9_isAway 0 = .ok (.aload_n 0, 1) := by decide +kernel
theorem dX9_isAway_1 : decode cX9_isAway 1 = .ok (.iload_n 1, 1) := by decide +kernel
theorem dX9_isAway_2 : decode cX9_isAway 2 = .ok (.iconst 3, 1) := by decide +kernel
theorem dX9_isAway_3 : decode cX9_isAway 3 = .ok (.invokestatic 59, 3) := by decide +kernel
theorem dX9_isAway_6 : decode cX9_isAway 6 = .ok (.iaload, 1) := by decide +kernel
theorem dX9_isAway_7 : decode cX9_isAway 7 = .ok (.iconst 1, 1) := by decide +kernel
theorem dX9_isAway_8 : decode cX9_isAway 8 = .ok (.if_icmp .ne 7, 3) := by decide +kernel
theorem dX9_isAway_11 : decode cX9_isAway 11 = .ok (.iconst 1, 1) := by decide +kernel
theorem dX9_isAway_12 : decode cX9_isAway 12 = .ok (.goto 4, 3) := by decide +kernel
theorem dX9_isAway_15 : decode cX9_isAway 15 = .ok (.iconst 0, 1) := by decide +kernel
theorem dX9_isAway_16 : decode cX9_isAway 16 = .ok (.ireturn, 1) := by decide +kernel
theorem dX9_stands_0 : decode cX9_stands 0 = .ok (.aload_n 0, 1) := by decide +kernel
theorem dX9_stands_1 : decode cX9_stands 1 = .ok (.iload_n 1, 1) := by decide +kernel
theorem dX9_stands_2 : decode cX9_stands 2 = .ok (.iconst 2, 1) := by decide +kernel
theorem dX9_stands_3 : decode cX9_stands 3 = .ok (.invokestatic 63, 3) := by decide +kernel
theorem dX9_stands_6 : decode cX9_stands 6 = .ok (.iaload, 1) := by decide +kernel
theorem dX9_stands_7 : decode cX9_stands 7 = .ok (.ifCond .ge 7, 3) := by decide +kernel
theorem dX9_stands_10 : decode cX9_stands 10 = .ok (.iconst 1, 1) := by decide +kernel
theorem dX9_stands_11 : decode cX9_stands 11 = .ok (.goto 4, 3) := by decide +kernel
theorem dX9_stands_14 : decode cX9_stands 14 = .ok (.iconst 0, 1) := by decide +kernel
theorem dX9_stands_15 : decode cX9_stands 15 = .ok (.ireturn, 1) := by decide +kernel
theorem dX9_isDry_0 : decode cX9_isDry 0 = .ok (.aload_n 0, 1) := by decide +kernel
theorem dX9_isDry_1 : decode cX9_isDry 1 = .ok (.iload_n 1, 1) := by decide +kernel
theorem dX9_isDry_2 : decode cX9_isDry 2 = .ok (.invokestatic 66, 3) := by decide +kernel
theorem dX9_isDry_5 : decode cX9_isDry 5 = .ok (.ifCond .eq 19, 3) := by decide +kernel
theorem dX9_isDry_8 : decode cX9_isDry 8 = .ok (.aload_n 0, 1) := by decide +kernel
theorem dX9_isDry_9 : decode cX9_isDry 9 = .ok (.iload_n 1, 1) := by decide +kernel
theorem dX9_isDry_10 : decode cX9_isDry 10 = .ok (.iconst 1, 1) := by decide +kernel
theorem dX9_isDry_11 : decode cX9_isDry 11 = .ok (.invokestatic 63, 3) := by decide +kernel
theorem dX9_isDry_14 : decode cX9_isDry 14 = .ok (.iaload, 1) := by decide +kernel
theorem dX9_isDry_15 : decode cX9_isDry 15 = .ok (.bipush 50, 2) := by decide +kernel
theorem dX9_isDry_17 : decode cX9_isDry 17 = .ok (.if_icmp .gt 7, 3) := by decide +kernel
theorem dX9_isDry_20 : decode cX9_isDry 20 = .ok (.iconst 1, 1) := by decide +kernel
theorem dX9_isDry_21 : decode cX9_isDry 21 = .ok (.goto 4, 3) := by decide +kernel
theorem dX9_isDry_24 : decode cX9_isDry 24 = .ok (.iconst 0, 1) := by decide +kernel
theorem dX9_isDry_25 : decode cX9_isDry 25 = .ok (.ireturn, 1) := by decide +kernel
theorem dX9_ownFor_0 : decode cX9_ownFor 0 = .ok (.iconst 0, 1) := by decide +kernel
theorem dX9_ownFor_1 : decode cX9_ownFor 1 = .ok (.istore_n 2, 1) := by decide +kernel
theorem dX9_ownFor_2 : decode cX9_ownFor 2 = .ok (.iload_n 2, 1) := by decide +kernel
theorem dX9_ownFor_3 : decode cX9_ownFor 3 = .ok (.aload_n 0, 1) := by decide +kernel
theorem dX9_ownFor_4 : decode cX9_ownFor 4 = .ok (.bipush 8, 2) := by decide +kernel
theorem dX9_ownFor_6 : decode cX9_ownFor 6 = .ok (.iaload, 1) := by decide +kernel
theorem dX9_ownFor_7 : decode cX9_ownFor 7 = .ok (.if_icmp .ge 30, 3) := by decide +kernel
theorem dX9_ownFor_10 : decode cX9_ownFor 10 = .ok (.aload_n 0, 1) := by decide +kernel
theorem dX9_ownFor_11 : decode cX9_ownFor 11 = .ok (.iload_n 2, 1) := by decide +kernel
theorem dX9_ownFor_12 : decode cX9_ownFor 12 = .ok (.invokestatic 70, 3) := by decide +kernel
theorem dX9_ownFor_15 : decode cX9_ownFor 15 = .ok (.ifCond .eq 16, 3) := by decide +kernel
theorem dX9_ownFor_18 : decode cX9_ownFor 18 = .ok (.aload_n 0, 1) := by decide +kernel
theorem dX9_ownFor_19 : decode cX9_ownFor 19 = .ok (.iload_n 2, 1) := by decide +kernel
theorem dX9_ownFor_20 : decode cX9_ownFor 20 = .ok (.iconst 0, 1) := by decide +kernel
theorem dX9_ownFor_21 : decode cX9_ownFor 21 = .ok (.invokestatic 63, 3) := by decide +kernel
theorem dX9_ownFor_24 : decode cX9_ownFor 24 = .ok (.iaload, 1) := by decide +kernel
theorem dX9_ownFor_25 : decode cX9_ownFor 25 = .ok (.iload_n 1, 1) := by decide +kernel
theorem dX9_ownFor_26 : decode cX9_ownFor 26 = .ok (.if_icmp .ne 5, 3) := by decide +kernel
theorem dX9_ownFor_29 : decode cX9_ownFor 29 = .ok (.iload_n 2, 1) := by decide +kernel
theorem dX9_ownFor_30 : decode cX9_ownFor 30 = .ok (.ireturn, 1) := by decide +kernel
theorem dX9_ownFor_31 : decode cX9_ownFor 31 = .ok (.iinc 2 1, 3) := by decide +kernel
theorem dX9_ownFor_34 : decode cX9_ownFor 34 = .ok (.goto (-32), 3) := by decide +kernel
theorem dX9_ownFor_37 : decode cX9_ownFor 37 = .ok (.iconst (-1), 1) := by decide +kernel
theorem dX9_ownFor_38 : decode cX9_ownFor 38 = .ok (.ireturn, 1) := by decide +kernel
theorem dX9_driest_0 : decode cX9_driest 0 = .ok (.iconst (-1), 1) := by decide +kernel
theorem dX9_driest_1 : decode cX9_driest 1 = .ok (.istore_n 1, 1) := by decide +kernel
theorem dX9_driest_2 : decode cX9_driest 2 = .ok (.iconst 0, 1) := by decide +kernel
theorem dX9_driest_3 : decode cX9_driest 3 = .ok (.istore_n 2, 1) := by decide +kernel
theorem dX9_driest_4 : decode cX9_driest 4 = .ok (.iload_n 2, 1) := by decide +kernel
theorem dX9_driest_5 : decode cX9_driest 5 = .ok (.aload_n 0, 1) := by decide +kernel
theorem dX9_driest_6 : decode cX9_driest 6 = .ok (.bipush 8, 2) := by decide +kernel
theorem dX9_driest_8 : decode cX9_driest 8 = .ok (.iaload, 1) := by decide +kernel
theorem dX9_driest_9 : decode cX9_driest 9 = .ok (.if_icmp .ge 43, 3) := by decide +kernel
theorem dX9_driest_12 : decode cX9_driest 12 = .ok (.aload_n 0, 1) := by decide +kernel
theorem dX9_driest_13 : decode cX9_driest 13 = .ok (.iload_n 2, 1) := by decide +kernel
theorem dX9_driest_14 : decode cX9_driest 14 = .ok (.invokestatic 70, 3) := by decide +kernel
theorem dX9_driest_17 : decode cX9_driest 17 = .ok (.ifCond .ne 6, 3) := by decide +kernel
theorem dX9_driest_20 : decode cX9_driest 20 = .ok (.goto 26, 3) := by decide +kernel
theorem dX9_driest_23 : decode cX9_driest 23 = .ok (.iload_n 1, 1) := by decide +kernel
theorem dX9_driest_24 : decode cX9_driest 24 = .ok (.ifCond .lt 20, 3) := by decide +kernel
theorem dX9_driest_27 : decode cX9_driest 27 = .ok (.aload_n 0, 1) := by decide +kernel
theorem dX9_driest_28 : decode cX9_driest 28 = .ok (.iload_n 2, 1) := by decide +kernel
theorem dX9_driest_29 : decode cX9_driest 29 = .ok (.iconst 1, 1) := by decide +kernel
theorem dX9_driest_30 : decode cX9_driest 30 = .ok (.invokestatic 63, 3) := by decide +kernel
theorem dX9_driest_33 : decode cX9_driest 33 = .ok (.iaload, 1) := by decide +kernel
theorem dX9_driest_34 : decode cX9_driest 34 = .ok (.aload_n 0, 1) := by decide +kernel
theorem dX9_driest_35 : decode cX9_driest 35 = .ok (.iload_n 1, 1) := by decide +kernel
theorem dX9_driest_36 : decode cX9_driest 36 = .ok (.iconst 1, 1) := by decide +kernel
theorem dX9_driest_37 : decode cX9_driest 37 = .ok (.invokestatic 63, 3) := by decide +kernel
theorem dX9_driest_40 : decode cX9_driest 40 = .ok (.iaload, 1) := by decide +kernel
theorem dX9_driest_41 : decode cX9_driest 41 = .ok (.if_icmp .ge 5, 3) := by decide +kernel
theorem dX9_driest_44 : decode cX9_driest 44 = .ok (.iload_n 2, 1) := by decide +kernel
theorem dX9_driest_45 : decode cX9_driest 45 = .ok (.istore_n 1, 1) := by decide +kernel
theorem dX9_driest_46 : decode cX9_driest 46 = .ok (.iinc 2 1, 3) := by decide +kernel
theorem dX9_driest_49 : decode cX9_driest 49 = .ok (.goto (-45), 3) := by decide +kernel
theorem dX9_driest_52 : decode cX9_driest 52 = .ok (.iload_n 1, 1) := by decide +kernel
theorem dX9_driest_53 : decode cX9_driest 53 = .ok (.ireturn, 1) := by decide +kernel
theorem dX9_takenBy_0 : decode cX9_takenBy 0 = .ok (.aload_n 0, 1) := by decide +kernel
theorem dX9_takenBy_1 : decode cX9_takenBy 1 = .ok (.iconst 1, 1) := by decide +kernel
theorem dX9_takenBy_2 : decode cX9_takenBy 2 = .ok (.iaload, 1) := by decide +kernel
theorem dX9_takenBy_3 : decode cX9_takenBy 3 = .ok (.ifCond .ne 5, 3) := by decide +kernel
theorem dX9_takenBy_6 : decode cX9_takenBy 6 = .ok (.iconst (-1), 1) := by decide +kernel
theorem dX9_takenBy_7 : decode cX9_takenBy 7 = .ok (.ireturn, 1) := by decide +kernel
theorem dX9_takenBy_8 : decode cX9_takenBy 8 = .ok (.aload_n 0, 1) := by decide +kernel
theorem dX9_takenBy_9 : decode cX9_takenBy 9 = .ok (.iload_n 1, 1) := by decide +kernel
theorem dX9_takenBy_10 : decode cX9_takenBy 10 = .ok (.invokestatic 73, 3) := by decide +kernel
theorem dX9_takenBy_13 : decode cX9_takenBy 13 = .ok (.istore_n 2, 1) := by decide +kernel
theorem dX9_takenBy_14 : decode cX9_takenBy 14 = .ok (.iload_n 2, 1) := by decide +kernel
theorem dX9_takenBy_15 : decode cX9_takenBy 15 = .ok (.ifCond .ge 8, 3) := by decide +kernel
theorem dX9_takenBy_18 : decode cX9_takenBy 18 = .ok (.aload_n 0, 1) := by decide +kernel
theorem dX9_takenBy_19 : decode cX9_takenBy 19 = .ok (.invokestatic 77, 3) := by decide +kernel
theorem dX9_takenBy_22 : decode cX9_takenBy 22 = .ok (.ireturn, 1) := by decide +kernel
theorem dX9_takenBy_23 : decode cX9_takenBy 23 = .ok (.iload_n 2, 1) := by decide +kernel
theorem dX9_takenBy_24 : decode cX9_takenBy 24 = .ok (.ireturn, 1) := by decide +kernel
theorem dX9_carriedBy_0 : decode cX9_carriedBy 0 = .ok (.iconst 0, 1) := by decide +kernel
theorem dX9_carriedBy_1 : decode cX9_carriedBy 1 = .ok (.istore_n 2, 1) := by decide +kernel
theorem dX9_carriedBy_2 : decode cX9_carriedBy 2 = .ok (.iload_n 2, 1) := by decide +kernel
theorem dX9_carriedBy_3 : decode cX9_carriedBy 3 = .ok (.aload_n 0, 1) := by decide +kernel
theorem dX9_carriedBy_4 : decode cX9_carriedBy 4 = .ok (.bipush 8, 2) := by decide +kernel
theorem dX9_carriedBy_6 : decode cX9_carriedBy 6 = .ok (.iaload, 1) := by decide +kernel
theorem dX9_carriedBy_7 : decode cX9_carriedBy 7 = .ok (.if_icmp .ge 22, 3) := by decide +kernel
theorem dX9_carriedBy_10 : decode cX9_carriedBy 10 = .ok (.aload_n 0, 1) := by decide +kernel
theorem dX9_carriedBy_11 : decode cX9_carriedBy 11 = .ok (.iload_n 2, 1) := by decide +kernel
theorem dX9_carriedBy_12 : decode cX9_carriedBy 12 = .ok (.iconst 2, 1) := by decide +kernel
theorem dX9_carriedBy_13 : decode cX9_carriedBy 13 = .ok (.invokestatic 63, 3) := by decide +kernel
theorem dX9_carriedBy_16 : decode cX9_carriedBy 16 = .ok (.iaload, 1) := by decide +kernel
theorem dX9_carriedBy_17 : decode cX9_carriedBy 17 = .ok (.iload_n 1, 1) := by decide +kernel
theorem dX9_carriedBy_18 : decode cX9_carriedBy 18 = .ok (.if_icmp .ne 5, 3) := by decide +kernel
theorem dX9_carriedBy_21 : decode cX9_carriedBy 21 = .ok (.iload_n 2, 1) := by decide +kernel
theorem dX9_carriedBy_22 : decode cX9_carriedBy 22 = .ok (.ireturn, 1) := by decide +kernel
theorem dX9_carriedBy_23 : decode cX9_carriedBy 23 = .ok (.iinc 2 1, 3) := by decide +kernel
theorem dX9_carriedBy_26 : decode cX9_carriedBy 26 = .ok (.goto (-24), 3) := by decide +kernel
theorem dX9_carriedBy_29 : decode cX9_carriedBy 29 = .ok (.iconst (-1), 1) := by decide +kernel
theorem dX9_carriedBy_30 : decode cX9_carriedBy 30 = .ok (.ireturn, 1) := by decide +kernel
theorem dX9_awayMany_0 : decode cX9_awayMany 0 = .ok (.iconst 0, 1) := by decide +kernel
theorem dX9_awayMany_1 : decode cX9_awayMany 1 = .ok (.istore_n 1, 1) := by decide +kernel
theorem dX9_awayMany_2 : decode cX9_awayMany 2 = .ok (.iconst 0, 1) := by decide +kernel
theorem dX9_awayMany_3 : decode cX9_awayMany 3 = .ok (.istore_n 2, 1) := by decide +kernel
theorem dX9_awayMany_4 : decode cX9_awayMany 4 = .ok (.iload_n 2, 1) := by decide +kernel
theorem dX9_awayMany_5 : decode cX9_awayMany 5 = .ok (.aload_n 0, 1) := by decide +kernel
theorem dX9_awayMany_6 : decode cX9_awayMany 6 = .ok (.bipush 7, 2) := by decide +kernel
theorem dX9_awayMany_8 : decode cX9_awayMany 8 = .ok (.iaload, 1) := by decide +kernel
theorem dX9_awayMany_9 : decode cX9_awayMany 9 = .ok (.if_icmp .ge 19, 3) := by decide +kernel
theorem dX9_awayMany_12 : decode cX9_awayMany 12 = .ok (.iload_n 1, 1) := by decide +kernel
theorem dX9_awayMany_13 : decode cX9_awayMany 13 = .ok (.aload_n 0, 1) := by decide +kernel
theorem dX9_awayMany_14 : decode cX9_awayMany 14 = .ok (.iload_n 2, 1) := by decide +kernel
theorem dX9_awayMany_15 : decode cX9_awayMany 15 = .ok (.iconst 3, 1) := by decide +kernel
theorem dX9_awayMany_16 : decode cX9_awayMany 16 = .ok (.invokestatic 59, 3) := by decide +kernel
theorem dX9_awayMany_19 : decode cX9_awayMany 19 = .ok (.iaload, 1) := by decide +kernel
theorem dX9_awayMany_20 : decode cX9_awayMany 20 = .ok (.iadd, 1) := by decide +kernel
theorem dX9_awayMany_21 : decode cX9_awayMany 21 = .ok (.istore_n 1, 1) := by decide +kernel
theorem dX9_awayMany_22 : decode cX9_awayMany 22 = .ok (.iinc 2 1, 3) := by decide +kernel
theorem dX9_awayMany_25 : decode cX9_awayMany 25 = .ok (.goto (-21), 3) := by decide +kernel
theorem dX9_awayMany_28 : decode cX9_awayMany 28 = .ok (.iload_n 1, 1) := by decide +kernel
theorem dX9_awayMany_29 : decode cX9_awayMany 29 = .ok (.ireturn, 1) := by decide +kernel
theorem dX9_enters_0 : decode cX9_enters 0 = .ok (.aload_n 0, 1) := by decide +kernel
theorem dX9_enters_1 : decode cX9_enters 1 = .ok (.bipush 9, 2) := by decide +kernel
theorem dX9_enters_3 : decode cX9_enters 3 = .ok (.iaload, 1) := by decide +kernel
theorem dX9_enters_4 : decode cX9_enters 4 = .ok (.istore_n 3, 1) := by decide +kernel
theorem dX9_enters_5 : decode cX9_enters 5 = .ok (.aload_n 0, 1) := by decide +kernel
theorem dX9_enters_6 : decode cX9_enters 6 = .ok (.iload_n 3, 1) := by decide +kernel
theorem dX9_enters_7 : decode cX9_enters 7 = .ok (.iconst 0, 1) := by decide +kernel
theorem dX9_enters_8 : decode cX9_enters 8 = .ok (.invokestatic 81, 3) := by decide +kernel
theorem dX9_enters_11 : decode cX9_enters 11 = .ok (.aload_n 0, 1) := by decide +kernel
theorem dX9_enters_12 : decode cX9_enters 12 = .ok (.iconst 0, 1) := by decide +kernel
theorem dX9_enters_13 : decode cX9_enters 13 = .ok (.iaload, 1) := by decide +kernel
theorem dX9_enters_14 : decode cX9_enters 14 = .ok (.iastore, 1) := by decide +kernel
theorem dX9_enters_15 : decode cX9_enters 15 = .ok (.aload_n 0, 1) := by decide +kernel
theorem dX9_enters_16 : decode cX9_enters 16 = .ok (.iload_n 3, 1) := by decide +kernel
theorem dX9_enters_17 : decode cX9_enters 17 = .ok (.iconst 1, 1) := by decide +kernel
theorem dX9_enters_18 : decode cX9_enters 18 = .ok (.invokestatic 81, 3) := by decide +kernel
theorem dX9_enters_21 : decode cX9_enters 21 = .ok (.iload_n 1, 1) := by decide +kernel
theorem dX9_enters_22 : decode cX9_enters 22 = .ok (.iastore, 1) := by decide +kernel
theorem dX9_enters_23 : decode cX9_enters 23 = .ok (.aload_n 0, 1) := by decide +kernel
theorem dX9_enters_24 : decode cX9_enters 24 = .ok (.iload_n 3, 1) := by decide +kernel
theorem dX9_enters_25 : decode cX9_enters 25 = .ok (.iconst 2, 1) := by decide +kernel
theorem dX9_enters_26 : decode cX9_enters 26 = .ok (.invokestatic 81, 3) := by decide +kernel
theorem dX9_enters_29 : decode cX9_enters 29 = .ok (.iload_n 2, 1) := by decide +kernel
theorem dX9_enters_30 : decode cX9_enters 30 = .ok (.iastore, 1) := by decide +kernel
theorem dX9_enters_31 : decode cX9_enters 31 = .ok (.aload_n 0, 1) := by decide +kernel
theorem dX9_enters_32 : decode cX9_enters 32 = .ok (.bipush 9, 2) := by decide +kernel
theorem dX9_enters_34 : decode cX9_enters 34 = .ok (.dup2, 1) := by decide +kernel
theorem dX9_enters_35 : decode cX9_enters 35 = .ok (.iaload, 1) := by decide +kernel
theorem dX9_enters_36 : decode cX9_enters 36 = .ok (.iconst 1, 1) := by decide +kernel
theorem dX9_enters_37 : decode cX9_enters 37 = .ok (.iadd, 1) := by decide +kernel
theorem dX9_enters_38 : decode cX9_enters 38 = .ok (.iastore, 1) := by decide +kernel
theorem dX9_enters_39 : decode cX9_enters 39 = .ok (.return_, 1) := by decide +kernel
theorem dX9_yawnOf_0 : decode cX9_yawnOf 0 = .ok (.iconst 0, 1) := by decide +kernel
theorem dX9_yawnOf_1 : decode cX9_yawnOf 1 = .ok (.istore_n 1, 1) := by decide +kernel
theorem dX9_yawnOf_2 : decode cX9_yawnOf 2 = .ok (.aload_n 0, 1) := by decide +kernel
theorem dX9_yawnOf_3 : decode cX9_yawnOf 3 = .ok (.bipush 9, 2) := by decide +kernel
theorem dX9_yawnOf_5 : decode cX9_yawnOf 5 = .ok (.iaload, 1) := by decide +kernel
theorem dX9_yawnOf_6 : decode cX9_yawnOf 6 = .ok (.ifCond .le 16, 3) := by decide +kernel
theorem dX9_yawnOf_9 : decode cX9_yawnOf 9 = .ok (.aload_n 0, 1) := by decide +kernel
theorem dX9_yawnOf_10 : decode cX9_yawnOf 10 = .ok (.aload_n 0, 1) := by decide +kernel
theorem dX9_yawnOf_11 : decode cX9_yawnOf 11 = .ok (.bipush 9, 2) := by decide +kernel
theorem dX9_yawnOf_13 : decode cX9_yawnOf 13 = .ok (.iaload, 1) := by decide +kernel
theorem dX9_yawnOf_14 : decode cX9_yawnOf 14 = .ok (.iconst 1, 1) := by decide +kernel
theorem dX9_yawnOf_15 : decode cX9_yawnOf 15 = .ok (.isub, 1) := by decide +kernel
theorem dX9_yawnOf_16 : decode cX9_yawnOf 16 = .ok (.iconst 0, 1) := by decide +kernel
theorem dX9_yawnOf_17 : decode cX9_yawnOf 17 = .ok (.invokestatic 81, 3) := by decide +kernel
theorem dX9_yawnOf_20 : decode cX9_yawnOf 20 = .ok (.iaload, 1) := by decide +kernel
theorem dX9_yawnOf_21 : decode cX9_yawnOf 21 = .ok (.istore_n 1, 1) := by decide +kernel
theorem dX9_yawnOf_22 : decode cX9_yawnOf 22 = .ok (.bipush 9, 2) := by decide +kernel
theorem dX9_yawnOf_24 : decode cX9_yawnOf 24 = .ok (.aload_n 0, 1) := by decide +kernel
theorem dX9_yawnOf_25 : decode cX9_yawnOf 25 = .ok (.iconst 0, 1) := by decide +kernel
theorem dX9_yawnOf_26 : decode cX9_yawnOf 26 = .ok (.iaload, 1) := by decide +kernel
theorem dX9_yawnOf_27 : decode cX9_yawnOf 27 = .ok (.iload_n 1, 1) := by decide +kernel
theorem dX9_yawnOf_28 : decode cX9_yawnOf 28 = .ok (.isub, 1) := by decide +kernel
theorem dX9_yawnOf_29 : decode cX9_yawnOf 29 = .ok (.bipush 30, 2) := by decide +kernel
theorem dX9_yawnOf_31 : decode cX9_yawnOf 31 = .ok (.idiv, 1) := by decide +kernel
theorem dX9_yawnOf_32 : decode cX9_yawnOf 32 = .ok (.invokestatic 84, 3) := by decide +kernel
theorem dX9_yawnOf_35 : decode cX9_yawnOf 35 = .ok (.ireturn, 1) := by decide +kernel
theorem dX9_tipFrom_0 : decode cX9_tipFrom 0 = .ok (.aload_n 0, 1) := by decide +kernel
theorem dX9_tipFrom_1 : decode cX9_tipFrom 1 = .ok (.iload_n 1, 1) := by decide +kernel
theorem dX9_tipFrom_2 : decode cX9_tipFrom 2 = .ok (.iconst 1, 1) := by decide +kernel
theorem dX9_tipFrom_3 : decode cX9_tipFrom 3 = .ok (.invokestatic 59, 3) := by decide +kernel
theorem dX9_tipFrom_6 : decode cX9_tipFrom 6 = .ok (.iaload, 1) := by decide +kernel
theorem dX9_tipFrom_7 : decode cX9_tipFrom 7 = .ok (.aload_n 0, 1) := by decide +kernel
theorem dX9_tipFrom_8 : decode cX9_tipFrom 8 = .ok (.invokestatic 87, 3) := by decide +kernel
theorem dX9_tipFrom_11 : decode cX9_tipFrom 11 = .ok (.isub, 1) := by decide +kernel
theorem dX9_tipFrom_12 : decode cX9_tipFrom 12 = .ok (.istore_n 2, 1) := by decide +kernel
theorem dX9_tipFrom_13 : decode cX9_tipFrom 13 = .ok (.aload_n 0, 1) := by decide +kernel
theorem dX9_tipFrom_14 : decode cX9_tipFrom 14 = .ok (.iload_n 1, 1) := by decide +kernel
theorem dX9_tipFrom_15 : decode cX9_tipFrom 15 = .ok (.iconst 5, 1) := by decide +kernel
theorem dX9_tipFrom_16 : decode cX9_tipFrom 16 = .ok (.invokestatic 59, 3) := by decide +kernel
theorem dX9_tipFrom_19 : decode cX9_tipFrom 19 = .ok (.iaload, 1) := by decide +kernel
theorem dX9_tipFrom_20 : decode cX9_tipFrom 20 = .ok (.ifCond .eq 6, 3) := by decide +kernel
theorem dX9_tipFrom_23 : decode cX9_tipFrom 23 = .ok (.iinc 2 (-1), 3) := by decide +kernel
theorem dX9_tipFrom_26 : decode cX9_tipFrom 26 = .ok (.iconst 0, 1) := by decide +kernel
theorem dX9_tipFrom_27 : decode cX9_tipFrom 27 = .ok (.iload_n 2, 1) := by decide +kernel
theorem dX9_tipFrom_28 : decode cX9_tipFrom 28 = .ok (.invokestatic 90, 3) := by decide +kernel
theorem dX9_tipFrom_31 : decode cX9_tipFrom 31 = .ok (.ireturn, 1) := by decide +kernel
theorem dX9_leaves_0 : decode cX9_leaves 0 = .ok (.aload_n 0, 1) := by decide +kernel
theorem dX9_leaves_1 : decode cX9_leaves 1 = .ok (.iload_n 1, 1) := by decide +kernel
theorem dX9_leaves_2 : decode cX9_leaves 2 = .ok (.invokestatic 93, 3) := by decide +kernel
theorem dX9_leaves_5 : decode cX9_leaves 5 = .ok (.istore_n 2, 1) := by decide +kernel
theorem dX9_leaves_6 : decode cX9_leaves 6 = .ok (.iload_n 2, 1) := by decide +kernel
theorem dX9_leaves_7 : decode cX9_leaves 7 = .ok (.ifCond .lt 11, 3) := by decide +kernel
theorem dX9_leaves_10 : decode cX9_leaves 10 = .ok (.aload_n 0, 1) := by decide +kernel
theorem dX9_leaves_11 : decode cX9_leaves 11 = .ok (.iload_n 2, 1) := by decide +kernel
theorem dX9_leaves_12 : decode cX9_leaves 12 = .ok (.iconst 2, 1) := by decide +kernel
theorem dX9_leaves_13 : decode cX9_leaves 13 = .ok (.invokestatic 63, 3) := by decide +kernel
theorem dX9_leaves_16 : decode cX9_leaves 16 = .ok (.iload_n 1, 1) := by decide +kernel
theorem dX9_leaves_17 : decode cX9_leaves 17 = .ok (.iastore, 1) := by decide +kernel
theorem dX9_leaves_18 : decode cX9_leaves 18 = .ok (.aload_n 0, 1) := by decide +kernel
theorem dX9_leaves_19 : decode cX9_leaves 19 = .ok (.iload_n 1, 1) := by decide +kernel
theorem dX9_leaves_20 : decode cX9_leaves 20 = .ok (.iconst 5, 1) := by decide +kernel
theorem dX9_leaves_21 : decode cX9_leaves 21 = .ok (.invokestatic 59, 3) := by decide +kernel
theorem dX9_leaves_24 : decode cX9_leaves 24 = .ok (.iconst 0, 1) := by decide +kernel
theorem dX9_leaves_25 : decode cX9_leaves 25 = .ok (.iastore, 1) := by decide +kernel
theorem dX9_leaves_26 : decode cX9_leaves 26 = .ok (.aload_n 0, 1) := by decide +kernel
theorem dX9_leaves_27 : decode cX9_leaves 27 = .ok (.iload_n 1, 1) := by decide +kernel
theorem dX9_leaves_28 : decode cX9_leaves 28 = .ok (.iconst 3, 1) := by decide +kernel
theorem dX9_leaves_29 : decode cX9_leaves 29 = .ok (.invokestatic 59, 3) := by decide +kernel
theorem dX9_leaves_32 : decode cX9_leaves 32 = .ok (.iconst 1, 1) := by decide +kernel
theorem dX9_leaves_33 : decode cX9_leaves 33 = .ok (.iastore, 1) := by decide +kernel
theorem dX9_leaves_34 : decode cX9_leaves 34 = .ok (.aload_n 0, 1) := by decide +kernel
theorem dX9_leaves_35 : decode cX9_leaves 35 = .ok (.iload_n 1, 1) := by decide +kernel
theorem dX9_leaves_36 : decode cX9_leaves 36 = .ok (.iconst 4, 1) := by decide +kernel
theorem dX9_leaves_37 : decode cX9_leaves 37 = .ok (.invokestatic 59, 3) := by decide +kernel
theorem dX9_leaves_40 : decode cX9_leaves 40 = .ok (.aload_n 0, 1) := by decide +kernel
theorem dX9_leaves_41 : decode cX9_leaves 41 = .ok (.iconst 0, 1) := by decide +kernel
theorem dX9_leaves_42 : decode cX9_leaves 42 = .ok (.iaload, 1) := by decide +kernel
theorem dX9_leaves_43 : decode cX9_leaves 43 = .ok (.iastore, 1) := by decide +kernel
theorem dX9_leaves_44 : decode cX9_leaves 44 = .ok (.aload_n 0, 1) := by decide +kernel
theorem dX9_leaves_45 : decode cX9_leaves 45 = .ok (.iload_n 1, 1) := by decide +kernel
theorem dX9_leaves_46 : decode cX9_leaves 46 = .ok (.iconst 1, 1) := by decide +kernel
theorem dX9_leaves_47 : decode cX9_leaves 47 = .ok (.invokestatic 96, 3) := by decide +kernel
theorem dX9_leaves_50 : decode cX9_leaves 50 = .ok (.aload_n 0, 1) := by decide +kernel
theorem dX9_leaves_51 : decode cX9_leaves 51 = .ok (.invokestatic 100, 3) := by decide +kernel
theorem dX9_leaves_54 : decode cX9_leaves 54 = .ok (.ireturn, 1) := by decide +kernel
theorem dX9_returns_0 : decode cX9_returns 0 = .ok (.aload_n 0, 1) := by decide +kernel
theorem dX9_returns_1 : decode cX9_returns 1 = .ok (.iload_n 1, 1) := by decide +kernel
theorem dX9_returns_2 : decode cX9_returns 2 = .ok (.invokestatic 103, 3) := by decide +kernel
theorem dX9_returns_5 : decode cX9_returns 5 = .ok (.istore_n 2, 1) := by decide +kernel
theorem dX9_returns_6 : decode cX9_returns 6 = .ok (.aload_n 0, 1) := by decide +kernel
theorem dX9_returns_7 : decode cX9_returns 7 = .ok (.iload_n 1, 1) := by decide +kernel
theorem dX9_returns_8 : decode cX9_returns 8 = .ok (.invokestatic 106, 3) := by decide +kernel
theorem dX9_returns_11 : decode cX9_returns 11 = .ok (.istore_n 3, 1) := by decide +kernel
theorem dX9_returns_12 : decode cX9_returns 12 = .ok (.iload_n 3, 1) := by decide +kernel
theorem dX9_returns_13 : decode cX9_returns 13 = .ok (.ifCond .lt 11, 3) := by decide +kernel
theorem dX9_returns_16 : decode cX9_returns 16 = .ok (.aload_n 0, 1) := by decide +kernel
theorem dX9_returns_17 : decode cX9_returns 17 = .ok (.iload_n 3, 1) := by decide +kernel
theorem dX9_returns_18 : decode cX9_returns 18 = .ok (.iconst 2, 1) := by decide +kernel
theorem dX9_returns_19 : decode cX9_returns 19 = .ok (.invokestatic 63, 3) := by decide +kernel
theorem dX9_returns_22 : decode cX9_returns 22 = .ok (.iconst (-1), 1) := by decide +kernel
theorem dX9_returns_23 : decode cX9_returns 23 = .ok (.iastore, 1) := by decide +kernel
theorem dX9_returns_24 : decode cX9_returns 24 = .ok (.aload_n 0, 1) := by decide +kernel
theorem dX9_returns_25 : decode cX9_returns 25 = .ok (.bipush 6, 2) := by decide +kernel
theorem dX9_returns_27 : decode cX9_returns 27 = .ok (.dup2, 1) := by decide +kernel
theorem dX9_returns_28 : decode cX9_returns 28 = .ok (.iaload, 1) := by decide +kernel
theorem dX9_returns_29 : decode cX9_returns 29 = .ok (.iload_n 2, 1) := by decide +kernel
theorem dX9_returns_30 : decode cX9_returns 30 = .ok (.iadd, 1) := by decide +kernel
theorem dX9_returns_31 : decode cX9_returns 31 = .ok (.iastore, 1) := by decide +kernel
theorem dX9_returns_32 : decode cX9_returns 32 = .ok (.aload_n 0, 1) := by decide +kernel
theorem dX9_returns_33 : decode cX9_returns 33 = .ok (.iload_n 1, 1) := by decide +kernel
theorem dX9_returns_34 : decode cX9_returns 34 = .ok (.iconst 3, 1) := by decide +kernel
theorem dX9_returns_35 : decode cX9_returns 35 = .ok (.invokestatic 59, 3) := by decide +kernel
theorem dX9_returns_38 : decode cX9_returns 38 = .ok (.iconst 0, 1) := by decide +kernel
theorem dX9_returns_39 : decode cX9_returns 39 = .ok (.iastore, 1) := by decide +kernel
theorem dX9_returns_40 : decode cX9_returns 40 = .ok (.aload_n 0, 1) := by decide +kernel
theorem dX9_returns_41 : decode cX9_returns 41 = .ok (.iload_n 1, 1) := by decide +kernel
theorem dX9_returns_42 : decode cX9_returns 42 = .ok (.iconst 0, 1) := by decide +kernel
theorem dX9_returns_43 : decode cX9_returns 43 = .ok (.invokestatic 96, 3) := by decide +kernel
theorem dX9_returns_46 : decode cX9_returns 46 = .ok (.iload_n 2, 1) := by decide +kernel
theorem dX9_returns_47 : decode cX9_returns 47 = .ok (.ireturn, 1) := by decide +kernel
theorem dX9_barksAt_0 : decode cX9_barksAt 0 = .ok (.aload_n 0, 1) := by decide +kernel
theorem dX9_barksAt_1 : decode cX9_barksAt 1 = .ok (.iload_n 1, 1) := by decide +kernel
theorem dX9_barksAt_2 : decode cX9_barksAt 2 = .ok (.invokestatic 109, 3) := by decide +kernel
theorem dX9_barksAt_5 : decode cX9_barksAt 5 = .ok (.ifCond .ne 5, 3) := by decide +kernel
theorem dX9_barksAt_8 : decode cX9_barksAt 8 = .ok (.iconst 0, 1) := by decide +kernel
theorem dX9_barksAt_9 : decode cX9_barksAt 9 = .ok (.ireturn, 1) := by decide +kernel
theorem dX9_barksAt_10 : decode cX9_barksAt 10 = .ok (.aload_n 0, 1) := by decide +kernel
theorem dX9_barksAt_11 : decode cX9_barksAt 11 = .ok (.iload_n 1, 1) := by decide +kernel
theorem dX9_barksAt_12 : decode cX9_barksAt 12 = .ok (.iconst 2, 1) := by decide +kernel
theorem dX9_barksAt_13 : decode cX9_barksAt 13 = .ok (.invokestatic 59, 3) := by decide +kernel
theorem dX9_barksAt_16 : decode cX9_barksAt 16 = .ok (.iaload, 1) := by decide +kernel
theorem dX9_barksAt_17 : decode cX9_barksAt 17 = .ok (.ifCond .ne 5, 3) := by decide +kernel
theorem dX9_barksAt_20 : decode cX9_barksAt 20 = .ok (.iconst 0, 1) := by decide +kernel
theorem dX9_barksAt_21 : decode cX9_barksAt 21 = .ok (.ireturn, 1) := by decide +kernel
theorem dX9_barksAt_22 : decode cX9_barksAt 22 = .ok (.iload_n 2, 1) := by decide +kernel
theorem dX9_barksAt_23 : decode cX9_barksAt 23 = .ok (.aload_n 0, 1) := by decide +kernel
theorem dX9_barksAt_24 : decode cX9_barksAt 24 = .ok (.iload_n 1, 1) := by decide +kernel
theorem dX9_barksAt_25 : decode cX9_barksAt 25 = .ok (.iconst 4, 1) := by decide +kernel
theorem dX9_barksAt_26 : decode cX9_barksAt 26 = .ok (.invokestatic 59, 3) := by decide +kernel
theorem dX9_barksAt_29 : decode cX9_barksAt 29 = .ok (.iaload, 1) := by decide +kernel
theorem dX9_barksAt_30 : decode cX9_barksAt 30 = .ok (.isub, 1) := by decide +kernel
theorem dX9_barksAt_31 : decode cX9_barksAt 31 = .ok (.bipush 10, 2) := by decide +kernel
theorem dX9_barksAt_33 : decode cX9_barksAt 33 = .ok (.if_icmp .gt 5, 3) := by decide +kernel
theorem dX9_barksAt_36 : decode cX9_barksAt 36 = .ok (.iconst 0, 1) := by decide +kernel
theorem dX9_barksAt_37 : decode cX9_barksAt 37 = .ok (.ireturn, 1) := by decide +kernel
theorem dX9_barksAt_38 : decode cX9_barksAt 38 = .ok (.aload_n 0, 1) := by decide +kernel
theorem dX9_barksAt_39 : decode cX9_barksAt 39 = .ok (.iload_n 1, 1) := by decide +kernel
theorem dX9_barksAt_40 : decode cX9_barksAt 40 = .ok (.bipush 6, 2) := by decide +kernel
theorem dX9_barksAt_42 : decode cX9_barksAt 42 = .ok (.invokestatic 59, 3) := by decide +kernel
theorem dX9_barksAt_45 : decode cX9_barksAt 45 = .ok (.iaload, 1) := by decide +kernel
theorem dX9_barksAt_46 : decode cX9_barksAt 46 = .ok (.istore_n 3, 1) := by decide +kernel
theorem dX9_barksAt_47 : decode cX9_barksAt 47 = .ok (.iload_n 3, 1) := by decide +kernel
theorem dX9_barksAt_48 : decode cX9_barksAt 48 = .ok (.ifCond .lt 11, 3) := by decide +kernel
theorem dX9_barksAt_51 : decode cX9_barksAt 51 = .ok (.iload_n 2, 1) := by decide +kernel
theorem dX9_barksAt_52 : decode cX9_barksAt 52 = .ok (.iload_n 3, 1) := by decide +kernel
theorem dX9_barksAt_53 : decode cX9_barksAt 53 = .ok (.isub, 1) := by decide +kernel
theorem dX9_barksAt_54 : decode cX9_barksAt 54 = .ok (.bipush 60, 2) := by decide +kernel
theorem dX9_barksAt_56 : decode cX9_barksAt 56 = .ok (.if_icmp .lt 7, 3) := by decide +kernel
theorem dX9_barksAt_59 : decode cX9_barksAt 59 = .ok (.iconst 1, 1) := by decide +kernel
theorem dX9_barksAt_60 : decode cX9_barksAt 60 = .ok (.goto 4, 3) := by decide +kernel
theorem dX9_barksAt_63 : decode cX9_barksAt 63 = .ok (.iconst 0, 1) := by decide +kernel
theorem dX9_barksAt_64 : decode cX9_barksAt 64 = .ok (.ireturn, 1) := by decide +kernel
theorem dX9_wets_0 : decode cX9_wets 0 = .ok (.iload_n 1, 1) := by decide +kernel
theorem dX9_wets_1 : decode cX9_wets 1 = .ok (.iconst 1, 1) := by decide +kernel
theorem dX9_wets_2 : decode cX9_wets 2 = .ok (.invokestatic 63, 3) := by decide +kernel
theorem dX9_wets_5 : decode cX9_wets 5 = .ok (.istore_n 2, 1) := by decide +kernel
theorem dX9_wets_6 : decode cX9_wets 6 = .ok (.aload_n 0, 1) := by decide +kernel
theorem dX9_wets_7 : decode cX9_wets 7 = .ok (.iload_n 1, 1) := by decide +kernel
theorem dX9_wets_8 : decode cX9_wets 8 = .ok (.invokestatic 66, 3) := by decide +kernel
theorem dX9_wets_11 : decode cX9_wets 11 = .ok (.ifCond .ne 21, 3) := by decide +kernel
theorem dX9_wets_14 : decode cX9_wets 14 = .ok (.aload_n 0, 1) := by decide +kernel
theorem dX9_wets_15 : decode cX9_wets 15 = .ok (.iload_n 2, 1) := by decide +kernel
theorem dX9_wets_16 : decode cX9_wets 16 = .ok (.bipush 99, 2) := by decide +kernel
theorem dX9_wets_18 : decode cX9_wets 18 = .ok (.aload_n 0, 1) := by decide +kernel
theorem dX9_wets_19 : decode cX9_wets 19 = .ok (.iload_n 2, 1) := by decide +kernel
theorem dX9_wets_20 : decode cX9_wets 20 = .ok (.iaload, 1) := by decide +kernel
theorem dX9_wets_21 : decode cX9_wets 21 = .ok (.aload_n 0, 1) := by decide +kernel
theorem dX9_wets_22 : decode cX9_wets 22 = .ok (.iconst 1, 1) := by decide +kernel
theorem dX9_wets_23 : decode cX9_wets 23 = .ok (.iaload, 1) := by decide +kernel
theorem dX9_wets_24 : decode cX9_wets 24 = .ok (.iadd, 1) := by decide +kernel
theorem dX9_wets_25 : decode cX9_wets 25 = .ok (.invokestatic 84, 3) := by decide +kernel
theorem dX9_wets_28 : decode cX9_wets 28 = .ok (.iastore, 1) := by decide +kernel
theorem dX9_wets_29 : decode cX9_wets 29 = .ok (.goto 23, 3) := by decide +kernel
theorem dX9_wets_32 : decode cX9_wets 32 = .ok (.aload_n 0, 1) := by decide +kernel
theorem dX9_wets_33 : decode cX9_wets 33 = .ok (.iload_n 2, 1) := by decide +kernel
theorem dX9_wets_34 : decode cX9_wets 34 = .ok (.iaload, 1) := by decide +kernel
theorem dX9_wets_35 : decode cX9_wets 35 = .ok (.ifCond .le 17, 3) := by decide +kernel
theorem dX9_wets_38 : decode cX9_wets 38 = .ok (.aload_n 0, 1) := by decide +kernel
theorem dX9_wets_39 : decode cX9_wets 39 = .ok (.iload_n 2, 1) := by decide +kernel
theorem dX9_wets_40 : decode cX9_wets 40 = .ok (.dup2, 1) := by decide +kernel
theorem dX9_wets_41 : decode cX9_wets 41 = .ok (.iaload, 1) := by decide +kernel
theorem dX9_wets_42 : decode cX9_wets 42 = .ok (.iconst 1, 1) := by decide +kernel
theorem dX9_wets_43 : decode cX9_wets 43 = .ok (.isub, 1) := by decide +kernel
theorem dX9_wets_44 : decode cX9_wets 44 = .ok (.iastore, 1) := by decide +kernel
theorem dX9_wets_45 : decode cX9_wets 45 = .ok (.aload_n 0, 1) := by decide +kernel
theorem dX9_wets_46 : decode cX9_wets 46 = .ok (.iconst 5, 1) := by decide +kernel
theorem dX9_wets_47 : decode cX9_wets 47 = .ok (.dup2, 1) := by decide +kernel
theorem dX9_wets_48 : decode cX9_wets 48 = .ok (.iaload, 1) := by decide +kernel
theorem dX9_wets_49 : decode cX9_wets 49 = .ok (.iconst 1, 1) := by decide +kernel
theorem dX9_wets_50 : decode cX9_wets 50 = .ok (.iadd, 1) := by decide +kernel
theorem dX9_wets_51 : decode cX9_wets 51 = .ok (.iastore, 1) := by decide +kernel
theorem dX9_wets_52 : decode cX9_wets 52 = .ok (.return_, 1) := by decide +kernel
theorem dX9_passesFor_0 : decode cX9_passesFor 0 = .ok (.aload_n 0, 1) := by decide +kernel
theorem dX9_passesFor_1 : decode cX9_passesFor 1 = .ok (.iload_n 1, 1) := by decide +kernel
theorem dX9_passesFor_2 : decode cX9_passesFor 2 = .ok (.invokestatic 109, 3) := by decide +kernel
theorem dX9_passesFor_5 : decode cX9_passesFor 5 = .ok (.ifCond .ne 4, 3) := by decide +kernel
theorem dX9_passesFor_8 : decode cX9_passesFor 8 = .ok (.return_, 1) := by decide +kernel
theorem dX9_passesFor_9 : decode cX9_passesFor 9 = .ok (.iload_n 1, 1) := by decide +kernel
theorem dX9_passesFor_10 : decode cX9_passesFor 10 = .ok (.iconst 5, 1) := by decide +kernel
theorem dX9_passesFor_11 : decode cX9_passesFor 11 = .ok (.invokestatic 59, 3) := by decide +kernel
theorem dX9_passesFor_14 : decode cX9_passesFor 14 = .ok (.istore_n 2, 1) := by decide +kernel
theorem dX9_passesFor_15 : decode cX9_passesFor 15 = .ok (.aload_n 0, 1) := by decide +kernel
theorem dX9_passesFor_16 : decode cX9_passesFor 16 = .ok (.iload_n 1, 1) := by decide +kernel
theorem dX9_passesFor_17 : decode cX9_passesFor 17 = .ok (.invokestatic 106, 3) := by decide +kernel
theorem dX9_passesFor_20 : decode cX9_passesFor 20 = .ok (.ifCond .ge 19, 3) := by decide +kernel
theorem dX9_passesFor_23 : decode cX9_passesFor 23 = .ok (.aload_n 0, 1) := by decide +kernel
theorem dX9_passesFor_24 : decode cX9_passesFor 24 = .ok (.iload_n 2, 1) := by decide +kernel
theorem dX9_passesFor_25 : decode cX9_passesFor 25 = .ok (.sipush 999, 3) := by decide +kernel
theorem dX9_passesFor_28 : decode cX9_passesFor 28 = .ok (.aload_n 0, 1) := by decide +kernel
theorem dX9_passesFor_29 : decode cX9_passesFor 29 = .ok (.iload_n 2, 1) := by decide +kernel
theorem dX9_passesFor_30 : decode cX9_passesFor 30 = .ok (.iaload, 1) := by decide +kernel
theorem dX9_passesFor_31 : decode cX9_passesFor 31 = .ok (.aload_n 0, 1) := by decide +kernel
theorem dX9_passesFor_32 : decode cX9_passesFor 32 = .ok (.iconst 1, 1) := by decide +kernel
theorem dX9_passesFor_33 : decode cX9_passesFor 33 = .ok (.iaload, 1) := by decide +kernel
theorem dX9_passesFor_34 : decode cX9_passesFor 34 = .ok (.iadd, 1) := by decide +kernel
theorem dX9_passesFor_35 : decode cX9_passesFor 35 = .ok (.invokestatic 84, 3) := by decide +kernel
theorem dX9_passesFor_38 : decode cX9_passesFor 38 = .ok (.iastore, 1) := by decide +kernel
theorem dX9_passesFor_39 : decode cX9_passesFor 39 = .ok (.aload_n 0, 1) := by decide +kernel
theorem dX9_passesFor_40 : decode cX9_passesFor 40 = .ok (.iload_n 1, 1) := by decide +kernel
theorem dX9_passesFor_41 : decode cX9_passesFor 41 = .ok (.aload_n 0, 1) := by decide +kernel
theorem dX9_passesFor_42 : decode cX9_passesFor 42 = .ok (.iconst 0, 1) := by decide +kernel
theorem dX9_passesFor_43 : decode cX9_passesFor 43 = .ok (.iaload, 1) := by decide +kernel
theorem dX9_passesFor_44 : decode cX9_passesFor 44 = .ok (.invokestatic 112, 3) := by decide +kernel
theorem dX9_passesFor_47 : decode cX9_passesFor 47 = .ok (.ifCond .eq 16, 3) := by decide +kernel
theorem dX9_passesFor_50 : decode cX9_passesFor 50 = .ok (.aload_n 0, 1) := by decide +kernel
theorem dX9_passesFor_51 : decode cX9_passesFor 51 = .ok (.iconst 3, 1) := by decide +kernel
theorem dX9_passesFor_52 : decode cX9_passesFor 52 = .ok (.dup2, 1) := by decide +kernel
theorem dX9_passesFor_53 : decode cX9_passesFor 53 = .ok (.iaload, 1) := by decide +kernel
theorem dX9_passesFor_54 : decode cX9_passesFor 54 = .ok (.aload_n 0, 1) := by decide +kernel
theorem dX9_passesFor_55 : decode cX9_passesFor 55 = .ok (.iload_n 1, 1) := by decide +kernel
theorem dX9_passesFor_56 : decode cX9_passesFor 56 = .ok (.iconst 2, 1) := by decide +kernel
theorem dX9_passesFor_57 : decode cX9_passesFor 57 = .ok (.invokestatic 59, 3) := by decide +kernel
theorem dX9_passesFor_60 : decode cX9_passesFor 60 = .ok (.iaload, 1) := by decide +kernel
theorem dX9_passesFor_61 : decode cX9_passesFor 61 = .ok (.iadd, 1) := by decide +kernel
theorem dX9_passesFor_62 : decode cX9_passesFor 62 = .ok (.iastore, 1) := by decide +kernel
theorem dX9_passesFor_63 : decode cX9_passesFor 63 = .ok (.return_, 1) := by decide +kernel
theorem dX9_passes_0 : decode cX9_passes 0 = .ok (.aload_n 0, 1) := by decide +kernel
theorem dX9_passes_1 : decode cX9_passes 1 = .ok (.iconst 0, 1) := by decide +kernel
theorem dX9_passes_2 : decode cX9_passes 2 = .ok (.dup2, 1) := by decide +kernel
theorem dX9_passes_3 : decode cX9_passes 3 = .ok (.iaload, 1) := by decide +kernel
theorem dX9_passes_4 : decode cX9_passes 4 = .ok (.iconst 1, 1) := by decide +kernel
theorem dX9_passes_5 : decode cX9_passes 5 = .ok (.iadd, 1) := by decide +kernel
theorem dX9_passes_6 : decode cX9_passes 6 = .ok (.iastore, 1) := by decide +kernel
theorem dX9_passes_7 : decode cX9_passes 7 = .ok (.iconst 0, 1) := by decide +kernel
theorem dX9_passes_8 : decode cX9_passes 8 = .ok (.istore_n 1, 1) := by decide +kernel
theorem dX9_passes_9 : decode cX9_passes 9 = .ok (.iload_n 1, 1) := by decide +kernel
theorem dX9_passes_10 : decode cX9_passes 10 = .ok (.aload_n 0, 1) := by decide +kernel
theorem dX9_passes_11 : decode cX9_passes 11 = .ok (.bipush 8, 2) := by decide +kernel
theorem dX9_passes_13 : decode cX9_passes 13 = .ok (.iaload, 1) := by decide +kernel
theorem dX9_passes_14 : decode cX9_passes 14 = .ok (.if_icmp .ge 14, 3) := by decide +kernel
theorem dX9_passes_17 : decode cX9_passes 17 = .ok (.aload_n 0, 1) := by decide +kernel
theorem dX9_passes_18 : decode cX9_passes 18 = .ok (.iload_n 1, 1) := by decide +kernel
theorem dX9_passes_19 : decode cX9_passes 19 = .ok (.invokestatic 116, 3) := by decide +kernel
theorem dX9_passes_22 : decode cX9_passes 22 = .ok (.iinc 1 1, 3) := by decide +kernel
theorem dX9_passes_25 : decode cX9_passes 25 = .ok (.goto (-16), 3) := by decide +kernel
theorem dX9_passes_28 : decode cX9_passes 28 = .ok (.iconst 0, 1) := by decide +kernel
theorem dX9_passes_29 : decode cX9_passes 29 = .ok (.istore_n 1, 1) := by decide +kernel
theorem dX9_passes_30 : decode cX9_passes 30 = .ok (.iload_n 1, 1) := by decide +kernel
theorem dX9_passes_31 : decode cX9_passes 31 = .ok (.aload_n 0, 1) := by decide +kernel
theorem dX9_passes_32 : decode cX9_passes 32 = .ok (.bipush 7, 2) := by decide +kernel
theorem dX9_passes_34 : decode cX9_passes 34 = .ok (.iaload, 1) := by decide +kernel
theorem dX9_passes_35 : decode cX9_passes 35 = .ok (.if_icmp .ge 14, 3) := by decide +kernel
theorem dX9_passes_38 : decode cX9_passes 38 = .ok (.aload_n 0, 1) := by decide +kernel
theorem dX9_passes_39 : decode cX9_passes 39 = .ok (.iload_n 1, 1) := by decide +kernel
theorem dX9_passes_40 : decode cX9_passes 40 = .ok (.invokestatic 120, 3) := by decide +kernel
theorem dX9_passes_43 : decode cX9_passes 43 = .ok (.iinc 1 1, 3) := by decide +kernel
theorem dX9_passes_46 : decode cX9_passes 46 = .ok (.goto (-16), 3) := by decide +kernel
theorem dX9_passes_49 : decode cX9_passes 49 = .ok (.aload_n 0, 1) := by decide +kernel
theorem dX9_passes_50 : decode cX9_passes 50 = .ok (.iconst 0, 1) := by decide +kernel
theorem dX9_passes_51 : decode cX9_passes 51 = .ok (.iaload, 1) := by decide +kernel
theorem dX9_passes_52 : decode cX9_passes 52 = .ok (.bipush 60, 2) := by decide +kernel
theorem dX9_passes_54 : decode cX9_passes 54 = .ok (.irem, 1) := by decide +kernel
theorem dX9_passes_55 : decode cX9_passes 55 = .ok (.ifCond .eq 4, 3) := by decide +kernel
theorem dX9_passes_58 : decode cX9_passes 58 = .ok (.return_, 1) := by decide +kernel
theorem dX9_passes_59 : decode cX9_passes 59 = .ok (.aload_n 0, 1) := by decide +kernel
theorem dX9_passes_60 : decode cX9_passes 60 = .ok (.iconst 3, 1) := by decide +kernel
theorem dX9_passes_61 : decode cX9_passes 61 = .ok (.iaload, 1) := by decide +kernel
theorem dX9_passes_62 : decode cX9_passes 62 = .ok (.aload_n 0, 1) := by decide +kernel
theorem dX9_passes_63 : decode cX9_passes 63 = .ok (.iconst 2, 1) := by decide +kernel
theorem dX9_passes_64 : decode cX9_passes 64 = .ok (.iaload, 1) := by decide +kernel
theorem dX9_passes_65 : decode cX9_passes 65 = .ok (.if_icmp .le 10, 3) := by decide +kernel
theorem dX9_passes_68 : decode cX9_passes 68 = .ok (.aload_n 0, 1) := by decide +kernel
theorem dX9_passes_69 : decode cX9_passes 69 = .ok (.iconst 4, 1) := by decide +kernel
theorem dX9_passes_70 : decode cX9_passes 70 = .ok (.dup2, 1) := by decide +kernel
theorem dX9_passes_71 : decode cX9_passes 71 = .ok (.iaload, 1) := by decide +kernel
theorem dX9_passes_72 : decode cX9_passes 72 = .ok (.iconst 1, 1) := by decide +kernel
theorem dX9_passes_73 : decode cX9_passes 73 = .ok (.iadd, 1) := by decide +kernel
theorem dX9_passes_74 : decode cX9_passes 74 = .ok (.iastore, 1) := by decide +kernel
theorem dX9_passes_75 : decode cX9_passes 75 = .ok (.aload_n 0, 1) := by decide +kernel
theorem dX9_passes_76 : decode cX9_passes 76 = .ok (.iconst 3, 1) := by decide +kernel
theorem dX9_passes_77 : decode cX9_passes 77 = .ok (.iconst 0, 1) := by decide +kernel
theorem dX9_passes_78 : decode cX9_passes 78 = .ok (.iastore, 1) := by decide +kernel
theorem dX9_passes_79 : decode cX9_passes 79 = .ok (.return_, 1) := by decide +kernel
theorem dX9_overlap_0 : decode cX9_overlap 0 = .ok (.iconst 0, 1) := by decide +kernel
theorem dX9_overlap_1 : decode cX9_overlap 1 = .ok (.iload_n 1, 1) := by decide +kernel
theorem dX9_overlap_2 : decode cX9_overlap 2 = .ok (.iload_n 3, 1) := by decide +kernel
theorem dX9_overlap_3 : decode cX9_overlap 3 = .ok (.invokestatic 84, 3) := by decide +kernel
theorem dX9_overlap_6 : decode cX9_overlap 6 = .ok (.iload_n 0, 1) := by decide +kernel
theorem dX9_overlap_7 : decode cX9_overlap 7 = .ok (.iload_n 2, 1) := by decide +kernel
theorem dX9_overlap_8 : decode cX9_overlap 8 = .ok (.invokestatic 90, 3) := by decide +kernel
theorem dX9_overlap_11 : decode cX9_overlap 11 = .ok (.isub, 1) := by decide +kernel
theorem dX9_overlap_12 : decode cX9_overlap 12 = .ok (.iconst 1, 1) := by decide +kernel
theorem dX9_overlap_13 : decode cX9_overlap 13 = .ok (.iadd, 1) := by decide +kernel
theorem dX9_overlap_14 : decode cX9_overlap 14 = .ok (.invokestatic 90, 3) := by decide +kernel
theorem dX9_overlap_17 : decode cX9_overlap 17 = .ok (.ireturn, 1) := by decide +kernel
theorem dX9_outBetween_0 : decode cX9_outBetween 0 = .ok (.iconst 0, 1) := by decide +kernel
theorem dX9_outBetween_1 : decode cX9_outBetween 1 = .ok (.istore 4, 2) := by decide +kernel
theorem dX9_outBetween_3 : decode cX9_outBetween 3 = .ok (.iconst (-1), 1) := by decide +kernel
theorem dX9_outBetween_4 : decode cX9_outBetween 4 = .ok (.istore 5, 2) := by decide +kernel
theorem dX9_outBetween_6 : decode cX9_outBetween 6 = .ok (.iconst 0, 1) := by decide +kernel
theorem dX9_outBetween_7 : decode cX9_outBetween 7 = .ok (.istore 6, 2) := by decide +kernel
theorem dX9_outBetween_9 : decode cX9_outBetween 9 = .ok (.iload 6, 2) := by decide +kernel
theorem dX9_outBetween_11 : decode cX9_outBetween 11 = .ok (.aload_n 0, 1) := by decide +kernel
theorem dX9_outBetween_12 : decode cX9_outBetween 12 = .ok (.bipush 9, 2) := by decide +kernel
theorem dX9_outBetween_14 : decode cX9_outBetween 14 = .ok (.iaload, 1) := by decide +kernel
theorem dX9_outBetween_15 : decode cX9_outBetween 15 = .ok (.if_icmp .ge 72, 3) := by decide +kernel
theorem dX9_outBetween_18 : decode cX9_outBetween 18 = .ok (.aload_n 0, 1) := by decide +kernel
theorem dX9_outBetween_19 : decode cX9_outBetween 19 = .ok (.iload 6, 2) := by decide +kernel
theorem dX9_outBetween_21 : decode cX9_outBetween 21 = .ok (.iconst 1, 1) := by decide +kernel
theorem dX9_outBetween_22 : decode cX9_outBetween 22 = .ok (.invokestatic 81, 3) := by decide +kernel
theorem dX9_outBetween_25 : decode cX9_outBetween 25 = .ok (.iaload, 1) := by decide +kernel
theorem dX9_outBetween_26 : decode cX9_outBetween 26 = .ok (.iload_n 1, 1) := by decide +kernel
theorem dX9_outBetween_27 : decode cX9_outBetween 27 = .ok (.if_icmp .eq 6, 3) := by decide +kernel
theorem dX9_outBetween_30 : decode cX9_outBetween 30 = .ok (.goto 51, 3) := by decide +kernel
theorem dX9_outBetween_33 : decode cX9_outBetween 33 = .ok (.aload_n 0, 1) := by decide +kernel
theorem dX9_outBetween_34 : decode cX9_outBetween 34 = .ok (.iload 6, 2) := by decide +kernel
theorem dX9_outBetween_36 : decode cX9_outBetween 36 = .ok (.iconst 0, 1) := by decide +kernel
theorem dX9_outBetween_37 : decode cX9_outBetween 37 = .ok (.invokestatic 81, 3) := by decide +kernel
theorem dX9_outBetween_40 : decode cX9_outBetween 40 = .ok (.iaload, 1) := by decide +kernel
theorem dX9_outBetween_41 : decode cX9_outBetween 41 = .ok (.istore 7, 2) := by decide +kernel
theorem dX9_outBetween_43 : decode cX9_outBetween 43 = .ok (.aload_n 0, 1) := by decide +kernel
theorem dX9_outBetween_44 : decode cX9_outBetween 44 = .ok (.iload 6, 2) := by decide +kernel
theorem dX9_outBetween_46 : decode cX9_outBetween 46 = .ok (.iconst 2, 1) := by decide +kernel
theorem dX9_outBetween_47 : decode cX9_outBetween 47 = .ok (.invokestatic 81, 3) := by decide +kernel
theorem dX9_outBetween_50 : decode cX9_outBetween 50 = .ok (.iaload, 1) := by decide +kernel
theorem dX9_outBetween_51 : decode cX9_outBetween 51 = .ok (.iconst 1, 1) := by decide +kernel
theorem dX9_outBetween_52 : decode cX9_outBetween 52 = .ok (.if_icmp .ne 10, 3) := by decide +kernel
theorem dX9_outBetween_55 : decode cX9_outBetween 55 = .ok (.iload 7, 2) := by decide +kernel
theorem dX9_outBetween_57 : decode cX9_outBetween 57 = .ok (.istore 5, 2) := by decide +kernel
theorem dX9_outBetween_59 : decode cX9_outBetween 59 = .ok (.goto 22, 3) := by decide +kernel
theorem dX9_outBetween_62 : decode cX9_outBetween 62 = .ok (.iload 4, 2) := by decide +kernel
theorem dX9_outBetween_64 : decode cX9_outBetween 64 = .ok (.iload 5, 2) := by decide +kernel
theorem dX9_outBetween_66 : decode cX9_outBetween 66 = .ok (.iload 7, 2) := by decide +kernel
theorem dX9_outBetween_68 : decode cX9_outBetween 68 = .ok (.iconst 1, 1) := by decide +kernel
theorem dX9_outBetween_69 : decode cX9_outBetween 69 = .ok (.isub, 1) := by decide +kernel
theorem dX9_outBetween_70 : decode cX9_outBetween 70 = .ok (.iload_n 2, 1) := by decide +kernel
theorem dX9_outBetween_71 : decode cX9_outBetween 71 = .ok (.iload_n 3, 1) := by decide +kernel
theorem dX9_outBetween_72 : decode cX9_outBetween 72 = .ok (.invokestatic 123, 3) := by decide +kernel
theorem dX9_outBetween_75 : decode cX9_outBetween 75 = .ok (.iadd, 1) := by decide +kernel
theorem dX9_outBetween_76 : decode cX9_outBetween 76 = .ok (.istore 4, 2) := by decide +kernel
theorem dX9_outBetween_78 : decode cX9_outBetween 78 = .ok (.iconst (-1), 1) := by decide +kernel
theorem dX9_outBetween_79 : decode cX9_outBetween 79 = .ok (.istore 5, 2) := by decide +kernel
theorem dX9_outBetween_81 : decode cX9_outBetween 81 = .ok (.iinc 6 1, 3) := by decide +kernel
theorem dX9_outBetween_84 : decode cX9_outBetween 84 = .ok (.goto (-75), 3) := by decide +kernel
theorem dX9_outBetween_87 : decode cX9_outBetween 87 = .ok (.iload 5, 2) := by decide +kernel
theorem dX9_outBetween_89 : decode cX9_outBetween 89 = .ok (.ifCond .lt 20, 3) := by decide +kernel
theorem dX9_outBetween_92 : decode cX9_outBetween 92 = .ok (.iload 4, 2) := by decide +kernel
theorem dX9_outBetween_94 : decode cX9_outBetween 94 = .ok (.iload 5, 2) := by decide +kernel
theorem dX9_outBetween_96 : decode cX9_outBetween 96 = .ok (.aload_n 0, 1) := by decide +kernel
theorem dX9_outBetween_97 : decode cX9_outBetween 97 = .ok (.iconst 0, 1) := by decide +kernel
theorem dX9_outBetween_98 : decode cX9_outBetween 98 = .ok (.iaload, 1) := by decide +kernel
theorem dX9_outBetween_99 : decode cX9_outBetween 99 = .ok (.iconst 1, 1) := by decide +kernel
theorem dX9_outBetween_100 : decode cX9_outBetween 100 = .ok (.isub, 1) := by decide +kernel
theorem dX9_outBetween_101 : decode cX9_outBetween 101 = .ok (.iload_n 2, 1) := by decide +kernel
theorem dX9_outBetween_102 : decode cX9_outBetween 102 = .ok (.iload_n 3, 1) := by decide +kernel
theorem dX9_outBetween_103 : decode cX9_outBetween 103 = .ok (.invokestatic 123, 3) := by decide +kernel
theorem dX9_outBetween_106 : decode cX9_outBetween 106 = .ok (.iadd, 1) := by decide +kernel
theorem dX9_outBetween_107 : decode cX9_outBetween 107 = .ok (.istore 4, 2) := by decide +kernel
theorem dX9_outBetween_109 : decode cX9_outBetween 109 = .ok (.iload 4, 2) := by decide +kernel
theorem dX9_outBetween_111 : decode cX9_outBetween 111 = .ok (.ireturn, 1) := by decide +kernel
theorem dX9_outAll_0 : decode cX9_outAll 0 = .ok (.aload_n 0, 1) := by decide +kernel
theorem dX9_outAll_1 : decode cX9_outAll 1 = .ok (.iload_n 1, 1) := by decide +kernel
theorem dX9_outAll_2 : decode cX9_outAll 2 = .ok (.iconst 0, 1) := by decide +kernel
theorem dX9_outAll_3 : decode cX9_outAll 3 = .ok (.aload_n 0, 1) := by decide +kernel
theorem dX9_outAll_4 : decode cX9_outAll 4 = .ok (.iconst 0, 1) := by decide +kernel
theorem dX9_outAll_5 : decode cX9_outAll 5 = .ok (.iaload, 1) := by decide +kernel
theorem dX9_outAll_6 : decode cX9_outAll 6 = .ok (.iconst 1, 1) := by decide +kernel
theorem dX9_outAll_7 : decode cX9_outAll 7 = .ok (.isub, 1) := by decide +kernel
theorem dX9_outAll_8 : decode cX9_outAll 8 = .ok (.invokestatic 127, 3) := by decide +kernel
theorem dX9_outAll_11 : decode cX9_outAll 11 = .ok (.ireturn, 1) := by decide +kernel
theorem dX9_outBoth_0 : decode cX9_outBoth 0 = .ok (.iconst 0, 1) := by decide +kernel
theorem dX9_outBoth_1 : decode cX9_outBoth 1 = .ok (.istore_n 3, 1) := by decide +kernel
theorem dX9_outBoth_2 : decode cX9_outBoth 2 = .ok (.iconst 0, 1) := by decide +kernel
theorem dX9_outBoth_3 : decode cX9_outBoth 3 = .ok (.istore 4, 2) := by decide +kernel
theorem dX9_outBoth_5 : decode cX9_outBoth 5 = .ok (.iconst 0, 1) := by decide +kernel
theorem dX9_outBoth_6 : decode cX9_outBoth 6 = .ok (.istore 5, 2) := by decide +kernel
theorem dX9_outBoth_8 : decode cX9_outBoth 8 = .ok (.iconst 0, 1) := by decide +kernel
theorem dX9_outBoth_9 : decode cX9_outBoth 9 = .ok (.istore 6, 2) := by decide +kernel
theorem dX9_outBoth_11 : decode cX9_outBoth 11 = .ok (.iconst 0, 1) := by decide +kernel
theorem dX9_outBoth_12 : decode cX9_outBoth 12 = .ok (.istore 7, 2) := by decide +kernel
theorem dX9_outBoth_14 : decode cX9_outBoth 14 = .ok (.iload 7, 2) := by decide +kernel
theorem dX9_outBoth_16 : decode cX9_outBoth 16 = .ok (.aload_n 0, 1) := by decide +kernel
theorem dX9_outBoth_17 : decode cX9_outBoth 17 = .ok (.bipush 9, 2) := by decide +kernel
theorem dX9_outBoth_19 : decode cX9_outBoth 19 = .ok (.iaload, 1) := by decide +kernel
theorem dX9_outBoth_20 : decode cX9_outBoth 20 = .ok (.if_icmp .ge 101, 3) := by decide +kernel
theorem dX9_outBoth_23 : decode cX9_outBoth 23 = .ok (.aload_n 0, 1) := by decide +kernel
theorem dX9_outBoth_24 : decode cX9_outBoth 24 = .ok (.iload 7, 2) := by decide +kernel
theorem dX9_outBoth_26 : decode cX9_outBoth 26 = .ok (.iconst 0, 1) := by decide +kernel
theorem dX9_outBoth_27 : decode cX9_outBoth 27 = .ok (.invokestatic 81, 3) := by decide +kernel
theorem dX9_outBoth_30 : decode cX9_outBoth 30 = .ok (.iaload, 1) := by decide +kernel
theorem dX9_outBoth_31 : decode cX9_outBoth 31 = .ok (.istore 8, 2) := by decide +kernel
theorem dX9_outBoth_33 : decode cX9_outBoth 33 = .ok (.aload_n 0, 1) := by decide +kernel
theorem dX9_outBoth_34 : decode cX9_outBoth 34 = .ok (.iload 7, 2) := by decide +kernel
theorem dX9_outBoth_36 : decode cX9_outBoth 36 = .ok (.iconst 1, 1) := by decide +kernel
theorem dX9_outBoth_37 : decode cX9_outBoth 37 = .ok (.invokestatic 81, 3) := by decide +kernel
theorem dX9_outBoth_40 : decode cX9_outBoth 40 = .ok (.iaload, 1) := by decide +kernel
theorem dX9_outBoth_41 : decode cX9_outBoth 41 = .ok (.istore 9, 2) := by decide +kernel
theorem dX9_outBoth_43 : decode cX9_outBoth 43 = .ok (.iload 5, 2) := by decide +kernel
theorem dX9_outBoth_45 : decode cX9_outBoth 45 = .ok (.ifCond .eq 16, 3) := by decide +kernel
theorem dX9_outBoth_48 : decode cX9_outBoth 48 = .ok (.iload 6, 2) := by decide +kernel
theorem dX9_outBoth_50 : decode cX9_outBoth 50 = .ok (.ifCond .eq 11, 3) := by decide +kernel
theorem dX9_outBoth_53 : decode cX9_outBoth 53 = .ok (.iload_n 3, 1) := by decide +kernel
theorem dX9_outBoth_54 : decode cX9_outBoth 54 = .ok (.iload 8, 2) := by decide +kernel
theorem dX9_outBoth_56 : decode cX9_outBoth 56 = .ok (.iload 4, 2) := by decide +kernel
theorem dX9_outBoth_58 : decode cX9_outBoth 58 = .ok (.isub, 1) := by decide +kernel
theorem dX9_outBoth_59 : decode cX9_outBoth 59 = .ok (.iadd, 1) := by decide +kernel
theorem dX9_outBoth_60 : decode cX9_outBoth 60 = .ok (.istore_n 3, 1) := by decide +kernel
theorem dX9_outBoth_61 : decode cX9_outBoth 61 = .ok (.iload 8, 2) := by decide +kernel
theorem dX9_outBoth_63 : decode cX9_outBoth 63 = .ok (.istore 4, 2) := by decide +kernel
theorem dX9_outBoth_65 : decode cX9_outBoth 65 = .ok (.iload 9, 2) := by decide +kernel
theorem dX9_outBoth_67 : decode cX9_outBoth 67 = .ok (.iload_n 1, 1) := by decide +kernel
theorem dX9_outBoth_68 : decode cX9_outBoth 68 = .ok (.if_icmp .ne 22, 3) := by decide +kernel
theorem dX9_outBoth_71 : decode cX9_outBoth 71 = .ok (.aload_n 0, 1) := by decide +kernel
theorem dX9_outBoth_72 : decode cX9_outBoth 72 = .ok (.iload 7, 2) := by decide +kernel
theorem dX9_outBoth_74 : decode cX9_outBoth 74 = .ok (.iconst 2, 1) := by decide +kernel
theorem dX9_outBoth_75 : decode cX9_outBoth 75 = .ok (.invokestatic 81, 3) := by decide +kernel
theorem dX9_outBoth_78 : decode cX9_outBoth 78 = .ok (.iaload, 1) := by decide +kernel
theorem dX9_outBoth_79 : decode cX9_outBoth 79 = .ok (.iconst 1, 1) := by decide +kernel
theorem dX9_outBoth_80 : decode cX9_outBoth 80 = .ok (.if_icmp .ne 7, 3) := by decide +kernel
theorem dX9_outBoth_83 : decode cX9_outBoth 83 = .ok (.iconst 1, 1) := by decide +kernel
theorem dX9_outBoth_84 : decode cX9_outBoth 84 = .ok (.goto 4, 3) := by decide +kernel
theorem dX9_outBoth_87 : decode cX9_outBoth 87 = .ok (.iconst 0, 1) := by decide +kernel
theorem dX9_outBoth_88 : decode cX9_outBoth 88 = .ok (.istore 5, 2) := by decide +kernel
theorem dX9_outBoth_90 : decode cX9_outBoth 90 = .ok (.iload 9, 2) := by decide +kernel
theorem dX9_outBoth_92 : decode cX9_outBoth 92 = .ok (.iload_n 2, 1) := by decide +kernel
theorem dX9_outBoth_93 : decode cX9_outBoth 93 = .ok (.if_icmp .ne 22, 3) := by decide +kernel
theorem dX9_outBoth_96 : decode cX9_outBoth 96 = .ok (.aload_n 0, 1) := by decide +kernel
theorem dX9_outBoth_97 : decode cX9_outBoth 97 = .ok (.iload 7, 2) := by decide +kernel
theorem dX9_outBoth_99 : decode cX9_outBoth 99 = .ok (.iconst 2, 1) := by decide +kernel
theorem dX9_outBoth_100 : decode cX9_outBoth 100 = .ok (.invokestatic 81, 3) := by decide +kernel
theorem dX9_outBoth_103 : decode cX9_outBoth 103 = .ok (.iaload, 1) := by decide +kernel
theorem dX9_outBoth_104 : decode cX9_outBoth 104 = .ok (.iconst 1, 1) := by decide +kernel
theorem dX9_outBoth_105 : decode cX9_outBoth 105 = .ok (.if_icmp .ne 7, 3) := by decide +kernel
theorem dX9_outBoth_108 : decode cX9_outBoth 108 = .ok (.iconst 1, 1) := by decide +kernel
theorem dX9_outBoth_109 : decode cX9_outBoth 109 = .ok (.goto 4, 3) := by decide +kernel
theorem dX9_outBoth_112 : decode cX9_outBoth 112 = .ok (.iconst 0, 1) := by decide +kernel
theorem dX9_outBoth_113 : decode cX9_outBoth 113 = .ok (.istore 6, 2) := by decide +kernel
theorem dX9_outBoth_115 : decode cX9_outBoth 115 = .ok (.iinc 7 1, 3) := by decide +kernel
theorem dX9_outBoth_118 : decode cX9_outBoth 118 = .ok (.goto (-104), 3) := by decide +kernel
theorem dX9_outBoth_121 : decode cX9_outBoth 121 = .ok (.iload 5, 2) := by decide +kernel
theorem dX9_outBoth_123 : decode cX9_outBoth 123 = .ok (.ifCond .eq 17, 3) := by decide +kernel
theorem dX9_outBoth_126 : decode cX9_outBoth 126 = .ok (.iload 6, 2) := by decide +kernel
theorem dX9_outBoth_128 : decode cX9_outBoth 128 = .ok (.ifCond .eq 12, 3) := by decide +kernel
theorem dX9_outBoth_131 : decode cX9_outBoth 131 = .ok (.iload_n 3, 1) := by decide +kernel
theorem dX9_outBoth_132 : decode cX9_outBoth 132 = .ok (.aload_n 0, 1) := by decide +kernel
theorem dX9_outBoth_133 : decode cX9_outBoth 133 = .ok (.iconst 0, 1) := by decide +kernel
theorem dX9_outBoth_134 : decode cX9_outBoth 134 = .ok (.iaload, 1) := by decide +kernel
theorem dX9_outBoth_135 : decode cX9_outBoth 135 = .ok (.iload 4, 2) := by decide +kernel
theorem dX9_outBoth_137 : decode cX9_outBoth 137 = .ok (.isub, 1) := by decide +kernel
theorem dX9_outBoth_138 : decode cX9_outBoth 138 = .ok (.iadd, 1) := by decide +kernel
theorem dX9_outBoth_139 : decode cX9_outBoth 139 = .ok (.istore_n 3, 1) := by decide +kernel
theorem dX9_outBoth_140 : decode cX9_outBoth 140 = .ok (.iload_n 3, 1) := by decide +kernel
theorem dX9_outBoth_141 : decode cX9_outBoth 141 = .ok (.ireturn, 1) := by decide +kernel
theorem dX9_append_0 : decode cX9_append 0 = .ok (.aload_n 0, 1) := by decide +kernel
theorem dX9_append_1 : decode cX9_append 1 = .ok (.iconst 0, 1) := by decide +kernel
theorem dX9_append_2 : decode cX9_append 2 = .ok (.putfield 48, 3) := by decide +kernel
theorem dX9_append_5 : decode cX9_append 5 = .ok (.aload_n 0, 1) := by decide +kernel
theorem dX9_append_6 : decode cX9_append 6 = .ok (.getfield 130, 3) := by decide +kernel
theorem dX9_append_9 : decode cX9_append 9 = .ok (.bipush 20, 2) := by decide +kernel
theorem dX9_append_11 : decode cX9_append 11 = .ok (.iadd, 1) := by decide +kernel
theorem dX9_append_12 : decode cX9_append 12 = .ok (.sipush 600, 3) := by decide +kernel
theorem dX9_append_15 : decode cX9_append 15 = .ok (.if_icmp .le 9, 3) := by decide +kernel
theorem dX9_append_18 : decode cX9_append 18 = .ok (.aload_n 0, 1) := by decide +kernel
theorem dX9_append_19 : decode cX9_append 19 = .ok (.iconst 1, 1) := by decide +kernel
theorem dX9_append_20 : decode cX9_append 20 = .ok (.invokevirtual 133, 3) := by decide +kernel
theorem dX9_append_23 : decode cX9_append 23 = .ok (.ireturn, 1) := by decide +kernel
theorem dX9_append_24 : decode cX9_append 24 = .ok (.iconst 0, 1) := by decide +kernel
theorem dX9_append_25 : decode cX9_append 25 = .ok (.istore 6, 2) := by decide +kernel
theorem dX9_append_27 : decode cX9_append 27 = .ok (.iload 6, 2) := by decide +kernel
theorem dX9_append_29 : decode cX9_append 29 = .ok (.bipush 20, 2) := by decide +kernel
theorem dX9_append_31 : decode cX9_append 31 = .ok (.if_icmp .ge 93, 3) := by decide +kernel
theorem dX9_append_34 : decode cX9_append 34 = .ok (.iload 6, 2) := by decide +kernel
theorem dX9_append_36 : decode cX9_append 36 = .ok (.iconst 4, 1) := by decide +kernel
theorem dX9_append_37 : decode cX9_append 37 = .ok (.if_icmp .ge 7, 3) := by decide +kernel
theorem dX9_append_40 : decode cX9_append 40 = .ok (.iload_n 1, 1) := by decide +kernel
theorem dX9_append_41 : decode cX9_append 41 = .ok (.goto 39, 3) := by decide +kernel
theorem dX9_append_44 : decode cX9_append 44 = .ok (.iload 6, 2) := by decide +kernel
theorem dX9_append_46 : decode cX9_append 46 = .ok (.bipush 8, 2) := by decide +kernel
theorem dX9_append_48 : decode cX9_append 48 = .ok (.if_icmp .ge 7, 3) := by decide +kernel
theorem dX9_append_51 : decode cX9_append 51 = .ok (.iload_n 2, 1) := by decide +kernel
theorem dX9_append_52 : decode cX9_append 52 = .ok (.goto 28, 3) := by decide +kernel
theorem dX9_append_55 : decode cX9_append 55 = .ok (.iload 6, 2) := by decide +kernel
theorem dX9_append_57 : decode cX9_append 57 = .ok (.bipush 12, 2) := by decide +kernel
theorem dX9_append_59 : decode cX9_append 59 = .ok (.if_icmp .ge 7, 3) := by decide +kernel
theorem dX9_append_62 : decode cX9_append 62 = .ok (.iload_n 3, 1) := by decide +kernel
theorem dX9_append_63 : decode cX9_append 63 = .ok (.goto 17, 3) := by decide +kernel
theorem dX9_append_66 : decode cX9_append 66 = .ok (.iload 6, 2) := by decide +kernel
theorem dX9_append_68 : decode cX9_append 68 = .ok (.bipush 16, 2) := by decide +kernel
theorem dX9_append_70 : decode cX9_append 70 = .ok (.if_icmp .ge 8, 3) := by decide +kernel
theorem dX9_append_73 : decode cX9_append 73 = .ok (.iload 4, 2) := by decide +kernel
theorem dX9_append_75 : decode cX9_append 75 = .ok (.goto 5, 3) := by decide +kernel
theorem dX9_append_78 : decode cX9_append 78 = .ok (.iload 5, 2) := by decide +kernel
theorem dX9_append_80 : decode cX9_append 80 = .ok (.istore 7, 2) := by decide +kernel
theorem dX9_append_82 : decode cX9_append 82 = .ok (.aload_n 0, 1) := by decide +kernel
theorem dX9_append_83 : decode cX9_append 83 = .ok (.getfield 29, 3) := by decide +kernel
theorem dX9_append_86 : decode cX9_append 86 = .ok (.aload_n 0, 1) := by decide +kernel
theorem dX9_append_87 : decode cX9_append 87 = .ok (.getfield 130, 3) := by decide +kernel
theorem dX9_append_90 : decode cX9_append 90 = .ok (.iload 7, 2) := by decide +kernel
theorem dX9_append_92 : decode cX9_append 92 = .ok (.bipush 24, 2) := by decide +kernel
theorem dX9_append_94 : decode cX9_append 94 = .ok (.bipush 8, 2) := by decide +kernel
theorem dX9_append_96 : decode cX9_append 96 = .ok (.iload 6, 2) := by decide +kernel
theorem dX9_append_98 : decode cX9_append 98 = .ok (.iconst 4, 1) := by decide +kernel
theorem dX9_append_99 : decode cX9_append 99 = .ok (.irem, 1) := by decide +kernel
theorem dX9_append_100 : decode cX9_append 100 = .ok (.imul, 1) := by decide +kernel
theorem dX9_append_101 : decode cX9_append 101 = .ok (.isub, 1) := by decide +kernel
theorem dX9_append_102 : decode cX9_append 102 = .ok (.ishr, 1) := by decide +kernel
theorem dX9_append_103 : decode cX9_append 103 = .ok (.sipush 255, 3) := by decide +kernel
theorem dX9_append_106 : decode cX9_append 106 = .ok (.iand, 1) := by decide +kernel
theorem dX9_append_107 : decode cX9_append 107 = .ok (.iastore, 1) := by decide +kernel
theorem dX9_append_108 : decode cX9_append 108 = .ok (.aload_n 0, 1) := by decide +kernel
theorem dX9_append_109 : decode cX9_append 109 = .ok (.dup, 1) := by decide +kernel
theorem dX9_append_110 : decode cX9_append 110 = .ok (.getfield 130, 3) := by decide +kernel
theorem dX9_append_113 : decode cX9_append 113 = .ok (.iconst 1, 1) := by decide +kernel
theorem dX9_append_114 : decode cX9_append 114 = .ok (.iadd, 1) := by decide +kernel
theorem dX9_append_115 : decode cX9_append 115 = .ok (.putfield 130, 3) := by decide +kernel
theorem dX9_append_118 : decode cX9_append 118 = .ok (.iinc 6 1, 3) := by decide +kernel
theorem dX9_append_121 : decode cX9_append 121 = .ok (.goto (-94), 3) := by decide +kernel
theorem dX9_append_124 : decode cX9_append 124 = .ok (.aload_n 0, 1) := by decide +kernel
theorem dX9_append_125 : decode cX9_append 125 = .ok (.getfield 130, 3) := by decide +kernel
theorem dX9_append_128 : decode cX9_append 128 = .ok (.ireturn, 1) := by decide +kernel
theorem dX9_shorten_0 : decode cX9_shorten 0 = .ok (.aload_n 0, 1) := by decide +kernel
theorem dX9_shorten_1 : decode cX9_shorten 1 = .ok (.iconst 0, 1) := by decide +kernel
theorem dX9_shorten_2 : decode cX9_shorten 2 = .ok (.putfield 48, 3) := by decide +kernel
theorem dX9_shorten_5 : decode cX9_shorten 5 = .ok (.iload_n 1, 1) := by decide +kernel
theorem dX9_shorten_6 : decode cX9_shorten 6 = .ok (.iconst 0, 1) := by decide +kernel
theorem dX9_shorten_7 : decode cX9_shorten 7 = .ok (.aload_n 0, 1) := by decide +kernel
theorem dX9_shorten_8 : decode cX9_shorten 8 = .ok (.getfield 130, 3) := by decide +kernel
theorem dX9_shorten_11 : decode cX9_shorten 11 = .ok (.invokestatic 55, 3) := by decide +kernel
theorem dX9_shorten_14 : decode cX9_shorten 14 = .ok (.ifCond .ne 9, 3) := by decide +kernel
theorem dX9_shorten_17 : decode cX9_shorten 17 = .ok (.aload_n 0, 1) := by decide +kernel
theorem dX9_shorten_18 : decode cX9_shorten 18 = .ok (.iconst 1, 1) := by decide +kernel
theorem dX9_shorten_19 : decode cX9_shorten 19 = .ok (.invokevirtual 133, 3) := by decide +kernel
theorem dX9_shorten_22 : decode cX9_shorten 22 = .ok (.ireturn, 1) := by decide +kernel
theorem dX9_shorten_23 : decode cX9_shorten 23 = .ok (.aload_n 0, 1) := by decide +kernel
theorem dX9_shorten_24 : decode cX9_shorten 24 = .ok (.iload_n 1, 1) := by decide +kernel
theorem dX9_shorten_25 : decode cX9_shorten 25 = .ok (.putfield 130, 3) := by decide +kernel
theorem dX9_shorten_28 : decode cX9_shorten 28 = .ok (.aload_n 0, 1) := by decide +kernel
theorem dX9_shorten_29 : decode cX9_shorten 29 = .ok (.getfield 130, 3) := by decide +kernel
theorem dX9_shorten_32 : decode cX9_shorten 32 = .ok (.ireturn, 1) := by decide +kernel
theorem dX9_isSmall_0 : decode cX9_isSmall 0 = .ok (.iload_n 1, 1) := by decide +kernel
theorem dX9_isSmall_1 : decode cX9_isSmall 1 = .ok (.aload_n 0, 1) := by decide +kernel
theorem dX9_isSmall_2 : decode cX9_isSmall 2 = .ok (.getfield 130, 3) := by decide +kernel
theorem dX9_isSmall_5 : decode cX9_isSmall 5 = .ok (.if_icmp .ge 29, 3) := by decide +kernel
theorem dX9_isSmall_8 : decode cX9_isSmall 8 = .ok (.aload_n 0, 1) := by decide +kernel
theorem dX9_isSmall_9 : decode cX9_isSmall 9 = .ok (.getfield 29, 3) := by decide +kernel
theorem dX9_isSmall_12 : decode cX9_isSmall 12 = .ok (.iload_n 1, 1) := by decide +kernel
theorem dX9_isSmall_13 : decode cX9_isSmall 13 = .ok (.iaload, 1) := by decide +kernel
theorem dX9_isSmall_14 : decode cX9_isSmall 14 = .ok (.bipush 97, 2) := by decide +kernel
theorem dX9_isSmall_16 : decode cX9_isSmall 16 = .ok (.if_icmp .lt 18, 3) := by decide +kernel
theorem dX9_isSmall_19 : decode cX9_isSmall 19 = .ok (.aload_n 0, 1) := by decide +kernel
theorem dX9_isSmall_20 : decode cX9_isSmall 20 = .ok (.getfield 29, 3) := by decide +kernel
theorem dX9_isSmall_23 : decode cX9_isSmall 23 = .ok (.iload_n 1, 1) := by decide +kernel
theorem dX9_isSmall_24 : decode cX9_isSmall 24 = .ok (.iaload, 1) := by decide +kernel
theorem dX9_isSmall_25 : decode cX9_isSmall 25 = .ok (.bipush 122, 2) := by decide +kernel
theorem dX9_isSmall_27 : decode cX9_isSmall 27 = .ok (.if_icmp .gt 7, 3) := by decide +kernel
theorem dX9_isSmall_30 : decode cX9_isSmall 30 = .ok (.iconst 1, 1) := by decide +kernel
theorem dX9_isSmall_31 : decode cX9_isSmall 31 = .ok (.goto 4, 3) := by decide +kernel
theorem dX9_isSmall_34 : decode cX9_isSmall 34 = .ok (.iconst 0, 1) := by decide +kernel
theorem dX9_isSmall_35 : decode cX9_isSmall 35 = .ok (.ireturn, 1) := by decide +kernel
theorem dX9_isDigit_0 : decode cX9_isDigit 0 = .ok (.iload_n 1, 1) := by decide +kernel
theorem dX9_isDigit_1 : decode cX9_isDigit 1 = .ok (.aload_n 0, 1) := by decide +kernel
theorem dX9_isDigit_2 : decode cX9_isDigit 2 = .ok (.getfield 130, 3) := by decide +kernel
theorem dX9_isDigit_5 : decode cX9_isDigit 5 = .ok (.if_icmp .ge 29, 3) := by decide +kernel
theorem dX9_isDigit_8 : decode cX9_isDigit 8 = .ok (.aload_n 0, 1) := by decide +kernel
theorem dX9_isDigit_9 : decode cX9_isDigit 9 = .ok (.getfield 29, 3) := by decide +kernel
theorem dX9_isDigit_12 : decode cX9_isDigit 12 = .ok (.iload_n 1, 1) := by decide +kernel
theorem dX9_isDigit_13 : decode cX9_isDigit 13 = .ok (.iaload, 1) := by decide +kernel
theorem dX9_isDigit_14 : decode cX9_isDigit 14 = .ok (.bipush 48, 2) := by decide +kernel
theorem dX9_isDigit_16 : decode cX9_isDigit 16 = .ok (.if_icmp .lt 18, 3) := by decide +kernel
theorem dX9_isDigit_19 : decode cX9_isDigit 19 = .ok (.aload_n 0, 1) := by decide +kernel
theorem dX9_isDigit_20 : decode cX9_isDigit 20 = .ok (.getfield 29, 3) := by decide +kernel
theorem dX9_isDigit_23 : decode cX9_isDigit 23 = .ok (.iload_n 1, 1) := by decide +kernel
theorem dX9_isDigit_24 : decode cX9_isDigit 24 = .ok (.iaload, 1) := by decide +kernel
theorem dX9_isDigit_25 : decode cX9_isDigit 25 = .ok (.bipush 57, 2) := by decide +kernel
theorem dX9_isDigit_27 : decode cX9_isDigit 27 = .ok (.if_icmp .gt 7, 3) := by decide +kernel
theorem dX9_isDigit_30 : decode cX9_isDigit 30 = .ok (.iconst 1, 1) := by decide +kernel
theorem dX9_isDigit_31 : decode cX9_isDigit 31 = .ok (.goto 4, 3) := by decide +kernel
theorem dX9_isDigit_34 : decode cX9_isDigit 34 = .ok (.iconst 0, 1) := by decide +kernel
theorem dX9_isDigit_35 : decode cX9_isDigit 35 = .ok (.ireturn, 1) := by decide +kernel
theorem dX9_next_0 : decode cX9_next 0 = .ok (.aload_n 0, 1) := by decide +kernel
theorem dX9_next_1 : decode cX9_next 1 = .ok (.getfield 137, 3) := by decide +kernel
theorem dX9_next_4 : decode cX9_next 4 = .ok (.aload_n 0, 1) := by decide +kernel
theorem dX9_next_5 : decode cX9_next 5 = .ok (.getfield 130, 3) := by decide +kernel
theorem dX9_next_8 : decode cX9_next 8 = .ok (.if_icmp .ge 44, 3) := by decide +kernel
theorem dX9_next_11 : decode cX9_next 11 = .ok (.aload_n 0, 1) := by decide +kernel
theorem dX9_next_12 : decode cX9_next 12 = .ok (.getfield 29, 3) := by decide +kernel
theorem dX9_next_15 : decode cX9_next 15 = .ok (.aload_n 0, 1) := by decide +kernel
theorem dX9_next_16 : decode cX9_next 16 = .ok (.getfield 137, 3) := by decide +kernel
theorem dX9_next_19 : decode cX9_next 19 = .ok (.iaload, 1) := by decide +kernel
theorem dX9_next_20 : decode cX9_next 20 = .ok (.bipush 32, 2) := by decide +kernel
theorem dX9_next_22 : decode cX9_next 22 = .ok (.if_icmp .eq 17, 3) := by decide +kernel
theorem dX9_next_25 : decode cX9_next 25 = .ok (.aload_n 0, 1) := by decide +kernel
theorem dX9_next_26 : decode cX9_next 26 = .ok (.getfield 29, 3) := by decide +kernel
theorem dX9_next_29 : decode cX9_next 29 = .ok (.aload_n 0, 1) := by decide +kernel
theorem dX9_next_30 : decode cX9_next 30 = .ok (.getfield 137, 3) := by decide +kernel
theorem dX9_next_33 : decode cX9_next 33 = .ok (.iaload, 1) := by decide +kernel
theorem dX9_next_34 : decode cX9_next 34 = .ok (.bipush 10, 2) := by decide +kernel
theorem dX9_next_36 : decode cX9_next 36 = .ok (.if_icmp .ne 16, 3) := by decide +kernel
theorem dX9_next_39 : decode cX9_next 39 = .ok (.aload_n 0, 1) := by decide +kernel
theorem dX9_next_40 : decode cX9_next 40 = .ok (.dup, 1) := by decide +kernel
theorem dX9_next_41 : decode cX9_next 41 = .ok (.getfield 137, 3) := by decide +kernel
theorem dX9_next_44 : decode cX9_next 44 = .ok (.iconst 1, 1) := by decide +kernel
theorem dX9_next_45 : decode cX9_next 45 = .ok (.iadd, 1) := by decide +kernel
theorem dX9_next_46 : decode cX9_next 46 = .ok (.putfield 137, 3) := by decide +kernel
theorem dX9_next_49 : decode cX9_next 49 = .ok (.goto (-49), 3) := by decide +kernel
theorem dX9_next_52 : decode cX9_next 52 = .ok (.aload_n 0, 1) := by decide +kernel
theorem dX9_next_53 : decode cX9_next 53 = .ok (.aload_n 0, 1) := by decide +kernel
theorem dX9_next_54 : decode cX9_next 54 = .ok (.getfield 137, 3) := by decide +kernel
theorem dX9_next_57 : decode cX9_next 57 = .ok (.putfield 140, 3) := by decide +kernel
theorem dX9_next_60 : decode cX9_next 60 = .ok (.aload_n 0, 1) := by decide +kernel
theorem dX9_next_61 : decode cX9_next 61 = .ok (.iconst 0, 1) := by decide +kernel
theorem dX9_next_62 : decode cX9_next 62 = .ok (.putfield 143, 3) := by decide +kernel
theorem dX9_next_65 : decode cX9_next 65 = .ok (.aload_n 0, 1) := by decide +kernel
theorem dX9_next_66 : decode cX9_next 66 = .ok (.lconst 0, 1) := by decide +kernel
theorem dX9_next_67 : decode cX9_next 67 = .ok (.putfield 146, 3) := by decide +kernel
theorem dX9_next_70 : decode cX9_next 70 = .ok (.aload_n 0, 1) := by decide +kernel
theorem dX9_next_71 : decode cX9_next 71 = .ok (.getfield 137, 3) := by decide +kernel
theorem dX9_next_74 : decode cX9_next 74 = .ok (.aload_n 0, 1) := by decide +kernel
theorem dX9_next_75 : decode cX9_next 75 = .ok (.getfield 130, 3) := by decide +kernel
theorem dX9_next_78 : decode cX9_next 78 = .ok (.if_icmp .ne 11, 3) := by decide +kernel
theorem dX9_next_81 : decode cX9_next 81 = .ok (.aload_n 0, 1) := by decide +kernel
theorem dX9_next_82 : decode cX9_next 82 = .ok (.iconst 0, 1) := by decide +kernel
theorem dX9_next_83 : decode cX9_next 83 = .ok (.putfield 150, 3) := by decide +kernel
theorem dX9_next_86 : decode cX9_next 86 = .ok (.goto 73, 3) := by decide +kernel
theorem dX9_next_89 : decode cX9_next 89 = .ok (.aload_n 0, 1) := by decide +kernel
theorem dX9_next_90 : decode cX9_next 90 = .ok (.aload_n 0, 1) := by decide +kernel
theorem dX9_next_91 : decode cX9_next 91 = .ok (.getfield 137, 3) := by decide +kernel
theorem dX9_next_94 : decode cX9_next 94 = .ok (.invokevirtual 153, 3) := by decide +kernel
theorem dX9_next_97 : decode cX9_next 97 = .ok (.ifCond .eq 10, 3) := by decide +kernel
theorem dX9_next_100 : decode cX9_next 100 = .ok (.aload_n 0, 1) := by decide +kernel
theorem dX9_next_101 : decode cX9_next 101 = .ok (.invokevirtual 157, 3) := by decide +kernel
theorem dX9_next_104 : decode cX9_next 104 = .ok (.goto 55, 3) := by decide +kernel
theorem dX9_next_107 : decode cX9_next 107 = .ok (.aload_n 0, 1) := by decide +kernel
theorem dX9_next_108 : decode cX9_next 108 = .ok (.aload_n 0, 1) := by decide +kernel
theorem dX9_next_109 : decode cX9_next 109 = .ok (.getfield 137, 3) := by decide +kernel
theorem dX9_next_112 : decode cX9_next 112 = .ok (.invokevirtual 160, 3) := by decide +kernel
theorem dX9_next_115 : decode cX9_next 115 = .ok (.ifCond .eq 10, 3) := by decide +kernel
theorem dX9_next_118 : decode cX9_next 118 = .ok (.aload_n 0, 1) := by decide +kernel
theorem dX9_next_119 : decode cX9_next 119 = .ok (.invokevirtual 163, 3) := by decide +kernel
theorem dX9_next_122 : decode cX9_next 122 = .ok (.goto 37, 3) := by decide +kernel
theorem dX9_next_125 : decode cX9_next 125 = .ok (.aload_n 0, 1) := by decide +kernel
theorem dX9_next_126 : decode cX9_next 126 = .ok (.iconst 4, 1) := by decide +kernel
theorem dX9_next_127 : decode cX9_next 127 = .ok (.putfield 150, 3) := by decide +kernel
theorem dX9_next_130 : decode cX9_next 130 = .ok (.aload_n 0, 1) := by decide +kernel
theorem dX9_next_131 : decode cX9_next 131 = .ok (.getfield 29, 3) := by decide +kernel
theorem dX9_next_134 : decode cX9_next 134 = .ok (.aload_n 0, 1) := by decide +kernel
theorem dX9_next_135 : decode cX9_next 135 = .ok (.getfield 137, 3) := by decide +kernel
theorem dX9_next_138 : decode cX9_next 138 = .ok (.iaload, 1) := by decide +kernel
theorem dX9_next_139 : decode cX9_next 139 = .ok (.bipush 59, 2) := by decide +kernel
theorem dX9_next_141 : decode cX9_next 141 = .ok (.if_icmp .ne 8, 3) := by decide +kernel
theorem dX9_next_144 : decode cX9_next 144 = .ok (.aload_n 0, 1) := by decide +kernel
theorem dX9_next_145 : decode cX9_next 145 = .ok (.iconst 3, 1) := by decide +kernel
theorem dX9_next_146 : decode cX9_next 146 = .ok (.putfield 150, 3) := by decide +kernel
theorem dX9_next_149 : decode cX9_next 149 = .ok (.aload_n 0, 1) := by decide +kernel
theorem dX9_next_150 : decode cX9_next 150 = .ok (.dup, 1) := by decide +kernel
theorem dX9_next_151 : decode cX9_next 151 = .ok (.getfield 137, 3) := by decide +kernel
theorem dX9_next_154 : decode cX9_next 154 = .ok (.iconst 1, 1) := by decide +kernel
theorem dX9_next_155 : decode cX9_next 155 = .ok (.iadd, 1) := by decide +kernel
theorem dX9_next_156 : decode cX9_next 156 = .ok (.putfield 137, 3) := by decide +kernel
theorem dX9_next_159 : decode cX9_next 159 = .ok (.return_, 1) := by decide +kernel
theorem dX9_nextWord_0 : decode cX9_nextWord 0 = .ok (.aload_n 0, 1) := by decide +kernel
theorem dX9_nextWord_1 : decode cX9_nextWord 1 = .ok (.aload_n 0, 1) := by decide +kernel
theorem dX9_nextWord_2 : decode cX9_nextWord 2 = .ok (.getfield 137, 3) := by decide +kernel
theorem dX9_nextWord_5 : decode cX9_nextWord 5 = .ok (.invokevirtual 153, 3) := by decide +kernel
theorem dX9_nextWord_8 : decode cX9_nextWord 8 = .ok (.ifCond .eq 57, 3) := by decide +kernel
theorem dX9_nextWord_11 : decode cX9_nextWord 11 = .ok (.aload_n 0, 1) := by decide +kernel
theorem dX9_nextWord_12 : decode cX9_nextWord 12 = .ok (.getfield 137, 3) := by decide +kernel
theorem dX9_nextWord_15 : decode cX9_nextWord 15 = .ok (.aload_n 0, 1) := by decide +kernel
theorem dX9_nextWord_16 : decode cX9_nextWord 16 = .ok (.getfield 140, 3) := by decide +kernel
theorem dX9_nextWord_19 : decode cX9_nextWord 19 = .ok (.isub, 1) := by decide +kernel
theorem dX9_nextWord_20 : decode cX9_nextWord 20 = .ok (.bipush 9, 2) := by decide +kernel
theorem dX9_nextWord_22 : decode cX9_nextWord 22 = .ok (.if_icmp .ge 30, 3) := by decide +kernel
theorem dX9_nextWord_25 : decode cX9_nextWord 25 = .ok (.aload_n 0, 1) := by decide +kernel
theorem dX9_nextWord_26 : decode cX9_nextWord 26 = .ok (.ldc2_w 166, 3) := by decide +kernel
theorem dX9_nextWord_29 : decode cX9_nextWord 29 = .ok (.aload_n 0, 1) := by decide +kernel
theorem dX9_nextWord_30 : decode cX9_nextWord 30 = .ok (.getfield 146, 3) := by decide +kernel
theorem dX9_nextWord_33 : decode cX9_nextWord 33 = .ok (.lmul, 1) := by decide +kernel
theorem dX9_nextWord_34 : decode cX9_nextWord 34 = .ok (.aload_n 0, 1) := by decide +kernel
theorem dX9_nextWord_35 : decode cX9_nextWord 35 = .ok (.getfield 29, 3) := by decide +kernel
theorem dX9_nextWord_38 : decode cX9_nextWord 38 = .ok (.aload_n 0, 1) := by decide +kernel
theorem dX9_nextWord_39 : decode cX9_nextWord 39 = .ok (.getfield 137, 3) := by decide +kernel
theorem dX9_nextWord_42 : decode cX9_nextWord 42 = .ok (.iaload, 1) := by decide +kernel
theorem dX9_nextWord_43 : decode cX9_nextWord 43 = .ok (.i2l, 1) := by decide +kernel
theorem dX9_nextWord_44 : decode cX9_nextWord 44 = .ok (.ladd, 1) := by decide +kernel
theorem dX9_nextWord_45 : decode cX9_nextWord 45 = .ok (.ldc2_w 168, 3) := by decide +kernel
theorem dX9_nextWord_48 : decode cX9_nextWord 48 = .ok (.lsub, 1) := by decide +kernel
theorem dX9_nextWord_49 : decode cX9_nextWord 49 = .ok (.putfield 146, 3) := by decide +kernel
theorem dX9_nextWord_52 : decode cX9_nextWord 52 = .ok (.aload_n 0, 1) := by decide +kernel
theorem dX9_nextWord_53 : decode cX9_nextWord 53 = .ok (.dup, 1) := by decide +kernel
theorem dX9_nextWord_54 : decode cX9_nextWord 54 = .ok (.getfield 137, 3) := by decide +kernel
theorem dX9_nextWord_57 : decode cX9_nextWord 57 = .ok (.iconst 1, 1) := by decide +kernel
theorem dX9_nextWord_58 : decode cX9_nextWord 58 = .ok (.iadd, 1) := by decide +kernel
theorem dX9_nextWord_59 : decode cX9_nextWord 59 = .ok (.putfield 137, 3) := by decide +kernel
theorem dX9_nextWord_62 : decode cX9_nextWord 62 = .ok (.goto (-62), 3) := by decide +kernel
theorem dX9_nextWord_65 : decode cX9_nextWord 65 = .ok (.aload_n 0, 1) := by decide +kernel
theorem dX9_nextWord_66 : decode cX9_nextWord 66 = .ok (.iconst 1, 1) := by decide +kernel
theorem dX9_nextWord_67 : decode cX9_nextWord 67 = .ok (.putfield 150, 3) := by decide +kernel
theorem dX9_nextWord_70 : decode cX9_nextWord 70 = .ok (.return_, 1) := by decide +kernel
theorem dX9_nextNumber_0 : decode cX9_nextNumber 0 = .ok (.aload_n 0, 1) := by decide +kernel
theorem dX9_nextNumber_1 : decode cX9_nextNumber 1 = .ok (.aload_n 0, 1) := by decide +kernel
theorem dX9_nextNumber_2 : decode cX9_nextNumber 2 = .ok (.getfield 137, 3) := by decide +kernel
theorem dX9_nextNumber_5 : decode cX9_nextNumber 5 = .ok (.invokevirtual 160, 3) := by decide +kernel
theorem dX9_nextNumber_8 : decode cX9_nextNumber 8 = .ok (.ifCond .eq 53, 3) := by decide +kernel
theorem dX9_nextNumber_11 : decode cX9_nextNumber 11 = .ok (.aload_n 0, 1) := by decide +kernel
theorem dX9_nextNumber_12 : decode cX9_nextNumber 12 = .ok (.getfield 137, 3) := by decide +kernel
theorem dX9_nextNumber_15 : decode cX9_nextNumber 15 = .ok (.aload_n 0, 1) := by decide +kernel
theorem dX9_nextNumber_16 : decode cX9_nextNumber 16 = .ok (.getfield 140, 3) := by decide +kernel
theorem dX9_nextNumber_19 : decode cX9_nextNumber 19 = .ok (.isub, 1) := by decide +kernel
theorem dX9_nextNumber_20 : decode cX9_nextNumber 20 = .ok (.iconst 3, 1) := by decide +kernel
theorem dX9_nextNumber_21 : decode cX9_nextNumber 21 = .ok (.if_icmp .ge 27, 3) := by decide +kernel
theorem dX9_nextNumber_24 : decode cX9_nextNumber 24 = .ok (.aload_n 0, 1) := by decide +kernel
theorem dX9_nextNumber_25 : decode cX9_nextNumber 25 = .ok (.bipush 10, 2) := by decide +kernel
theorem dX9_nextNumber_27 : decode cX9_nextNumber 27 = .ok (.aload_n 0, 1) := by decide +kernel
theorem dX9_nextNumber_28 : decode cX9_nextNumber 28 = .ok (.getfield 143, 3) := by decide +kernel
theorem dX9_nextNumber_31 : decode cX9_nextNumber 31 = .ok (.imul, 1) := by decide +kernel
theorem dX9_nextNumber_32 : decode cX9_nextNumber 32 = .ok (.aload_n 0, 1) := by decide +kernel
theorem dX9_nextNumber_33 : decode cX9_nextNumber 33 = .ok (.getfield 29, 3) := by decide +kernel
theorem dX9_nextNumber_36 : decode cX9_nextNumber 36 = .ok (.aload_n 0, 1) := by decide +kernel
theorem dX9_nextNumber_37 : decode cX9_nextNumber 37 = .ok (.getfield 137, 3) := by decide +kernel
theorem dX9_nextNumber_40 : decode cX9_nextNumber 40 = .ok (.iaload, 1) := by decide +kernel
theorem dX9_nextNumber_41 : decode cX9_nextNumber 41 = .ok (.iadd, 1) := by decide +kernel
theorem dX9_nextNumber_42 : decode cX9_nextNumber 42 = .ok (.bipush 48, 2) := by decide +kernel
theorem dX9_nextNumber_44 : decode cX9_nextNumber 44 = .ok (.isub, 1) := by decide +kernel
theorem dX9_nextNumber_45 : decode cX9_nextNumber 45 = .ok (.putfield 143, 3) := by decide +kernel
theorem dX9_nextNumber_48 : decode cX9_nextNumber 48 = .ok (.aload_n 0, 1) := by decide +kernel
theorem dX9_nextNumber_49 : decode cX9_nextNumber 49 = .ok (.dup, 1) := by decide +kernel
theorem dX9_nextNumber_50 : decode cX9_nextNumber 50 = .ok (.getfield 137, 3) := by decide +kernel
theorem dX9_nextNumber_53 : decode cX9_nextNumber 53 = .ok (.iconst 1, 1) := by decide +kernel
theorem dX9_nextNumber_54 : decode cX9_nextNumber 54 = .ok (.iadd, 1) := by decide +kernel
theorem dX9_nextNumber_55 : decode cX9_nextNumber 55 = .ok (.putfield 137, 3) := by decide +kernel
theorem dX9_nextNumber_58 : decode cX9_nextNumber 58 = .ok (.goto (-58), 3) := by decide +kernel
theorem dX9_nextNumber_61 : decode cX9_nextNumber 61 = .ok (.aload_n 0, 1) := by decide +kernel
theorem dX9_nextNumber_62 : decode cX9_nextNumber 62 = .ok (.iconst 2, 1) := by decide +kernel
theorem dX9_nextNumber_63 : decode cX9_nextNumber 63 = .ok (.putfield 150, 3) := by decide +kernel
theorem dX9_nextNumber_66 : decode cX9_nextNumber 66 = .ok (.aload_n 0, 1) := by decide +kernel
theorem dX9_nextNumber_67 : decode cX9_nextNumber 67 = .ok (.getfield 137, 3) := by decide +kernel
theorem dX9_nextNumber_70 : decode cX9_nextNumber 70 = .ok (.aload_n 0, 1) := by decide +kernel
theorem dX9_nextNumber_71 : decode cX9_nextNumber 71 = .ok (.getfield 140, 3) := by decide +kernel
theorem dX9_nextNumber_74 : decode cX9_nextNumber 74 = .ok (.isub, 1) := by decide +kernel
theorem dX9_nextNumber_75 : decode cX9_nextNumber 75 = .ok (.iconst 3, 1) := by decide +kernel
theorem dX9_nextNumber_76 : decode cX9_nextNumber 76 = .ok (.if_icmp .le 8, 3) := by decide +kernel
theorem dX9_nextNumber_79 : decode cX9_nextNumber 79 = .ok (.aload_n 0, 1) := by decide +kernel
theorem dX9_nextNumber_80 : decode cX9_nextNumber 80 = .ok (.iconst 4, 1) := by decide +kernel
theorem dX9_nextNumber_81 : decode cX9_nextNumber 81 = .ok (.putfield 150, 3) := by decide +kernel
theorem dX9_nextNumber_84 : decode cX9_nextNumber 84 = .ok (.return_, 1) := by decide +kernel
theorem dX9_isWord_0 : decode cX9_isWord 0 = .ok (.aload_n 0, 1) := by decide +kernel
theorem dX9_isWord_1 : decode cX9_isWord 1 = .ok (.getfield 150, 3) := by decide +kernel
theorem dX9_isWord_4 : decode cX9_isWord 4 = .ok (.iconst 1, 1) := by decide +kernel
theorem dX9_isWord_5 : decode cX9_isWord 5 = .ok (.if_icmp .ne 16, 3) := by decide +kernel
theorem dX9_isWord_8 : decode cX9_isWord 8 = .ok (.aload_n 0, 1) := by decide +kernel
theorem dX9_isWord_9 : decode cX9_isWord 9 = .ok (.getfield 146, 3) := by decide +kernel
theorem dX9_isWord_12 : decode cX9_isWord 12 = .ok (.lload_n 1, 1) := by decide +kernel
theorem dX9_isWord_13 : decode cX9_isWord 13 = .ok (.lcmp, 1) := by decide +kernel
theorem dX9_isWord_14 : decode cX9_isWord 14 = .ok (.ifCond .ne 7, 3) := by decide +kernel
theorem dX9_isWord_17 : decode cX9_isWord 17 = .ok (.iconst 1, 1) := by decide +kernel
theorem dX9_isWord_18 : decode cX9_isWord 18 = .ok (.goto 4, 3) := by decide +kernel
theorem dX9_isWord_21 : decode cX9_isWord 21 = .ok (.iconst 0, 1) := by decide +kernel
theorem dX9_isWord_22 : decode cX9_isWord 22 = .ok (.ireturn, 1) := by decide +kernel
theorem dX9_takes_0 : decode cX9_takes 0 = .ok (.aload_n 0, 1) := by decide +kernel
theorem dX9_takes_1 : decode cX9_takes 1 = .ok (.getfield 170, 3) := by decide +kernel
theorem dX9_takes_4 : decode cX9_takes 4 = .ok (.ifCond .eq 5, 3) := by decide +kernel
theorem dX9_takes_7 : decode cX9_takes 7 = .ok (.iconst 0, 1) := by decide +kernel
theorem dX9_takes_8 : decode cX9_takes 8 = .ok (.ireturn, 1) := by decide +kernel
theorem dX9_takes_9 : decode cX9_takes 9 = .ok (.iload_n 1, 1) := by decide +kernel
theorem dX9_takes_10 : decode cX9_takes 10 = .ok (.ifCond .ne 18, 3) := by decide +kernel
theorem dX9_takes_13 : decode cX9_takes 13 = .ok (.aload_n 0, 1) := by decide +kernel
theorem dX9_takes_14 : decode cX9_takes 14 = .ok (.iconst 1, 1) := by decide +kernel
theorem dX9_takes_15 : decode cX9_takes 15 = .ok (.putfield 170, 3) := by decide +kernel
theorem dX9_takes_18 : decode cX9_takes 18 = .ok (.aload_n 0, 1) := by decide +kernel
theorem dX9_takes_19 : decode cX9_takes 19 = .ok (.aload_n 0, 1) := by decide +kernel
theorem dX9_takes_20 : decode cX9_takes 20 = .ok (.getfield 140, 3) := by decide +kernel
theorem dX9_takes_23 : decode cX9_takes 23 = .ok (.putfield 32, 3) := by decide +kernel
theorem dX9_takes_26 : decode cX9_takes 26 = .ok (.iconst 0, 1) := by decide +kernel
theorem dX9_takes_27 : decode cX9_takes 27 = .ok (.ireturn, 1) := by decide +kernel
theorem dX9_takes_28 : decode cX9_takes 28 = .ok (.aload_n 0, 1) := by decide +kernel
theorem dX9_takes_29 : decode cX9_takes 29 = .ok (.invokevirtual 174, 3) := by decide +kernel
theorem dX9_takes_32 : decode cX9_takes 32 = .ok (.iconst 1, 1) := by decide +kernel
theorem dX9_takes_33 : decode cX9_takes 33 = .ok (.ireturn, 1) := by decide +kernel
theorem dX9_takesNumber_0 : decode cX9_takesNumber 0 = .ok (.aload_n 0, 1) := by decide +kernel
theorem dX9_takesNumber_1 : decode cX9_takesNumber 1 = .ok (.getfield 143, 3) := by decide +kernel
theorem dX9_takesNumber_4 : decode cX9_takesNumber 4 = .ok (.istore_n 3, 1) := by decide +kernel
theorem dX9_takesNumber_5 : decode cX9_takesNumber 5 = .ok (.aload_n 0, 1) := by decide +kernel
theorem dX9_takesNumber_6 : decode cX9_takesNumber 6 = .ok (.aload_n 0, 1) := by decide +kernel
theorem dX9_takesNumber_7 : decode cX9_takesNumber 7 = .ok (.getfield 150, 3) := by decide +kernel
theorem dX9_takesNumber_10 : decode cX9_takesNumber 10 = .ok (.iconst 2, 1) := by decide +kernel
theorem dX9_takesNumber_11 : decode cX9_takesNumber 11 = .ok (.if_icmp .ne 16, 3) := by decide +kernel
theorem dX9_takesNumber_14 : decode cX9_takesNumber 14 = .ok (.iload_n 3, 1) := by decide +kernel
theorem dX9_takesNumber_15 : decode cX9_takesNumber 15 = .ok (.iload_n 1, 1) := by decide +kernel
theorem dX9_takesNumber_16 : decode cX9_takesNumber 16 = .ok (.iload_n 2, 1) := by decide +kernel
theorem dX9_takesNumber_17 : decode cX9_takesNumber 17 = .ok (.invokestatic 55, 3) := by decide +kernel
theorem dX9_takesNumber_20 : decode cX9_takesNumber 20 = .ok (.ifCond .eq 7, 3) := by decide +kernel
theorem dX9_takesNumber_23 : decode cX9_takesNumber 23 = .ok (.iconst 1, 1) := by decide +kernel
theorem dX9_takesNumber_24 : decode cX9_takesNumber 24 = .ok (.goto 4, 3) := by decide +kernel
theorem dX9_takesNumber_27 : decode cX9_takesNumber 27 = .ok (.iconst 0, 1) := by decide +kernel
theorem dX9_takesNumber_28 : decode cX9_takesNumber 28 = .ok (.invokevirtual 177, 3) := by decide +kernel
theorem dX9_takesNumber_31 : decode cX9_takesNumber 31 = .ok (.ifCond .eq 5, 3) := by decide +kernel
theorem dX9_takesNumber_34 : decode cX9_takesNumber 34 = .ok (.iload_n 3, 1) := by decide +kernel
theorem dX9_takesNumber_35 : decode cX9_takesNumber 35 = .ok (.ireturn, 1) := by decide +kernel
theorem dX9_takesNumber_36 : decode cX9_takesNumber 36 = .ok (.iload_n 1, 1) := by decide +kernel
theorem dX9_takesNumber_37 : decode cX9_takesNumber 37 = .ok (.ireturn, 1) := by decide +kernel
theorem dX9_wordName_0 : decode cX9_wordName 0 = .ok (.aload_n 0, 1) := by decide +kernel
theorem dX9_wordName_1 : decode cX9_wordName 1 = .ok (.getfield 150, 3) := by decide +kernel
theorem dX9_wordName_4 : decode cX9_wordName 4 = .ok (.iconst 1, 1) := by decide +kernel
theorem dX9_wordName_5 : decode cX9_wordName 5 = .ok (.if_icmp .ne 22, 3) := by decide +kernel
theorem dX9_wordName_8 : decode cX9_wordName 8 = .ok (.aload_n 0, 1) := by decide +kernel
theorem dX9_wordName_9 : decode cX9_wordName 9 = .ok (.getfield 137, 3) := by decide +kernel
theorem dX9_wordName_12 : decode cX9_wordName 12 = .ok (.aload_n 0, 1) := by decide +kernel
theorem dX9_wordName_13 : decode cX9_wordName 13 = .ok (.getfield 140, 3) := by decide +kernel
theorem dX9_wordName_16 : decode cX9_wordName 16 = .ok (.isub, 1) := by decide +kernel
theorem dX9_wordName_17 : decode cX9_wordName 17 = .ok (.iconst 5, 1) := by decide +kernel
theorem dX9_wordName_18 : decode cX9_wordName 18 = .ok (.if_icmp .gt 9, 3) := by decide +kernel
theorem dX9_wordName_21 : decode cX9_wordName 21 = .ok (.aload_n 0, 1) := by decide +kernel
theorem dX9_wordName_22 : decode cX9_wordName 22 = .ok (.getfield 146, 3) := by decide +kernel
theorem dX9_wordName_25 : decode cX9_wordName 25 = .ok (.l2i, 1) := by decide +kernel
theorem dX9_wordName_26 : decode cX9_wordName 26 = .ok (.ireturn, 1) := by decide +kernel
theorem dX9_wordName_27 : decode cX9_wordName 27 = .ok (.iconst 0, 1) := by decide +kernel
theorem dX9_wordName_28 : decode cX9_wordName 28 = .ok (.ireturn, 1) := by decide +kernel
theorem dX9_readGuest_0 : decode cX9_readGuest 0 = .ok (.aload_n 0, 1) := by decide +kernel
theorem dX9_readGuest_1 : decode cX9_readGuest 1 = .ok (.aload_n 0, 1) := by decide +kernel
theorem dX9_readGuest_2 : decode cX9_readGuest 2 = .ok (.getfield 13, 3) := by decide +kernel
theorem dX9_readGuest_5 : decode cX9_readGuest 5 = .ok (.bipush 7, 2) := by decide +kernel
theorem dX9_readGuest_7 : decode cX9_readGuest 7 = .ok (.iaload, 1) := by decide +kernel
theorem dX9_readGuest_8 : decode cX9_readGuest 8 = .ok (.bipush 10, 2) := by decide +kernel
theorem dX9_readGuest_10 : decode cX9_readGuest 10 = .ok (.if_icmp .ge 7, 3) := by decide +kernel
theorem dX9_readGuest_13 : decode cX9_readGuest 13 = .ok (.iconst 1, 1) := by decide +kernel
theorem dX9_readGuest_14 : decode cX9_readGuest 14 = .ok (.goto 4, 3) := by decide +kernel
theorem dX9_readGuest_17 : decode cX9_readGuest 17 = .ok (.iconst 0, 1) := by decide +kernel
theorem dX9_readGuest_18 : decode cX9_readGuest 18 = .ok (.invokevirtual 177, 3) := by decide +kernel
theorem dX9_readGuest_21 : decode cX9_readGuest 21 = .ok (.ifCond .ne 4, 3) := by decide +kernel
theorem dX9_readGuest_24 : decode cX9_readGuest 24 = .ok (.return_, 1) := by decide +kernel
theorem dX9_readGuest_25 : decode cX9_readGuest 25 = .ok (.aload_n 0, 1) := by decide +kernel
theorem dX9_readGuest_26 : decode cX9_readGuest 26 = .ok (.invokevirtual 181, 3) := by decide +kernel
theorem dX9_readGuest_29 : decode cX9_readGuest 29 = .ok (.istore_n 1, 1) := by decide +kernel
theorem dX9_readGuest_30 : decode cX9_readGuest 30 = .ok (.aload_n 0, 1) := by decide +kernel
theorem dX9_readGuest_31 : decode cX9_readGuest 31 = .ok (.iload_n 1, 1) := by decide +kernel
theorem dX9_readGuest_32 : decode cX9_readGuest 32 = .ok (.ifCond .le 18, 3) := by decide +kernel
theorem dX9_readGuest_35 : decode cX9_readGuest 35 = .ok (.aload_n 0, 1) := by decide +kernel
theorem dX9_readGuest_36 : decode cX9_readGuest 36 = .ok (.getfield 13, 3) := by decide +kernel
theorem dX9_readGuest_39 : decode cX9_readGuest 39 = .ok (.iload_n 1, 1) := by decide +kernel
theorem dX9_readGuest_40 : decode cX9_readGuest 40 = .ok (.invokestatic 185, 3) := by decide +kernel
theorem dX9_readGuest_43 : decode cX9_readGuest 43 = .ok (.ifCond .ge 7, 3) := by decide +kernel
theorem dX9_readGuest_46 : decode cX9_readGuest 46 = .ok (.iconst 1, 1) := by decide +kernel
theorem dX9_readGuest_47 : decode cX9_readGuest 47 = .ok (.goto 4, 3) := by decide +kernel
theorem dX9_readGuest_50 : decode cX9_readGuest 50 = .ok (.iconst 0, 1) := by decide +kernel
theorem dX9_readGuest_51 : decode cX9_readGuest 51 = .ok (.invokevirtual 177, 3) := by decide +kernel
theorem dX9_readGuest_54 : decode cX9_readGuest 54 = .ok (.pop, 1) := by decide +kernel
theorem dX9_readGuest_55 : decode cX9_readGuest 55 = .ok (.aload_n 0, 1) := by decide +kernel
theorem dX9_readGuest_56 : decode cX9_readGuest 56 = .ok (.iconst 0, 1) := by decide +kernel
theorem dX9_readGuest_57 : decode cX9_readGuest 57 = .ok (.bipush 9, 2) := by decide +kernel
theorem dX9_readGuest_59 : decode cX9_readGuest 59 = .ok (.invokevirtual 188, 3) := by decide +kernel
theorem dX9_readGuest_62 : decode cX9_readGuest 62 = .ok (.istore_n 2, 1) := by decide +kernel
theorem dX9_readGuest_63 : decode cX9_readGuest 63 = .ok (.iconst 0, 1) := by decide +kernel
theorem dX9_readGuest_64 : decode cX9_readGuest 64 = .ok (.istore_n 3, 1) := by decide +kernel
theorem dX9_readGuest_65 : decode cX9_readGuest 65 = .ok (.aload_n 0, 1) := by decide +kernel
theorem dX9_readGuest_66 : decode cX9_readGuest 66 = .ok (.getfield 170, 3) := by decide +kernel
theorem dX9_readGuest_69 : decode cX9_readGuest 69 = .ok (.ifCond .ne 25, 3) := by decide +kernel
theorem dX9_readGuest_72 : decode cX9_readGuest 72 = .ok (.aload_n 0, 1) := by decide +kernel
theorem dX9_readGuest_73 : decode cX9_readGuest 73 = .ok (.ldc2_w 191, 3) := by decide +kernel
theorem dX9_readGuest_76 : decode cX9_readGuest 76 = .ok (.invokevirtual 193, 3) := by decide +kernel
theorem dX9_readGuest_79 : decode cX9_readGuest 79 = .ok (.ifCond .eq 15, 3) := by decide +kernel
theorem dX9_readGuest_82 : decode cX9_readGuest 82 = .ok (.aload_n 0, 1) := by decide +kernel
theorem dX9_readGuest_83 : decode cX9_readGuest 83 = .ok (.invokevirtual 174, 3) := by decide +kernel
theorem dX9_readGuest_86 : decode cX9_readGuest 86 = .ok (.aload_n 0, 1) := by decide +kernel
theorem dX9_readGuest_87 : decode cX9_readGuest 87 = .ok (.iconst 1, 1) := by decide +kernel
theorem dX9_readGuest_88 : decode cX9_readGuest 88 = .ok (.bipush 9, 2) := by decide +kernel
theorem dX9_readGuest_90 : decode cX9_readGuest 90 = .ok (.invokevirtual 188, 3) := by decide +kernel
theorem dX9_readGuest_93 : decode cX9_readGuest 93 = .ok (.istore_n 3, 1) := by decide +kernel
theorem dX9_readGuest_94 : decode cX9_readGuest 94 = .ok (.aload_n 0, 1) := by decide +kernel
theorem dX9_readGuest_95 : decode cX9_readGuest 95 = .ok (.aload_n 0, 1) := by decide +kernel
theorem dX9_readGuest_96 : decode cX9_readGuest 96 = .ok (.getfield 150, 3) := by decide +kernel
theorem dX9_readGuest_99 : decode cX9_readGuest 99 = .ok (.iconst 3, 1) := by decide +kernel
theorem dX9_readGuest_100 : decode cX9_readGuest 100 = .ok (.if_icmp .ne 7, 3) := by decide +kernel
theorem dX9_readGuest_103 : decode cX9_readGuest 103 = .ok (.iconst 1, 1) := by decide +kernel
theorem dX9_readGuest_104 : decode cX9_readGuest 104 = .ok (.goto 4, 3) := by decide +kernel
theorem dX9_readGuest_107 : decode cX9_readGuest 107 = .ok (.iconst 0, 1) := by decide +kernel
theorem dX9_readGuest_108 : decode cX9_readGuest 108 = .ok (.invokevirtual 177, 3) := by decide +kernel
theorem dX9_readGuest_111 : decode cX9_readGuest 111 = .ok (.ifCond .eq 14, 3) := by decide +kernel
theorem dX9_readGuest_114 : decode cX9_readGuest 114 = .ok (.aload_n 0, 1) := by decide +kernel
theorem dX9_readGuest_115 : decode cX9_readGuest 115 = .ok (.getfield 13, 3) := by decide +kernel
theorem dX9_readGuest_118 : decode cX9_readGuest 118 = .ok (.iload_n 1, 1) := by decide +kernel
theorem dX9_readGuest_119 : decode cX9_readGuest 119 = .ok (.iload_n 2, 1) := by decide +kernel
theorem dX9_readGuest_120 : decode cX9_readGuest 120 = .ok (.iload_n 3, 1) := by decide +kernel
theorem dX9_readGuest_121 : decode cX9_readGuest 121 = .ok (.invokestatic 39, 3) := by decide +kernel
theorem dX9_readGuest_124 : decode cX9_readGuest 124 = .ok (.pop, 1) := by decide +kernel
theorem dX9_readGuest_125 : decode cX9_readGuest 125 = .ok (.return_, 1) := by decide +kernel
theorem dX9_readUmbrella_0 : decode cX9_readUmbrella 0 = .ok (.aload_n 0, 1) := by decide +kernel
theorem dX9_readUmbrella_1 : decode cX9_readUmbrella 1 = .ok (.aload_n 0, 1) := by decide +kernel
theorem dX9_readUmbrella_2 : decode cX9_readUmbrella 2 = .ok (.getfield 13, 3) := by decide +kernel
theorem dX9_readUmbrella_5 : decode cX9_readUmbrella 5 = .ok (.bipush 8, 2) := by decide +kernel
theorem dX9_readUmbrella_7 : decode cX9_readUmbrella 7 = .ok (.iaload, 1) := by decide +kernel
theorem dX9_readUmbrella_8 : decode cX9_readUmbrella 8 = .ok (.bipush 12, 2) := by decide +kernel
theorem dX9_readUmbrella_10 : decode cX9_readUmbrella 10 = .ok (.if_icmp .ge 7, 3) := by decide +kernel
theorem dX9_readUmbrella_13 : decode cX9_readUmbrella 13 = .ok (.iconst 1, 1) := by decide +kernel
theorem dX9_readUmbrella_14 : decode cX9_readUmbrella 14 = .ok (.goto 4, 3) := by decide +kernel
theorem dX9_readUmbrella_17 : decode cX9_readUmbrella 17 = .ok (.iconst 0, 1) := by decide +kernel
theorem dX9_readUmbrella_18 : decode cX9_readUmbrella 18 = .ok (.invokevirtual 177, 3) := by decide +kernel
theorem dX9_readUmbrella_21 : decode cX9_readUmbrella 21 = .ok (.ifCond .ne 4, 3) := by decide +kernel
theorem dX9_readUmbrella_24 : decode cX9_readUmbrella 24 = .ok (.return_, 1) := by decide +kernel
theorem dX9_readUmbrella_25 : decode cX9_readUmbrella 25 = .ok (.aload_n 0, 1) := by decide +kernel
theorem dX9_readUmbrella_26 : decode cX9_readUmbrella 26 = .ok (.invokevirtual 181, 3) := by decide +kernel
theorem dX9_readUmbrella_29 : decode cX9_readUmbrella 29 = .ok (.istore_n 1, 1) := by decide +kernel
theorem dX9_readUmbrella_30 : decode cX9_readUmbrella 30 = .ok (.iconst (-1), 1) := by decide +kernel
theorem dX9_readUmbrella_31 : decode cX9_readUmbrella 31 = .ok (.istore_n 2, 1) := by decide +kernel
theorem dX9_readUmbrella_32 : decode cX9_readUmbrella 32 = .ok (.iload_n 1, 1) := by decide +kernel
theorem dX9_readUmbrella_33 : decode cX9_readUmbrella 33 = .ok (.ifCond .le 12, 3) := by decide +kernel
theorem dX9_readUmbrella_36 : decode cX9_readUmbrella 36 = .ok (.aload_n 0, 1) := by decide +kernel
theorem dX9_readUmbrella_37 : decode cX9_readUmbrella 37 = .ok (.getfield 13, 3) := by decide +kernel
theorem dX9_readUmbrella_40 : decode cX9_readUmbrella 40 = .ok (.iload_n 1, 1) := by decide +kernel
theorem dX9_readUmbrella_41 : decode cX9_readUmbrella 41 = .ok (.invokestatic 185, 3) := by decide +kernel
theorem dX9_readUmbrella_44 : decode cX9_readUmbrella 44 = .ok (.istore_n 2, 1) := by decide +kernel
theorem dX9_readUmbrella_45 : decode cX9_readUmbrella 45 = .ok (.aload_n 0, 1) := by decide +kernel
theorem dX9_readUmbrella_46 : decode cX9_readUmbrella 46 = .ok (.iload_n 2, 1) := by decide +kernel
theorem dX9_readUmbrella_47 : decode cX9_readUmbrella 47 = .ok (.ifCond .lt 7, 3) := by decide +kernel
theorem dX9_readUmbrella_50 : decode cX9_readUmbrella 50 = .ok (.iconst 1, 1) := by decide +kernel
theorem dX9_readUmbrella_51 : decode cX9_readUmbrella 51 = .ok (.goto 4, 3) := by decide +kernel
theorem dX9_readUmbrella_54 : decode cX9_readUmbrella 54 = .ok (.iconst 0, 1) := by decide +kernel
theorem dX9_readUmbrella_55 : decode cX9_readUmbrella 55 = .ok (.invokevirtual 177, 3) := by decide +kernel
theorem dX9_readUmbrella_58 : decode cX9_readUmbrella 58 = .ok (.pop, 1) := by decide +kernel
theorem dX9_readUmbrella_59 : decode cX9_readUmbrella 59 = .ok (.aload_n 0, 1) := by decide +kernel
theorem dX9_readUmbrella_60 : decode cX9_readUmbrella 60 = .ok (.iconst 0, 1) := by decide +kernel
theorem dX9_readUmbrella_61 : decode cX9_readUmbrella 61 = .ok (.bipush 99, 2) := by decide +kernel
theorem dX9_readUmbrella_63 : decode cX9_readUmbrella 63 = .ok (.invokevirtual 188, 3) := by decide +kernel
theorem dX9_readUmbrella_66 : decode cX9_readUmbrella 66 = .ok (.istore_n 3, 1) := by decide +kernel
theorem dX9_readUmbrella_67 : decode cX9_readUmbrella 67 = .ok (.aload_n 0, 1) := by decide +kernel
theorem dX9_readUmbrella_68 : decode cX9_readUmbrella 68 = .ok (.aload_n 0, 1) := by decide +kernel
theorem dX9_readUmbrella_69 : decode cX9_readUmbrella 69 = .ok (.getfield 150, 3) := by decide +kernel
theorem dX9_readUmbrella_72 : decode cX9_readUmbrella 72 = .ok (.iconst 3, 1) := by decide +kernel
theorem dX9_readUmbrella_73 : decode cX9_readUmbrella 73 = .ok (.if_icmp .ne 7, 3) := by decide +kernel
theorem dX9_readUmbrella_76 : decode cX9_readUmbrella 76 = .ok (.iconst 1, 1) := by decide +kernel
theorem dX9_readUmbrella_77 : decode cX9_readUmbrella 77 = .ok (.goto 4, 3) := by decide +kernel
theorem dX9_readUmbrella_80 : decode cX9_readUmbrella 80 = .ok (.iconst 0, 1) := by decide +kernel
theorem dX9_readUmbrella_81 : decode cX9_readUmbrella 81 = .ok (.invokevirtual 177, 3) := by decide +kernel
theorem dX9_readUmbrella_84 : decode cX9_readUmbrella 84 = .ok (.ifCond .eq 13, 3) := by decide +kernel
theorem dX9_readUmbrella_87 : decode cX9_readUmbrella 87 = .ok (.aload_n 0, 1) := by decide +kernel
theorem dX9_readUmbrella_88 : decode cX9_readUmbrella 88 = .ok (.getfield 13, 3) := by decide +kernel
theorem dX9_readUmbrella_91 : decode cX9_readUmbrella 91 = .ok (.iload_n 2, 1) := by decide +kernel
theorem dX9_readUmbrella_92 : decode cX9_readUmbrella 92 = .ok (.iload_n 3, 1) := by decide +kernel
theorem dX9_readUmbrella_93 : decode cX9_readUmbrella 93 = .ok (.invokestatic 44, 3) := by decide +kernel
theorem dX9_readUmbrella_96 : decode cX9_readUmbrella 96 = .ok (.pop, 1) := by decide +kernel
theorem dX9_readUmbrella_97 : decode cX9_readUmbrella 97 = .ok (.return_, 1) := by decide +kernel
theorem dX9_readText_0 : decode cX9_readText 0 = .ok (.aload_n 0, 1) := by decide +kernel
theorem dX9_readText_1 : decode cX9_readText 1 = .ok (.aload_n 0, 1) := by decide +kernel
theorem dX9_readText_2 : decode cX9_readText 2 = .ok (.ldc2_w 197, 3) := by decide +kernel
theorem dX9_readText_5 : decode cX9_readText 5 = .ok (.invokevirtual 193, 3) := by decide +kernel
theorem dX9_readText_8 : decode cX9_readText 8 = .ok (.invokevirtual 177, 3) := by decide +kernel
theorem dX9_readText_11 : decode cX9_readText 11 = .ok (.pop, 1) := by decide +kernel
theorem dX9_readText_12 : decode cX9_readText 12 = .ok (.aload_n 0, 1) := by decide +kernel
theorem dX9_readText_13 : decode cX9_readText 13 = .ok (.getfield 13, 3) := by decide +kernel
theorem dX9_readText_16 : decode cX9_readText 16 = .ok (.iconst 1, 1) := by decide +kernel
theorem dX9_readText_17 : decode cX9_readText 17 = .ok (.aload_n 0, 1) := by decide +kernel
theorem dX9_readText_18 : decode cX9_readText 18 = .ok (.iconst 0, 1) := by decide +kernel
theorem dX9_readText_19 : decode cX9_readText 19 = .ok (.bipush 9, 2) := by decide +kernel
theorem dX9_readText_21 : decode cX9_readText 21 = .ok (.invokevirtual 188, 3) := by decide +kernel
theorem dX9_readText_24 : decode cX9_readText 24 = .ok (.iastore, 1) := by decide +kernel
theorem dX9_readText_25 : decode cX9_readText 25 = .ok (.aload_n 0, 1) := by decide +kernel
theorem dX9_readText_26 : decode cX9_readText 26 = .ok (.getfield 13, 3) := by decide +kernel
theorem dX9_readText_29 : decode cX9_readText 29 = .ok (.iconst 2, 1) := by decide +kernel
theorem dX9_readText_30 : decode cX9_readText 30 = .ok (.aload_n 0, 1) := by decide +kernel
theorem dX9_readText_31 : decode cX9_readText 31 = .ok (.iconst 0, 1) := by decide +kernel
theorem dX9_readText_32 : decode cX9_readText 32 = .ok (.sipush 999, 3) := by decide +kernel
theorem dX9_readText_35 : decode cX9_readText 35 = .ok (.invokevirtual 188, 3) := by decide +kernel
theorem dX9_readText_38 : decode cX9_readText 38 = .ok (.iastore, 1) := by decide +kernel
theorem dX9_readText_39 : decode cX9_readText 39 = .ok (.aload_n 0, 1) := by decide +kernel
theorem dX9_readText_40 : decode cX9_readText 40 = .ok (.aload_n 0, 1) := by decide +kernel
theorem dX9_readText_41 : decode cX9_readText 41 = .ok (.getfield 150, 3) := by decide +kernel
theorem dX9_readText_44 : decode cX9_readText 44 = .ok (.iconst 3, 1) := by decide +kernel
theorem dX9_readText_45 : decode cX9_readText 45 = .ok (.if_icmp .ne 7, 3) := by decide +kernel
theorem dX9_readText_48 : decode cX9_readText 48 = .ok (.iconst 1, 1) := by decide +kernel
theorem dX9_readText_49 : decode cX9_readText 49 = .ok (.goto 4, 3) := by decide +kernel
theorem dX9_readText_52 : decode cX9_readText 52 = .ok (.iconst 0, 1) := by decide +kernel
theorem dX9_readText_53 : decode cX9_readText 53 = .ok (.invokevirtual 177, 3) := by decide +kernel
theorem dX9_readText_56 : decode cX9_readText 56 = .ok (.pop, 1) := by decide +kernel
theorem dX9_readText_57 : decode cX9_readText 57 = .ok (.aload_n 0, 1) := by decide +kernel
theorem dX9_readText_58 : decode cX9_readText 58 = .ok (.getfield 170, 3) := by decide +kernel
theorem dX9_readText_61 : decode cX9_readText 61 = .ok (.ifCond .ne 20, 3) := by decide +kernel
theorem dX9_readText_64 : decode cX9_readText 64 = .ok (.aload_n 0, 1) := by decide +kernel
theorem dX9_readText_65 : decode cX9_readText 65 = .ok (.ldc2_w 199, 3) := by decide +kernel
theorem dX9_readText_68 : decode cX9_readText 68 = .ok (.invokevirtual 193, 3) := by decide +kernel
theorem dX9_readText_71 : decode cX9_readText 71 = .ok (.ifCond .eq 10, 3) := by decide +kernel
theorem dX9_readText_74 : decode cX9_readText 74 = .ok (.aload_n 0, 1) := by decide +kernel
theorem dX9_readText_75 : decode cX9_readText 75 = .ok (.invokevirtual 201, 3) := by decide +kernel
theorem dX9_readText_78 : decode cX9_readText 78 = .ok (.goto (-21), 3) := by decide +kernel
theorem dX9_readText_81 : decode cX9_readText 81 = .ok (.aload_n 0, 1) := by decide +kernel
theorem dX9_readText_82 : decode cX9_readText 82 = .ok (.getfield 170, 3) := by decide +kernel
theorem dX9_readText_85 : decode cX9_readText 85 = .ok (.ifCond .ne 20, 3) := by decide +kernel
theorem dX9_readText_88 : decode cX9_readText 88 = .ok (.aload_n 0, 1) := by decide +kernel
theorem dX9_readText_89 : decode cX9_readText 89 = .ok (.ldc2_w 204, 3) := by decide +kernel
theorem dX9_readText_92 : decode cX9_readText 92 = .ok (.invokevirtual 193, 3) := by decide +kernel
theorem dX9_readText_95 : decode cX9_readText 95 = .ok (.ifCond .eq 10, 3) := by decide +kernel
theorem dX9_readText_98 : decode cX9_readText 98 = .ok (.aload_n 0, 1) := by decide +kernel
theorem dX9_readText_99 : decode cX9_readText 99 = .ok (.invokevirtual 206, 3) := by decide +kernel
theorem dX9_readText_102 : decode cX9_readText 102 = .ok (.goto (-21), 3) := by decide +kernel
theorem dX9_readText_105 : decode cX9_readText 105 = .ok (.aload_n 0, 1) := by decide +kernel
theorem dX9_readText_106 : decode cX9_readText 106 = .ok (.getfield 170, 3) := by decide +kernel
theorem dX9_readText_109 : decode cX9_readText 109 = .ok (.ifCond .ne 16, 3) := by decide +kernel
theorem dX9_readText_112 : decode cX9_readText 112 = .ok (.aload_n 0, 1) := by decide +kernel
theorem dX9_readText_113 : decode cX9_readText 113 = .ok (.getfield 150, 3) := by decide +kernel
theorem dX9_readText_116 : decode cX9_readText 116 = .ok (.ifCond .eq 9, 3) := by decide +kernel
theorem dX9_readText_119 : decode cX9_readText 119 = .ok (.aload_n 0, 1) := by decide +kernel
theorem dX9_readText_120 : decode cX9_readText 120 = .ok (.iconst 0, 1) := by decide +kernel
theorem dX9_readText_121 : decode cX9_readText 121 = .ok (.invokevirtual 177, 3) := by decide +kernel
theorem dX9_readText_124 : decode cX9_readText 124 = .ok (.pop, 1) := by decide +kernel
theorem dX9_readText_125 : decode cX9_readText 125 = .ok (.return_, 1) := by decide +kernel
theorem dX9_load_0 : decode cX9_load 0 = .ok (.aload_n 0, 1) := by decide +kernel
theorem dX9_load_1 : decode cX9_load 1 = .ok (.iconst 0, 1) := by decide +kernel
theorem dX9_load_2 : decode cX9_load 2 = .ok (.putfield 48, 3) := by decide +kernel
theorem dX9_load_5 : decode cX9_load 5 = .ok (.iconst 0, 1) := by decide +kernel
theorem dX9_load_6 : decode cX9_load 6 = .ok (.istore_n 1, 1) := by decide +kernel
theorem dX9_load_7 : decode cX9_load 7 = .ok (.iload_n 1, 1) := by decide +kernel
theorem dX9_load_8 : decode cX9_load 8 = .ok (.sipush 306, 3) := by decide +kernel
theorem dX9_load_11 : decode cX9_load 11 = .ok (.if_icmp .ge 16, 3) := by decide +kernel
theorem dX9_load_14 : decode cX9_load 14 = .ok (.aload_n 0, 1) := by decide +kernel
theorem dX9_load_15 : decode cX9_load 15 = .ok (.getfield 13, 3) := by decide +kernel
theorem dX9_load_18 : decode cX9_load 18 = .ok (.iload_n 1, 1) := by decide +kernel
theorem dX9_load_19 : decode cX9_load 19 = .ok (.iconst 0, 1) := by decide +kernel
theorem dX9_load_20 : decode cX9_load 20 = .ok (.iastore, 1) := by decide +kernel
theorem dX9_load_21 : decode cX9_load 21 = .ok (.iinc 1 1, 3) := by decide +kernel
theorem dX9_load_24 : decode cX9_load 24 = .ok (.goto (-17), 3) := by decide +kernel
theorem dX9_load_27 : decode cX9_load 27 = .ok (.aload_n 0, 1) := by decide +kernel
theorem dX9_load_28 : decode cX9_load 28 = .ok (.iconst 0, 1) := by decide +kernel
theorem dX9_load_29 : decode cX9_load 29 = .ok (.putfield 137, 3) := by decide +kernel
theorem dX9_load_32 : decode cX9_load 32 = .ok (.aload_n 0, 1) := by decide +kernel
theorem dX9_load_33 : decode cX9_load 33 = .ok (.iconst 0, 1) := by decide +kernel
theorem dX9_load_34 : decode cX9_load 34 = .ok (.putfield 170, 3) := by decide +kernel
theorem dX9_load_37 : decode cX9_load 37 = .ok (.aload_n 0, 1) := by decide +kernel
theorem dX9_load_38 : decode cX9_load 38 = .ok (.iconst (-1), 1) := by decide +kernel
theorem dX9_load_39 : decode cX9_load 39 = .ok (.putfield 32, 3) := by decide +kernel
theorem dX9_load_42 : decode cX9_load 42 = .ok (.aload_n 0, 1) := by decide +kernel
theorem dX9_load_43 : decode cX9_load 43 = .ok (.invokevirtual 174, 3) := by decide +kernel
theorem dX9_load_46 : decode cX9_load 46 = .ok (.aload_n 0, 1) := by decide +kernel
theorem dX9_load_47 : decode cX9_load 47 = .ok (.invokevirtual 209, 3) := by decide +kernel
theorem dX9_load_50 : decode cX9_load 50 = .ok (.aload_n 0, 1) := by decide +kernel
theorem dX9_load_51 : decode cX9_load 51 = .ok (.iconst 0, 1) := by decide +kernel
theorem dX9_load_52 : decode cX9_load 52 = .ok (.putfield 130, 3) := by decide +kernel
theorem dX9_load_55 : decode cX9_load 55 = .ok (.aload_n 0, 1) := by decide +kernel
theorem dX9_load_56 : decode cX9_load 56 = .ok (.getfield 170, 3) := by decide +kernel
theorem dX9_load_59 : decode cX9_load 59 = .ok (.ifCond .eq 9, 3) := by decide +kernel
theorem dX9_load_62 : decode cX9_load 62 = .ok (.aload_n 0, 1) := by decide +kernel
theorem dX9_load_63 : decode cX9_load 63 = .ok (.iconst 1, 1) := by decide +kernel
theorem dX9_load_64 : decode cX9_load 64 = .ok (.invokevirtual 133, 3) := by decide +kernel
theorem dX9_load_67 : decode cX9_load 67 = .ok (.ireturn, 1) := by decide +kernel
theorem dX9_load_68 : decode cX9_load 68 = .ok (.aload_n 0, 1) := by decide +kernel
theorem dX9_load_69 : decode cX9_load 69 = .ok (.getfield 13, 3) := by decide +kernel
theorem dX9_load_72 : decode cX9_load 72 = .ok (.iconst 0, 1) := by decide +kernel
theorem dX9_load_73 : decode cX9_load 73 = .ok (.aload_n 0, 1) := by decide +kernel
theorem dX9_load_74 : decode cX9_load 74 = .ok (.getfield 7, 3) := by decide +kernel
theorem dX9_load_77 : decode cX9_load 77 = .ok (.iconst 0, 1) := by decide +kernel
theorem dX9_load_78 : decode cX9_load 78 = .ok (.invokestatic 51, 3) := by decide +kernel
theorem dX9_load_81 : decode cX9_load 81 = .ok (.aload_n 0, 1) := by decide +kernel
theorem dX9_load_82 : decode cX9_load 82 = .ok (.iconst 0, 1) := by decide +kernel
theorem dX9_load_83 : decode cX9_load 83 = .ok (.putfield 212, 3) := by decide +kernel
theorem dX9_load_86 : decode cX9_load 86 = .ok (.iconst 0, 1) := by decide +kernel
theorem dX9_load_87 : decode cX9_load 87 = .ok (.istore_n 1, 1) := by decide +kernel
theorem dX9_load_88 : decode cX9_load 88 = .ok (.iload_n 1, 1) := by decide +kernel
theorem dX9_load_89 : decode cX9_load 89 = .ok (.iconst 2, 1) := by decide +kernel
theorem dX9_load_90 : decode cX9_load 90 = .ok (.if_icmp .ge 16, 3) := by decide +kernel
theorem dX9_load_93 : decode cX9_load 93 = .ok (.aload_n 0, 1) := by decide +kernel
theorem dX9_load_94 : decode cX9_load 94 = .ok (.getfield 25, 3) := by decide +kernel
theorem dX9_load_97 : decode cX9_load 97 = .ok (.iload_n 1, 1) := by decide +kernel
theorem dX9_load_98 : decode cX9_load 98 = .ok (.iconst 0, 1) := by decide +kernel
theorem dX9_load_99 : decode cX9_load 99 = .ok (.bastore, 1) := by decide +kernel
theorem dX9_load_100 : decode cX9_load 100 = .ok (.iinc 1 1, 3) := by decide +kernel
theorem dX9_load_103 : decode cX9_load 103 = .ok (.goto (-15), 3) := by decide +kernel
theorem dX9_load_106 : decode cX9_load 106 = .ok (.aload_n 0, 1) := by decide +kernel
theorem dX9_load_107 : decode cX9_load 107 = .ok (.getfield 7, 3) := by decide +kernel
theorem dX9_load_110 : decode cX9_load 110 = .ok (.bipush 7, 2) := by decide +kernel
theorem dX9_load_112 : decode cX9_load 112 = .ok (.iaload, 1) := by decide +kernel
theorem dX9_load_113 : decode cX9_load 113 = .ok (.ireturn, 1) := by decide +kernel
theorem dX9_hasError_0 : decode cX9_hasError 0 = .ok (.aload_n 0, 1) := by decide +kernel
theorem dX9_hasError_1 : decode cX9_hasError 1 = .ok (.iconst 0, 1) := by decide +kernel
theorem dX9_hasError_2 : decode cX9_hasError 2 = .ok (.putfield 48, 3) := by decide +kernel
theorem dX9_hasError_5 : decode cX9_hasError 5 = .ok (.aload_n 0, 1) := by decide +kernel
theorem dX9_hasError_6 : decode cX9_hasError 6 = .ok (.getfield 32, 3) := by decide +kernel
theorem dX9_hasError_9 : decode cX9_hasError 9 = .ok (.ifCond .lt 7, 3) := by decide +kernel
theorem dX9_hasError_12 : decode cX9_hasError 12 = .ok (.iconst 1, 1) := by decide +kernel
theorem dX9_hasError_13 : decode cX9_hasError 13 = .ok (.goto 4, 3) := by decide +kernel
theorem dX9_hasError_16 : decode cX9_hasError 16 = .ok (.iconst 0, 1) := by decide +kernel
theorem dX9_hasError_17 : decode cX9_hasError 17 = .ok (.ireturn, 1) := by decide +kernel
theorem dX9_errorOffset_0 : decode cX9_errorOffset 0 = .ok (.aload_n 0, 1) := by decide +kernel
theorem dX9_errorOffset_1 : decode cX9_errorOffset 1 = .ok (.iconst 0, 1) := by decide +kernel
theorem dX9_errorOffset_2 : decode cX9_errorOffset 2 = .ok (.putfield 48, 3) := by decide +kernel
theorem dX9_errorOffset_5 : decode cX9_errorOffset 5 = .ok (.aload_n 0, 1) := by decide +kernel
theorem dX9_errorOffset_6 : decode cX9_errorOffset 6 = .ok (.getfield 32, 3) := by decide +kernel
theorem dX9_errorOffset_9 : decode cX9_errorOffset 9 = .ok (.ifCond .ge 9, 3) := by decide +kernel
theorem dX9_errorOffset_12 : decode cX9_errorOffset 12 = .ok (.aload_n 0, 1) := by decide +kernel
theorem dX9_errorOffset_13 : decode cX9_errorOffset 13 = .ok (.iconst 1, 1) := by decide +kernel
theorem dX9_errorOffset_14 : decode cX9_errorOffset 14 = .ok (.invokevirtual 133, 3) := by decide +kernel
theorem dX9_errorOffset_17 : decode cX9_errorOffset 17 = .ok (.ireturn, 1) := by decide +kernel
theorem dX9_errorOffset_18 : decode cX9_errorOffset 18 = .ok (.aload_n 0, 1) := by decide +kernel
theorem dX9_errorOffset_19 : decode cX9_errorOffset 19 = .ok (.getfield 32, 3) := by decide +kernel
theorem dX9_errorOffset_22 : decode cX9_errorOffset 22 = .ok (.ireturn, 1) := by decide +kernel
theorem dX9_minute_0 : decode cX9_minute 0 = .ok (.aload_n 0, 1) := by decide +kernel
theorem dX9_minute_1 : decode cX9_minute 1 = .ok (.iconst 0, 1) := by decide +kernel
theorem dX9_minute_2 : decode cX9_minute 2 = .ok (.putfield 48, 3) := by decide +kernel
theorem dX9_minute_5 : decode cX9_minute 5 = .ok (.aload_n 0, 1) := by decide +kernel
theorem dX9_minute_6 : decode cX9_minute 6 = .ok (.getfield 7, 3) := by decide +kernel
theorem dX9_minute_9 : decode cX9_minute 9 = .ok (.iconst 0, 1) := by decide +kernel
theorem dX9_minute_10 : decode cX9_minute 10 = .ok (.iaload, 1) := by decide +kernel
theorem dX9_minute_11 : decode cX9_minute 11 = .ok (.ireturn, 1) := by decide +kernel
theorem dX9_rain_0 : decode cX9_rain 0 = .ok (.aload_n 0, 1) := by decide +kernel
theorem dX9_rain_1 : decode cX9_rain 1 = .ok (.iconst 0, 1) := by decide +kernel
theorem dX9_rain_2 : decode cX9_rain 2 = .ok (.putfield 48, 3) := by decide +kernel
theorem dX9_rain_5 : decode cX9_rain 5 = .ok (.aload_n 0, 1) := by decide +kernel
theorem dX9_rain_6 : decode cX9_rain 6 = .ok (.getfield 7, 3) := by decide +kernel
theorem dX9_rain_9 : decode cX9_rain 9 = .ok (.iconst 1, 1) := by decide +kernel
theorem dX9_rain_10 : decode cX9_rain 10 = .ok (.iaload, 1) := by decide +kernel
theorem dX9_rain_11 : decode cX9_rain 11 = .ok (.ireturn, 1) := by decide +kernel
theorem dX9_noiseLimit_0 : decode cX9_noiseLimit 0 = .ok (.aload_n 0, 1) := by decide +kernel
theorem dX9_noiseLimit_1 : decode cX9_noiseLimit 1 = .ok (.iconst 0, 1) := by decide +kernel
theorem dX9_noiseLimit_2 : decode cX9_noiseLimit 2 = .ok (.putfield 48, 3) := by decide +kernel
theorem dX9_noiseLimit_5 : decode cX9_noiseLimit 5 = .ok (.aload_n 0, 1) := by decide +kernel
theorem dX9_noiseLimit_6 : decode cX9_noiseLimit 6 = .ok (.getfield 7, 3) := by decide +kernel
theorem dX9_noiseLimit_9 : decode cX9_noiseLimit 9 = .ok (.iconst 2, 1) := by decide +kernel
theorem dX9_noiseLimit_10 : decode cX9_noiseLimit 10 = .ok (.iaload, 1) := by decide +kernel
theorem dX9_noiseLimit_11 : decode cX9_noiseLimit 11 = .ok (.ireturn, 1) := by decide +kernel
theorem dX9_noise_0 : decode cX9_noise 0 = .ok (.aload_n 0, 1) := by decide +kernel
theorem dX9_noise_1 : decode cX9_noise 1 = .ok (.iconst 0, 1) := by decide +kernel
theorem dX9_noise_2 : decode cX9_noise 2 = .ok (.putfield 48, 3) := by decide +kernel
theorem dX9_noise_5 : decode cX9_noise 5 = .ok (.aload_n 0, 1) := by decide +kernel
theorem dX9_noise_6 : decode cX9_noise 6 = .ok (.getfield 7, 3) := by decide +kernel
theorem dX9_noise_9 : decode cX9_noise 9 = .ok (.iconst 3, 1) := by decide +kernel
theorem dX9_noise_10 : decode cX9_noise 10 = .ok (.iaload, 1) := by decide +kernel
theorem dX9_noise_11 : decode cX9_noise 11 = .ok (.ireturn, 1) := by decide +kernel
theorem dX9_complaints_0 : decode cX9_complaints 0 = .ok (.aload_n 0, 1) := by decide +kernel
theorem dX9_complaints_1 : decode cX9_complaints 1 = .ok (.iconst 0, 1) := by decide +kernel
theorem dX9_complaints_2 : decode cX9_complaints 2 = .ok (.putfield 48, 3) := by decide +kernel
theorem dX9_complaints_5 : decode cX9_complaints 5 = .ok (.aload_n 0, 1) := by decide +kernel
theorem dX9_complaints_6 : decode cX9_complaints 6 = .ok (.getfield 7, 3) := by decide +kernel
theorem dX9_complaints_9 : decode cX9_complaints 9 = .ok (.iconst 4, 1) := by decide +kernel
theorem dX9_complaints_10 : decode cX9_complaints 10 = .ok (.iaload, 1) := by decide +kernel
theorem dX9_complaints_11 : decode cX9_complaints 11 = .ok (.ireturn, 1) := by decide +kernel
theorem dX9_puddle_0 : decode cX9_puddle 0 = .ok (.aload_n 0, 1) := by decide +kernel
theorem dX9_puddle_1 : decode cX9_puddle 1 = .ok (.iconst 0, 1) := by decide +kernel
theorem dX9_puddle_2 : decode cX9_puddle 2 = .ok (.putfield 48, 3) := by decide +kernel
theorem dX9_puddle_5 : decode cX9_puddle 5 = .ok (.aload_n 0, 1) := by decide +kernel
theorem dX9_puddle_6 : decode cX9_puddle 6 = .ok (.getfield 7, 3) := by decide +kernel
theorem dX9_puddle_9 : decode cX9_puddle 9 = .ok (.iconst 5, 1) := by decide +kernel
theorem dX9_puddle_10 : decode cX9_puddle 10 = .ok (.iaload, 1) := by decide +kernel
theorem dX9_puddle_11 : decode cX9_puddle 11 = .ok (.ireturn, 1) := by decide +kernel
theorem dX9_yawn_0 : decode cX9_yawn 0 = .ok (.aload_n 0, 1) := by decide +kernel
theorem dX9_yawn_1 : decode cX9_yawn 1 = .ok (.iconst 0, 1) := by decide +kernel
theorem dX9_yawn_2 : decode cX9_yawn 2 = .ok (.putfield 48, 3) := by decide +kernel
theorem dX9_yawn_5 : decode cX9_yawn 5 = .ok (.aload_n 0, 1) := by decide +kernel
theorem dX9_yawn_6 : decode cX9_yawn 6 = .ok (.getfield 7, 3) := by decide +kernel
theorem dX9_yawn_9 : decode cX9_yawn 9 = .ok (.invokestatic 87, 3) := by decide +kernel
theorem dX9_yawn_12 : decode cX9_yawn 12 = .ok (.ireturn, 1) := by decide +kernel
theorem dX9_tips_0 : decode cX9_tips 0 = .ok (.aload_n 0, 1) := by decide +kernel
theorem dX9_tips_1 : decode cX9_tips 1 = .ok (.iconst 0, 1) := by decide +kernel
theorem dX9_tips_2 : decode cX9_tips 2 = .ok (.putfield 48, 3) := by decide +kernel
theorem dX9_tips_5 : decode cX9_tips 5 = .ok (.aload_n 0, 1) := by decide +kernel
theorem dX9_tips_6 : decode cX9_tips 6 = .ok (.getfield 7, 3) := by decide +kernel
theorem dX9_tips_9 : decode cX9_tips 9 = .ok (.bipush 6, 2) := by decide +kernel
theorem dX9_tips_11 : decode cX9_tips 11 = .ok (.iaload, 1) := by decide +kernel
theorem dX9_tips_12 : decode cX9_tips 12 = .ok (.ireturn, 1) := by decide +kernel
theorem dX9_sizeOf_0 : decode cX9_sizeOf 0 = .ok (.iconst 0, 1) := by decide +kernel
theorem dX9_sizeOf_1 : decode cX9_sizeOf 1 = .ok (.istore_n 1, 1) := by decide +kernel
theorem dX9_sizeOf_2 : decode cX9_sizeOf 2 = .ok (.iload_n 0, 1) := by decide +kernel
theorem dX9_sizeOf_3 : decode cX9_sizeOf 3 = .ok (.istore_n 2, 1) := by decide +kernel
theorem dX9_sizeOf_4 : decode cX9_sizeOf 4 = .ok (.iload_n 2, 1) := by decide +kernel
theorem dX9_sizeOf_5 : decode cX9_sizeOf 5 = .ok (.ifCond .le 14, 3) := by decide +kernel
theorem dX9_sizeOf_8 : decode cX9_sizeOf 8 = .ok (.iinc 1 1, 3) := by decide +kernel
theorem dX9_sizeOf_11 : decode cX9_sizeOf 11 = .ok (.iload_n 2, 1) := by decide +kernel
theorem dX9_sizeOf_12 : decode cX9_sizeOf 12 = .ok (.bipush 27, 2) := by decide +kernel
theorem dX9_sizeOf_14 : decode cX9_sizeOf 14 = .ok (.idiv, 1) := by decide +kernel
theorem dX9_sizeOf_15 : decode cX9_sizeOf 15 = .ok (.istore_n 2, 1) := by decide +kernel
theorem dX9_sizeOf_16 : decode cX9_sizeOf 16 = .ok (.goto (-12), 3) := by decide +kernel
theorem dX9_sizeOf_19 : decode cX9_sizeOf 19 = .ok (.iload_n 1, 1) := by decide +kernel
theorem dX9_sizeOf_20 : decode cX9_sizeOf 20 = .ok (.ireturn, 1) := by decide +kernel
theorem dX9_letterOf_0 : decode cX9_letterOf 0 = .ok (.iload_n 0, 1) := by decide +kernel
theorem dX9_letterOf_1 : decode cX9_letterOf 1 = .ok (.istore_n 2, 1) := by decide +kernel
theorem dX9_letterOf_2 : decode cX9_letterOf 2 = .ok (.iload_n 0, 1) := by decide +kernel
theorem dX9_letterOf_3 : decode cX9_letterOf 3 = .ok (.invokestatic 215, 3) := by decide +kernel
theorem dX9_letterOf_6 : decode cX9_letterOf 6 = .ok (.iconst 1, 1) := by decide +kernel
theorem dX9_letterOf_7 : decode cX9_letterOf 7 = .ok (.isub, 1) := by decide +kernel
theorem dX9_letterOf_8 : decode cX9_letterOf 8 = .ok (.istore_n 3, 1) := by decide +kernel
theorem dX9_letterOf_9 : decode cX9_letterOf 9 = .ok (.iload_n 3, 1) := by decide +kernel
theorem dX9_letterOf_10 : decode cX9_letterOf 10 = .ok (.iload_n 1, 1) := by decide +kernel
theorem dX9_letterOf_11 : decode cX9_letterOf 11 = .ok (.if_icmp .le 14, 3) := by decide +kernel
theorem dX9_letterOf_14 : decode cX9_letterOf 14 = .ok (.iload_n 2, 1) := by decide +kernel
theorem dX9_letterOf_15 : decode cX9_letterOf 15 = .ok (.bipush 27, 2) := by decide +kernel
theorem dX9_letterOf_17 : decode cX9_letterOf 17 = .ok (.idiv, 1) := by decide +kernel
theorem dX9_letterOf_18 : decode cX9_letterOf 18 = .ok (.istore_n 2, 1) := by decide +kernel
theorem dX9_letterOf_19 : decode cX9_letterOf 19 = .ok (.iinc 3 (-1), 3) := by decide +kernel
theorem dX9_letterOf_22 : decode cX9_letterOf 22 = .ok (.goto (-13), 3) := by decide +kernel
theorem dX9_letterOf_25 : decode cX9_letterOf 25 = .ok (.bipush 96, 2) := by decide +kernel
theorem dX9_letterOf_27 : decode cX9_letterOf 27 = .ok (.iload_n 2, 1) := by decide +kernel
theorem dX9_letterOf_28 : decode cX9_letterOf 28 = .ok (.bipush 27, 2) := by decide +kernel
theorem dX9_letterOf_30 : decode cX9_letterOf 30 = .ok (.irem, 1) := by decide +kernel
theorem dX9_letterOf_31 : decode cX9_letterOf 31 = .ok (.iadd, 1) := by decide +kernel
theorem dX9_letterOf_32 : decode cX9_letterOf 32 = .ok (.ireturn, 1) := by decide +kernel
theorem dX9_guestNumber_0 : decode cX9_guestNumber 0 = .ok (.aload_n 0, 1) := by decide +kernel
theorem dX9_guestNumber_1 : decode cX9_guestNumber 1 = .ok (.iload_n 1, 1) := by decide +kernel
theorem dX9_guestNumber_2 : decode cX9_guestNumber 2 = .ok (.invokevirtual 218, 3) := by decide +kernel
theorem dX9_guestNumber_5 : decode cX9_guestNumber 5 = .ok (.ifCond .eq 14, 3) := by decide +kernel
theorem dX9_guestNumber_8 : decode cX9_guestNumber 8 = .ok (.aload_n 0, 1) := by decide +kernel
theorem dX9_guestNumber_9 : decode cX9_guestNumber 9 = .ok (.getfield 7, 3) := by decide +kernel
theorem dX9_guestNumber_12 : decode cX9_guestNumber 12 = .ok (.iload_n 1, 1) := by decide +kernel
theorem dX9_guestNumber_13 : decode cX9_guestNumber 13 = .ok (.iload_n 2, 1) := by decide +kernel
theorem dX9_guestNumber_14 : decode cX9_guestNumber 14 = .ok (.invokestatic 59, 3) := by decide +kernel
theorem dX9_guestNumber_17 : decode cX9_guestNumber 17 = .ok (.iaload, 1) := by decide +kernel
theorem dX9_guestNumber_18 : decode cX9_guestNumber 18 = .ok (.ireturn, 1) := by decide +kernel
theorem dX9_guestNumber_19 : decode cX9_guestNumber 19 = .ok (.aload_n 0, 1) := by decide +kernel
theorem dX9_guestNumber_20 : decode cX9_guestNumber 20 = .ok (.iconst 1, 1) := by decide +kernel
theorem dX9_guestNumber_21 : decode cX9_guestNumber 21 = .ok (.invokevirtual 133, 3) := by decide +kernel
theorem dX9_guestNumber_24 : decode cX9_guestNumber 24 = .ok (.ireturn, 1) := by decide +kernel
theorem dX9_guestCount_0 : decode cX9_guestCount 0 = .ok (.aload_n 0, 1) := by decide +kernel
theorem dX9_guestCount_1 : decode cX9_guestCount 1 = .ok (.iconst 0, 1) := by decide +kernel
theorem dX9_guestCount_2 : decode cX9_guestCount 2 = .ok (.putfield 48, 3) := by decide +kernel
theorem dX9_guestCount_5 : decode cX9_guestCount 5 = .ok (.aload_n 0, 1) := by decide +kernel
theorem dX9_guestCount_6 : decode cX9_guestCount 6 = .ok (.getfield 7, 3) := by decide +kernel
theorem dX9_guestCount_9 : decode cX9_guestCount 9 = .ok (.bipush 7, 2) := by decide +kernel
theorem dX9_guestCount_11 : decode cX9_guestCount 11 = .ok (.iaload, 1) := by decide +kernel
theorem dX9_guestCount_12 : decode cX9_guestCount 12 = .ok (.ireturn, 1) := by decide +kernel
theorem dX9_nameLength_0 : decode cX9_nameLength 0 = .ok (.aload_n 0, 1) := by decide +kernel
theorem dX9_nameLength_1 : decode cX9_nameLength 1 = .ok (.iconst 0, 1) := by decide +kernel
theorem dX9_nameLength_2 : decode cX9_nameLength 2 = .ok (.putfield 48, 3) := by decide +kernel
theorem dX9_nameLength_5 : decode cX9_nameLength 5 = .ok (.aload_n 0, 1) := by decide +kernel
theorem dX9_nameLength_6 : decode cX9_nameLength 6 = .ok (.iload_n 1, 1) := by decide +kernel
theorem dX9_nameLength_7 : decode cX9_nameLength 7 = .ok (.iconst 0, 1) := by decide +kernel
theorem dX9_nameLength_8 : decode cX9_nameLength 8 = .ok (.invokevirtual 221, 3) := by decide +kernel
theorem dX9_nameLength_11 : decode cX9_nameLength 11 = .ok (.invokestatic 215, 3) := by decide +kernel
theorem dX9_nameLength_14 : decode cX9_nameLength 14 = .ok (.ireturn, 1) := by decide +kernel
theorem dX9_nameByte_0 : decode cX9_nameByte 0 = .ok (.aload_n 0, 1) := by decide +kernel
theorem dX9_nameByte_1 : decode cX9_nameByte 1 = .ok (.iconst 0, 1) := by decide +kernel
theorem dX9_nameByte_2 : decode cX9_nameByte 2 = .ok (.putfield 48, 3) := by decide +kernel
theorem dX9_nameByte_5 : decode cX9_nameByte 5 = .ok (.aload_n 0, 1) := by decide +kernel
theorem dX9_nameByte_6 : decode cX9_nameByte 6 = .ok (.iload_n 1, 1) := by decide +kernel
theorem dX9_nameByte_7 : decode cX9_nameByte 7 = .ok (.invokevirtual 218, 3) := by decide +kernel
theorem dX9_nameByte_10 : decode cX9_nameByte 10 = .ok (.ifCond .ne 9, 3) := by decide +kernel
theorem dX9_nameByte_13 : decode cX9_nameByte 13 = .ok (.aload_n 0, 1) := by decide +kernel
theorem dX9_nameByte_14 : decode cX9_nameByte 14 = .ok (.iconst 1, 1) := by decide +kernel
theorem dX9_nameByte_15 : decode cX9_nameByte 15 = .ok (.invokevirtual 133, 3) := by decide +kernel
theorem dX9_nameByte_18 : decode cX9_nameByte 18 = .ok (.ireturn, 1) := by decide +kernel
theorem dX9_nameByte_19 : decode cX9_nameByte 19 = .ok (.aload_n 0, 1) := by decide +kernel
theorem dX9_nameByte_20 : decode cX9_nameByte 20 = .ok (.getfield 7, 3) := by decide +kernel
theorem dX9_nameByte_23 : decode cX9_nameByte 23 = .ok (.iload_n 1, 1) := by decide +kernel
theorem dX9_nameByte_24 : decode cX9_nameByte 24 = .ok (.iconst 0, 1) := by decide +kernel
theorem dX9_nameByte_25 : decode cX9_nameByte 25 = .ok (.invokestatic 59, 3) := by decide +kernel
theorem dX9_nameByte_28 : decode cX9_nameByte 28 = .ok (.iaload, 1) := by decide +kernel
theorem dX9_nameByte_29 : decode cX9_nameByte 29 = .ok (.istore_n 3, 1) := by decide +kernel
theorem dX9_nameByte_30 : decode cX9_nameByte 30 = .ok (.iload_n 2, 1) := by decide +kernel
theorem dX9_nameByte_31 : decode cX9_nameByte 31 = .ok (.iconst 0, 1) := by decide +kernel
theorem dX9_nameByte_32 : decode cX9_nameByte 32 = .ok (.iload_n 3, 1) := by decide +kernel
theorem dX9_nameByte_33 : decode cX9_nameByte 33 = .ok (.invokestatic 215, 3) := by decide +kernel
theorem dX9_nameByte_36 : decode cX9_nameByte 36 = .ok (.iconst 1, 1) := by decide +kernel
theorem dX9_nameByte_37 : decode cX9_nameByte 37 = .ok (.isub, 1) := by decide +kernel
theorem dX9_nameByte_38 : decode cX9_nameByte 38 = .ok (.invokestatic 55, 3) := by decide +kernel
theorem dX9_nameByte_41 : decode cX9_nameByte 41 = .ok (.ifCond .eq 9, 3) := by decide +kernel
theorem dX9_nameByte_44 : decode cX9_nameByte 44 = .ok (.iload_n 3, 1) := by decide +kernel
theorem dX9_nameByte_45 : decode cX9_nameByte 45 = .ok (.iload_n 2, 1) := by decide +kernel
theorem dX9_nameByte_46 : decode cX9_nameByte 46 = .ok (.invokestatic 224, 3) := by decide +kernel
theorem dX9_nameByte_49 : decode cX9_nameByte 49 = .ok (.ireturn, 1) := by decide +kernel
theorem dX9_nameByte_50 : decode cX9_nameByte 50 = .ok (.aload_n 0, 1) := by decide +kernel
theorem dX9_nameByte_51 : decode cX9_nameByte 51 = .ok (.iconst 1, 1) := by decide +kernel
theorem dX9_nameByte_52 : decode cX9_nameByte 52 = .ok (.invokevirtual 133, 3) := by decide +kernel
theorem dX9_nameByte_55 : decode cX9_nameByte 55 = .ok (.ireturn, 1) := by decide +kernel
theorem dX9_bufferName_0 : decode cX9_bufferName 0 = .ok (.iconst 0, 1) := by decide +kernel
theorem dX9_bufferName_1 : decode cX9_bufferName 1 = .ok (.istore_n 1, 1) := by decide +kernel
theorem dX9_bufferName_2 : decode cX9_bufferName 2 = .ok (.aload_n 0, 1) := by decide +kernel
theorem dX9_bufferName_3 : decode cX9_bufferName 3 = .ok (.getfield 130, 3) := by decide +kernel
theorem dX9_bufferName_6 : decode cX9_bufferName 6 = .ok (.iconst 1, 1) := by decide +kernel
theorem dX9_bufferName_7 : decode cX9_bufferName 7 = .ok (.iconst 5, 1) := by decide +kernel
theorem dX9_bufferName_8 : decode cX9_bufferName 8 = .ok (.invokestatic 55, 3) := by decide +kernel
theorem dX9_bufferName_11 : decode cX9_bufferName 11 = .ok (.istore_n 2, 1) := by decide +kernel
theorem dX9_bufferName_12 : decode cX9_bufferName 12 = .ok (.iconst 0, 1) := by decide +kernel
theorem dX9_bufferName_13 : decode cX9_bufferName 13 = .ok (.istore_n 3, 1) := by decide +kernel
theorem dX9_bufferName_14 : decode cX9_bufferName 14 = .ok (.iload_n 3, 1) := by decide +kernel
theorem dX9_bufferName_15 : decode cX9_bufferName 15 = .ok (.aload_n 0, 1) := by decide +kernel
theorem dX9_bufferName_16 : decode cX9_bufferName 16 = .ok (.getfield 130, 3) := by decide +kernel
theorem dX9_bufferName_19 : decode cX9_bufferName 19 = .ok (.if_icmp .ge 34, 3) := by decide +kernel
theorem dX9_bufferName_22 : decode cX9_bufferName 22 = .ok (.iload_n 2, 1) := by decide +kernel
theorem dX9_bufferName_23 : decode cX9_bufferName 23 = .ok (.ifCond .eq 30, 3) := by decide +kernel
theorem dX9_bufferName_26 : decode cX9_bufferName 26 = .ok (.aload_n 0, 1) := by decide +kernel
theorem dX9_bufferName_27 : decode cX9_bufferName 27 = .ok (.iload_n 3, 1) := by decide +kernel
theorem dX9_bufferName_28 : decode cX9_bufferName 28 = .ok (.invokevirtual 153, 3) := by decide +kernel
theorem dX9_bufferName_31 : decode cX9_bufferName 31 = .ok (.istore_n 2, 1) := by decide +kernel
theorem dX9_bufferName_32 : decode cX9_bufferName 32 = .ok (.bipush 27, 2) := by decide +kernel
theorem dX9_bufferName_34 : decode cX9_bufferName 34 = .ok (.iload_n 1, 1) := by decide +kernel
theorem dX9_bufferName_35 : decode cX9_bufferName 35 = .ok (.imul, 1) := by decide +kernel
theorem dX9_bufferName_36 : decode cX9_bufferName 36 = .ok (.aload_n 0, 1) := by decide +kernel
theorem dX9_bufferName_37 : decode cX9_bufferName 37 = .ok (.getfield 29, 3) := by decide +kernel
theorem dX9_bufferName_40 : decode cX9_bufferName 40 = .ok (.iload_n 3, 1) := by decide +kernel
theorem dX9_bufferName_41 : decode cX9_bufferName 41 = .ok (.iaload, 1) := by decide +kernel
theorem dX9_bufferName_42 : decode cX9_bufferName 42 = .ok (.iadd, 1) := by decide +kernel
theorem dX9_bufferName_43 : decode cX9_bufferName 43 = .ok (.bipush 96, 2) := by decide +kernel
theorem dX9_bufferName_45 : decode cX9_bufferName 45 = .ok (.isub, 1) := by decide +kernel
theorem dX9_bufferName_46 : decode cX9_bufferName 46 = .ok (.istore_n 1, 1) := by decide +kernel
theorem dX9_bufferName_47 : decode cX9_bufferName 47 = .ok (.iinc 3 1, 3) := by decide +kernel
theorem dX9_bufferName_50 : decode cX9_bufferName 50 = .ok (.goto (-36), 3) := by decide +kernel
theorem dX9_bufferName_53 : decode cX9_bufferName 53 = .ok (.iload_n 2, 1) := by decide +kernel
theorem dX9_bufferName_54 : decode cX9_bufferName 54 = .ok (.ifCond .eq 5, 3) := by decide +kernel
theorem dX9_bufferName_57 : decode cX9_bufferName 57 = .ok (.iload_n 1, 1) := by decide +kernel
theorem dX9_bufferName_58 : decode cX9_bufferName 58 = .ok (.ireturn, 1) := by decide +kernel
theorem dX9_bufferName_59 : decode cX9_bufferName 59 = .ok (.iconst (-1), 1) := by decide +kernel
theorem dX9_bufferName_60 : decode cX9_bufferName 60 = .ok (.ireturn, 1) := by decide +kernel
theorem dX9_guestOfInput_0 : decode cX9_guestOfInput 0 = .ok (.aload_n 0, 1) := by decide +kernel
theorem dX9_guestOfInput_1 : decode cX9_guestOfInput 1 = .ok (.iconst 0, 1) := by decide +kernel
theorem dX9_guestOfInput_2 : decode cX9_guestOfInput 2 = .ok (.putfield 48, 3) := by decide +kernel
theorem dX9_guestOfInput_5 : decode cX9_guestOfInput 5 = .ok (.aload_n 0, 1) := by decide +kernel
theorem dX9_guestOfInput_6 : decode cX9_guestOfInput 6 = .ok (.invokevirtual 227, 3) := by decide +kernel
theorem dX9_guestOfInput_9 : decode cX9_guestOfInput 9 = .ok (.istore_n 1, 1) := by decide +kernel
theorem dX9_guestOfInput_10 : decode cX9_guestOfInput 10 = .ok (.iconst (-1), 1) := by decide +kernel
theorem dX9_guestOfInput_11 : decode cX9_guestOfInput 11 = .ok (.istore_n 2, 1) := by decide +kernel
theorem dX9_guestOfInput_12 : decode cX9_guestOfInput 12 = .ok (.iload_n 1, 1) := by decide +kernel
theorem dX9_guestOfInput_13 : decode cX9_guestOfInput 13 = .ok (.ifCond .le 12, 3) := by decide +kernel
theorem dX9_guestOfInput_16 : decode cX9_guestOfInput 16 = .ok (.aload_n 0, 1) := by decide +kernel
theorem dX9_guestOfInput_17 : decode cX9_guestOfInput 17 = .ok (.getfield 7, 3) := by decide +kernel
theorem dX9_guestOfInput_20 : decode cX9_guestOfInput 20 = .ok (.iload_n 1, 1) := by decide +kernel
theorem dX9_guestOfInput_21 : decode cX9_guestOfInput 21 = .ok (.invokestatic 185, 3) := by decide +kernel
theorem dX9_guestOfInput_24 : decode cX9_guestOfInput 24 = .ok (.istore_n 2, 1) := by decide +kernel
theorem dX9_guestOfInput_25 : decode cX9_guestOfInput 25 = .ok (.iload_n 2, 1) := by decide +kernel
theorem dX9_guestOfInput_26 : decode cX9_guestOfInput 26 = .ok (.ifCond .ge 9, 3) := by decide +kernel
theorem dX9_guestOfInput_29 : decode cX9_guestOfInput 29 = .ok (.aload_n 0, 1) := by decide +kernel
theorem dX9_guestOfInput_30 : decode cX9_guestOfInput 30 = .ok (.iconst 1, 1) := by decide +kernel
theorem dX9_guestOfInput_31 : decode cX9_guestOfInput 31 = .ok (.invokevirtual 133, 3) := by decide +kernel
theorem dX9_guestOfInput_34 : decode cX9_guestOfInput 34 = .ok (.ireturn, 1) := by decide +kernel
theorem dX9_guestOfInput_35 : decode cX9_guestOfInput 35 = .ok (.iload_n 2, 1) := by decide +kernel
theorem dX9_guestOfInput_36 : decode cX9_guestOfInput 36 = .ok (.ireturn, 1) := by decide +kernel
theorem dX9_generosity_0 : decode cX9_generosity 0 = .ok (.aload_n 0, 1) := by decide +kernel
theorem dX9_generosity_1 : decode cX9_generosity 1 = .ok (.iconst 0, 1) := by decide +kernel
theorem dX9_generosity_2 : decode cX9_generosity 2 = .ok (.putfield 48, 3) := by decide +kernel
theorem dX9_generosity_5 : decode cX9_generosity 5 = .ok (.aload_n 0, 1) := by decide +kernel
theorem dX9_generosity_6 : decode cX9_generosity 6 = .ok (.iload_n 1, 1) := by decide +kernel
theorem dX9_generosity_7 : decode cX9_generosity 7 = .ok (.iconst 1, 1) := by decide +kernel
theorem dX9_generosity_8 : decode cX9_generosity 8 = .ok (.invokevirtual 221, 3) := by decide +kernel
theorem dX9_generosity_11 : decode cX9_generosity 11 = .ok (.ireturn, 1) := by decide +kernel
theorem dX9_bark_0 : decode cX9_bark 0 = .ok (.aload_n 0, 1) := by decide +kernel
theorem dX9_bark_1 : decode cX9_bark 1 = .ok (.iconst 0, 1) := by decide +kernel
theorem dX9_bark_2 : decode cX9_bark 2 = .ok (.putfield 48, 3) := by decide +kernel
theorem dX9_bark_5 : decode cX9_bark 5 = .ok (.aload_n 0, 1) := by decide +kernel
theorem dX9_bark_6 : decode cX9_bark 6 = .ok (.iload_n 1, 1) := by decide +kernel
theorem dX9_bark_7 : decode cX9_bark 7 = .ok (.iconst 2, 1) := by decide +kernel
theorem dX9_bark_8 : decode cX9_bark 8 = .ok (.invokevirtual 221, 3) := by decide +kernel
theorem dX9_bark_11 : decode cX9_bark 11 = .ok (.ireturn, 1) := by decide +kernel
theorem dX9_isOut_0 : decode cX9_isOut 0 = .ok (.aload_n 0, 1) := by decide +kernel
theorem dX9_isOut_1 : decode cX9_isOut 1 = .ok (.iconst 0, 1) := by decide +kernel
theorem dX9_isOut_2 : decode cX9_isOut 2 = .ok (.putfield 48, 3) := by decide +kernel
theorem dX9_isOut_5 : decode cX9_isOut 5 = .ok (.aload_n 0, 1) := by decide +kernel
theorem dX9_isOut_6 : decode cX9_isOut 6 = .ok (.iload_n 1, 1) := by decide +kernel
theorem dX9_isOut_7 : decode cX9_isOut 7 = .ok (.iconst 3, 1) := by decide +kernel
theorem dX9_isOut_8 : decode cX9_isOut 8 = .ok (.invokevirtual 221, 3) := by decide +kernel
theorem dX9_isOut_11 : decode cX9_isOut 11 = .ok (.iconst 1, 1) := by decide +kernel
theorem dX9_isOut_12 : decode cX9_isOut 12 = .ok (.if_icmp .ne 7, 3) := by decide +kernel
theorem dX9_isOut_15 : decode cX9_isOut 15 = .ok (.iconst 1, 1) := by decide +kernel
theorem dX9_isOut_16 : decode cX9_isOut 16 = .ok (.goto 4, 3) := by decide +kernel
theorem dX9_isOut_19 : decode cX9_isOut 19 = .ok (.iconst 0, 1) := by decide +kernel
theorem dX9_isOut_20 : decode cX9_isOut 20 = .ok (.ireturn, 1) := by decide +kernel
theorem dX9_outSince_0 : decode cX9_outSince 0 = .ok (.aload_n 0, 1) := by decide +kernel
theorem dX9_outSince_1 : decode cX9_outSince 1 = .ok (.iconst 0, 1) := by decide +kernel
theorem dX9_outSince_2 : decode cX9_outSince 2 = .ok (.putfield 48, 3) := by decide +kernel
theorem dX9_outSince_5 : decode cX9_outSince 5 = .ok (.aload_n 0, 1) := by decide +kernel
theorem dX9_outSince_6 : decode cX9_outSince 6 = .ok (.iload_n 1, 1) := by decide +kernel
theorem dX9_outSince_7 : decode cX9_outSince 7 = .ok (.invokevirtual 218, 3) := by decide +kernel
theorem dX9_outSince_10 : decode cX9_outSince 10 = .ok (.ifCond .ne 9, 3) := by decide +kernel
theorem dX9_outSince_13 : decode cX9_outSince 13 = .ok (.aload_n 0, 1) := by decide +kernel
theorem dX9_outSince_14 : decode cX9_outSince 14 = .ok (.iconst 1, 1) := by decide +kernel
theorem dX9_outSince_15 : decode cX9_outSince 15 = .ok (.invokevirtual 133, 3) := by decide +kernel
theorem dX9_outSince_18 : decode cX9_outSince 18 = .ok (.ireturn, 1) := by decide +kernel
theorem dX9_outSince_19 : decode cX9_outSince 19 = .ok (.aload_n 0, 1) := by decide +kernel
theorem dX9_outSince_20 : decode cX9_outSince 20 = .ok (.getfield 7, 3) := by decide +kernel
theorem dX9_outSince_23 : decode cX9_outSince 23 = .ok (.iload_n 1, 1) := by decide +kernel
theorem dX9_outSince_24 : decode cX9_outSince 24 = .ok (.invokestatic 109, 3) := by decide +kernel
theorem dX9_outSince_27 : decode cX9_outSince 27 = .ok (.ifCond .eq 14, 3) := by decide +kernel
theorem dX9_outSince_30 : decode cX9_outSince 30 = .ok (.aload_n 0, 1) := by decide +kernel
theorem dX9_outSince_31 : decode cX9_outSince 31 = .ok (.getfield 7, 3) := by decide +kernel
theorem dX9_outSince_34 : decode cX9_outSince 34 = .ok (.iload_n 1, 1) := by decide +kernel
theorem dX9_outSince_35 : decode cX9_outSince 35 = .ok (.iconst 4, 1) := by decide +kernel
theorem dX9_outSince_36 : decode cX9_outSince 36 = .ok (.invokestatic 59, 3) := by decide +kernel
theorem dX9_outSince_39 : decode cX9_outSince 39 = .ok (.iaload, 1) := by decide +kernel
theorem dX9_outSince_40 : decode cX9_outSince 40 = .ok (.ireturn, 1) := by decide +kernel
theorem dX9_outSince_41 : decode cX9_outSince 41 = .ok (.aload_n 0, 1) := by decide +kernel
theorem dX9_outSince_42 : decode cX9_outSince 42 = .ok (.iconst 2, 1) := by decide +kernel
theorem dX9_outSince_43 : decode cX9_outSince 43 = .ok (.invokevirtual 133, 3) := by decide +kernel
theorem dX9_outSince_46 : decode cX9_outSince 46 = .ok (.ireturn, 1) := by decide +kernel
theorem dX9_soak_0 : decode cX9_soak 0 = .ok (.aload_n 0, 1) := by decide +kernel
theorem dX9_soak_1 : decode cX9_soak 1 = .ok (.iconst 0, 1) := by decide +kernel
theorem dX9_soak_2 : decode cX9_soak 2 = .ok (.putfield 48, 3) := by decide +kernel
theorem dX9_soak_5 : decode cX9_soak 5 = .ok (.aload_n 0, 1) := by decide +kernel
theorem dX9_soak_6 : decode cX9_soak 6 = .ok (.iload_n 1, 1) := by decide +kernel
theorem dX9_soak_7 : decode cX9_soak 7 = .ok (.iconst 5, 1) := by decide +kernel
theorem dX9_soak_8 : decode cX9_soak 8 = .ok (.invokevirtual 221, 3) := by decide +kernel
theorem dX9_soak_11 : decode cX9_soak 11 = .ok (.ireturn, 1) := by decide +kernel
theorem dX9_keysAtDesk_0 : decode cX9_keysAtDesk 0 = .ok (.aload_n 0, 1) := by decide +kernel
theorem dX9_keysAtDesk_1 : decode cX9_keysAtDesk 1 = .ok (.iconst 0, 1) := by decide +kernel
theorem dX9_keysAtDesk_2 : decode cX9_keysAtDesk 2 = .ok (.putfield 48, 3) := by decide +kernel
theorem dX9_keysAtDesk_5 : decode cX9_keysAtDesk 5 = .ok (.aload_n 0, 1) := by decide +kernel
theorem dX9_keysAtDesk_6 : decode cX9_keysAtDesk 6 = .ok (.getfield 7, 3) := by decide +kernel
theorem dX9_keysAtDesk_9 : decode cX9_keysAtDesk 9 = .ok (.invokestatic 100, 3) := by decide +kernel
theorem dX9_keysAtDesk_12 : decode cX9_keysAtDesk 12 = .ok (.ireturn, 1) := by decide +kernel
theorem dX9_wouldBark_0 : decode cX9_wouldBark 0 = .ok (.aload_n 0, 1) := by decide +kernel
theorem dX9_wouldBark_1 : decode cX9_wouldBark 1 = .ok (.iconst 0, 1) := by decide +kernel
theorem dX9_wouldBark_2 : decode cX9_wouldBark 2 = .ok (.putfield 48, 3) := by decide +kernel
theorem dX9_wouldBark_5 : decode cX9_wouldBark 5 = .ok (.aload_n 0, 1) := by decide +kernel
theorem dX9_wouldBark_6 : decode cX9_wouldBark 6 = .ok (.iload_n 1, 1) := by decide +kernel
theorem dX9_wouldBark_7 : decode cX9_wouldBark 7 = .ok (.invokevirtual 218, 3) := by decide +kernel
theorem dX9_wouldBark_10 : decode cX9_wouldBark 10 = .ok (.ifCond .eq 20, 3) := by decide +kernel
theorem dX9_wouldBark_13 : decode cX9_wouldBark 13 = .ok (.aload_n 0, 1) := by decide +kernel
theorem dX9_wouldBark_14 : decode cX9_wouldBark 14 = .ok (.getfield 7, 3) := by decide +kernel
theorem dX9_wouldBark_17 : decode cX9_wouldBark 17 = .ok (.iload_n 1, 1) := by decide +kernel
theorem dX9_wouldBark_18 : decode cX9_wouldBark 18 = .ok (.aload_n 0, 1) := by decide +kernel
theorem dX9_wouldBark_19 : decode cX9_wouldBark 19 = .ok (.getfield 7, 3) := by decide +kernel
theorem dX9_wouldBark_22 : decode cX9_wouldBark 22 = .ok (.iconst 0, 1) := by decide +kernel
theorem dX9_wouldBark_23 : decode cX9_wouldBark 23 = .ok (.iaload, 1) := by decide +kernel
theorem dX9_wouldBark_24 : decode cX9_wouldBark 24 = .ok (.iconst 1, 1) := by decide +kernel
theorem dX9_wouldBark_25 : decode cX9_wouldBark 25 = .ok (.iadd, 1) := by decide +kernel
theorem dX9_wouldBark_26 : decode cX9_wouldBark 26 = .ok (.invokestatic 112, 3) := by decide +kernel
theorem dX9_wouldBark_29 : decode cX9_wouldBark 29 = .ok (.ireturn, 1) := by decide +kernel
theorem dX9_wouldBark_30 : decode cX9_wouldBark 30 = .ok (.aload_n 0, 1) := by decide +kernel
theorem dX9_wouldBark_31 : decode cX9_wouldBark 31 = .ok (.iconst 1, 1) := by decide +kernel
theorem dX9_wouldBark_32 : decode cX9_wouldBark 32 = .ok (.invokevirtual 230, 3) := by decide +kernel
theorem dX9_wouldBark_35 : decode cX9_wouldBark 35 = .ok (.ireturn, 1) := by decide +kernel
theorem dX9_umbrellaNumber_0 : decode cX9_umbrellaNumber 0 = .ok (.aload_n 0, 1) := by decide +kernel
theorem dX9_umbrellaNumber_1 : decode cX9_umbrellaNumber 1 = .ok (.iload_n 1, 1) := by decide +kernel
theorem dX9_umbrellaNumber_2 : decode cX9_umbrellaNumber 2 = .ok (.invokevirtual 233, 3) := by decide +kernel
theorem dX9_umbrellaNumber_5 : decode cX9_umbrellaNumber 5 = .ok (.ifCond .eq 14, 3) := by decide +kernel
theorem dX9_umbrellaNumber_8 : decode cX9_umbrellaNumber 8 = .ok (.aload_n 0, 1) := by decide +kernel
theorem dX9_umbrellaNumber_9 : decode cX9_umbrellaNumber 9 = .ok (.getfield 7, 3) := by decide +kernel
theorem dX9_umbrellaNumber_12 : decode cX9_umbrellaNumber 12 = .ok (.iload_n 1, 1) := by decide +kernel
theorem dX9_umbrellaNumber_13 : decode cX9_umbrellaNumber 13 = .ok (.iload_n 2, 1) := by decide +kernel
theorem dX9_umbrellaNumber_14 : decode cX9_umbrellaNumber 14 = .ok (.invokestatic 63, 3) := by decide +kernel
theorem dX9_umbrellaNumber_17 : decode cX9_umbrellaNumber 17 = .ok (.iaload, 1) := by decide +kernel
theorem dX9_umbrellaNumber_18 : decode cX9_umbrellaNumber 18 = .ok (.ireturn, 1) := by decide +kernel
theorem dX9_umbrellaNumber_19 : decode cX9_umbrellaNumber 19 = .ok (.aload_n 0, 1) := by decide +kernel
theorem dX9_umbrellaNumber_20 : decode cX9_umbrellaNumber 20 = .ok (.iconst 1, 1) := by decide +kernel
theorem dX9_umbrellaNumber_21 : decode cX9_umbrellaNumber 21 = .ok (.invokevirtual 133, 3) := by decide +kernel
theorem dX9_umbrellaNumber_24 : decode cX9_umbrellaNumber 24 = .ok (.ireturn, 1) := by decide +kernel
theorem dX9_umbrellaCount_0 : decode cX9_umbrellaCount 0 = .ok (.aload_n 0, 1) := by decide +kernel
theorem dX9_umbrellaCount_1 : decode cX9_umbrellaCount 1 = .ok (.iconst 0, 1) := by decide +kernel
theorem dX9_umbrellaCount_2 : decode cX9_umbrellaCount 2 = .ok (.putfield 48, 3) := by decide +kernel
theorem dX9_umbrellaCount_5 : decode cX9_umbrellaCount 5 = .ok (.aload_n 0, 1) := by decide +kernel
theorem dX9_umbrellaCount_6 : decode cX9_umbrellaCount 6 = .ok (.getfield 7, 3) := by decide +kernel
theorem dX9_umbrellaCount_9 : decode cX9_umbrellaCount 9 = .ok (.bipush 8, 2) := by decide +kernel
theorem dX9_umbrellaCount_11 : decode cX9_umbrellaCount 11 = .ok (.iaload, 1) := by decide +kernel
theorem dX9_umbrellaCount_12 : decode cX9_umbrellaCount 12 = .ok (.ireturn, 1) := by decide +kernel
theorem dX9_ownerOf_0 : decode cX9_ownerOf 0 = .ok (.aload_n 0, 1) := by decide +kernel
theorem dX9_ownerOf_1 : decode cX9_ownerOf 1 = .ok (.iconst 0, 1) := by decide +kernel
theorem dX9_ownerOf_2 : decode cX9_ownerOf 2 = .ok (.putfield 48, 3) := by decide +kernel
theorem dX9_ownerOf_5 : decode cX9_ownerOf 5 = .ok (.aload_n 0, 1) := by decide +kernel
theorem dX9_ownerOf_6 : decode cX9_ownerOf 6 = .ok (.iload_n 1, 1) := by decide +kernel
theorem dX9_ownerOf_7 : decode cX9_ownerOf 7 = .ok (.iconst 0, 1) := by decide +kernel
theorem dX9_ownerOf_8 : decode cX9_ownerOf 8 = .ok (.invokevirtual 236, 3) := by decide +kernel
theorem dX9_ownerOf_11 : decode cX9_ownerOf 11 = .ok (.ireturn, 1) := by decide +kernel
theorem dX9_wetness_0 : decode cX9_wetness 0 = .ok (.aload_n 0, 1) := by decide +kernel
theorem dX9_wetness_1 : decode cX9_wetness 1 = .ok (.iconst 0, 1) := by decide +kernel
theorem dX9_wetness_2 : decode cX9_wetness 2 = .ok (.putfield 48, 3) := by decide +kernel
theorem dX9_wetness_5 : decode cX9_wetness 5 = .ok (.aload_n 0, 1) := by decide +kernel
theorem dX9_wetness_6 : decode cX9_wetness 6 = .ok (.iload_n 1, 1) := by decide +kernel
theorem dX9_wetness_7 : decode cX9_wetness 7 = .ok (.iconst 1, 1) := by decide +kernel
theorem dX9_wetness_8 : decode cX9_wetness 8 = .ok (.invokevirtual 236, 3) := by decide +kernel
theorem dX9_wetness_11 : decode cX9_wetness 11 = .ok (.ireturn, 1) := by decide +kernel
theorem dX9_isInStand_0 : decode cX9_isInStand 0 = .ok (.aload_n 0, 1) := by decide +kernel
theorem dX9_isInStand_1 : decode cX9_isInStand 1 = .ok (.iconst 0, 1) := by decide +kernel
theorem dX9_isInStand_2 : decode cX9_isInStand 2 = .ok (.putfield 48, 3) := by decide +kernel
theorem dX9_isInStand_5 : decode cX9_isInStand 5 = .ok (.aload_n 0, 1) := by decide +kernel
theorem dX9_isInStand_6 : decode cX9_isInStand 6 = .ok (.iload_n 1, 1) := by decide +kernel
theorem dX9_isInStand_7 : decode cX9_isInStand 7 = .ok (.invokevirtual 233, 3) := by decide +kernel
theorem dX9_isInStand_10 : decode cX9_isInStand 10 = .ok (.ifCond .eq 12, 3) := by decide +kernel
theorem dX9_isInStand_13 : decode cX9_isInStand 13 = .ok (.aload_n 0, 1) := by decide +kernel
theorem dX9_isInStand_14 : decode cX9_isInStand 14 = .ok (.getfield 7, 3) := by decide +kernel
theorem dX9_isInStand_17 : decode cX9_isInStand 17 = .ok (.iload_n 1, 1) := by decide +kernel
theorem dX9_isInStand_18 : decode cX9_isInStand 18 = .ok (.invokestatic 66, 3) := by decide +kernel
theorem dX9_isInStand_21 : decode cX9_isInStand 21 = .ok (.ireturn, 1) := by decide +kernel
theorem dX9_isInStand_22 : decode cX9_isInStand 22 = .ok (.aload_n 0, 1) := by decide +kernel
theorem dX9_isInStand_23 : decode cX9_isInStand 23 = .ok (.iconst 1, 1) := by decide +kernel
theorem dX9_isInStand_24 : decode cX9_isInStand 24 = .ok (.invokevirtual 230, 3) := by decide +kernel
theorem dX9_isInStand_27 : decode cX9_isInStand 27 = .ok (.ireturn, 1) := by decide +kernel
theorem dX9_isUsable_0 : decode cX9_isUsable 0 = .ok (.aload_n 0, 1) := by decide +kernel
theorem dX9_isUsable_1 : decode cX9_isUsable 1 = .ok (.iconst 0, 1) := by decide +kernel
theorem dX9_isUsable_2 : decode cX9_isUsable 2 = .ok (.putfield 48, 3) := by decide +kernel
theorem dX9_isUsable_5 : decode cX9_isUsable 5 = .ok (.aload_n 0, 1) := by decide +kernel
theorem dX9_isUsable_6 : decode cX9_isUsable 6 = .ok (.iload_n 1, 1) := by decide +kernel
theorem dX9_isUsable_7 : decode cX9_isUsable 7 = .ok (.invokevirtual 233, 3) := by decide +kernel
theorem dX9_isUsable_10 : decode cX9_isUsable 10 = .ok (.ifCond .eq 12, 3) := by decide +kernel
theorem dX9_isUsable_13 : decode cX9_isUsable 13 = .ok (.aload_n 0, 1) := by decide +kernel
theorem dX9_isUsable_14 : decode cX9_isUsable 14 = .ok (.getfield 7, 3) := by decide +kernel
theorem dX9_isUsable_17 : decode cX9_isUsable 17 = .ok (.iload_n 1, 1) := by decide +kernel
theorem dX9_isUsable_18 : decode cX9_isUsable 18 = .ok (.invokestatic 70, 3) := by decide +kernel
theorem dX9_isUsable_21 : decode cX9_isUsable 21 = .ok (.ireturn, 1) := by decide +kernel
theorem dX9_isUsable_22 : decode cX9_isUsable 22 = .ok (.aload_n 0, 1) := by decide +kernel
theorem dX9_isUsable_23 : decode cX9_isUsable 23 = .ok (.iconst 1, 1) := by decide +kernel
theorem dX9_isUsable_24 : decode cX9_isUsable 24 = .ok (.invokevirtual 230, 3) := by decide +kernel
theorem dX9_isUsable_27 : decode cX9_isUsable 27 = .ok (.ireturn, 1) := by decide +kernel
theorem dX9_carrierOf_0 : decode cX9_carrierOf 0 = .ok (.aload_n 0, 1) := by decide +kernel
theorem dX9_carrierOf_1 : decode cX9_carrierOf 1 = .ok (.iconst 0, 1) := by decide +kernel
theorem dX9_carrierOf_2 : decode cX9_carrierOf 2 = .ok (.putfield 48, 3) := by decide +kernel
theorem dX9_carrierOf_5 : decode cX9_carrierOf 5 = .ok (.aload_n 0, 1) := by decide +kernel
theorem dX9_carrierOf_6 : decode cX9_carrierOf 6 = .ok (.iload_n 1, 1) := by decide +kernel
theorem dX9_carrierOf_7 : decode cX9_carrierOf 7 = .ok (.invokevirtual 233, 3) := by decide +kernel
theorem dX9_carrierOf_10 : decode cX9_carrierOf 10 = .ok (.ifCond .ne 9, 3) := by decide +kernel
theorem dX9_carrierOf_13 : decode cX9_carrierOf 13 = .ok (.aload_n 0, 1) := by decide +kernel
theorem dX9_carrierOf_14 : decode cX9_carrierOf 14 = .ok (.iconst 1, 1) := by decide +kernel
theorem dX9_carrierOf_15 : decode cX9_carrierOf 15 = .ok (.invokevirtual 133, 3) := by decide +kernel
theorem dX9_carrierOf_18 : decode cX9_carrierOf 18 = .ok (.ireturn, 1) := by decide +kernel
theorem dX9_carrierOf_19 : decode cX9_carrierOf 19 = .ok (.aload_n 0, 1) := by decide +kernel
theorem dX9_carrierOf_20 : decode cX9_carrierOf 20 = .ok (.getfield 7, 3) := by decide +kernel
theorem dX9_carrierOf_23 : decode cX9_carrierOf 23 = .ok (.iload_n 1, 1) := by decide +kernel
theorem dX9_carrierOf_24 : decode cX9_carrierOf 24 = .ok (.invokestatic 66, 3) := by decide +kernel
theorem dX9_carrierOf_27 : decode cX9_carrierOf 27 = .ok (.ifCond .eq 9, 3) := by decide +kernel
theorem dX9_carrierOf_30 : decode cX9_carrierOf 30 = .ok (.aload_n 0, 1) := by decide +kernel
theorem dX9_carrierOf_31 : decode cX9_carrierOf 31 = .ok (.iconst 2, 1) := by decide +kernel
theorem dX9_carrierOf_32 : decode cX9_carrierOf 32 = .ok (.invokevirtual 133, 3) := by decide +kernel
theorem dX9_carrierOf_35 : decode cX9_carrierOf 35 = .ok (.ireturn, 1) := by decide +kernel
theorem dX9_carrierOf_36 : decode cX9_carrierOf 36 = .ok (.aload_n 0, 1) := by decide +kernel
theorem dX9_carrierOf_37 : decode cX9_carrierOf 37 = .ok (.getfield 7, 3) := by decide +kernel
theorem dX9_carrierOf_40 : decode cX9_carrierOf 40 = .ok (.iload_n 1, 1) := by decide +kernel
theorem dX9_carrierOf_41 : decode cX9_carrierOf 41 = .ok (.iconst 2, 1) := by decide +kernel
theorem dX9_carrierOf_42 : decode cX9_carrierOf 42 = .ok (.invokestatic 63, 3) := by decide +kernel
theorem dX9_carrierOf_45 : decode cX9_carrierOf 45 = .ok (.iaload, 1) := by decide +kernel
theorem dX9_carrierOf_46 : decode cX9_carrierOf 46 = .ok (.ireturn, 1) := by decide +kernel
theorem dX9_umbrellaOf_0 : decode cX9_umbrellaOf 0 = .ok (.aload_n 0, 1) := by decide +kernel
theorem dX9_umbrellaOf_1 : decode cX9_umbrellaOf 1 = .ok (.iconst 0, 1) := by decide +kernel
theorem dX9_umbrellaOf_2 : decode cX9_umbrellaOf 2 = .ok (.putfield 48, 3) := by decide +kernel
theorem dX9_umbrellaOf_5 : decode cX9_umbrellaOf 5 = .ok (.aload_n 0, 1) := by decide +kernel
theorem dX9_umbrellaOf_6 : decode cX9_umbrellaOf 6 = .ok (.iload_n 1, 1) := by decide +kernel
theorem dX9_umbrellaOf_7 : decode cX9_umbrellaOf 7 = .ok (.invokevirtual 218, 3) := by decide +kernel
theorem dX9_umbrellaOf_10 : decode cX9_umbrellaOf 10 = .ok (.ifCond .ne 9, 3) := by decide +kernel
theorem dX9_umbrellaOf_13 : decode cX9_umbrellaOf 13 = .ok (.aload_n 0, 1) := by decide +kernel
theorem dX9_umbrellaOf_14 : decode cX9_umbrellaOf 14 = .ok (.iconst 1, 1) := by decide +kernel
theorem dX9_umbrellaOf_15 : decode cX9_umbrellaOf 15 = .ok (.invokevirtual 133, 3) := by decide +kernel
theorem dX9_umbrellaOf_18 : decode cX9_umbrellaOf 18 = .ok (.ireturn, 1) := by decide +kernel
theorem dX9_umbrellaOf_19 : decode cX9_umbrellaOf 19 = .ok (.aload_n 0, 1) := by decide +kernel
theorem dX9_umbrellaOf_20 : decode cX9_umbrellaOf 20 = .ok (.getfield 7, 3) := by decide +kernel
theorem dX9_umbrellaOf_23 : decode cX9_umbrellaOf 23 = .ok (.iload_n 1, 1) := by decide +kernel
theorem dX9_umbrellaOf_24 : decode cX9_umbrellaOf 24 = .ok (.invokestatic 106, 3) := by decide +kernel
theorem dX9_umbrellaOf_27 : decode cX9_umbrellaOf 27 = .ok (.istore_n 2, 1) := by decide +kernel
theorem dX9_umbrellaOf_28 : decode cX9_umbrellaOf 28 = .ok (.iload_n 2, 1) := by decide +kernel
theorem dX9_umbrellaOf_29 : decode cX9_umbrellaOf 29 = .ok (.ifCond .ge 9, 3) := by decide +kernel
theorem dX9_umbrellaOf_32 : decode cX9_umbrellaOf 32 = .ok (.aload_n 0, 1) := by decide +kernel
theorem dX9_umbrellaOf_33 : decode cX9_umbrellaOf 33 = .ok (.iconst 2, 1) := by decide +kernel
theorem dX9_umbrellaOf_34 : decode cX9_umbrellaOf 34 = .ok (.invokevirtual 133, 3) := by decide +kernel
theorem dX9_umbrellaOf_37 : decode cX9_umbrellaOf 37 = .ok (.ireturn, 1) := by decide +kernel
theorem dX9_umbrellaOf_38 : decode cX9_umbrellaOf 38 = .ok (.iload_n 2, 1) := by decide +kernel
theorem dX9_umbrellaOf_39 : decode cX9_umbrellaOf 39 = .ok (.ireturn, 1) := by decide +kernel
theorem dX9_standCount_0 : decode cX9_standCount 0 = .ok (.aload_n 0, 1) := by decide +kernel
theorem dX9_standCount_1 : decode cX9_standCount 1 = .ok (.iconst 0, 1) := by decide +kernel
theorem dX9_standCount_2 : decode cX9_standCount 2 = .ok (.putfield 48, 3) := by decide +kernel
theorem dX9_standCount_5 : decode cX9_standCount 5 = .ok (.iconst 0, 1) := by decide +kernel
theorem dX9_standCount_6 : decode cX9_standCount 6 = .ok (.istore_n 1, 1) := by decide +kernel
theorem dX9_standCount_7 : decode cX9_standCount 7 = .ok (.iconst 0, 1) := by decide +kernel
theorem dX9_standCount_8 : decode cX9_standCount 8 = .ok (.istore_n 2, 1) := by decide +kernel
theorem dX9_standCount_9 : decode cX9_standCount 9 = .ok (.iload_n 2, 1) := by decide +kernel
theorem dX9_standCount_10 : decode cX9_standCount 10 = .ok (.aload_n 0, 1) := by decide +kernel
theorem dX9_standCount_11 : decode cX9_standCount 11 = .ok (.getfield 7, 3) := by decide +kernel
theorem dX9_standCount_14 : decode cX9_standCount 14 = .ok (.bipush 8, 2) := by decide +kernel
theorem dX9_standCount_16 : decode cX9_standCount 16 = .ok (.iaload, 1) := by decide +kernel
theorem dX9_standCount_17 : decode cX9_standCount 17 = .ok (.if_icmp .ge 23, 3) := by decide +kernel
theorem dX9_standCount_20 : decode cX9_standCount 20 = .ok (.aload_n 0, 1) := by decide +kernel
theorem dX9_standCount_21 : decode cX9_standCount 21 = .ok (.getfield 7, 3) := by decide +kernel
theorem dX9_standCount_24 : decode cX9_standCount 24 = .ok (.iload_n 2, 1) := by decide +kernel
theorem dX9_standCount_25 : decode cX9_standCount 25 = .ok (.invokestatic 66, 3) := by decide +kernel
theorem dX9_standCount_28 : decode cX9_standCount 28 = .ok (.ifCond .eq 6, 3) := by decide +kernel
theorem dX9_standCount_31 : decode cX9_standCount 31 = .ok (.iinc 1 1, 3) := by decide +kernel
theorem dX9_standCount_34 : decode cX9_standCount 34 = .ok (.iinc 2 1, 3) := by decide +kernel
theorem dX9_standCount_37 : decode cX9_standCount 37 = .ok (.goto (-28), 3) := by decide +kernel
theorem dX9_standCount_40 : decode cX9_standCount 40 = .ok (.iload_n 1, 1) := by decide +kernel
theorem dX9_standCount_41 : decode cX9_standCount 41 = .ok (.ireturn, 1) := by decide +kernel
theorem dX9_borrowedCount_0 : decode cX9_borrowedCount 0 = .ok (.aload_n 0, 1) := by decide +kernel
theorem dX9_borrowedCount_1 : decode cX9_borrowedCount 1 = .ok (.iconst 0, 1) := by decide +kernel
theorem dX9_borrowedCount_2 : decode cX9_borrowedCount 2 = .ok (.putfield 48, 3) := by decide +kernel
theorem dX9_borrowedCount_5 : decode cX9_borrowedCount 5 = .ok (.iconst 0, 1) := by decide +kernel
theorem dX9_borrowedCount_6 : decode cX9_borrowedCount 6 = .ok (.istore_n 1, 1) := by decide +kernel
theorem dX9_borrowedCount_7 : decode cX9_borrowedCount 7 = .ok (.iconst 0, 1) := by decide +kernel
theorem dX9_borrowedCount_8 : decode cX9_borrowedCount 8 = .ok (.istore_n 2, 1) := by decide +kernel
theorem dX9_borrowedCount_9 : decode cX9_borrowedCount 9 = .ok (.iload_n 2, 1) := by decide +kernel
theorem dX9_borrowedCount_10 : decode cX9_borrowedCount 10 = .ok (.aload_n 0, 1) := by decide +kernel
theorem dX9_borrowedCount_11 : decode cX9_borrowedCount 11 = .ok (.getfield 7, 3) := by decide +kernel
theorem dX9_borrowedCount_14 : decode cX9_borrowedCount 14 = .ok (.bipush 8, 2) := by decide +kernel
theorem dX9_borrowedCount_16 : decode cX9_borrowedCount 16 = .ok (.iaload, 1) := by decide +kernel
theorem dX9_borrowedCount_17 : decode cX9_borrowedCount 17 = .ok (.if_icmp .ge 46, 3) := by decide +kernel
theorem dX9_borrowedCount_20 : decode cX9_borrowedCount 20 = .ok (.aload_n 0, 1) := by decide +kernel
theorem dX9_borrowedCount_21 : decode cX9_borrowedCount 21 = .ok (.getfield 7, 3) := by decide +kernel
theorem dX9_borrowedCount_24 : decode cX9_borrowedCount 24 = .ok (.iload_n 2, 1) := by decide +kernel
theorem dX9_borrowedCount_25 : decode cX9_borrowedCount 25 = .ok (.invokestatic 66, 3) := by decide +kernel
theorem dX9_borrowedCount_28 : decode cX9_borrowedCount 28 = .ok (.ifCond .ne 29, 3) := by decide +kernel
theorem dX9_borrowedCount_31 : decode cX9_borrowedCount 31 = .ok (.aload_n 0, 1) := by decide +kernel
theorem dX9_borrowedCount_32 : decode cX9_borrowedCount 32 = .ok (.getfield 7, 3) := by decide +kernel
theorem dX9_borrowedCount_35 : decode cX9_borrowedCount 35 = .ok (.iload_n 2, 1) := by decide +kernel
theorem dX9_borrowedCount_36 : decode cX9_borrowedCount 36 = .ok (.iconst 2, 1) := by decide +kernel
theorem dX9_borrowedCount_37 : decode cX9_borrowedCount 37 = .ok (.invokestatic 63, 3) := by decide +kernel
theorem dX9_borrowedCount_40 : decode cX9_borrowedCount 40 = .ok (.iaload, 1) := by decide +kernel
theorem dX9_borrowedCount_41 : decode cX9_borrowedCount 41 = .ok (.aload_n 0, 1) := by decide +kernel
theorem dX9_borrowedCount_42 : decode cX9_borrowedCount 42 = .ok (.getfield 7, 3) := by decide +kernel
theorem dX9_borrowedCount_45 : decode cX9_borrowedCount 45 = .ok (.iload_n 2, 1) := by decide +kernel
theorem dX9_borrowedCount_46 : decode cX9_borrowedCount 46 = .ok (.iconst 0, 1) := by decide +kernel
theorem dX9_borrowedCount_47 : decode cX9_borrowedCount 47 = .ok (.invokestatic 63, 3) := by decide +kernel
theorem dX9_borrowedCount_50 : decode cX9_borrowedCount 50 = .ok (.iaload, 1) := by decide +kernel
theorem dX9_borrowedCount_51 : decode cX9_borrowedCount 51 = .ok (.if_icmp .eq 6, 3) := by decide +kernel
theorem dX9_borrowedCount_54 : decode cX9_borrowedCount 54 = .ok (.iinc 1 1, 3) := by decide +kernel
theorem dX9_borrowedCount_57 : decode cX9_borrowedCount 57 = .ok (.iinc 2 1, 3) := by decide +kernel
theorem dX9_borrowedCount_60 : decode cX9_borrowedCount 60 = .ok (.goto (-51), 3) := by decide +kernel
theorem dX9_borrowedCount_63 : decode cX9_borrowedCount 63 = .ok (.iload_n 1, 1) := by decide +kernel
theorem dX9_borrowedCount_64 : decode cX9_borrowedCount 64 = .ok (.ireturn, 1) := by decide +kernel
theorem dX9_entryNumber_0 : decode cX9_entryNumber 0 = .ok (.iload_n 1, 1) := by decide +kernel
theorem dX9_entryNumber_1 : decode cX9_entryNumber 1 = .ok (.iconst 0, 1) := by decide +kernel
theorem dX9_entryNumber_2 : decode cX9_entryNumber 2 = .ok (.aload_n 0, 1) := by decide +kernel
theorem dX9_entryNumber_3 : decode cX9_entryNumber 3 = .ok (.getfield 7, 3) := by decide +kernel
theorem dX9_entryNumber_6 : decode cX9_entryNumber 6 = .ok (.bipush 9, 2) := by decide +kernel
theorem dX9_entryNumber_8 : decode cX9_entryNumber 8 = .ok (.iaload, 1) := by decide +kernel
theorem dX9_entryNumber_9 : decode cX9_entryNumber 9 = .ok (.iconst 1, 1) := by decide +kernel
theorem dX9_entryNumber_10 : decode cX9_entryNumber 10 = .ok (.isub, 1) := by decide +kernel
theorem dX9_entryNumber_11 : decode cX9_entryNumber 11 = .ok (.invokestatic 55, 3) := by decide +kernel
theorem dX9_entryNumber_14 : decode cX9_entryNumber 14 = .ok (.ifCond .eq 14, 3) := by decide +kernel
theorem dX9_entryNumber_17 : decode cX9_entryNumber 17 = .ok (.aload_n 0, 1) := by decide +kernel
theorem dX9_entryNumber_18 : decode cX9_entryNumber 18 = .ok (.getfield 7, 3) := by decide +kernel
theorem dX9_entryNumber_21 : decode cX9_entryNumber 21 = .ok (.iload_n 1, 1) := by decide +kernel
theorem dX9_entryNumber_22 : decode cX9_entryNumber 22 = .ok (.iload_n 2, 1) := by decide +kernel
theorem dX9_entryNumber_23 : decode cX9_entryNumber 23 = .ok (.invokestatic 81, 3) := by decide +kernel
theorem dX9_entryNumber_26 : decode cX9_entryNumber 26 = .ok (.iaload, 1) := by decide +kernel
theorem dX9_entryNumber_27 : decode cX9_entryNumber 27 = .ok (.ireturn, 1) := by decide +kernel
theorem dX9_entryNumber_28 : decode cX9_entryNumber 28 = .ok (.aload_n 0, 1) := by decide +kernel
theorem dX9_entryNumber_29 : decode cX9_entryNumber 29 = .ok (.iconst 1, 1) := by decide +kernel
theorem dX9_entryNumber_30 : decode cX9_entryNumber 30 = .ok (.invokevirtual 133, 3) := by decide +kernel
theorem dX9_entryNumber_33 : decode cX9_entryNumber 33 = .ok (.ireturn, 1) := by decide +kernel
theorem dX9_entryCount_0 : decode cX9_entryCount 0 = .ok (.aload_n 0, 1) := by decide +kernel
theorem dX9_entryCount_1 : decode cX9_entryCount 1 = .ok (.iconst 0, 1) := by decide +kernel
theorem dX9_entryCount_2 : decode cX9_entryCount 2 = .ok (.putfield 48, 3) := by decide +kernel
theorem dX9_entryCount_5 : decode cX9_entryCount 5 = .ok (.aload_n 0, 1) := by decide +kernel
theorem dX9_entryCount_6 : decode cX9_entryCount 6 = .ok (.getfield 7, 3) := by decide +kernel
theorem dX9_entryCount_9 : decode cX9_entryCount 9 = .ok (.bipush 9, 2) := by decide +kernel
theorem dX9_entryCount_11 : decode cX9_entryCount 11 = .ok (.iaload, 1) := by decide +kernel
theorem dX9_entryCount_12 : decode cX9_entryCount 12 = .ok (.ireturn, 1) := by decide +kernel
theorem dX9_entryMinute_0 : decode cX9_entryMinute 0 = .ok (.aload_n 0, 1) := by decide +kernel
theorem dX9_entryMinute_1 : decode cX9_entryMinute 1 = .ok (.iconst 0, 1) := by decide +kernel
theorem dX9_entryMinute_2 : decode cX9_entryMinute 2 = .ok (.putfield 48, 3) := by decide +kernel
theorem dX9_entryMinute_5 : decode cX9_entryMinute 5 = .ok (.aload_n 0, 1) := by decide +kernel
theorem dX9_entryMinute_6 : decode cX9_entryMinute 6 = .ok (.iload_n 1, 1) := by decide +kernel
theorem dX9_entryMinute_7 : decode cX9_entryMinute 7 = .ok (.iconst 0, 1) := by decide +kernel
theorem dX9_entryMinute_8 : decode cX9_entryMinute 8 = .ok (.invokevirtual 239, 3) := by decide +kernel
theorem dX9_entryMinute_11 : decode cX9_entryMinute 11 = .ok (.ireturn, 1) := by decide +kernel
theorem dX9_entryGuest_0 : decode cX9_entryGuest 0 = .ok (.aload_n 0, 1) := by decide +kernel
theorem dX9_entryGuest_1 : decode cX9_entryGuest 1 = .ok (.iconst 0, 1) := by decide +kernel
theorem dX9_entryGuest_2 : decode cX9_entryGuest 2 = .ok (.putfield 48, 3) := by decide +kernel
theorem dX9_entryGuest_5 : decode cX9_entryGuest 5 = .ok (.aload_n 0, 1) := by decide +kernel
theorem dX9_entryGuest_6 : decode cX9_entryGuest 6 = .ok (.iload_n 1, 1) := by decide +kernel
theorem dX9_entryGuest_7 : decode cX9_entryGuest 7 = .ok (.iconst 1, 1) := by decide +kernel
theorem dX9_entryGuest_8 : decode cX9_entryGuest 8 = .ok (.invokevirtual 239, 3) := by decide +kernel
theorem dX9_entryGuest_11 : decode cX9_entryGuest 11 = .ok (.ireturn, 1) := by decide +kernel
theorem dX9_isLeaving_0 : decode cX9_isLeaving 0 = .ok (.aload_n 0, 1) := by decide +kernel
theorem dX9_isLeaving_1 : decode cX9_isLeaving 1 = .ok (.iconst 0, 1) := by decide +kernel
theorem dX9_isLeaving_2 : decode cX9_isLeaving 2 = .ok (.putfield 48, 3) := by decide +kernel
theorem dX9_isLeaving_5 : decode cX9_isLeaving 5 = .ok (.aload_n 0, 1) := by decide +kernel
theorem dX9_isLeaving_6 : decode cX9_isLeaving 6 = .ok (.iload_n 1, 1) := by decide +kernel
theorem dX9_isLeaving_7 : decode cX9_isLeaving 7 = .ok (.iconst 2, 1) := by decide +kernel
theorem dX9_isLeaving_8 : decode cX9_isLeaving 8 = .ok (.invokevirtual 239, 3) := by decide +kernel
theorem dX9_isLeaving_11 : decode cX9_isLeaving 11 = .ok (.iconst 1, 1) := by decide +kernel
theorem dX9_isLeaving_12 : decode cX9_isLeaving 12 = .ok (.if_icmp .ne 7, 3) := by decide +kernel
theorem dX9_isLeaving_15 : decode cX9_isLeaving 15 = .ok (.iconst 1, 1) := by decide +kernel
theorem dX9_isLeaving_16 : decode cX9_isLeaving 16 = .ok (.goto 4, 3) := by decide +kernel
theorem dX9_isLeaving_19 : decode cX9_isLeaving 19 = .ok (.iconst 0, 1) := by decide +kernel
theorem dX9_isLeaving_20 : decode cX9_isLeaving 20 = .ok (.ireturn, 1) := by decide +kernel
theorem dX9_isPast_0 : decode cX9_isPast 0 = .ok (.iload_n 1, 1) := by decide +kernel
theorem dX9_isPast_1 : decode cX9_isPast 1 = .ok (.iconst 0, 1) := by decide +kernel
theorem dX9_isPast_2 : decode cX9_isPast 2 = .ok (.aload_n 0, 1) := by decide +kernel
theorem dX9_isPast_3 : decode cX9_isPast 3 = .ok (.getfield 7, 3) := by decide +kernel
theorem dX9_isPast_6 : decode cX9_isPast 6 = .ok (.iconst 0, 1) := by decide +kernel
theorem dX9_isPast_7 : decode cX9_isPast 7 = .ok (.iaload, 1) := by decide +kernel
theorem dX9_isPast_8 : decode cX9_isPast 8 = .ok (.iconst 1, 1) := by decide +kernel
theorem dX9_isPast_9 : decode cX9_isPast 9 = .ok (.isub, 1) := by decide +kernel
theorem dX9_isPast_10 : decode cX9_isPast 10 = .ok (.invokestatic 55, 3) := by decide +kernel
theorem dX9_isPast_13 : decode cX9_isPast 13 = .ok (.ifCond .eq 23, 3) := by decide +kernel
theorem dX9_isPast_16 : decode cX9_isPast 16 = .ok (.iload_n 2, 1) := by decide +kernel
theorem dX9_isPast_17 : decode cX9_isPast 17 = .ok (.iload_n 1, 1) := by decide +kernel
theorem dX9_isPast_18 : decode cX9_isPast 18 = .ok (.aload_n 0, 1) := by decide +kernel
theorem dX9_isPast_19 : decode cX9_isPast 19 = .ok (.getfield 7, 3) := by decide +kernel
theorem dX9_isPast_22 : decode cX9_isPast 22 = .ok (.iconst 0, 1) := by decide +kernel
theorem dX9_isPast_23 : decode cX9_isPast 23 = .ok (.iaload, 1) := by decide +kernel
theorem dX9_isPast_24 : decode cX9_isPast 24 = .ok (.iconst 1, 1) := by decide +kernel
theorem dX9_isPast_25 : decode cX9_isPast 25 = .ok (.isub, 1) := by decide +kernel
theorem dX9_isPast_26 : decode cX9_isPast 26 = .ok (.invokestatic 55, 3) := by decide +kernel
theorem dX9_isPast_29 : decode cX9_isPast 29 = .ok (.ifCond .eq 7, 3) := by decide +kernel
theorem dX9_isPast_32 : decode cX9_isPast 32 = .ok (.iconst 1, 1) := by decide +kernel
theorem dX9_isPast_33 : decode cX9_isPast 33 = .ok (.goto 4, 3) := by decide +kernel
theorem dX9_isPast_36 : decode cX9_isPast 36 = .ok (.iconst 0, 1) := by decide +kernel
theorem dX9_isPast_37 : decode cX9_isPast 37 = .ok (.ireturn, 1) := by decide +kernel
theorem dX9_wasOut_0 : decode cX9_wasOut 0 = .ok (.aload_n 0, 1) := by decide +kernel
theorem dX9_wasOut_1 : decode cX9_wasOut 1 = .ok (.iconst 0, 1) := by decide +kernel
theorem dX9_wasOut_2 : decode cX9_wasOut 2 = .ok (.putfield 48, 3) := by decide +kernel
theorem dX9_wasOut_5 : decode cX9_wasOut 5 = .ok (.aload_n 0, 1) := by decide +kernel
theorem dX9_wasOut_6 : decode cX9_wasOut 6 = .ok (.iload_n 1, 1) := by decide +kernel
theorem dX9_wasOut_7 : decode cX9_wasOut 7 = .ok (.invokevirtual 218, 3) := by decide +kernel
theorem dX9_wasOut_10 : decode cX9_wasOut 10 = .ok (.ifCond .ne 9, 3) := by decide +kernel
theorem dX9_wasOut_13 : decode cX9_wasOut 13 = .ok (.aload_n 0, 1) := by decide +kernel
theorem dX9_wasOut_14 : decode cX9_wasOut 14 = .ok (.iconst 1, 1) := by decide +kernel
theorem dX9_wasOut_15 : decode cX9_wasOut 15 = .ok (.invokevirtual 230, 3) := by decide +kernel
theorem dX9_wasOut_18 : decode cX9_wasOut 18 = .ok (.ireturn, 1) := by decide +kernel
theorem dX9_wasOut_19 : decode cX9_wasOut 19 = .ok (.aload_n 0, 1) := by decide +kernel
theorem dX9_wasOut_20 : decode cX9_wasOut 20 = .ok (.iload_n 2, 1) := by decide +kernel
theorem dX9_wasOut_21 : decode cX9_wasOut 21 = .ok (.iload_n 2, 1) := by decide +kernel
theorem dX9_wasOut_22 : decode cX9_wasOut 22 = .ok (.invokevirtual 242, 3) := by decide +kernel
theorem dX9_wasOut_25 : decode cX9_wasOut 25 = .ok (.ifCond .ne 9, 3) := by decide +kernel
theorem dX9_wasOut_28 : decode cX9_wasOut 28 = .ok (.aload_n 0, 1) := by decide +kernel
theorem dX9_wasOut_29 : decode cX9_wasOut 29 = .ok (.iconst 2, 1) := by decide +kernel
theorem dX9_wasOut_30 : decode cX9_wasOut 30 = .ok (.invokevirtual 230, 3) := by decide +kernel
theorem dX9_wasOut_33 : decode cX9_wasOut 33 = .ok (.ireturn, 1) := by decide +kernel
theorem dX9_wasOut_34 : decode cX9_wasOut 34 = .ok (.aload_n 0, 1) := by decide +kernel
theorem dX9_wasOut_35 : decode cX9_wasOut 35 = .ok (.getfield 7, 3) := by decide +kernel
theorem dX9_wasOut_38 : decode cX9_wasOut 38 = .ok (.iload_n 1, 1) := by decide +kernel
theorem dX9_wasOut_39 : decode cX9_wasOut 39 = .ok (.iload_n 2, 1) := by decide +kernel
theorem dX9_wasOut_40 : decode cX9_wasOut 40 = .ok (.iload_n 2, 1) := by decide +kernel
theorem dX9_wasOut_41 : decode cX9_wasOut 41 = .ok (.invokestatic 127, 3) := by decide +kernel
theorem dX9_wasOut_44 : decode cX9_wasOut 44 = .ok (.ifCond .le 7, 3) := by decide +kernel
theorem dX9_wasOut_47 : decode cX9_wasOut 47 = .ok (.iconst 1, 1) := by decide +kernel
theorem dX9_wasOut_48 : decode cX9_wasOut 48 = .ok (.goto 4, 3) := by decide +kernel
theorem dX9_wasOut_51 : decode cX9_wasOut 51 = .ok (.iconst 0, 1) := by decide +kernel
theorem dX9_wasOut_52 : decode cX9_wasOut 52 = .ok (.ireturn, 1) := by decide +kernel
theorem dX9_hasAlibi_0 : decode cX9_hasAlibi 0 = .ok (.aload_n 0, 1) := by decide +kernel
theorem dX9_hasAlibi_1 : decode cX9_hasAlibi 1 = .ok (.iconst 0, 1) := by decide +kernel
theorem dX9_hasAlibi_2 : decode cX9_hasAlibi 2 = .ok (.putfield 48, 3) := by decide +kernel
theorem dX9_hasAlibi_5 : decode cX9_hasAlibi 5 = .ok (.aload_n 0, 1) := by decide +kernel
theorem dX9_hasAlibi_6 : decode cX9_hasAlibi 6 = .ok (.iload_n 1, 1) := by decide +kernel
theorem dX9_hasAlibi_7 : decode cX9_hasAlibi 7 = .ok (.invokevirtual 218, 3) := by decide +kernel
theorem dX9_hasAlibi_10 : decode cX9_hasAlibi 10 = .ok (.ifCond .ne 9, 3) := by decide +kernel
theorem dX9_hasAlibi_13 : decode cX9_hasAlibi 13 = .ok (.aload_n 0, 1) := by decide +kernel
theorem dX9_hasAlibi_14 : decode cX9_hasAlibi 14 = .ok (.iconst 1, 1) := by decide +kernel
theorem dX9_hasAlibi_15 : decode cX9_hasAlibi 15 = .ok (.invokevirtual 230, 3) := by decide +kernel
theorem dX9_hasAlibi_18 : decode cX9_hasAlibi 18 = .ok (.ireturn, 1) := by decide +kernel
theorem dX9_hasAlibi_19 : decode cX9_hasAlibi 19 = .ok (.aload_n 0, 1) := by decide +kernel
theorem dX9_hasAlibi_20 : decode cX9_hasAlibi 20 = .ok (.iload_n 2, 1) := by decide +kernel
theorem dX9_hasAlibi_21 : decode cX9_hasAlibi 21 = .ok (.iload_n 3, 1) := by decide +kernel
theorem dX9_hasAlibi_22 : decode cX9_hasAlibi 22 = .ok (.invokevirtual 242, 3) := by decide +kernel
theorem dX9_hasAlibi_25 : decode cX9_hasAlibi 25 = .ok (.ifCond .ne 9, 3) := by decide +kernel
theorem dX9_hasAlibi_28 : decode cX9_hasAlibi 28 = .ok (.aload_n 0, 1) := by decide +kernel
theorem dX9_hasAlibi_29 : decode cX9_hasAlibi 29 = .ok (.iconst 2, 1) := by decide +kernel
theorem dX9_hasAlibi_30 : decode cX9_hasAlibi 30 = .ok (.invokevirtual 230, 3) := by decide +kernel
theorem dX9_hasAlibi_33 : decode cX9_hasAlibi 33 = .ok (.ireturn, 1) := by decide +kernel
theorem dX9_hasAlibi_34 : decode cX9_hasAlibi 34 = .ok (.aload_n 0, 1) := by decide +kernel
theorem dX9_hasAlibi_35 : decode cX9_hasAlibi 35 = .ok (.getfield 7, 3) := by decide +kernel
theorem dX9_hasAlibi_38 : decode cX9_hasAlibi 38 = .ok (.iload_n 1, 1) := by decide +kernel
theorem dX9_hasAlibi_39 : decode cX9_hasAlibi 39 = .ok (.iload_n 2, 1) := by decide +kernel
theorem dX9_hasAlibi_40 : decode cX9_hasAlibi 40 = .ok (.iload_n 3, 1) := by decide +kernel
theorem dX9_hasAlibi_41 : decode cX9_hasAlibi 41 = .ok (.invokestatic 127, 3) := by decide +kernel
theorem dX9_hasAlibi_44 : decode cX9_hasAlibi 44 = .ok (.ifCond .ne 7, 3) := by decide +kernel
theorem dX9_hasAlibi_47 : decode cX9_hasAlibi 47 = .ok (.iconst 1, 1) := by decide +kernel
theorem dX9_hasAlibi_48 : decode cX9_hasAlibi 48 = .ok (.goto 4, 3) := by decide +kernel
theorem dX9_hasAlibi_51 : decode cX9_hasAlibi 51 = .ok (.iconst 0, 1) := by decide +kernel
theorem dX9_hasAlibi_52 : decode cX9_hasAlibi 52 = .ok (.ireturn, 1) := by decide +kernel
theorem dX9_suspectsBetween_0 : decode cX9_suspectsBetween 0 = .ok (.iconst 0, 1) := by decide +kernel
theorem dX9_suspectsBetween_1 : decode cX9_suspectsBetween 1 = .ok (.istore_n 3, 1) := by decide +kernel
theorem dX9_suspectsBetween_2 : decode cX9_suspectsBetween 2 = .ok (.iconst 0, 1) := by decide +kernel
theorem dX9_suspectsBetween_3 : decode cX9_suspectsBetween 3 = .ok (.istore 4, 2) := by decide +kernel
theorem dX9_suspectsBetween_5 : decode cX9_suspectsBetween 5 = .ok (.iload 4, 2) := by decide +kernel
theorem dX9_suspectsBetween_7 : decode cX9_suspectsBetween 7 = .ok (.aload_n 0, 1) := by decide +kernel
theorem dX9_suspectsBetween_8 : decode cX9_suspectsBetween 8 = .ok (.getfield 7, 3) := by decide +kernel
theorem dX9_suspectsBetween_11 : decode cX9_suspectsBetween 11 = .ok (.bipush 7, 2) := by decide +kernel
theorem dX9_suspectsBetween_13 : decode cX9_suspectsBetween 13 = .ok (.iaload, 1) := by decide +kernel
theorem dX9_suspectsBetween_14 : decode cX9_suspectsBetween 14 = .ok (.if_icmp .ge 26, 3) := by decide +kernel
theorem dX9_suspectsBetween_17 : decode cX9_suspectsBetween 17 = .ok (.aload_n 0, 1) := by decide +kernel
theorem dX9_suspectsBetween_18 : decode cX9_suspectsBetween 18 = .ok (.getfield 7, 3) := by decide +kernel
theorem dX9_suspectsBetween_21 : decode cX9_suspectsBetween 21 = .ok (.iload 4, 2) := by decide +kernel
theorem dX9_suspectsBetween_23 : decode cX9_suspectsBetween 23 = .ok (.iload_n 1, 1) := by decide +kernel
theorem dX9_suspectsBetween_24 : decode cX9_suspectsBetween 24 = .ok (.iload_n 2, 1) := by decide +kernel
theorem dX9_suspectsBetween_25 : decode cX9_suspectsBetween 25 = .ok (.invokestatic 127, 3) := by decide +kernel
theorem dX9_suspectsBetween_28 : decode cX9_suspectsBetween 28 = .ok (.ifCond .le 6, 3) := by decide +kernel
theorem dX9_suspectsBetween_31 : decode cX9_suspectsBetween 31 = .ok (.iinc 3 1, 3) := by decide +kernel
theorem dX9_suspectsBetween_34 : decode cX9_suspectsBetween 34 = .ok (.iinc 4 1, 3) := by decide +kernel
theorem dX9_suspectsBetween_37 : decode cX9_suspectsBetween 37 = .ok (.goto (-32), 3) := by decide +kernel
theorem dX9_suspectsBetween_40 : decode cX9_suspectsBetween 40 = .ok (.iload_n 3, 1) := by decide +kernel
theorem dX9_suspectsBetween_41 : decode cX9_suspectsBetween 41 = .ok (.ireturn, 1) := by decide +kernel
theorem dX9_suspects_0 : decode cX9_suspects 0 = .ok (.aload_n 0, 1) := by decide +kernel
theorem dX9_suspects_1 : decode cX9_suspects 1 = .ok (.iconst 0, 1) := by decide +kernel
theorem dX9_suspects_2 : decode cX9_suspects 2 = .ok (.putfield 48, 3) := by decide +kernel
theorem dX9_suspects_5 : decode cX9_suspects 5 = .ok (.aload_n 0, 1) := by decide +kernel
theorem dX9_suspects_6 : decode cX9_suspects 6 = .ok (.iload_n 1, 1) := by decide +kernel
theorem dX9_suspects_7 : decode cX9_suspects 7 = .ok (.iload_n 2, 1) := by decide +kernel
theorem dX9_suspects_8 : decode cX9_suspects 8 = .ok (.invokevirtual 242, 3) := by decide +kernel
theorem dX9_suspects_11 : decode cX9_suspects 11 = .ok (.ifCond .eq 10, 3) := by decide +kernel
theorem dX9_suspects_14 : decode cX9_suspects 14 = .ok (.aload_n 0, 1) := by decide +kernel
theorem dX9_suspects_15 : decode cX9_suspects 15 = .ok (.iload_n 1, 1) := by decide +kernel
theorem dX9_suspects_16 : decode cX9_suspects 16 = .ok (.iload_n 2, 1) := by decide +kernel
theorem dX9_suspects_17 : decode cX9_suspects 17 = .ok (.invokevirtual 246, 3) := by decide +kernel
theorem dX9_suspects_20 : decode cX9_suspects 20 = .ok (.ireturn, 1) := by decide +kernel
theorem dX9_suspects_21 : decode cX9_suspects 21 = .ok (.aload_n 0, 1) := by decide +kernel
theorem dX9_suspects_22 : decode cX9_suspects 22 = .ok (.iconst 1, 1) := by decide +kernel
theorem dX9_suspects_23 : decode cX9_suspects 23 = .ok (.invokevirtual 133, 3) := by decide +kernel
theorem dX9_suspects_26 : decode cX9_suspects 26 = .ok (.ireturn, 1) := by decide +kernel
theorem dX9_culprit_0 : decode cX9_culprit 0 = .ok (.aload_n 0, 1) := by decide +kernel
theorem dX9_culprit_1 : decode cX9_culprit 1 = .ok (.iconst 0, 1) := by decide +kernel
theorem dX9_culprit_2 : decode cX9_culprit 2 = .ok (.putfield 48, 3) := by decide +kernel
theorem dX9_culprit_5 : decode cX9_culprit 5 = .ok (.aload_n 0, 1) := by decide +kernel
theorem dX9_culprit_6 : decode cX9_culprit 6 = .ok (.iload_n 1, 1) := by decide +kernel
theorem dX9_culprit_7 : decode cX9_culprit 7 = .ok (.iload_n 2, 1) := by decide +kernel
theorem dX9_culprit_8 : decode cX9_culprit 8 = .ok (.invokevirtual 242, 3) := by decide +kernel
theorem dX9_culprit_11 : decode cX9_culprit 11 = .ok (.ifCond .ne 9, 3) := by decide +kernel
theorem dX9_culprit_14 : decode cX9_culprit 14 = .ok (.aload_n 0, 1) := by decide +kernel
theorem dX9_culprit_15 : decode cX9_culprit 15 = .ok (.iconst 1, 1) := by decide +kernel
theorem dX9_culprit_16 : decode cX9_culprit 16 = .ok (.invokevirtual 133, 3) := by decide +kernel
theorem dX9_culprit_19 : decode cX9_culprit 19 = .ok (.ireturn, 1) := by decide +kernel
theorem dX9_culprit_20 : decode cX9_culprit 20 = .ok (.aload_n 0, 1) := by decide +kernel
theorem dX9_culprit_21 : decode cX9_culprit 21 = .ok (.iload_n 1, 1) := by decide +kernel
theorem dX9_culprit_22 : decode cX9_culprit 22 = .ok (.iload_n 2, 1) := by decide +kernel
theorem dX9_culprit_23 : decode cX9_culprit 23 = .ok (.invokevirtual 246, 3) := by decide +kernel
theorem dX9_culprit_26 : decode cX9_culprit 26 = .ok (.iconst 1, 1) := by decide +kernel
theorem dX9_culprit_27 : decode cX9_culprit 27 = .ok (.if_icmp .eq 9, 3) := by decide +kernel
theorem dX9_culprit_30 : decode cX9_culprit 30 = .ok (.aload_n 0, 1) := by decide +kernel
theorem dX9_culprit_31 : decode cX9_culprit 31 = .ok (.iconst 2, 1) := by decide +kernel
theorem dX9_culprit_32 : decode cX9_culprit 32 = .ok (.invokevirtual 133, 3) := by decide +kernel
theorem dX9_culprit_35 : decode cX9_culprit 35 = .ok (.ireturn, 1) := by decide +kernel
theorem dX9_culprit_36 : decode cX9_culprit 36 = .ok (.iconst 0, 1) := by decide +kernel
theorem dX9_culprit_37 : decode cX9_culprit 37 = .ok (.istore_n 3, 1) := by decide +kernel
theorem dX9_culprit_38 : decode cX9_culprit 38 = .ok (.aload_n 0, 1) := by decide +kernel
theorem dX9_culprit_39 : decode cX9_culprit 39 = .ok (.getfield 7, 3) := by decide +kernel
theorem dX9_culprit_42 : decode cX9_culprit 42 = .ok (.iload_n 3, 1) := by decide +kernel
theorem dX9_culprit_43 : decode cX9_culprit 43 = .ok (.iload_n 1, 1) := by decide +kernel
theorem dX9_culprit_44 : decode cX9_culprit 44 = .ok (.iload_n 2, 1) := by decide +kernel
theorem dX9_culprit_45 : decode cX9_culprit 45 = .ok (.invokestatic 127, 3) := by decide +kernel
theorem dX9_culprit_48 : decode cX9_culprit 48 = .ok (.ifCond .ne 9, 3) := by decide +kernel
theorem dX9_culprit_51 : decode cX9_culprit 51 = .ok (.iinc 3 1, 3) := by decide +kernel
theorem dX9_culprit_54 : decode cX9_culprit 54 = .ok (.goto (-16), 3) := by decide +kernel
theorem dX9_culprit_57 : decode cX9_culprit 57 = .ok (.iload_n 3, 1) := by decide +kernel
theorem dX9_culprit_58 : decode cX9_culprit 58 = .ok (.ireturn, 1) := by decide +kernel
theorem dX9_minutesOut_0 : decode cX9_minutesOut 0 = .ok (.aload_n 0, 1) := by decide +kernel
theorem dX9_minutesOut_1 : decode cX9_minutesOut 1 = .ok (.iconst 0, 1) := by decide +kernel
theorem dX9_minutesOut_2 : decode cX9_minutesOut 2 = .ok (.putfield 48, 3) := by decide +kernel
theorem dX9_minutesOut_5 : decode cX9_minutesOut 5 = .ok (.aload_n 0, 1) := by decide +kernel
theorem dX9_minutesOut_6 : decode cX9_minutesOut 6 = .ok (.iload_n 1, 1) := by decide +kernel
theorem dX9_minutesOut_7 : decode cX9_minutesOut 7 = .ok (.invokevirtual 218, 3) := by decide +kernel
theorem dX9_minutesOut_10 : decode cX9_minutesOut 10 = .ok (.ifCond .eq 12, 3) := by decide +kernel
theorem dX9_minutesOut_13 : decode cX9_minutesOut 13 = .ok (.aload_n 0, 1) := by decide +kernel
theorem dX9_minutesOut_14 : decode cX9_minutesOut 14 = .ok (.getfield 7, 3) := by decide +kernel
theorem dX9_minutesOut_17 : decode cX9_minutesOut 17 = .ok (.iload_n 1, 1) := by decide +kernel
theorem dX9_minutesOut_18 : decode cX9_minutesOut 18 = .ok (.invokestatic 249, 3) := by decide +kernel
theorem dX9_minutesOut_21 : decode cX9_minutesOut 21 = .ok (.ireturn, 1) := by decide +kernel
theorem dX9_minutesOut_22 : decode cX9_minutesOut 22 = .ok (.aload_n 0, 1) := by decide +kernel
theorem dX9_minutesOut_23 : decode cX9_minutesOut 23 = .ok (.iconst 1, 1) := by decide +kernel
theorem dX9_minutesOut_24 : decode cX9_minutesOut 24 = .ok (.invokevirtual 133, 3) := by decide +kernel
theorem dX9_minutesOut_27 : decode cX9_minutesOut 27 = .ok (.ireturn, 1) := by decide +kernel
theorem dX9_minutesTogether_0 : decode cX9_minutesTogether 0 = .ok (.aload_n 0, 1) := by decide +kernel
theorem dX9_minutesTogether_1 : decode cX9_minutesTogether 1 = .ok (.iconst 0, 1) := by decide +kernel
theorem dX9_minutesTogether_2 : decode cX9_minutesTogether 2 = .ok (.putfield 48, 3) := by decide +kernel
theorem dX9_minutesTogether_5 : decode cX9_minutesTogether 5 = .ok (.aload_n 0, 1) := by decide +kernel
theorem dX9_minutesTogether_6 : decode cX9_minutesTogether 6 = .ok (.iload_n 1, 1) := by decide +kernel
theorem dX9_minutesTogether_7 : decode cX9_minutesTogether 7 = .ok (.invokevirtual 218, 3) := by decide +kernel
theorem dX9_minutesTogether_10 : decode cX9_minutesTogether 10 = .ok (.ifCond .eq 21, 3) := by decide +kernel
theorem dX9_minutesTogether_13 : decode cX9_minutesTogether 13 = .ok (.aload_n 0, 1) := by decide +kernel
theorem dX9_minutesTogether_14 : decode cX9_minutesTogether 14 = .ok (.iload_n 2, 1) := by decide +kernel
theorem dX9_minutesTogether_15 : decode cX9_minutesTogether 15 = .ok (.invokevirtual 218, 3) := by decide +kernel
theorem dX9_minutesTogether_18 : decode cX9_minutesTogether 18 = .ok (.ifCond .eq 13, 3) := by decide +kernel
theorem dX9_minutesTogether_21 : decode cX9_minutesTogether 21 = .ok (.aload_n 0, 1) := by decide +kernel
theorem dX9_minutesTogether_22 : decode cX9_minutesTogether 22 = .ok (.getfield 7, 3) := by decide +kernel
theorem dX9_minutesTogether_25 : decode cX9_minutesTogether 25 = .ok (.iload_n 1, 1) := by decide +kernel
theorem dX9_minutesTogether_26 : decode cX9_minutesTogether 26 = .ok (.iload_n 2, 1) := by decide +kernel
theorem dX9_minutesTogether_27 : decode cX9_minutesTogether 27 = .ok (.invokestatic 252, 3) := by decide +kernel
theorem dX9_minutesTogether_30 : decode cX9_minutesTogether 30 = .ok (.ireturn, 1) := by decide +kernel
theorem dX9_minutesTogether_31 : decode cX9_minutesTogether 31 = .ok (.aload_n 0, 1) := by decide +kernel
theorem dX9_minutesTogether_32 : decode cX9_minutesTogether 32 = .ok (.iconst 1, 1) := by decide +kernel
theorem dX9_minutesTogether_33 : decode cX9_minutesTogether 33 = .ok (.invokevirtual 133, 3) := by decide +kernel
theorem dX9_minutesTogether_36 : decode cX9_minutesTogether 36 = .ok (.ireturn, 1) := by decide +kernel
theorem dX9_meanMinutesOut_0 : decode cX9_meanMinutesOut 0 = .ok (.aload_n 0, 1) := by decide +kernel
theorem dX9_meanMinutesOut_1 : decode cX9_meanMinutesOut 1 = .ok (.iconst 0, 1) := by decide +kernel
theorem dX9_meanMinutesOut_2 : decode cX9_meanMinutesOut 2 = .ok (.putfield 48, 3) := by decide +kernel
theorem dX9_meanMinutesOut_5 : decode cX9_meanMinutesOut 5 = .ok (.iconst 0, 1) := by decide +kernel
theorem dX9_meanMinutesOut_6 : decode cX9_meanMinutesOut 6 = .ok (.istore_n 1, 1) := by decide +kernel
theorem dX9_meanMinutesOut_7 : decode cX9_meanMinutesOut 7 = .ok (.iconst 0, 1) := by decide +kernel
theorem dX9_meanMinutesOut_8 : decode cX9_meanMinutesOut 8 = .ok (.istore_n 2, 1) := by decide +kernel
theorem dX9_meanMinutesOut_9 : decode cX9_meanMinutesOut 9 = .ok (.iload_n 2, 1) := by decide +kernel
theorem dX9_meanMinutesOut_10 : decode cX9_meanMinutesOut 10 = .ok (.aload_n 0, 1) := by decide +kernel
theorem dX9_meanMinutesOut_11 : decode cX9_meanMinutesOut 11 = .ok (.getfield 7, 3) := by decide +kernel
theorem dX9_meanMinutesOut_14 : decode cX9_meanMinutesOut 14 = .ok (.bipush 7, 2) := by decide +kernel
theorem dX9_meanMinutesOut_16 : decode cX9_meanMinutesOut 16 = .ok (.iaload, 1) := by decide +kernel
theorem dX9_meanMinutesOut_17 : decode cX9_meanMinutesOut 17 = .ok (.if_icmp .ge 20, 3) := by decide +kernel
theorem dX9_meanMinutesOut_20 : decode cX9_meanMinutesOut 20 = .ok (.iload_n 1, 1) := by decide +kernel
theorem dX9_meanMinutesOut_21 : decode cX9_meanMinutesOut 21 = .ok (.aload_n 0, 1) := by decide +kernel
theorem dX9_meanMinutesOut_22 : decode cX9_meanMinutesOut 22 = .ok (.getfield 7, 3) := by decide +kernel
theorem dX9_meanMinutesOut_25 : decode cX9_meanMinutesOut 25 = .ok (.iload_n 2, 1) := by decide +kernel
theorem dX9_meanMinutesOut_26 : decode cX9_meanMinutesOut 26 = .ok (.invokestatic 249, 3) := by decide +kernel
theorem dX9_meanMinutesOut_29 : decode cX9_meanMinutesOut 29 = .ok (.iadd, 1) := by decide +kernel
theorem dX9_meanMinutesOut_30 : decode cX9_meanMinutesOut 30 = .ok (.istore_n 1, 1) := by decide +kernel
theorem dX9_meanMinutesOut_31 : decode cX9_meanMinutesOut 31 = .ok (.iinc 2 1, 3) := by decide +kernel
theorem dX9_meanMinutesOut_34 : decode cX9_meanMinutesOut 34 = .ok (.goto (-25), 3) := by decide +kernel
theorem dX9_meanMinutesOut_37 : decode cX9_meanMinutesOut 37 = .ok (.aload_n 0, 1) := by decide +kernel
theorem dX9_meanMinutesOut_38 : decode cX9_meanMinutesOut 38 = .ok (.getfield 7, 3) := by decide +kernel
theorem dX9_meanMinutesOut_41 : decode cX9_meanMinutesOut 41 = .ok (.bipush 7, 2) := by decide +kernel
theorem dX9_meanMinutesOut_43 : decode cX9_meanMinutesOut 43 = .ok (.iaload, 1) := by decide +kernel
theorem dX9_meanMinutesOut_44 : decode cX9_meanMinutesOut 44 = .ok (.ifCond .ne 5, 3) := by decide +kernel
theorem dX9_meanMinutesOut_47 : decode cX9_meanMinutesOut 47 = .ok (.dconst 0, 1) := by decide +kernel
theorem dX9_meanMinutesOut_48 : decode cX9_meanMinutesOut 48 = .ok (.dreturn, 1) := by decide +kernel
theorem dX9_meanMinutesOut_49 : decode cX9_meanMinutesOut 49 = .ok (.iload_n 1, 1) := by decide +kernel
theorem dX9_meanMinutesOut_50 : decode cX9_meanMinutesOut 50 = .ok (.i2d, 1) := by decide +kernel
theorem dX9_meanMinutesOut_51 : decode cX9_meanMinutesOut 51 = .ok (.aload_n 0, 1) := by decide +kernel
theorem dX9_meanMinutesOut_52 : decode cX9_meanMinutesOut 52 = .ok (.getfield 7, 3) := by decide +kernel
theorem dX9_meanMinutesOut_55 : decode cX9_meanMinutesOut 55 = .ok (.bipush 7, 2) := by decide +kernel
theorem dX9_meanMinutesOut_57 : decode cX9_meanMinutesOut 57 = .ok (.iaload, 1) := by decide +kernel
theorem dX9_meanMinutesOut_58 : decode cX9_meanMinutesOut 58 = .ok (.i2d, 1) := by decide +kernel
theorem dX9_meanMinutesOut_59 : decode cX9_meanMinutesOut 59 = .ok (.ddiv, 1) := by decide +kernel
theorem dX9_meanMinutesOut_60 : decode cX9_meanMinutesOut 60 = .ok (.dreturn, 1) := by decide +kernel
theorem dX9_shareOut_0 : decode cX9_shareOut 0 = .ok (.aload_n 0, 1) := by decide +kernel
theorem dX9_shareOut_1 : decode cX9_shareOut 1 = .ok (.iconst 0, 1) := by decide +kernel
theorem dX9_shareOut_2 : decode cX9_shareOut 2 = .ok (.putfield 48, 3) := by decide +kernel
theorem dX9_shareOut_5 : decode cX9_shareOut 5 = .ok (.aload_n 0, 1) := by decide +kernel
theorem dX9_shareOut_6 : decode cX9_shareOut 6 = .ok (.getfield 7, 3) := by decide +kernel
theorem dX9_shareOut_9 : decode cX9_shareOut 9 = .ok (.bipush 7, 2) := by decide +kernel
theorem dX9_shareOut_11 : decode cX9_shareOut 11 = .ok (.iaload, 1) := by decide +kernel
theorem dX9_shareOut_12 : decode cX9_shareOut 12 = .ok (.ifCond .ne 5, 3) := by decide +kernel
theorem dX9_shareOut_15 : decode cX9_shareOut 15 = .ok (.fconst 0, 1) := by decide +kernel
theorem dX9_shareOut_16 : decode cX9_shareOut 16 = .ok (.freturn, 1) := by decide +kernel
theorem dX9_shareOut_17 : decode cX9_shareOut 17 = .ok (.aload_n 0, 1) := by decide +kernel
theorem dX9_shareOut_18 : decode cX9_shareOut 18 = .ok (.getfield 7, 3) := by decide +kernel
theorem dX9_shareOut_21 : decode cX9_shareOut 21 = .ok (.invokestatic 100, 3) := by decide +kernel
theorem dX9_shareOut_24 : decode cX9_shareOut 24 = .ok (.i2f, 1) := by decide +kernel
theorem dX9_shareOut_25 : decode cX9_shareOut 25 = .ok (.aload_n 0, 1) := by decide +kernel
theorem dX9_shareOut_26 : decode cX9_shareOut 26 = .ok (.getfield 7, 3) := by decide +kernel
theorem dX9_shareOut_29 : decode cX9_shareOut 29 = .ok (.bipush 7, 2) := by decide +kernel
theorem dX9_shareOut_31 : decode cX9_shareOut 31 = .ok (.iaload, 1) := by decide +kernel
theorem dX9_shareOut_32 : decode cX9_shareOut 32 = .ok (.i2f, 1) := by decide +kernel
theorem dX9_shareOut_33 : decode cX9_shareOut 33 = .ok (.fdiv, 1) := by decide +kernel
theorem dX9_shareOut_34 : decode cX9_shareOut 34 = .ok (.freturn, 1) := by decide +kernel
theorem dX9_umbrellaFor_0 : decode cX9_umbrellaFor 0 = .ok (.aload_n 0, 1) := by decide +kernel
theorem dX9_umbrellaFor_1 : decode cX9_umbrellaFor 1 = .ok (.iconst 0, 1) := by decide +kernel
theorem dX9_umbrellaFor_2 : decode cX9_umbrellaFor 2 = .ok (.putfield 48, 3) := by decide +kernel
theorem dX9_umbrellaFor_5 : decode cX9_umbrellaFor 5 = .ok (.aload_n 0, 1) := by decide +kernel
theorem dX9_umbrellaFor_6 : decode cX9_umbrellaFor 6 = .ok (.iload_n 1, 1) := by decide +kernel
theorem dX9_umbrellaFor_7 : decode cX9_umbrellaFor 7 = .ok (.invokevirtual 218, 3) := by decide +kernel
theorem dX9_umbrellaFor_10 : decode cX9_umbrellaFor 10 = .ok (.ifCond .ne 9, 3) := by decide +kernel
theorem dX9_umbrellaFor_13 : decode cX9_umbrellaFor 13 = .ok (.aload_n 0, 1) := by decide +kernel
theorem dX9_umbrellaFor_14 : decode cX9_umbrellaFor 14 = .ok (.iconst 1, 1) := by decide +kernel
theorem dX9_umbrellaFor_15 : decode cX9_umbrellaFor 15 = .ok (.invokevirtual 133, 3) := by decide +kernel
theorem dX9_umbrellaFor_18 : decode cX9_umbrellaFor 18 = .ok (.ireturn, 1) := by decide +kernel
theorem dX9_umbrellaFor_19 : decode cX9_umbrellaFor 19 = .ok (.aload_n 0, 1) := by decide +kernel
theorem dX9_umbrellaFor_20 : decode cX9_umbrellaFor 20 = .ok (.getfield 7, 3) := by decide +kernel
theorem dX9_umbrellaFor_23 : decode cX9_umbrellaFor 23 = .ok (.iload_n 1, 1) := by decide +kernel
theorem dX9_umbrellaFor_24 : decode cX9_umbrellaFor 24 = .ok (.invokestatic 109, 3) := by decide +kernel
theorem dX9_umbrellaFor_27 : decode cX9_umbrellaFor 27 = .ok (.ifCond .eq 9, 3) := by decide +kernel
theorem dX9_umbrellaFor_30 : decode cX9_umbrellaFor 30 = .ok (.aload_n 0, 1) := by decide +kernel
theorem dX9_umbrellaFor_31 : decode cX9_umbrellaFor 31 = .ok (.iconst 2, 1) := by decide +kernel
theorem dX9_umbrellaFor_32 : decode cX9_umbrellaFor 32 = .ok (.invokevirtual 133, 3) := by decide +kernel
theorem dX9_umbrellaFor_35 : decode cX9_umbrellaFor 35 = .ok (.ireturn, 1) := by decide +kernel
theorem dX9_umbrellaFor_36 : decode cX9_umbrellaFor 36 = .ok (.aload_n 0, 1) := by decide +kernel
theorem dX9_umbrellaFor_37 : decode cX9_umbrellaFor 37 = .ok (.getfield 7, 3) := by decide +kernel
theorem dX9_umbrellaFor_40 : decode cX9_umbrellaFor 40 = .ok (.iload_n 1, 1) := by decide +kernel
theorem dX9_umbrellaFor_41 : decode cX9_umbrellaFor 41 = .ok (.invokestatic 93, 3) := by decide +kernel
theorem dX9_umbrellaFor_44 : decode cX9_umbrellaFor 44 = .ok (.istore_n 2, 1) := by decide +kernel
theorem dX9_umbrellaFor_45 : decode cX9_umbrellaFor 45 = .ok (.iload_n 2, 1) := by decide +kernel
theorem dX9_umbrellaFor_46 : decode cX9_umbrellaFor 46 = .ok (.ifCond .ge 9, 3) := by decide +kernel
theorem dX9_umbrellaFor_49 : decode cX9_umbrellaFor 49 = .ok (.aload_n 0, 1) := by decide +kernel
theorem dX9_umbrellaFor_50 : decode cX9_umbrellaFor 50 = .ok (.iconst 3, 1) := by decide +kernel
theorem dX9_umbrellaFor_51 : decode cX9_umbrellaFor 51 = .ok (.invokevirtual 133, 3) := by decide +kernel
theorem dX9_umbrellaFor_54 : decode cX9_umbrellaFor 54 = .ok (.ireturn, 1) := by decide +kernel
theorem dX9_umbrellaFor_55 : decode cX9_umbrellaFor 55 = .ok (.iload_n 2, 1) := by decide +kernel
theorem dX9_umbrellaFor_56 : decode cX9_umbrellaFor 56 = .ok (.ireturn, 1) := by decide +kernel
theorem dX9_tipOf_0 : decode cX9_tipOf 0 = .ok (.aload_n 0, 1) := by decide +kernel
theorem dX9_tipOf_1 : decode cX9_tipOf 1 = .ok (.iconst 0, 1) := by decide +kernel
theorem dX9_tipOf_2 : decode cX9_tipOf 2 = .ok (.putfield 48, 3) := by decide +kernel
theorem dX9_tipOf_5 : decode cX9_tipOf 5 = .ok (.aload_n 0, 1) := by decide +kernel
theorem dX9_tipOf_6 : decode cX9_tipOf 6 = .ok (.iload_n 1, 1) := by decide +kernel
theorem dX9_tipOf_7 : decode cX9_tipOf 7 = .ok (.invokevirtual 218, 3) := by decide +kernel
theorem dX9_tipOf_10 : decode cX9_tipOf 10 = .ok (.ifCond .ne 9, 3) := by decide +kernel
theorem dX9_tipOf_13 : decode cX9_tipOf 13 = .ok (.aload_n 0, 1) := by decide +kernel
theorem dX9_tipOf_14 : decode cX9_tipOf 14 = .ok (.iconst 1, 1) := by decide +kernel
theorem dX9_tipOf_15 : decode cX9_tipOf 15 = .ok (.invokevirtual 133, 3) := by decide +kernel
theorem dX9_tipOf_18 : decode cX9_tipOf 18 = .ok (.ireturn, 1) := by decide +kernel
theorem dX9_tipOf_19 : decode cX9_tipOf 19 = .ok (.aload_n 0, 1) := by decide +kernel
theorem dX9_tipOf_20 : decode cX9_tipOf 20 = .ok (.getfield 7, 3) := by decide +kernel
theorem dX9_tipOf_23 : decode cX9_tipOf 23 = .ok (.iload_n 1, 1) := by decide +kernel
theorem dX9_tipOf_24 : decode cX9_tipOf 24 = .ok (.invokestatic 109, 3) := by decide +kernel
theorem dX9_tipOf_27 : decode cX9_tipOf 27 = .ok (.ifCond .eq 12, 3) := by decide +kernel
theorem dX9_tipOf_30 : decode cX9_tipOf 30 = .ok (.aload_n 0, 1) := by decide +kernel
theorem dX9_tipOf_31 : decode cX9_tipOf 31 = .ok (.getfield 7, 3) := by decide +kernel
theorem dX9_tipOf_34 : decode cX9_tipOf 34 = .ok (.iload_n 1, 1) := by decide +kernel
theorem dX9_tipOf_35 : decode cX9_tipOf 35 = .ok (.invokestatic 103, 3) := by decide +kernel
theorem dX9_tipOf_38 : decode cX9_tipOf 38 = .ok (.ireturn, 1) := by decide +kernel
theorem dX9_tipOf_39 : decode cX9_tipOf 39 = .ok (.aload_n 0, 1) := by decide +kernel
theorem dX9_tipOf_40 : decode cX9_tipOf 40 = .ok (.iconst 2, 1) := by decide +kernel
theorem dX9_tipOf_41 : decode cX9_tipOf 41 = .ok (.invokevirtual 133, 3) := by decide +kernel
theorem dX9_tipOf_44 : decode cX9_tipOf 44 = .ok (.ireturn, 1) := by decide +kernel
theorem dX9_complaintsAfter_0 : decode cX9_complaintsAfter 0 = .ok (.aload_n 0, 1) := by decide +kernel
theorem dX9_complaintsAfter_1 : decode cX9_complaintsAfter 1 = .ok (.iconst 0, 1) := by decide +kernel
theorem dX9_complaintsAfter_2 : decode cX9_complaintsAfter 2 = .ok (.putfield 48, 3) := by decide +kernel
theorem dX9_complaintsAfter_5 : decode cX9_complaintsAfter 5 = .ok (.iload_n 1, 1) := by decide +kernel
theorem dX9_complaintsAfter_6 : decode cX9_complaintsAfter 6 = .ok (.iconst 0, 1) := by decide +kernel
theorem dX9_complaintsAfter_7 : decode cX9_complaintsAfter 7 = .ok (.sipush 240, 3) := by decide +kernel
theorem dX9_complaintsAfter_10 : decode cX9_complaintsAfter 10 = .ok (.invokestatic 55, 3) := by decide +kernel
theorem dX9_complaintsAfter_13 : decode cX9_complaintsAfter 13 = .ok (.ifCond .ne 9, 3) := by decide +kernel
theorem dX9_complaintsAfter_16 : decode cX9_complaintsAfter 16 = .ok (.aload_n 0, 1) := by decide +kernel
theorem dX9_complaintsAfter_17 : decode cX9_complaintsAfter 17 = .ok (.iconst 1, 1) := by decide +kernel
theorem dX9_complaintsAfter_18 : decode cX9_complaintsAfter 18 = .ok (.invokevirtual 133, 3) := by decide +kernel
theorem dX9_complaintsAfter_21 : decode cX9_complaintsAfter 21 = .ok (.ireturn, 1) := by decide +kernel
theorem dX9_complaintsAfter_22 : decode cX9_complaintsAfter 22 = .ok (.aload_n 0, 1) := by decide +kernel
theorem dX9_complaintsAfter_23 : decode cX9_complaintsAfter 23 = .ok (.invokevirtual 255, 3) := by decide +kernel
theorem dX9_complaintsAfter_26 : decode cX9_complaintsAfter 26 = .ok (.iconst 0, 1) := by decide +kernel
theorem dX9_complaintsAfter_27 : decode cX9_complaintsAfter 27 = .ok (.istore_n 2, 1) := by decide +kernel
theorem dX9_complaintsAfter_28 : decode cX9_complaintsAfter 28 = .ok (.iload_n 2, 1) := by decide +kernel
theorem dX9_complaintsAfter_29 : decode cX9_complaintsAfter 29 = .ok (.iload_n 1, 1) := by decide +kernel
theorem dX9_complaintsAfter_30 : decode cX9_complaintsAfter 30 = .ok (.if_icmp .ge 16, 3) := by decide +kernel
theorem dX9_complaintsAfter_33 : decode cX9_complaintsAfter 33 = .ok (.aload_n 0, 1) := by decide +kernel
theorem dX9_complaintsAfter_34 : decode cX9_complaintsAfter 34 = .ok (.getfield 16, 3) := by decide +kernel
theorem dX9_complaintsAfter_37 : decode cX9_complaintsAfter 37 = .ok (.invokestatic 258, 3) := by decide +kernel
theorem dX9_complaintsAfter_40 : decode cX9_complaintsAfter 40 = .ok (.iinc 2 1, 3) := by decide +kernel
theorem dX9_complaintsAfter_43 : decode cX9_complaintsAfter 43 = .ok (.goto (-15), 3) := by decide +kernel
theorem dX9_complaintsAfter_46 : decode cX9_complaintsAfter 46 = .ok (.aload_n 0, 1) := by decide +kernel
theorem dX9_complaintsAfter_47 : decode cX9_complaintsAfter 47 = .ok (.getfield 16, 3) := by decide +kernel
theorem dX9_complaintsAfter_50 : decode cX9_complaintsAfter 50 = .ok (.iconst 4, 1) := by decide +kernel
theorem dX9_complaintsAfter_51 : decode cX9_complaintsAfter 51 = .ok (.iaload, 1) := by decide +kernel
theorem dX9_complaintsAfter_52 : decode cX9_complaintsAfter 52 = .ok (.ireturn, 1) := by decide +kernel
theorem dX9_keepsForUndo_0 : decode cX9_keepsForUndo 0 = .ok (.aload_n 0, 1) := by decide +kernel
theorem dX9_keepsForUndo_1 : decode cX9_keepsForUndo 1 = .ok (.getfield 212, 3) := by decide +kernel
theorem dX9_keepsForUndo_4 : decode cX9_keepsForUndo 4 = .ok (.bipush 8, 2) := by decide +kernel
theorem dX9_keepsForUndo_6 : decode cX9_keepsForUndo 6 = .ok (.if_icmp .ne 50, 3) := by decide +kernel
theorem dX9_keepsForUndo_9 : decode cX9_keepsForUndo 9 = .ok (.iconst 1, 1) := by decide +kernel
theorem dX9_keepsForUndo_10 : decode cX9_keepsForUndo 10 = .ok (.istore_n 1, 1) := by decide +kernel
theorem dX9_keepsForUndo_11 : decode cX9_keepsForUndo 11 = .ok (.iload_n 1, 1) := by decide +kernel
theorem dX9_keepsForUndo_12 : decode cX9_keepsForUndo 12 = .ok (.bipush 8, 2) := by decide +kernel
theorem dX9_keepsForUndo_14 : decode cX9_keepsForUndo 14 = .ok (.if_icmp .ge 32, 3) := by decide +kernel
theorem dX9_keepsForUndo_17 : decode cX9_keepsForUndo 17 = .ok (.aload_n 0, 1) := by decide +kernel
theorem dX9_keepsForUndo_18 : decode cX9_keepsForUndo 18 = .ok (.getfield 19, 3) := by decide +kernel
theorem dX9_keepsForUndo_21 : decode cX9_keepsForUndo 21 = .ok (.sipush 306, 3) := by decide +kernel
theorem dX9_keepsForUndo_24 : decode cX9_keepsForUndo 24 = .ok (.iload_n 1, 1) := by decide +kernel
theorem dX9_keepsForUndo_25 : decode cX9_keepsForUndo 25 = .ok (.imul, 1) := by decide +kernel
theorem dX9_keepsForUndo_26 : decode cX9_keepsForUndo 26 = .ok (.aload_n 0, 1) := by decide +kernel
theorem dX9_keepsForUndo_27 : decode cX9_keepsForUndo 27 = .ok (.getfield 19, 3) := by decide +kernel
theorem dX9_keepsForUndo_30 : decode cX9_keepsForUndo 30 = .ok (.sipush 306, 3) := by decide +kernel
theorem dX9_keepsForUndo_33 : decode cX9_keepsForUndo 33 = .ok (.iload_n 1, 1) := by decide +kernel
theorem dX9_keepsForUndo_34 : decode cX9_keepsForUndo 34 = .ok (.iconst 1, 1) := by decide +kernel
theorem dX9_keepsForUndo_35 : decode cX9_keepsForUndo 35 = .ok (.isub, 1) := by decide +kernel
theorem dX9_keepsForUndo_36 : decode cX9_keepsForUndo 36 = .ok (.imul, 1) := by decide +kernel
theorem dX9_keepsForUndo_37 : decode cX9_keepsForUndo 37 = .ok (.invokestatic 51, 3) := by decide +kernel
theorem dX9_keepsForUndo_40 : decode cX9_keepsForUndo 40 = .ok (.iinc 1 1, 3) := by decide +kernel
theorem dX9_keepsForUndo_43 : decode cX9_keepsForUndo 43 = .ok (.goto (-32), 3) := by decide +kernel
theorem dX9_keepsForUndo_46 : decode cX9_keepsForUndo 46 = .ok (.aload_n 0, 1) := by decide +kernel
theorem dX9_keepsForUndo_47 : decode cX9_keepsForUndo 47 = .ok (.dup, 1) := by decide +kernel
theorem dX9_keepsForUndo_48 : decode cX9_keepsForUndo 48 = .ok (.getfield 212, 3) := by decide +kernel
theorem dX9_keepsForUndo_51 : decode cX9_keepsForUndo 51 = .ok (.iconst 1, 1) := by decide +kernel
theorem dX9_keepsForUndo_52 : decode cX9_keepsForUndo 52 = .ok (.isub, 1) := by decide +kernel
theorem dX9_keepsForUndo_53 : decode cX9_keepsForUndo 53 = .ok (.putfield 212, 3) := by decide +kernel
theorem dX9_keepsForUndo_56 : decode cX9_keepsForUndo 56 = .ok (.aload_n 0, 1) := by decide +kernel
theorem dX9_keepsForUndo_57 : decode cX9_keepsForUndo 57 = .ok (.getfield 7, 3) := by decide +kernel
theorem dX9_keepsForUndo_60 : decode cX9_keepsForUndo 60 = .ok (.iconst 0, 1) := by decide +kernel
theorem dX9_keepsForUndo_61 : decode cX9_keepsForUndo 61 = .ok (.aload_n 0, 1) := by decide +kernel
theorem dX9_keepsForUndo_62 : decode cX9_keepsForUndo 62 = .ok (.getfield 19, 3) := by decide +kernel
theorem dX9_keepsForUndo_65 : decode cX9_keepsForUndo 65 = .ok (.sipush 306, 3) := by decide +kernel
theorem dX9_keepsForUndo_68 : decode cX9_keepsForUndo 68 = .ok (.aload_n 0, 1) := by decide +kernel
theorem dX9_keepsForUndo_69 : decode cX9_keepsForUndo 69 = .ok (.getfield 212, 3) := by decide +kernel
theorem dX9_keepsForUndo_72 : decode cX9_keepsForUndo 72 = .ok (.imul, 1) := by decide +kernel
theorem dX9_keepsForUndo_73 : decode cX9_keepsForUndo 73 = .ok (.invokestatic 51, 3) := by decide +kernel
theorem dX9_keepsForUndo_76 : decode cX9_keepsForUndo 76 = .ok (.aload_n 0, 1) := by decide +kernel
theorem dX9_keepsForUndo_77 : decode cX9_keepsForUndo 77 = .ok (.dup, 1) := by decide +kernel
theorem dX9_keepsForUndo_78 : decode cX9_keepsForUndo 78 = .ok (.getfield 212, 3) := by decide +kernel
theorem dX9_keepsForUndo_81 : decode cX9_keepsForUndo 81 = .ok (.iconst 1, 1) := by decide +kernel
theorem dX9_keepsForUndo_82 : decode cX9_keepsForUndo 82 = .ok (.iadd, 1) := by decide +kernel
theorem dX9_keepsForUndo_83 : decode cX9_keepsForUndo 83 = .ok (.putfield 212, 3) := by decide +kernel
theorem dX9_keepsForUndo_86 : decode cX9_keepsForUndo 86 = .ok (.return_, 1) := by decide +kernel
theorem dX9_addGuest_0 : decode cX9_addGuest 0 = .ok (.aload_n 0, 1) := by decide +kernel
theorem dX9_addGuest_1 : decode cX9_addGuest 1 = .ok (.iconst 0, 1) := by decide +kernel
theorem dX9_addGuest_2 : decode cX9_addGuest 2 = .ok (.putfield 48, 3) := by decide +kernel
theorem dX9_addGuest_5 : decode cX9_addGuest 5 = .ok (.aload_n 0, 1) := by decide +kernel
theorem dX9_addGuest_6 : decode cX9_addGuest 6 = .ok (.invokevirtual 227, 3) := by decide +kernel
theorem dX9_addGuest_9 : decode cX9_addGuest 9 = .ok (.istore_n 3, 1) := by decide +kernel
theorem dX9_addGuest_10 : decode cX9_addGuest 10 = .ok (.iload_n 1, 1) := by decide +kernel
theorem dX9_addGuest_11 : decode cX9_addGuest 11 = .ok (.iconst 0, 1) := by decide +kernel
theorem dX9_addGuest_12 : decode cX9_addGuest 12 = .ok (.bipush 9, 2) := by decide +kernel
theorem dX9_addGuest_14 : decode cX9_addGuest 14 = .ok (.invokestatic 55, 3) := by decide +kernel
theorem dX9_addGuest_17 : decode cX9_addGuest 17 = .ok (.ifCond .ne 9, 3) := by decide +kernel
theorem dX9_addGuest_20 : decode cX9_addGuest 20 = .ok (.aload_n 0, 1) := by decide +kernel
theorem dX9_addGuest_21 : decode cX9_addGuest 21 = .ok (.iconst 1, 1) := by decide +kernel
theorem dX9_addGuest_22 : decode cX9_addGuest 22 = .ok (.invokevirtual 133, 3) := by decide +kernel
theorem dX9_addGuest_25 : decode cX9_addGuest 25 = .ok (.ireturn, 1) := by decide +kernel
theorem dX9_addGuest_26 : decode cX9_addGuest 26 = .ok (.iload_n 2, 1) := by decide +kernel
theorem dX9_addGuest_27 : decode cX9_addGuest 27 = .ok (.iconst 0, 1) := by decide +kernel
theorem dX9_addGuest_28 : decode cX9_addGuest 28 = .ok (.bipush 9, 2) := by decide +kernel
theorem dX9_addGuest_30 : decode cX9_addGuest 30 = .ok (.invokestatic 55, 3) := by decide +kernel
theorem dX9_addGuest_33 : decode cX9_addGuest 33 = .ok (.ifCond .ne 9, 3) := by decide +kernel
theorem dX9_addGuest_36 : decode cX9_addGuest 36 = .ok (.aload_n 0, 1) := by decide +kernel
theorem dX9_addGuest_37 : decode cX9_addGuest 37 = .ok (.iconst 1, 1) := by decide +kernel
theorem dX9_addGuest_38 : decode cX9_addGuest 38 = .ok (.invokevirtual 133, 3) := by decide +kernel
theorem dX9_addGuest_41 : decode cX9_addGuest 41 = .ok (.ireturn, 1) := by decide +kernel
theorem dX9_addGuest_42 : decode cX9_addGuest 42 = .ok (.iload_n 3, 1) := by decide +kernel
theorem dX9_addGuest_43 : decode cX9_addGuest 43 = .ok (.ifCond .ge 9, 3) := by decide +kernel
theorem dX9_addGuest_46 : decode cX9_addGuest 46 = .ok (.aload_n 0, 1) := by decide +kernel
theorem dX9_addGuest_47 : decode cX9_addGuest 47 = .ok (.iconst 1, 1) := by decide +kernel
theorem dX9_addGuest_48 : decode cX9_addGuest 48 = .ok (.invokevirtual 133, 3) := by decide +kernel
theorem dX9_addGuest_51 : decode cX9_addGuest 51 = .ok (.ireturn, 1) := by decide +kernel
theorem dX9_addGuest_52 : decode cX9_addGuest 52 = .ok (.aload_n 0, 1) := by decide +kernel
theorem dX9_addGuest_53 : decode cX9_addGuest 53 = .ok (.getfield 7, 3) := by decide +kernel
theorem dX9_addGuest_56 : decode cX9_addGuest 56 = .ok (.bipush 7, 2) := by decide +kernel
theorem dX9_addGuest_58 : decode cX9_addGuest 58 = .ok (.iaload, 1) := by decide +kernel
theorem dX9_addGuest_59 : decode cX9_addGuest 59 = .ok (.bipush 10, 2) := by decide +kernel
theorem dX9_addGuest_61 : decode cX9_addGuest 61 = .ok (.if_icmp .ne 9, 3) := by decide +kernel
theorem dX9_addGuest_64 : decode cX9_addGuest 64 = .ok (.aload_n 0, 1) := by decide +kernel
theorem dX9_addGuest_65 : decode cX9_addGuest 65 = .ok (.iconst 2, 1) := by decide +kernel
theorem dX9_addGuest_66 : decode cX9_addGuest 66 = .ok (.invokevirtual 133, 3) := by decide +kernel
theorem dX9_addGuest_69 : decode cX9_addGuest 69 = .ok (.ireturn, 1) := by decide +kernel
theorem dX9_addGuest_70 : decode cX9_addGuest 70 = .ok (.aload_n 0, 1) := by decide +kernel
theorem dX9_addGuest_71 : decode cX9_addGuest 71 = .ok (.getfield 7, 3) := by decide +kernel
theorem dX9_addGuest_74 : decode cX9_addGuest 74 = .ok (.iload_n 3, 1) := by decide +kernel
theorem dX9_addGuest_75 : decode cX9_addGuest 75 = .ok (.invokestatic 185, 3) := by decide +kernel
theorem dX9_addGuest_78 : decode cX9_addGuest 78 = .ok (.ifCond .lt 9, 3) := by decide +kernel
theorem dX9_addGuest_81 : decode cX9_addGuest 81 = .ok (.aload_n 0, 1) := by decide +kernel
theorem dX9_addGuest_82 : decode cX9_addGuest 82 = .ok (.iconst 2, 1) := by decide +kernel
theorem dX9_addGuest_83 : decode cX9_addGuest 83 = .ok (.invokevirtual 133, 3) := by decide +kernel
theorem dX9_addGuest_86 : decode cX9_addGuest 86 = .ok (.ireturn, 1) := by decide +kernel
theorem dX9_addGuest_87 : decode cX9_addGuest 87 = .ok (.aload_n 0, 1) := by decide +kernel
theorem dX9_addGuest_88 : decode cX9_addGuest 88 = .ok (.invokevirtual 262, 3) := by decide +kernel
theorem dX9_addGuest_91 : decode cX9_addGuest 91 = .ok (.aload_n 0, 1) := by decide +kernel
theorem dX9_addGuest_92 : decode cX9_addGuest 92 = .ok (.iconst 0, 1) := by decide +kernel
theorem dX9_addGuest_93 : decode cX9_addGuest 93 = .ok (.putfield 130, 3) := by decide +kernel
theorem dX9_addGuest_96 : decode cX9_addGuest 96 = .ok (.aload_n 0, 1) := by decide +kernel
theorem dX9_addGuest_97 : decode cX9_addGuest 97 = .ok (.getfield 7, 3) := by decide +kernel
theorem dX9_addGuest_100 : decode cX9_addGuest 100 = .ok (.iload_n 3, 1) := by decide +kernel
theorem dX9_addGuest_101 : decode cX9_addGuest 101 = .ok (.iload_n 1, 1) := by decide +kernel
theorem dX9_addGuest_102 : decode cX9_addGuest 102 = .ok (.iload_n 2, 1) := by decide +kernel
theorem dX9_addGuest_103 : decode cX9_addGuest 103 = .ok (.invokestatic 39, 3) := by decide +kernel
theorem dX9_addGuest_106 : decode cX9_addGuest 106 = .ok (.ireturn, 1) := by decide +kernel
theorem dX9_addUmbrella_0 : decode cX9_addUmbrella 0 = .ok (.aload_n 0, 1) := by decide +kernel
theorem dX9_addUmbrella_1 : decode cX9_addUmbrella 1 = .ok (.iconst 0, 1) := by decide +kernel
theorem dX9_addUmbrella_2 : decode cX9_addUmbrella 2 = .ok (.putfield 48, 3) := by decide +kernel
theorem dX9_addUmbrella_5 : decode cX9_addUmbrella 5 = .ok (.aload_n 0, 1) := by decide +kernel
theorem dX9_addUmbrella_6 : decode cX9_addUmbrella 6 = .ok (.iload_n 1, 1) := by decide +kernel
theorem dX9_addUmbrella_7 : decode cX9_addUmbrella 7 = .ok (.invokevirtual 218, 3) := by decide +kernel
theorem dX9_addUmbrella_10 : decode cX9_addUmbrella 10 = .ok (.ifCond .ne 9, 3) := by decide +kernel
theorem dX9_addUmbrella_13 : decode cX9_addUmbrella 13 = .ok (.aload_n 0, 1) := by decide +kernel
theorem dX9_addUmbrella_14 : decode cX9_addUmbrella 14 = .ok (.iconst 1, 1) := by decide +kernel
theorem dX9_addUmbrella_15 : decode cX9_addUmbrella 15 = .ok (.invokevirtual 133, 3) := by decide +kernel
theorem dX9_addUmbrella_18 : decode cX9_addUmbrella 18 = .ok (.ireturn, 1) := by decide +kernel
theorem dX9_addUmbrella_19 : decode cX9_addUmbrella 19 = .ok (.iload_n 2, 1) := by decide +kernel
theorem dX9_addUmbrella_20 : decode cX9_addUmbrella 20 = .ok (.iconst 0, 1) := by decide +kernel
theorem dX9_addUmbrella_21 : decode cX9_addUmbrella 21 = .ok (.bipush 99, 2) := by decide +kernel
theorem dX9_addUmbrella_23 : decode cX9_addUmbrella 23 = .ok (.invokestatic 55, 3) := by decide +kernel
theorem dX9_addUmbrella_26 : decode cX9_addUmbrella 26 = .ok (.ifCond .ne 9, 3) := by decide +kernel
theorem dX9_addUmbrella_29 : decode cX9_addUmbrella 29 = .ok (.aload_n 0, 1) := by decide +kernel
theorem dX9_addUmbrella_30 : decode cX9_addUmbrella 30 = .ok (.iconst 2, 1) := by decide +kernel
theorem dX9_addUmbrella_31 : decode cX9_addUmbrella 31 = .ok (.invokevirtual 133, 3) := by decide +kernel
theorem dX9_addUmbrella_34 : decode cX9_addUmbrella 34 = .ok (.ireturn, 1) := by decide +kernel
theorem dX9_addUmbrella_35 : decode cX9_addUmbrella 35 = .ok (.aload_n 0, 1) := by decide +kernel
theorem dX9_addUmbrella_36 : decode cX9_addUmbrella 36 = .ok (.getfield 7, 3) := by decide +kernel
theorem dX9_addUmbrella_39 : decode cX9_addUmbrella 39 = .ok (.bipush 8, 2) := by decide +kernel
theorem dX9_addUmbrella_41 : decode cX9_addUmbrella 41 = .ok (.iaload, 1) := by decide +kernel
theorem dX9_addUmbrella_42 : decode cX9_addUmbrella 42 = .ok (.bipush 12, 2) := by decide +kernel
theorem dX9_addUmbrella_44 : decode cX9_addUmbrella 44 = .ok (.if_icmp .ne 9, 3) := by decide +kernel
theorem dX9_addUmbrella_47 : decode cX9_addUmbrella 47 = .ok (.aload_n 0, 1) := by decide +kernel
theorem dX9_addUmbrella_48 : decode cX9_addUmbrella 48 = .ok (.iconst 3, 1) := by decide +kernel
theorem dX9_addUmbrella_49 : decode cX9_addUmbrella 49 = .ok (.invokevirtual 133, 3) := by decide +kernel
theorem dX9_addUmbrella_52 : decode cX9_addUmbrella 52 = .ok (.ireturn, 1) := by decide +kernel
theorem dX9_addUmbrella_53 : decode cX9_addUmbrella 53 = .ok (.aload_n 0, 1) := by decide +kernel
theorem dX9_addUmbrella_54 : decode cX9_addUmbrella 54 = .ok (.invokevirtual 262, 3) := by decide +kernel
theorem dX9_addUmbrella_57 : decode cX9_addUmbrella 57 = .ok (.aload_n 0, 1) := by decide +kernel
theorem dX9_addUmbrella_58 : decode cX9_addUmbrella 58 = .ok (.getfield 7, 3) := by decide +kernel
theorem dX9_addUmbrella_61 : decode cX9_addUmbrella 61 = .ok (.iload_n 1, 1) := by decide +kernel
theorem dX9_addUmbrella_62 : decode cX9_addUmbrella 62 = .ok (.iload_n 2, 1) := by decide +kernel
theorem dX9_addUmbrella_63 : decode cX9_addUmbrella 63 = .ok (.invokestatic 44, 3) := by decide +kernel
theorem dX9_addUmbrella_66 : decode cX9_addUmbrella 66 = .ok (.ireturn, 1) := by decide +kernel
theorem dX9_leave_0 : decode cX9_leave 0 = .ok (.aload_n 0, 1) := by decide +kernel
theorem dX9_leave_1 : decode cX9_leave 1 = .ok (.iconst 0, 1) := by decide +kernel
theorem dX9_leave_2 : decode cX9_leave 2 = .ok (.putfield 48, 3) := by decide +kernel
theorem dX9_leave_5 : decode cX9_leave 5 = .ok (.aload_n 0, 1) := by decide +kernel
theorem dX9_leave_6 : decode cX9_leave 6 = .ok (.iload_n 1, 1) := by decide +kernel
theorem dX9_leave_7 : decode cX9_leave 7 = .ok (.invokevirtual 218, 3) := by decide +kernel
theorem dX9_leave_10 : decode cX9_leave 10 = .ok (.ifCond .ne 9, 3) := by decide +kernel
theorem dX9_leave_13 : decode cX9_leave 13 = .ok (.aload_n 0, 1) := by decide +kernel
theorem dX9_leave_14 : decode cX9_leave 14 = .ok (.iconst 1, 1) := by decide +kernel
theorem dX9_leave_15 : decode cX9_leave 15 = .ok (.invokevirtual 133, 3) := by decide +kernel
theorem dX9_leave_18 : decode cX9_leave 18 = .ok (.ireturn, 1) := by decide +kernel
theorem dX9_leave_19 : decode cX9_leave 19 = .ok (.aload_n 0, 1) := by decide +kernel
theorem dX9_leave_20 : decode cX9_leave 20 = .ok (.getfield 7, 3) := by decide +kernel
theorem dX9_leave_23 : decode cX9_leave 23 = .ok (.iload_n 1, 1) := by decide +kernel
theorem dX9_leave_24 : decode cX9_leave 24 = .ok (.invokestatic 109, 3) := by decide +kernel
theorem dX9_leave_27 : decode cX9_leave 27 = .ok (.ifCond .eq 9, 3) := by decide +kernel
theorem dX9_leave_30 : decode cX9_leave 30 = .ok (.aload_n 0, 1) := by decide +kernel
theorem dX9_leave_31 : decode cX9_leave 31 = .ok (.iconst 2, 1) := by decide +kernel
theorem dX9_leave_32 : decode cX9_leave 32 = .ok (.invokevirtual 133, 3) := by decide +kernel
theorem dX9_leave_35 : decode cX9_leave 35 = .ok (.ireturn, 1) := by decide +kernel
theorem dX9_leave_36 : decode cX9_leave 36 = .ok (.aload_n 0, 1) := by decide +kernel
theorem dX9_leave_37 : decode cX9_leave 37 = .ok (.getfield 7, 3) := by decide +kernel
theorem dX9_leave_40 : decode cX9_leave 40 = .ok (.bipush 9, 2) := by decide +kernel
theorem dX9_leave_42 : decode cX9_leave 42 = .ok (.iaload, 1) := by decide +kernel
theorem dX9_leave_43 : decode cX9_leave 43 = .ok (.bipush 60, 2) := by decide +kernel
theorem dX9_leave_45 : decode cX9_leave 45 = .ok (.if_icmp .ne 9, 3) := by decide +kernel
theorem dX9_leave_48 : decode cX9_leave 48 = .ok (.aload_n 0, 1) := by decide +kernel
theorem dX9_leave_49 : decode cX9_leave 49 = .ok (.iconst 2, 1) := by decide +kernel
theorem dX9_leave_50 : decode cX9_leave 50 = .ok (.invokevirtual 133, 3) := by decide +kernel
theorem dX9_leave_53 : decode cX9_leave 53 = .ok (.ireturn, 1) := by decide +kernel
theorem dX9_leave_54 : decode cX9_leave 54 = .ok (.aload_n 0, 1) := by decide +kernel
theorem dX9_leave_55 : decode cX9_leave 55 = .ok (.invokevirtual 262, 3) := by decide +kernel
theorem dX9_leave_58 : decode cX9_leave 58 = .ok (.aload_n 0, 1) := by decide +kernel
theorem dX9_leave_59 : decode cX9_leave 59 = .ok (.getfield 7, 3) := by decide +kernel
theorem dX9_leave_62 : decode cX9_leave 62 = .ok (.iload_n 1, 1) := by decide +kernel
theorem dX9_leave_63 : decode cX9_leave 63 = .ok (.invokestatic 265, 3) := by decide +kernel
theorem dX9_leave_66 : decode cX9_leave 66 = .ok (.ireturn, 1) := by decide +kernel
theorem dX9_comeBack_0 : decode cX9_comeBack 0 = .ok (.aload_n 0, 1) := by decide +kernel
theorem dX9_comeBack_1 : decode cX9_comeBack 1 = .ok (.iconst 0, 1) := by decide +kernel
theorem dX9_comeBack_2 : decode cX9_comeBack 2 = .ok (.putfield 48, 3) := by decide +kernel
theorem dX9_comeBack_5 : decode cX9_comeBack 5 = .ok (.aload_n 0, 1) := by decide +kernel
theorem dX9_comeBack_6 : decode cX9_comeBack 6 = .ok (.iload_n 1, 1) := by decide +kernel
theorem dX9_comeBack_7 : decode cX9_comeBack 7 = .ok (.invokevirtual 218, 3) := by decide +kernel
theorem dX9_comeBack_10 : decode cX9_comeBack 10 = .ok (.ifCond .ne 9, 3) := by decide +kernel
theorem dX9_comeBack_13 : decode cX9_comeBack 13 = .ok (.aload_n 0, 1) := by decide +kernel
theorem dX9_comeBack_14 : decode cX9_comeBack 14 = .ok (.iconst 1, 1) := by decide +kernel
theorem dX9_comeBack_15 : decode cX9_comeBack 15 = .ok (.invokevirtual 133, 3) := by decide +kernel
theorem dX9_comeBack_18 : decode cX9_comeBack 18 = .ok (.ireturn, 1) := by decide +kernel
theorem dX9_comeBack_19 : decode cX9_comeBack 19 = .ok (.aload_n 0, 1) := by decide +kernel
theorem dX9_comeBack_20 : decode cX9_comeBack 20 = .ok (.getfield 7, 3) := by decide +kernel
theorem dX9_comeBack_23 : decode cX9_comeBack 23 = .ok (.iload_n 1, 1) := by decide +kernel
theorem dX9_comeBack_24 : decode cX9_comeBack 24 = .ok (.invokestatic 109, 3) := by decide +kernel
theorem dX9_comeBack_27 : decode cX9_comeBack 27 = .ok (.ifCond .ne 9, 3) := by decide +kernel
theorem dX9_comeBack_30 : decode cX9_comeBack 30 = .ok (.aload_n 0, 1) := by decide +kernel
theorem dX9_comeBack_31 : decode cX9_comeBack 31 = .ok (.iconst 2, 1) := by decide +kernel
theorem dX9_comeBack_32 : decode cX9_comeBack 32 = .ok (.invokevirtual 133, 3) := by decide +kernel
theorem dX9_comeBack_35 : decode cX9_comeBack 35 = .ok (.ireturn, 1) := by decide +kernel
theorem dX9_comeBack_36 : decode cX9_comeBack 36 = .ok (.aload_n 0, 1) := by decide +kernel
theorem dX9_comeBack_37 : decode cX9_comeBack 37 = .ok (.getfield 7, 3) := by decide +kernel
theorem dX9_comeBack_40 : decode cX9_comeBack 40 = .ok (.bipush 9, 2) := by decide +kernel
theorem dX9_comeBack_42 : decode cX9_comeBack 42 = .ok (.iaload, 1) := by decide +kernel
theorem dX9_comeBack_43 : decode cX9_comeBack 43 = .ok (.bipush 60, 2) := by decide +kernel
theorem dX9_comeBack_45 : decode cX9_comeBack 45 = .ok (.if_icmp .ne 9, 3) := by decide +kernel
theorem dX9_comeBack_48 : decode cX9_comeBack 48 = .ok (.aload_n 0, 1) := by decide +kernel
theorem dX9_comeBack_49 : decode cX9_comeBack 49 = .ok (.iconst 2, 1) := by decide +kernel
theorem dX9_comeBack_50 : decode cX9_comeBack 50 = .ok (.invokevirtual 133, 3) := by decide +kernel
theorem dX9_comeBack_53 : decode cX9_comeBack 53 = .ok (.ireturn, 1) := by decide +kernel
theorem dX9_comeBack_54 : decode cX9_comeBack 54 = .ok (.aload_n 0, 1) := by decide +kernel
theorem dX9_comeBack_55 : decode cX9_comeBack 55 = .ok (.invokevirtual 262, 3) := by decide +kernel
theorem dX9_comeBack_58 : decode cX9_comeBack 58 = .ok (.aload_n 0, 1) := by decide +kernel
theorem dX9_comeBack_59 : decode cX9_comeBack 59 = .ok (.getfield 7, 3) := by decide +kernel
theorem dX9_comeBack_62 : decode cX9_comeBack 62 = .ok (.iload_n 1, 1) := by decide +kernel
theorem dX9_comeBack_63 : decode cX9_comeBack 63 = .ok (.invokestatic 268, 3) := by decide +kernel
theorem dX9_comeBack_66 : decode cX9_comeBack 66 = .ok (.ireturn, 1) := by decide +kernel
theorem dX9_passMinutes_0 : decode cX9_passMinutes 0 = .ok (.aload_n 0, 1) := by decide +kernel
theorem dX9_passMinutes_1 : decode cX9_passMinutes 1 = .ok (.iconst 0, 1) := by decide +kernel
theorem dX9_passMinutes_2 : decode cX9_passMinutes 2 = .ok (.putfield 48, 3) := by decide +kernel
theorem dX9_passMinutes_5 : decode cX9_passMinutes 5 = .ok (.iload_n 1, 1) := by decide +kernel
theorem dX9_passMinutes_6 : decode cX9_passMinutes 6 = .ok (.iconst 1, 1) := by decide +kernel
theorem dX9_passMinutes_7 : decode cX9_passMinutes 7 = .ok (.sipush 240, 3) := by decide +kernel
theorem dX9_passMinutes_10 : decode cX9_passMinutes 10 = .ok (.invokestatic 55, 3) := by decide +kernel
theorem dX9_passMinutes_13 : decode cX9_passMinutes 13 = .ok (.ifCond .ne 9, 3) := by decide +kernel
theorem dX9_passMinutes_16 : decode cX9_passMinutes 16 = .ok (.aload_n 0, 1) := by decide +kernel
theorem dX9_passMinutes_17 : decode cX9_passMinutes 17 = .ok (.iconst 1, 1) := by decide +kernel
theorem dX9_passMinutes_18 : decode cX9_passMinutes 18 = .ok (.invokevirtual 133, 3) := by decide +kernel
theorem dX9_passMinutes_21 : decode cX9_passMinutes 21 = .ok (.ireturn, 1) := by decide +kernel
theorem dX9_passMinutes_22 : decode cX9_passMinutes 22 = .ok (.aload_n 0, 1) := by decide +kernel
theorem dX9_passMinutes_23 : decode cX9_passMinutes 23 = .ok (.getfield 7, 3) := by decide +kernel
theorem dX9_passMinutes_26 : decode cX9_passMinutes 26 = .ok (.iconst 0, 1) := by decide +kernel
theorem dX9_passMinutes_27 : decode cX9_passMinutes 27 = .ok (.iaload, 1) := by decide +kernel
theorem dX9_passMinutes_28 : decode cX9_passMinutes 28 = .ok (.iload_n 1, 1) := by decide +kernel
theorem dX9_passMinutes_29 : decode cX9_passMinutes 29 = .ok (.iadd, 1) := by decide +kernel
theorem dX9_passMinutes_30 : decode cX9_passMinutes 30 = .ok (.sipush 720, 3) := by decide +kernel
theorem dX9_passMinutes_33 : decode cX9_passMinutes 33 = .ok (.if_icmp .le 9, 3) := by decide +kernel
theorem dX9_passMinutes_36 : decode cX9_passMinutes 36 = .ok (.aload_n 0, 1) := by decide +kernel
theorem dX9_passMinutes_37 : decode cX9_passMinutes 37 = .ok (.iconst 2, 1) := by decide +kernel
theorem dX9_passMinutes_38 : decode cX9_passMinutes 38 = .ok (.invokevirtual 133, 3) := by decide +kernel
theorem dX9_passMinutes_41 : decode cX9_passMinutes 41 = .ok (.ireturn, 1) := by decide +kernel
theorem dX9_passMinutes_42 : decode cX9_passMinutes 42 = .ok (.aload_n 0, 1) := by decide +kernel
theorem dX9_passMinutes_43 : decode cX9_passMinutes 43 = .ok (.invokevirtual 262, 3) := by decide +kernel
theorem dX9_passMinutes_46 : decode cX9_passMinutes 46 = .ok (.aload_n 0, 1) := by decide +kernel
theorem dX9_passMinutes_47 : decode cX9_passMinutes 47 = .ok (.getfield 7, 3) := by decide +kernel
theorem dX9_passMinutes_50 : decode cX9_passMinutes 50 = .ok (.iconst 4, 1) := by decide +kernel
theorem dX9_passMinutes_51 : decode cX9_passMinutes 51 = .ok (.iaload, 1) := by decide +kernel
theorem dX9_passMinutes_52 : decode cX9_passMinutes 52 = .ok (.istore_n 2, 1) := by decide +kernel
theorem dX9_passMinutes_53 : decode cX9_passMinutes 53 = .ok (.iconst 0, 1) := by decide +kernel
theorem dX9_passMinutes_54 : decode cX9_passMinutes 54 = .ok (.istore_n 3, 1) := by decide +kernel
theorem dX9_passMinutes_55 : decode cX9_passMinutes 55 = .ok (.iload_n 3, 1) := by decide +kernel
theorem dX9_passMinutes_56 : decode cX9_passMinutes 56 = .ok (.iload_n 1, 1) := by decide +kernel
theorem dX9_passMinutes_57 : decode cX9_passMinutes 57 = .ok (.if_icmp .ge 16, 3) := by decide +kernel
theorem dX9_passMinutes_60 : decode cX9_passMinutes 60 = .ok (.aload_n 0, 1) := by decide +kernel
theorem dX9_passMinutes_61 : decode cX9_passMinutes 61 = .ok (.getfield 7, 3) := by decide +kernel
theorem dX9_passMinutes_64 : decode cX9_passMinutes 64 = .ok (.invokestatic 258, 3) := by decide +kernel
theorem dX9_passMinutes_67 : decode cX9_passMinutes 67 = .ok (.iinc 3 1, 3) := by decide +kernel
theorem dX9_passMinutes_70 : decode cX9_passMinutes 70 = .ok (.goto (-15), 3) := by decide +kernel
theorem dX9_passMinutes_73 : decode cX9_passMinutes 73 = .ok (.aload_n 0, 1) := by decide +kernel
theorem dX9_passMinutes_74 : decode cX9_passMinutes 74 = .ok (.getfield 7, 3) := by decide +kernel
theorem dX9_passMinutes_77 : decode cX9_passMinutes 77 = .ok (.iconst 4, 1) := by decide +kernel
theorem dX9_passMinutes_78 : decode cX9_passMinutes 78 = .ok (.iaload, 1) := by decide +kernel
theorem dX9_passMinutes_79 : decode cX9_passMinutes 79 = .ok (.iload_n 2, 1) := by decide +kernel
theorem dX9_passMinutes_80 : decode cX9_passMinutes 80 = .ok (.isub, 1) := by decide +kernel
theorem dX9_passMinutes_81 : decode cX9_passMinutes 81 = .ok (.ireturn, 1) := by decide +kernel
theorem dX9_walkDog_0 : decode cX9_walkDog 0 = .ok (.aload_n 0, 1) := by decide +kernel
theorem dX9_walkDog_1 : decode cX9_walkDog 1 = .ok (.iconst 0, 1) := by decide +kernel
theorem dX9_walkDog_2 : decode cX9_walkDog 2 = .ok (.putfield 48, 3) := by decide +kernel
theorem dX9_walkDog_5 : decode cX9_walkDog 5 = .ok (.aload_n 0, 1) := by decide +kernel
theorem dX9_walkDog_6 : decode cX9_walkDog 6 = .ok (.iload_n 1, 1) := by decide +kernel
theorem dX9_walkDog_7 : decode cX9_walkDog 7 = .ok (.invokevirtual 218, 3) := by decide +kernel
theorem dX9_walkDog_10 : decode cX9_walkDog 10 = .ok (.ifCond .ne 9, 3) := by decide +kernel
theorem dX9_walkDog_13 : decode cX9_walkDog 13 = .ok (.aload_n 0, 1) := by decide +kernel
theorem dX9_walkDog_14 : decode cX9_walkDog 14 = .ok (.iconst 1, 1) := by decide +kernel
theorem dX9_walkDog_15 : decode cX9_walkDog 15 = .ok (.invokevirtual 133, 3) := by decide +kernel
theorem dX9_walkDog_18 : decode cX9_walkDog 18 = .ok (.ireturn, 1) := by decide +kernel
theorem dX9_walkDog_19 : decode cX9_walkDog 19 = .ok (.aload_n 0, 1) := by decide +kernel
theorem dX9_walkDog_20 : decode cX9_walkDog 20 = .ok (.getfield 7, 3) := by decide +kernel
theorem dX9_walkDog_23 : decode cX9_walkDog 23 = .ok (.iload_n 1, 1) := by decide +kernel
theorem dX9_walkDog_24 : decode cX9_walkDog 24 = .ok (.invokestatic 109, 3) := by decide +kernel
theorem dX9_walkDog_27 : decode cX9_walkDog 27 = .ok (.ifCond .ne 9, 3) := by decide +kernel
theorem dX9_walkDog_30 : decode cX9_walkDog 30 = .ok (.aload_n 0, 1) := by decide +kernel
theorem dX9_walkDog_31 : decode cX9_walkDog 31 = .ok (.iconst 2, 1) := by decide +kernel
theorem dX9_walkDog_32 : decode cX9_walkDog 32 = .ok (.invokevirtual 133, 3) := by decide +kernel
theorem dX9_walkDog_35 : decode cX9_walkDog 35 = .ok (.ireturn, 1) := by decide +kernel
theorem dX9_walkDog_36 : decode cX9_walkDog 36 = .ok (.aload_n 0, 1) := by decide +kernel
theorem dX9_walkDog_37 : decode cX9_walkDog 37 = .ok (.getfield 7, 3) := by decide +kernel
theorem dX9_walkDog_40 : decode cX9_walkDog 40 = .ok (.iload_n 1, 1) := by decide +kernel
theorem dX9_walkDog_41 : decode cX9_walkDog 41 = .ok (.iconst 2, 1) := by decide +kernel
theorem dX9_walkDog_42 : decode cX9_walkDog 42 = .ok (.invokestatic 59, 3) := by decide +kernel
theorem dX9_walkDog_45 : decode cX9_walkDog 45 = .ok (.iaload, 1) := by decide +kernel
theorem dX9_walkDog_46 : decode cX9_walkDog 46 = .ok (.ifCond .ne 9, 3) := by decide +kernel
theorem dX9_walkDog_49 : decode cX9_walkDog 49 = .ok (.aload_n 0, 1) := by decide +kernel
theorem dX9_walkDog_50 : decode cX9_walkDog 50 = .ok (.iconst 2, 1) := by decide +kernel
theorem dX9_walkDog_51 : decode cX9_walkDog 51 = .ok (.invokevirtual 133, 3) := by decide +kernel
theorem dX9_walkDog_54 : decode cX9_walkDog 54 = .ok (.ireturn, 1) := by decide +kernel
theorem dX9_walkDog_55 : decode cX9_walkDog 55 = .ok (.aload_n 0, 1) := by decide +kernel
theorem dX9_walkDog_56 : decode cX9_walkDog 56 = .ok (.invokevirtual 262, 3) := by decide +kernel
theorem dX9_walkDog_59 : decode cX9_walkDog 59 = .ok (.aload_n 0, 1) := by decide +kernel
theorem dX9_walkDog_60 : decode cX9_walkDog 60 = .ok (.getfield 7, 3) := by decide +kernel
theorem dX9_walkDog_63 : decode cX9_walkDog 63 = .ok (.iload_n 1, 1) := by decide +kernel
theorem dX9_walkDog_64 : decode cX9_walkDog 64 = .ok (.bipush 6, 2) := by decide +kernel
theorem dX9_walkDog_66 : decode cX9_walkDog 66 = .ok (.invokestatic 59, 3) := by decide +kernel
theorem dX9_walkDog_69 : decode cX9_walkDog 69 = .ok (.aload_n 0, 1) := by decide +kernel
theorem dX9_walkDog_70 : decode cX9_walkDog 70 = .ok (.getfield 7, 3) := by decide +kernel
theorem dX9_walkDog_73 : decode cX9_walkDog 73 = .ok (.iconst 0, 1) := by decide +kernel
theorem dX9_walkDog_74 : decode cX9_walkDog 74 = .ok (.iaload, 1) := by decide +kernel
theorem dX9_walkDog_75 : decode cX9_walkDog 75 = .ok (.iastore, 1) := by decide +kernel
theorem dX9_walkDog_76 : decode cX9_walkDog 76 = .ok (.aload_n 0, 1) := by decide +kernel
theorem dX9_walkDog_77 : decode cX9_walkDog 77 = .ok (.getfield 7, 3) := by decide +kernel
theorem dX9_walkDog_80 : decode cX9_walkDog 80 = .ok (.iload_n 1, 1) := by decide +kernel
theorem dX9_walkDog_81 : decode cX9_walkDog 81 = .ok (.bipush 7, 2) := by decide +kernel
theorem dX9_walkDog_83 : decode cX9_walkDog 83 = .ok (.invokestatic 59, 3) := by decide +kernel
theorem dX9_walkDog_86 : decode cX9_walkDog 86 = .ok (.dup2, 1) := by decide +kernel
theorem dX9_walkDog_87 : decode cX9_walkDog 87 = .ok (.iaload, 1) := by decide +kernel
theorem dX9_walkDog_88 : decode cX9_walkDog 88 = .ok (.iconst 1, 1) := by decide +kernel
theorem dX9_walkDog_89 : decode cX9_walkDog 89 = .ok (.iadd, 1) := by decide +kernel
theorem dX9_walkDog_90 : decode cX9_walkDog 90 = .ok (.iastore, 1) := by decide +kernel
theorem dX9_walkDog_91 : decode cX9_walkDog 91 = .ok (.aload_n 0, 1) := by decide +kernel
theorem dX9_walkDog_92 : decode cX9_walkDog 92 = .ok (.getfield 7, 3) := by decide +kernel
theorem dX9_walkDog_95 : decode cX9_walkDog 95 = .ok (.iload_n 1, 1) := by decide +kernel
theorem dX9_walkDog_96 : decode cX9_walkDog 96 = .ok (.bipush 7, 2) := by decide +kernel
theorem dX9_walkDog_98 : decode cX9_walkDog 98 = .ok (.invokestatic 59, 3) := by decide +kernel
theorem dX9_walkDog_101 : decode cX9_walkDog 101 = .ok (.iaload, 1) := by decide +kernel
theorem dX9_walkDog_102 : decode cX9_walkDog 102 = .ok (.ireturn, 1) := by decide +kernel
theorem dX9_sets_0 : decode cX9_sets 0 = .ok (.aload_n 0, 1) := by decide +kernel
theorem dX9_sets_1 : decode cX9_sets 1 = .ok (.invokevirtual 262, 3) := by decide +kernel
theorem dX9_sets_4 : decode cX9_sets 4 = .ok (.aload_n 0, 1) := by decide +kernel
theorem dX9_sets_5 : decode cX9_sets 5 = .ok (.getfield 7, 3) := by decide +kernel
theorem dX9_sets_8 : decode cX9_sets 8 = .ok (.iload_n 1, 1) := by decide +kernel
theorem dX9_sets_9 : decode cX9_sets 9 = .ok (.iaload, 1) := by decide +kernel
theorem dX9_sets_10 : decode cX9_sets 10 = .ok (.istore_n 3, 1) := by decide +kernel
theorem dX9_sets_11 : decode cX9_sets 11 = .ok (.aload_n 0, 1) := by decide +kernel
theorem dX9_sets_12 : decode cX9_sets 12 = .ok (.getfield 7, 3) := by decide +kernel
theorem dX9_sets_15 : decode cX9_sets 15 = .ok (.iload_n 1, 1) := by decide +kernel
theorem dX9_sets_16 : decode cX9_sets 16 = .ok (.iload_n 2, 1) := by decide +kernel
theorem dX9_sets_17 : decode cX9_sets 17 = .ok (.iastore, 1) := by decide +kernel
theorem dX9_sets_18 : decode cX9_sets 18 = .ok (.iload_n 3, 1) := by decide +kernel
theorem dX9_sets_19 : decode cX9_sets 19 = .ok (.ireturn, 1) := by decide +kernel
theorem dX9_setRain_0 : decode cX9_setRain 0 = .ok (.aload_n 0, 1) := by decide +kernel
theorem dX9_setRain_1 : decode cX9_setRain 1 = .ok (.iconst 0, 1) := by decide +kernel
theorem dX9_setRain_2 : decode cX9_setRain 2 = .ok (.putfield 48, 3) := by decide +kernel
theorem dX9_setRain_5 : decode cX9_setRain 5 = .ok (.iload_n 1, 1) := by decide +kernel
theorem dX9_setRain_6 : decode cX9_setRain 6 = .ok (.iconst 0, 1) := by decide +kernel
theorem dX9_setRain_7 : decode cX9_setRain 7 = .ok (.bipush 9, 2) := by decide +kernel
theorem dX9_setRain_9 : decode cX9_setRain 9 = .ok (.invokestatic 55, 3) := by decide +kernel
theorem dX9_setRain_12 : decode cX9_setRain 12 = .ok (.ifCond .ne 9, 3) := by decide +kernel
theorem dX9_setRain_15 : decode cX9_setRain 15 = .ok (.aload_n 0, 1) := by decide +kernel
theorem dX9_setRain_16 : decode cX9_setRain 16 = .ok (.iconst 1, 1) := by decide +kernel
theorem dX9_setRain_17 : decode cX9_setRain 17 = .ok (.invokevirtual 133, 3) := by decide +kernel
theorem dX9_setRain_20 : decode cX9_setRain 20 = .ok (.ireturn, 1) := by decide +kernel
theorem dX9_setRain_21 : decode cX9_setRain 21 = .ok (.aload_n 0, 1) := by decide +kernel
theorem dX9_setRain_22 : decode cX9_setRain 22 = .ok (.iconst 1, 1) := by decide +kernel
theorem dX9_setRain_23 : decode cX9_setRain 23 = .ok (.iload_n 1, 1) := by decide +kernel
theorem dX9_setRain_24 : decode cX9_setRain 24 = .ok (.invokevirtual 271, 3) := by decide +kernel
theorem dX9_setRain_27 : decode cX9_setRain 27 = .ok (.ireturn, 1) := by decide +kernel
theorem dX9_setNoiseLimit_0 : decode cX9_setNoiseLimit 0 = .ok (.aload_n 0, 1) := by decide +kernel
theorem dX9_setNoiseLimit_1 : decode cX9_setNoiseLimit 1 = .ok (.iconst 0, 1) := by decide +kernel
theorem dX9_setNoiseLimit_2 : decode cX9_setNoiseLimit 2 = .ok (.putfield 48, 3) := by decide +kernel
theorem dX9_setNoiseLimit_5 : decode cX9_setNoiseLimit 5 = .ok (.iload_n 1, 1) := by decide +kernel
theorem dX9_setNoiseLimit_6 : decode cX9_setNoiseLimit 6 = .ok (.iconst 0, 1) := by decide +kernel
theorem dX9_setNoiseLimit_7 : decode cX9_setNoiseLimit 7 = .ok (.sipush 999, 3) := by decide +kernel
theorem dX9_setNoiseLimit_10 : decode cX9_setNoiseLimit 10 = .ok (.invokestatic 55, 3) := by decide +kernel
theorem dX9_setNoiseLimit_13 : decode cX9_setNoiseLimit 13 = .ok (.ifCond .ne 9, 3) := by decide +kernel
theorem dX9_setNoiseLimit_16 : decode cX9_setNoiseLimit 16 = .ok (.aload_n 0, 1) := by decide +kernel
theorem dX9_setNoiseLimit_17 : decode cX9_setNoiseLimit 17 = .ok (.iconst 1, 1) := by decide +kernel
theorem dX9_setNoiseLimit_18 : decode cX9_setNoiseLimit 18 = .ok (.invokevirtual 133, 3) := by decide +kernel
theorem dX9_setNoiseLimit_21 : decode cX9_setNoiseLimit 21 = .ok (.ireturn, 1) := by decide +kernel
theorem dX9_setNoiseLimit_22 : decode cX9_setNoiseLimit 22 = .ok (.aload_n 0, 1) := by decide +kernel
theorem dX9_setNoiseLimit_23 : decode cX9_setNoiseLimit 23 = .ok (.iconst 2, 1) := by decide +kernel
theorem dX9_setNoiseLimit_24 : decode cX9_setNoiseLimit 24 = .ok (.iload_n 1, 1) := by decide +kernel
theorem dX9_setNoiseLimit_25 : decode cX9_setNoiseLimit 25 = .ok (.invokevirtual 271, 3) := by decide +kernel
theorem dX9_setNoiseLimit_28 : decode cX9_setNoiseLimit 28 = .ok (.ireturn, 1) := by decide +kernel
theorem dX9_undo_0 : decode cX9_undo 0 = .ok (.aload_n 0, 1) := by decide +kernel
theorem dX9_undo_1 : decode cX9_undo 1 = .ok (.iconst 0, 1) := by decide +kernel
theorem dX9_undo_2 : decode cX9_undo 2 = .ok (.putfield 48, 3) := by decide +kernel
theorem dX9_undo_5 : decode cX9_undo 5 = .ok (.aload_n 0, 1) := by decide +kernel
theorem dX9_undo_6 : decode cX9_undo 6 = .ok (.getfield 212, 3) := by decide +kernel
theorem dX9_undo_9 : decode cX9_undo 9 = .ok (.ifCond .ne 9, 3) := by decide +kernel
theorem dX9_undo_12 : decode cX9_undo 12 = .ok (.aload_n 0, 1) := by decide +kernel
theorem dX9_undo_13 : decode cX9_undo 13 = .ok (.iconst 1, 1) := by decide +kernel
theorem dX9_undo_14 : decode cX9_undo 14 = .ok (.invokevirtual 133, 3) := by decide +kernel
theorem dX9_undo_17 : decode cX9_undo 17 = .ok (.ireturn, 1) := by decide +kernel
theorem dX9_undo_18 : decode cX9_undo 18 = .ok (.aload_n 0, 1) := by decide +kernel
theorem dX9_undo_19 : decode cX9_undo 19 = .ok (.dup, 1) := by decide +kernel
theorem dX9_undo_20 : decode cX9_undo 20 = .ok (.getfield 212, 3) := by decide +kernel
theorem dX9_undo_23 : decode cX9_undo 23 = .ok (.iconst 1, 1) := by decide +kernel
theorem dX9_undo_24 : decode cX9_undo 24 = .ok (.isub, 1) := by decide +kernel
theorem dX9_undo_25 : decode cX9_undo 25 = .ok (.putfield 212, 3) := by decide +kernel
theorem dX9_undo_28 : decode cX9_undo 28 = .ok (.aload_n 0, 1) := by decide +kernel
theorem dX9_undo_29 : decode cX9_undo 29 = .ok (.getfield 19, 3) := by decide +kernel
theorem dX9_undo_32 : decode cX9_undo 32 = .ok (.sipush 306, 3) := by decide +kernel
theorem dX9_undo_35 : decode cX9_undo 35 = .ok (.aload_n 0, 1) := by decide +kernel
theorem dX9_undo_36 : decode cX9_undo 36 = .ok (.getfield 212, 3) := by decide +kernel
theorem dX9_undo_39 : decode cX9_undo 39 = .ok (.imul, 1) := by decide +kernel
theorem dX9_undo_40 : decode cX9_undo 40 = .ok (.aload_n 0, 1) := by decide +kernel
theorem dX9_undo_41 : decode cX9_undo 41 = .ok (.getfield 7, 3) := by decide +kernel
theorem dX9_undo_44 : decode cX9_undo 44 = .ok (.iconst 0, 1) := by decide +kernel
theorem dX9_undo_45 : decode cX9_undo 45 = .ok (.invokestatic 51, 3) := by decide +kernel
theorem dX9_undo_48 : decode cX9_undo 48 = .ok (.aload_n 0, 1) := by decide +kernel
theorem dX9_undo_49 : decode cX9_undo 49 = .ok (.getfield 212, 3) := by decide +kernel
theorem dX9_undo_52 : decode cX9_undo 52 = .ok (.ireturn, 1) := by decide +kernel
theorem dX9_saveSnapshot_0 : decode cX9_saveSnapshot 0 = .ok (.aload_n 0, 1) := by decide +kernel
theorem dX9_saveSnapshot_1 : decode cX9_saveSnapshot 1 = .ok (.iconst 0, 1) := by decide +kernel
theorem dX9_saveSnapshot_2 : decode cX9_saveSnapshot 2 = .ok (.putfield 48, 3) := by decide +kernel
theorem dX9_saveSnapshot_5 : decode cX9_saveSnapshot 5 = .ok (.iload_n 1, 1) := by decide +kernel
theorem dX9_saveSnapshot_6 : decode cX9_saveSnapshot 6 = .ok (.iconst 0, 1) := by decide +kernel
theorem dX9_saveSnapshot_7 : decode cX9_saveSnapshot 7 = .ok (.iconst 1, 1) := by decide +kernel
theorem dX9_saveSnapshot_8 : decode cX9_saveSnapshot 8 = .ok (.invokestatic 55, 3) := by decide +kernel
theorem dX9_saveSnapshot_11 : decode cX9_saveSnapshot 11 = .ok (.ifCond .ne 9, 3) := by decide +kernel
theorem dX9_saveSnapshot_14 : decode cX9_saveSnapshot 14 = .ok (.aload_n 0, 1) := by decide +kernel
theorem dX9_saveSnapshot_15 : decode cX9_saveSnapshot 15 = .ok (.iconst 1, 1) := by decide +kernel
theorem dX9_saveSnapshot_16 : decode cX9_saveSnapshot 16 = .ok (.invokevirtual 133, 3) := by decide +kernel
theorem dX9_saveSnapshot_19 : decode cX9_saveSnapshot 19 = .ok (.ireturn, 1) := by decide +kernel
theorem dX9_saveSnapshot_20 : decode cX9_saveSnapshot 20 = .ok (.aload_n 0, 1) := by decide +kernel
theorem dX9_saveSnapshot_21 : decode cX9_saveSnapshot 21 = .ok (.getfield 7, 3) := by decide +kernel
theorem dX9_saveSnapshot_24 : decode cX9_saveSnapshot 24 = .ok (.iconst 0, 1) := by decide +kernel
theorem dX9_saveSnapshot_25 : decode cX9_saveSnapshot 25 = .ok (.aload_n 0, 1) := by decide +kernel
theorem dX9_saveSnapshot_26 : decode cX9_saveSnapshot 26 = .ok (.getfield 22, 3) := by decide +kernel
theorem dX9_saveSnapshot_29 : decode cX9_saveSnapshot 29 = .ok (.sipush 306, 3) := by decide +kernel
theorem dX9_saveSnapshot_32 : decode cX9_saveSnapshot 32 = .ok (.iload_n 1, 1) := by decide +kernel
theorem dX9_saveSnapshot_33 : decode cX9_saveSnapshot 33 = .ok (.imul, 1) := by decide +kernel
theorem dX9_saveSnapshot_34 : decode cX9_saveSnapshot 34 = .ok (.invokestatic 51, 3) := by decide +kernel
theorem dX9_saveSnapshot_37 : decode cX9_saveSnapshot 37 = .ok (.aload_n 0, 1) := by decide +kernel
theorem dX9_saveSnapshot_38 : decode cX9_saveSnapshot 38 = .ok (.getfield 25, 3) := by decide +kernel
theorem dX9_saveSnapshot_41 : decode cX9_saveSnapshot 41 = .ok (.iload_n 1, 1) := by decide +kernel
theorem dX9_saveSnapshot_42 : decode cX9_saveSnapshot 42 = .ok (.iconst 1, 1) := by decide +kernel
theorem dX9_saveSnapshot_43 : decode cX9_saveSnapshot 43 = .ok (.bastore, 1) := by decide +kernel
theorem dX9_saveSnapshot_44 : decode cX9_saveSnapshot 44 = .ok (.aload_n 0, 1) := by decide +kernel
theorem dX9_saveSnapshot_45 : decode cX9_saveSnapshot 45 = .ok (.getfield 7, 3) := by decide +kernel
theorem dX9_saveSnapshot_48 : decode cX9_saveSnapshot 48 = .ok (.iconst 0, 1) := by decide +kernel
theorem dX9_saveSnapshot_49 : decode cX9_saveSnapshot 49 = .ok (.iaload, 1) := by decide +kernel
theorem dX9_saveSnapshot_50 : decode cX9_saveSnapshot 50 = .ok (.ireturn, 1) := by decide +kernel
theorem dX9_restoreSnapshot_0 : decode cX9_restoreSnapshot 0 = .ok (.aload_n 0, 1) := by decide +kernel
theorem dX9_restoreSnapshot_1 : decode cX9_restoreSnapshot 1 = .ok (.iconst 0, 1) := by decide +kernel
theorem dX9_restoreSnapshot_2 : decode cX9_restoreSnapshot 2 = .ok (.putfield 48, 3) := by decide +kernel
theorem dX9_restoreSnapshot_5 : decode cX9_restoreSnapshot 5 = .ok (.iload_n 1, 1) := by decide +kernel
theorem dX9_restoreSnapshot_6 : decode cX9_restoreSnapshot 6 = .ok (.iconst 0, 1) := by decide +kernel
theorem dX9_restoreSnapshot_7 : decode cX9_restoreSnapshot 7 = .ok (.iconst 1, 1) := by decide +kernel
theorem dX9_restoreSnapshot_8 : decode cX9_restoreSnapshot 8 = .ok (.invokestatic 55, 3) := by decide +kernel
theorem dX9_restoreSnapshot_11 : decode cX9_restoreSnapshot 11 = .ok (.ifCond .ne 9, 3) := by decide +kernel
theorem dX9_restoreSnapshot_14 : decode cX9_restoreSnapshot 14 = .ok (.aload_n 0, 1) := by decide +kernel
theorem dX9_restoreSnapshot_15 : decode cX9_restoreSnapshot 15 = .ok (.iconst 1, 1) := by decide +kernel
theorem dX9_restoreSnapshot_16 : decode cX9_restoreSnapshot 16 = .ok (.invokevirtual 133, 3) := by decide +kernel
theorem dX9_restoreSnapshot_19 : decode cX9_restoreSnapshot 19 = .ok (.ireturn, 1) := by decide +kernel
theorem dX9_restoreSnapshot_20 : decode cX9_restoreSnapshot 20 = .ok (.aload_n 0, 1) := by decide +kernel
theorem dX9_restoreSnapshot_21 : decode cX9_restoreSnapshot 21 = .ok (.getfield 25, 3) := by decide +kernel
theorem dX9_restoreSnapshot_24 : decode cX9_restoreSnapshot 24 = .ok (.iload_n 1, 1) := by decide +kernel
theorem dX9_restoreSnapshot_25 : decode cX9_restoreSnapshot 25 = .ok (.baload, 1) := by decide +kernel
theorem dX9_restoreSnapshot_26 : decode cX9_restoreSnapshot 26 = .ok (.ifCond .ne 9, 3) := by decide +kernel
theorem dX9_restoreSnapshot_29 : decode cX9_restoreSnapshot 29 = .ok (.aload_n 0, 1) := by decide +kernel
theorem dX9_restoreSnapshot_30 : decode cX9_restoreSnapshot 30 = .ok (.iconst 2, 1) := by decide +kernel
theorem dX9_restoreSnapshot_31 : decode cX9_restoreSnapshot 31 = .ok (.invokevirtual 133, 3) := by decide +kernel
theorem dX9_restoreSnapshot_34 : decode cX9_restoreSnapshot 34 = .ok (.ireturn, 1) := by decide +kernel
theorem dX9_restoreSnapshot_35 : decode cX9_restoreSnapshot 35 = .ok (.aload_n 0, 1) := by decide +kernel
theorem dX9_restoreSnapshot_36 : decode cX9_restoreSnapshot 36 = .ok (.invokevirtual 262, 3) := by decide +kernel
theorem dX9_restoreSnapshot_39 : decode cX9_restoreSnapshot 39 = .ok (.aload_n 0, 1) := by decide +kernel
theorem dX9_restoreSnapshot_40 : decode cX9_restoreSnapshot 40 = .ok (.getfield 22, 3) := by decide +kernel
theorem dX9_restoreSnapshot_43 : decode cX9_restoreSnapshot 43 = .ok (.sipush 306, 3) := by decide +kernel
theorem dX9_restoreSnapshot_46 : decode cX9_restoreSnapshot 46 = .ok (.iload_n 1, 1) := by decide +kernel
theorem dX9_restoreSnapshot_47 : decode cX9_restoreSnapshot 47 = .ok (.imul, 1) := by decide +kernel
theorem dX9_restoreSnapshot_48 : decode cX9_restoreSnapshot 48 = .ok (.aload_n 0, 1) := by decide +kernel
theorem dX9_restoreSnapshot_49 : decode cX9_restoreSnapshot 49 = .ok (.getfield 7, 3) := by decide +kernel
theorem dX9_restoreSnapshot_52 : decode cX9_restoreSnapshot 52 = .ok (.iconst 0, 1) := by decide +kernel
theorem dX9_restoreSnapshot_53 : decode cX9_restoreSnapshot 53 = .ok (.invokestatic 51, 3) := by decide +kernel
theorem dX9_restoreSnapshot_56 : decode cX9_restoreSnapshot 56 = .ok (.aload_n 0, 1) := by decide +kernel
theorem dX9_restoreSnapshot_57 : decode cX9_restoreSnapshot 57 = .ok (.getfield 7, 3) := by decide +kernel
theorem dX9_restoreSnapshot_60 : decode cX9_restoreSnapshot 60 = .ok (.iconst 0, 1) := by decide +kernel
theorem dX9_restoreSnapshot_61 : decode cX9_restoreSnapshot 61 = .ok (.iaload, 1) := by decide +kernel
theorem dX9_restoreSnapshot_62 : decode cX9_restoreSnapshot 62 = .ok (.ireturn, 1) := by decide +kernel
theorem dX9_writes_0 : decode cX9_writes 0 = .ok (.aload_n 0, 1) := by decide +kernel
theorem dX9_writes_1 : decode cX9_writes 1 = .ok (.getfield 36, 3) := by decide +kernel
theorem dX9_writes_4 : decode cX9_writes 4 = .ok (.aload_n 0, 1) := by decide +kernel
theorem dX9_writes_5 : decode cX9_writes 5 = .ok (.getfield 274, 3) := by decide +kernel
theorem dX9_writes_8 : decode cX9_writes 8 = .ok (.iload_n 1, 1) := by decide +kernel
theorem dX9_writes_9 : decode cX9_writes 9 = .ok (.iastore, 1) := by decide +kernel
theorem dX9_writes_10 : decode cX9_writes 10 = .ok (.aload_n 0, 1) := by decide +kernel
theorem dX9_writes_11 : decode cX9_writes 11 = .ok (.dup, 1) := by decide +kernel
theorem dX9_writes_12 : decode cX9_writes 12 = .ok (.getfield 274, 3) := by decide +kernel
theorem dX9_writes_15 : decode cX9_writes 15 = .ok (.iconst 1, 1) := by decide +kernel
theorem dX9_writes_16 : decode cX9_writes 16 = .ok (.iadd, 1) := by decide +kernel
theorem dX9_writes_17 : decode cX9_writes 17 = .ok (.putfield 274, 3) := by decide +kernel
theorem dX9_writes_20 : decode cX9_writes 20 = .ok (.return_, 1) := by decide +kernel
theorem dX9_writesNumber_0 : decode cX9_writesNumber 0 = .ok (.iconst 1, 1) := by decide +kernel
theorem dX9_writesNumber_1 : decode cX9_writesNumber 1 = .ok (.istore_n 2, 1) := by decide +kernel
theorem dX9_writesNumber_2 : decode cX9_writesNumber 2 = .ok (.iload_n 2, 1) := by decide +kernel
theorem dX9_writesNumber_3 : decode cX9_writesNumber 3 = .ok (.iload_n 1, 1) := by decide +kernel
theorem dX9_writesNumber_4 : decode cX9_writesNumber 4 = .ok (.bipush 10, 2) := by decide +kernel
theorem dX9_writesNumber_6 : decode cX9_writesNumber 6 = .ok (.idiv, 1) := by decide +kernel
theorem dX9_writesNumber_7 : decode cX9_writesNumber 7 = .ok (.if_icmp .gt 11, 3) := by decide +kernel
theorem dX9_writesNumber_10 : decode cX9_writesNumber 10 = .ok (.iload_n 2, 1) := by decide +kernel
theorem dX9_writesNumber_11 : decode cX9_writesNumber 11 = .ok (.bipush 10, 2) := by decide +kernel
theorem dX9_writesNumber_13 : decode cX9_writesNumber 13 = .ok (.imul, 1) := by decide +kernel
theorem dX9_writesNumber_14 : decode cX9_writesNumber 14 = .ok (.istore_n 2, 1) := by decide +kernel
theorem dX9_writesNumber_15 : decode cX9_writesNumber 15 = .ok (.goto (-13), 3) := by decide +kernel
theorem dX9_writesNumber_18 : decode cX9_writesNumber 18 = .ok (.iload_n 2, 1) := by decide +kernel
theorem dX9_writesNumber_19 : decode cX9_writesNumber 19 = .ok (.ifCond .le 24, 3) := by decide +kernel
theorem dX9_writesNumber_22 : decode cX9_writesNumber 22 = .ok (.aload_n 0, 1) := by decide +kernel
theorem dX9_writesNumber_23 : decode cX9_writesNumber 23 = .ok (.bipush 48, 2) := by decide +kernel
theorem dX9_writesNumber_25 : decode cX9_writesNumber 25 = .ok (.iload_n 1, 1) := by decide +kernel
theorem dX9_writesNumber_26 : decode cX9_writesNumber 26 = .ok (.iload_n 2, 1) := by decide +kernel
theorem dX9_writesNumber_27 : decode cX9_writesNumber 27 = .ok (.idiv, 1) := by decide +kernel
theorem dX9_writesNumber_28 : decode cX9_writesNumber 28 = .ok (.bipush 10, 2) := by decide +kernel
theorem dX9_writesNumber_30 : decode cX9_writesNumber 30 = .ok (.irem, 1) := by decide +kernel
theorem dX9_writesNumber_31 : decode cX9_writesNumber 31 = .ok (.iadd, 1) := by decide +kernel
theorem dX9_writesNumber_32 : decode cX9_writesNumber 32 = .ok (.invokevirtual 277, 3) := by decide +kernel
theorem dX9_writesNumber_35 : decode cX9_writesNumber 35 = .ok (.iload_n 2, 1) := by decide +kernel
theorem dX9_writesNumber_36 : decode cX9_writesNumber 36 = .ok (.bipush 10, 2) := by decide +kernel
theorem dX9_writesNumber_38 : decode cX9_writesNumber 38 = .ok (.idiv, 1) := by decide +kernel
theorem dX9_writesNumber_39 : decode cX9_writesNumber 39 = .ok (.istore_n 2, 1) := by decide +kernel
theorem dX9_writesNumber_40 : decode cX9_writesNumber 40 = .ok (.goto (-22), 3) := by decide +kernel
theorem dX9_writesNumber_43 : decode cX9_writesNumber 43 = .ok (.return_, 1) := by decide +kernel
theorem dX9_writesEntry_0 : decode cX9_writesEntry 0 = .ok (.aload_n 0, 1) := by decide +kernel
theorem dX9_writesEntry_1 : decode cX9_writesEntry 1 = .ok (.getfield 7, 3) := by decide +kernel
theorem dX9_writesEntry_4 : decode cX9_writesEntry 4 = .ok (.iload_n 1, 1) := by decide +kernel
theorem dX9_writesEntry_5 : decode cX9_writesEntry 5 = .ok (.iconst 2, 1) := by decide +kernel
theorem dX9_writesEntry_6 : decode cX9_writesEntry 6 = .ok (.invokestatic 81, 3) := by decide +kernel
theorem dX9_writesEntry_9 : decode cX9_writesEntry 9 = .ok (.iaload, 1) := by decide +kernel
theorem dX9_writesEntry_10 : decode cX9_writesEntry 10 = .ok (.iconst 1, 1) := by decide +kernel
theorem dX9_writesEntry_11 : decode cX9_writesEntry 11 = .ok (.if_icmp .ne 12, 3) := by decide +kernel
theorem dX9_writesEntry_14 : decode cX9_writesEntry 14 = .ok (.aload_n 0, 1) := by decide +kernel
theorem dX9_writesEntry_15 : decode cX9_writesEntry 15 = .ok (.bipush 45, 2) := by decide +kernel
theorem dX9_writesEntry_17 : decode cX9_writesEntry 17 = .ok (.invokevirtual 277, 3) := by decide +kernel
theorem dX9_writesEntry_20 : decode cX9_writesEntry 20 = .ok (.goto 9, 3) := by decide +kernel
theorem dX9_writesEntry_23 : decode cX9_writesEntry 23 = .ok (.aload_n 0, 1) := by decide +kernel
theorem dX9_writesEntry_24 : decode cX9_writesEntry 24 = .ok (.bipush 43, 2) := by decide +kernel
theorem dX9_writesEntry_26 : decode cX9_writesEntry 26 = .ok (.invokevirtual 277, 3) := by decide +kernel
theorem dX9_writesEntry_29 : decode cX9_writesEntry 29 = .ok (.aload_n 0, 1) := by decide +kernel
theorem dX9_writesEntry_30 : decode cX9_writesEntry 30 = .ok (.aload_n 0, 1) := by decide +kernel
theorem dX9_writesEntry_31 : decode cX9_writesEntry 31 = .ok (.getfield 7, 3) := by decide +kernel
theorem dX9_writesEntry_34 : decode cX9_writesEntry 34 = .ok (.iload_n 1, 1) := by decide +kernel
theorem dX9_writesEntry_35 : decode cX9_writesEntry 35 = .ok (.iconst 0, 1) := by decide +kernel
theorem dX9_writesEntry_36 : decode cX9_writesEntry 36 = .ok (.invokestatic 81, 3) := by decide +kernel
theorem dX9_writesEntry_39 : decode cX9_writesEntry 39 = .ok (.iaload, 1) := by decide +kernel
theorem dX9_writesEntry_40 : decode cX9_writesEntry 40 = .ok (.invokevirtual 281, 3) := by decide +kernel
theorem dX9_writesEntry_43 : decode cX9_writesEntry 43 = .ok (.aload_n 0, 1) := by decide +kernel
theorem dX9_writesEntry_44 : decode cX9_writesEntry 44 = .ok (.bipush 10, 2) := by decide +kernel
theorem dX9_writesEntry_46 : decode cX9_writesEntry 46 = .ok (.invokevirtual 277, 3) := by decide +kernel
theorem dX9_writesEntry_49 : decode cX9_writesEntry 49 = .ok (.return_, 1) := by decide +kernel
theorem dX9_writeEntries_0 : decode cX9_writeEntries 0 = .ok (.aload_n 0, 1) := by decide +kernel
theorem dX9_writeEntries_1 : decode cX9_writeEntries 1 = .ok (.iconst 0, 1) := by decide +kernel
theorem dX9_writeEntries_2 : decode cX9_writeEntries 2 = .ok (.putfield 48, 3) := by decide +kernel
theorem dX9_writeEntries_5 : decode cX9_writeEntries 5 = .ok (.aload_n 0, 1) := by decide +kernel
theorem dX9_writeEntries_6 : decode cX9_writeEntries 6 = .ok (.iload_n 1, 1) := by decide +kernel
theorem dX9_writeEntries_7 : decode cX9_writeEntries 7 = .ok (.invokevirtual 218, 3) := by decide +kernel
theorem dX9_writeEntries_10 : decode cX9_writeEntries 10 = .ok (.ifCond .ne 9, 3) := by decide +kernel
theorem dX9_writeEntries_13 : decode cX9_writeEntries 13 = .ok (.aload_n 0, 1) := by decide +kernel
theorem dX9_writeEntries_14 : decode cX9_writeEntries 14 = .ok (.iconst 1, 1) := by decide +kernel
theorem dX9_writeEntries_15 : decode cX9_writeEntries 15 = .ok (.invokevirtual 133, 3) := by decide +kernel
theorem dX9_writeEntries_18 : decode cX9_writeEntries 18 = .ok (.ireturn, 1) := by decide +kernel
theorem dX9_writeEntries_19 : decode cX9_writeEntries 19 = .ok (.aload_n 0, 1) := by decide +kernel
theorem dX9_writeEntries_20 : decode cX9_writeEntries 20 = .ok (.iconst 0, 1) := by decide +kernel
theorem dX9_writeEntries_21 : decode cX9_writeEntries 21 = .ok (.putfield 274, 3) := by decide +kernel
theorem dX9_writeEntries_24 : decode cX9_writeEntries 24 = .ok (.iconst 0, 1) := by decide +kernel
theorem dX9_writeEntries_25 : decode cX9_writeEntries 25 = .ok (.istore_n 2, 1) := by decide +kernel
theorem dX9_writeEntries_26 : decode cX9_writeEntries 26 = .ok (.iload_n 2, 1) := by decide +kernel
theorem dX9_writeEntries_27 : decode cX9_writeEntries 27 = .ok (.aload_n 0, 1) := by decide +kernel
theorem dX9_writeEntries_28 : decode cX9_writeEntries 28 = .ok (.getfield 7, 3) := by decide +kernel
theorem dX9_writeEntries_31 : decode cX9_writeEntries 31 = .ok (.bipush 9, 2) := by decide +kernel
theorem dX9_writeEntries_33 : decode cX9_writeEntries 33 = .ok (.iaload, 1) := by decide +kernel
theorem dX9_writeEntries_34 : decode cX9_writeEntries 34 = .ok (.if_icmp .ge 28, 3) := by decide +kernel
theorem dX9_writeEntries_37 : decode cX9_writeEntries 37 = .ok (.aload_n 0, 1) := by decide +kernel
theorem dX9_writeEntries_38 : decode cX9_writeEntries 38 = .ok (.getfield 7, 3) := by decide +kernel
theorem dX9_writeEntries_41 : decode cX9_writeEntries 41 = .ok (.iload_n 2, 1) := by decide +kernel
theorem dX9_writeEntries_42 : decode cX9_writeEntries 42 = .ok (.iconst 1, 1) := by decide +kernel
theorem dX9_writeEntries_43 : decode cX9_writeEntries 43 = .ok (.invokestatic 81, 3) := by decide +kernel
theorem dX9_writeEntries_46 : decode cX9_writeEntries 46 = .ok (.iaload, 1) := by decide +kernel
theorem dX9_writeEntries_47 : decode cX9_writeEntries 47 = .ok (.iload_n 1, 1) := by decide +kernel
theorem dX9_writeEntries_48 : decode cX9_writeEntries 48 = .ok (.if_icmp .ne 8, 3) := by decide +kernel
theorem dX9_writeEntries_51 : decode cX9_writeEntries 51 = .ok (.aload_n 0, 1) := by decide +kernel
theorem dX9_writeEntries_52 : decode cX9_writeEntries 52 = .ok (.iload_n 2, 1) := by decide +kernel
theorem dX9_writeEntries_53 : decode cX9_writeEntries 53 = .ok (.invokevirtual 284, 3) := by decide +kernel
theorem dX9_writeEntries_56 : decode cX9_writeEntries 56 = .ok (.iinc 2 1, 3) := by decide +kernel
theorem dX9_writeEntries_59 : decode cX9_writeEntries 59 = .ok (.goto (-33), 3) := by decide +kernel
theorem dX9_writeEntries_62 : decode cX9_writeEntries 62 = .ok (.aload_n 0, 1) := by decide +kernel
theorem dX9_writeEntries_63 : decode cX9_writeEntries 63 = .ok (.getfield 274, 3) := by decide +kernel
theorem dX9_writeEntries_66 : decode cX9_writeEntries 66 = .ok (.ireturn, 1) := by decide +kernel
theorem dX9_writtenByte_0 : decode cX9_writtenByte 0 = .ok (.aload_n 0, 1) := by decide +kernel
theorem dX9_writtenByte_1 : decode cX9_writtenByte 1 = .ok (.iconst 0, 1) := by decide +kernel
theorem dX9_writtenByte_2 : decode cX9_writtenByte 2 = .ok (.putfield 48, 3) := by decide +kernel
theorem dX9_writtenByte_5 : decode cX9_writtenByte 5 = .ok (.iload_n 1, 1) := by decide +kernel
theorem dX9_writtenByte_6 : decode cX9_writtenByte 6 = .ok (.iconst 0, 1) := by decide +kernel
theorem dX9_writtenByte_7 : decode cX9_writtenByte 7 = .ok (.aload_n 0, 1) := by decide +kernel
theorem dX9_writtenByte_8 : decode cX9_writtenByte 8 = .ok (.getfield 274, 3) := by decide +kernel
theorem dX9_writtenByte_11 : decode cX9_writtenByte 11 = .ok (.iconst 1, 1) := by decide +kernel
theorem dX9_writtenByte_12 : decode cX9_writtenByte 12 = .ok (.isub, 1) := by decide +kernel
theorem dX9_writtenByte_13 : decode cX9_writtenByte 13 = .ok (.invokestatic 55, 3) := by decide +kernel
theorem dX9_writtenByte_16 : decode cX9_writtenByte 16 = .ok (.ifCond .eq 10, 3) := by decide +kernel
theorem dX9_writtenByte_19 : decode cX9_writtenByte 19 = .ok (.aload_n 0, 1) := by decide +kernel
theorem dX9_writtenByte_20 : decode cX9_writtenByte 20 = .ok (.getfield 36, 3) := by decide +kernel
theorem dX9_writtenByte_23 : decode cX9_writtenByte 23 = .ok (.iload_n 1, 1) := by decide +kernel
theorem dX9_writtenByte_24 : decode cX9_writtenByte 24 = .ok (.iaload, 1) := by decide +kernel
theorem dX9_writtenByte_25 : decode cX9_writtenByte 25 = .ok (.ireturn, 1) := by decide +kernel
theorem dX9_writtenByte_26 : decode cX9_writtenByte 26 = .ok (.aload_n 0, 1) := by decide +kernel
theorem dX9_writtenByte_27 : decode cX9_writtenByte 27 = .ok (.iconst 1, 1) := by decide +kernel
theorem dX9_writtenByte_28 : decode cX9_writtenByte 28 = .ok (.invokevirtual 133, 3) := by decide +kernel
theorem dX9_writtenByte_31 : decode cX9_writtenByte 31 = .ok (.ireturn, 1) := by decide +kernel
