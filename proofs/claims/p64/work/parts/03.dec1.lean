theorem dX0_init_0 : decode cX0_init 0 = .ok (.aload_n 0, 1) := by decide +kernel
theorem dX0_init_1 : decode cX0_init 1 = .ok (.invokespecial 3, 3) := by decide +kernel
theorem dX0_init_4 : decode cX0_init 4 = .ok (.aload_n 0, 1) := by decide +kernel
theorem dX0_init_5 : decode cX0_init 5 = .ok (.sipush 600, 3) := by decide +kernel
theorem dX0_init_8 : decode cX0_init 8 = .ok (.newarray .int, 2) := by decide +kernel
theorem dX0_init_10 : decode cX0_init 10 = .ok (.putfield 9, 3) := by decide +kernel
theorem dX0_init_13 : decode cX0_init 13 = .ok (.aload_n 0, 1) := by decide +kernel
theorem dX0_init_14 : decode cX0_init 14 = .ok (.iconst 0, 1) := by decide +kernel
theorem dX0_init_15 : decode cX0_init 15 = .ok (.putfield 15, 3) := by decide +kernel
theorem dX0_init_18 : decode cX0_init 18 = .ok (.return_, 1) := by decide +kernel
theorem dX0_add_0 : decode cX0_add 0 = .ok (.aload_n 0, 1) := by decide +kernel
theorem dX0_add_1 : decode cX0_add 1 = .ok (.getfield 15, 3) := by decide +kernel
theorem dX0_add_4 : decode cX0_add 4 = .ok (.sipush 600, 3) := by decide +kernel
theorem dX0_add_7 : decode cX0_add 7 = .ok (.if_icmp .ge 27, 3) := by decide +kernel
theorem dX0_add_10 : decode cX0_add 10 = .ok (.aload_n 0, 1) := by decide +kernel
theorem dX0_add_11 : decode cX0_add 11 = .ok (.getfield 9, 3) := by decide +kernel
theorem dX0_add_14 : decode cX0_add 14 = .ok (.aload_n 0, 1) := by decide +kernel
theorem dX0_add_15 : decode cX0_add 15 = .ok (.getfield 15, 3) := by decide +kernel
theorem dX0_add_18 : decode cX0_add 18 = .ok (.iload_n 1, 1) := by decide +kernel
theorem dX0_add_19 : decode cX0_add 19 = .ok (.sipush 255, 3) := by decide +kernel
theorem dX0_add_22 : decode cX0_add 22 = .ok (.iand, 1) := by decide +kernel
theorem dX0_add_23 : decode cX0_add 23 = .ok (.iastore, 1) := by decide +kernel
theorem dX0_add_24 : decode cX0_add 24 = .ok (.aload_n 0, 1) := by decide +kernel
theorem dX0_add_25 : decode cX0_add 25 = .ok (.dup, 1) := by decide +kernel
theorem dX0_add_26 : decode cX0_add 26 = .ok (.getfield 15, 3) := by decide +kernel
theorem dX0_add_29 : decode cX0_add 29 = .ok (.iconst 1, 1) := by decide +kernel
theorem dX0_add_30 : decode cX0_add 30 = .ok (.iadd, 1) := by decide +kernel
theorem dX0_add_31 : decode cX0_add 31 = .ok (.putfield 15, 3) := by decide +kernel
theorem dX0_add_34 : decode cX0_add 34 = .ok (.return_, 1) := by decide +kernel
theorem dX0_addFour_0 : decode cX0_addFour 0 = .ok (.aload_n 0, 1) := by decide +kernel
theorem dX0_addFour_1 : decode cX0_addFour 1 = .ok (.iload_n 1, 1) := by decide +kernel
theorem dX0_addFour_2 : decode cX0_addFour 2 = .ok (.bipush 24, 2) := by decide +kernel
theorem dX0_addFour_4 : decode cX0_addFour 4 = .ok (.iushr, 1) := by decide +kernel
theorem dX0_addFour_5 : decode cX0_addFour 5 = .ok (.invokevirtual 19, 3) := by decide +kernel
theorem dX0_addFour_8 : decode cX0_addFour 8 = .ok (.aload_n 0, 1) := by decide +kernel
theorem dX0_addFour_9 : decode cX0_addFour 9 = .ok (.iload_n 1, 1) := by decide +kernel
theorem dX0_addFour_10 : decode cX0_addFour 10 = .ok (.bipush 16, 2) := by decide +kernel
theorem dX0_addFour_12 : decode cX0_addFour 12 = .ok (.iushr, 1) := by decide +kernel
theorem dX0_addFour_13 : decode cX0_addFour 13 = .ok (.invokevirtual 19, 3) := by decide +kernel
theorem dX0_addFour_16 : decode cX0_addFour 16 = .ok (.aload_n 0, 1) := by decide +kernel
theorem dX0_addFour_17 : decode cX0_addFour 17 = .ok (.iload_n 1, 1) := by decide +kernel
theorem dX0_addFour_18 : decode cX0_addFour 18 = .ok (.bipush 8, 2) := by decide +kernel
theorem dX0_addFour_20 : decode cX0_addFour 20 = .ok (.iushr, 1) := by decide +kernel
theorem dX0_addFour_21 : decode cX0_addFour 21 = .ok (.invokevirtual 19, 3) := by decide +kernel
theorem dX0_addFour_24 : decode cX0_addFour 24 = .ok (.aload_n 0, 1) := by decide +kernel
theorem dX0_addFour_25 : decode cX0_addFour 25 = .ok (.iload_n 1, 1) := by decide +kernel
theorem dX0_addFour_26 : decode cX0_addFour 26 = .ok (.invokevirtual 19, 3) := by decide +kernel
theorem dX0_addFour_29 : decode cX0_addFour 29 = .ok (.return_, 1) := by decide +kernel
theorem dX0_addText_0 : decode cX0_addText 0 = .ok (.iconst 0, 1) := by decide +kernel
theorem dX0_addText_1 : decode cX0_addText 1 = .ok (.istore_n 2, 1) := by decide +kernel
theorem dX0_addText_2 : decode cX0_addText 2 = .ok (.iload_n 2, 1) := by decide +kernel
theorem dX0_addText_3 : decode cX0_addText 3 = .ok (.aload_n 1, 1) := by decide +kernel
theorem dX0_addText_4 : decode cX0_addText 4 = .ok (.invokevirtual 23, 3) := by decide +kernel
theorem dX0_addText_7 : decode cX0_addText 7 = .ok (.if_icmp .ge 18, 3) := by decide +kernel
theorem dX0_addText_10 : decode cX0_addText 10 = .ok (.aload_n 0, 1) := by decide +kernel
theorem dX0_addText_11 : decode cX0_addText 11 = .ok (.aload_n 1, 1) := by decide +kernel
theorem dX0_addText_12 : decode cX0_addText 12 = .ok (.iload_n 2, 1) := by decide +kernel
theorem dX0_addText_13 : decode cX0_addText 13 = .ok (.invokevirtual 28, 3) := by decide +kernel
theorem dX0_addText_16 : decode cX0_addText 16 = .ok (.invokevirtual 19, 3) := by decide +kernel
theorem dX0_addText_19 : decode cX0_addText 19 = .ok (.iinc 2 1, 3) := by decide +kernel
theorem dX0_addText_22 : decode cX0_addText 22 = .ok (.goto (-20), 3) := by decide +kernel
theorem dX0_addText_25 : decode cX0_addText 25 = .ok (.return_, 1) := by decide +kernel
theorem dX0_addMinute_0 : decode cX0_addMinute 0 = .ok (.iload_n 1, 1) := by decide +kernel
theorem dX0_addMinute_1 : decode cX0_addMinute 1 = .ok (.bipush 100, 2) := by decide +kernel
theorem dX0_addMinute_3 : decode cX0_addMinute 3 = .ok (.if_icmp .lt 14, 3) := by decide +kernel
theorem dX0_addMinute_6 : decode cX0_addMinute 6 = .ok (.aload_n 0, 1) := by decide +kernel
theorem dX0_addMinute_7 : decode cX0_addMinute 7 = .ok (.bipush 48, 2) := by decide +kernel
theorem dX0_addMinute_9 : decode cX0_addMinute 9 = .ok (.iload_n 1, 1) := by decide +kernel
theorem dX0_addMinute_10 : decode cX0_addMinute 10 = .ok (.bipush 100, 2) := by decide +kernel
theorem dX0_addMinute_12 : decode cX0_addMinute 12 = .ok (.idiv, 1) := by decide +kernel
theorem dX0_addMinute_13 : decode cX0_addMinute 13 = .ok (.iadd, 1) := by decide +kernel
theorem dX0_addMinute_14 : decode cX0_addMinute 14 = .ok (.invokevirtual 19, 3) := by decide +kernel
theorem dX0_addMinute_17 : decode cX0_addMinute 17 = .ok (.iload_n 1, 1) := by decide +kernel
theorem dX0_addMinute_18 : decode cX0_addMinute 18 = .ok (.bipush 10, 2) := by decide +kernel
theorem dX0_addMinute_20 : decode cX0_addMinute 20 = .ok (.if_icmp .lt 17, 3) := by decide +kernel
theorem dX0_addMinute_23 : decode cX0_addMinute 23 = .ok (.aload_n 0, 1) := by decide +kernel
theorem dX0_addMinute_24 : decode cX0_addMinute 24 = .ok (.bipush 48, 2) := by decide +kernel
theorem dX0_addMinute_26 : decode cX0_addMinute 26 = .ok (.iload_n 1, 1) := by decide +kernel
theorem dX0_addMinute_27 : decode cX0_addMinute 27 = .ok (.bipush 10, 2) := by decide +kernel
theorem dX0_addMinute_29 : decode cX0_addMinute 29 = .ok (.idiv, 1) := by decide +kernel
theorem dX0_addMinute_30 : decode cX0_addMinute 30 = .ok (.bipush 10, 2) := by decide +kernel
theorem dX0_addMinute_32 : decode cX0_addMinute 32 = .ok (.irem, 1) := by decide +kernel
theorem dX0_addMinute_33 : decode cX0_addMinute 33 = .ok (.iadd, 1) := by decide +kernel
theorem dX0_addMinute_34 : decode cX0_addMinute 34 = .ok (.invokevirtual 19, 3) := by decide +kernel
theorem dX0_addMinute_37 : decode cX0_addMinute 37 = .ok (.aload_n 0, 1) := by decide +kernel
theorem dX0_addMinute_38 : decode cX0_addMinute 38 = .ok (.bipush 48, 2) := by decide +kernel
theorem dX0_addMinute_40 : decode cX0_addMinute 40 = .ok (.iload_n 1, 1) := by decide +kernel
theorem dX0_addMinute_41 : decode cX0_addMinute 41 = .ok (.bipush 10, 2) := by decide +kernel
theorem dX0_addMinute_43 : decode cX0_addMinute 43 = .ok (.irem, 1) := by decide +kernel
theorem dX0_addMinute_44 : decode cX0_addMinute 44 = .ok (.iadd, 1) := by decide +kernel
theorem dX0_addMinute_45 : decode cX0_addMinute 45 = .ok (.invokevirtual 19, 3) := by decide +kernel
theorem dX0_addMinute_48 : decode cX0_addMinute 48 = .ok (.return_, 1) := by decide +kernel
theorem dX0_isName_0 : decode cX0_isName 0 = .ok (.aload_n 0, 1) := by decide +kernel
theorem dX0_isName_1 : decode cX0_isName 1 = .ok (.getfield 15, 3) := by decide +kernel
theorem dX0_isName_4 : decode cX0_isName 4 = .ok (.iconst 1, 1) := by decide +kernel
theorem dX0_isName_5 : decode cX0_isName 5 = .ok (.if_icmp .lt 11, 3) := by decide +kernel
theorem dX0_isName_8 : decode cX0_isName 8 = .ok (.aload_n 0, 1) := by decide +kernel
theorem dX0_isName_9 : decode cX0_isName 9 = .ok (.getfield 15, 3) := by decide +kernel
theorem dX0_isName_12 : decode cX0_isName 12 = .ok (.iconst 5, 1) := by decide +kernel
theorem dX0_isName_13 : decode cX0_isName 13 = .ok (.if_icmp .le 5, 3) := by decide +kernel
theorem dX0_isName_16 : decode cX0_isName 16 = .ok (.iconst 0, 1) := by decide +kernel
theorem dX0_isName_17 : decode cX0_isName 17 = .ok (.ireturn, 1) := by decide +kernel
theorem dX0_isName_18 : decode cX0_isName 18 = .ok (.iconst 0, 1) := by decide +kernel
theorem dX0_isName_19 : decode cX0_isName 19 = .ok (.istore_n 1, 1) := by decide +kernel
theorem dX0_isName_20 : decode cX0_isName 20 = .ok (.iload_n 1, 1) := by decide +kernel
theorem dX0_isName_21 : decode cX0_isName 21 = .ok (.aload_n 0, 1) := by decide +kernel
theorem dX0_isName_22 : decode cX0_isName 22 = .ok (.getfield 15, 3) := by decide +kernel
theorem dX0_isName_25 : decode cX0_isName 25 = .ok (.if_icmp .ge 23, 3) := by decide +kernel
theorem dX0_isName_28 : decode cX0_isName 28 = .ok (.aload_n 0, 1) := by decide +kernel
theorem dX0_isName_29 : decode cX0_isName 29 = .ok (.getfield 9, 3) := by decide +kernel
theorem dX0_isName_32 : decode cX0_isName 32 = .ok (.iload_n 1, 1) := by decide +kernel
theorem dX0_isName_33 : decode cX0_isName 33 = .ok (.iaload, 1) := by decide +kernel
theorem dX0_isName_34 : decode cX0_isName 34 = .ok (.invokestatic 32, 3) := by decide +kernel
theorem dX0_isName_37 : decode cX0_isName 37 = .ok (.ifCond .ne 5, 3) := by decide +kernel
theorem dX0_isName_40 : decode cX0_isName 40 = .ok (.iconst 0, 1) := by decide +kernel
theorem dX0_isName_41 : decode cX0_isName 41 = .ok (.ireturn, 1) := by decide +kernel
theorem dX0_isName_42 : decode cX0_isName 42 = .ok (.iinc 1 1, 3) := by decide +kernel
theorem dX0_isName_45 : decode cX0_isName 45 = .ok (.goto (-25), 3) := by decide +kernel
theorem dX0_isName_48 : decode cX0_isName 48 = .ok (.iconst 1, 1) := by decide +kernel
theorem dX0_isName_49 : decode cX0_isName 49 = .ok (.ireturn, 1) := by decide +kernel
theorem dX1_init_0 : decode cX1_init 0 = .ok (.aload_n 0, 1) := by decide +kernel
theorem dX1_init_1 : decode cX1_init 1 = .ok (.invokespecial 3, 3) := by decide +kernel
theorem dX1_init_4 : decode cX1_init 4 = .ok (.aload_n 0, 1) := by decide +kernel
theorem dX1_init_5 : decode cX1_init 5 = .ok (.iconst 0, 1) := by decide +kernel
theorem dX1_init_6 : decode cX1_init 6 = .ok (.putfield 9, 3) := by decide +kernel
theorem dX1_init_9 : decode cX1_init 9 = .ok (.aload_n 0, 1) := by decide +kernel
theorem dX1_init_10 : decode cX1_init 10 = .ok (.bipush 50, 2) := by decide +kernel
theorem dX1_init_12 : decode cX1_init 12 = .ok (.newarray .int, 2) := by decide +kernel
theorem dX1_init_14 : decode cX1_init 14 = .ok (.putfield 15, 3) := by decide +kernel
theorem dX1_init_17 : decode cX1_init 17 = .ok (.aload_n 0, 1) := by decide +kernel
theorem dX1_init_18 : decode cX1_init 18 = .ok (.bipush 10, 2) := by decide +kernel
theorem dX1_init_20 : decode cX1_init 20 = .ok (.newarray .int, 2) := by decide +kernel
theorem dX1_init_22 : decode cX1_init 22 = .ok (.putfield 19, 3) := by decide +kernel
theorem dX1_init_25 : decode cX1_init 25 = .ok (.aload_n 0, 1) := by decide +kernel
theorem dX1_init_26 : decode cX1_init 26 = .ok (.bipush 10, 2) := by decide +kernel
theorem dX1_init_28 : decode cX1_init 28 = .ok (.newarray .int, 2) := by decide +kernel
theorem dX1_init_30 : decode cX1_init 30 = .ok (.putfield 22, 3) := by decide +kernel
theorem dX1_init_33 : decode cX1_init 33 = .ok (.aload_n 0, 1) := by decide +kernel
theorem dX1_init_34 : decode cX1_init 34 = .ok (.bipush 10, 2) := by decide +kernel
theorem dX1_init_36 : decode cX1_init 36 = .ok (.newarray .int, 2) := by decide +kernel
theorem dX1_init_38 : decode cX1_init 38 = .ok (.putfield 25, 3) := by decide +kernel
theorem dX1_init_41 : decode cX1_init 41 = .ok (.aload_n 0, 1) := by decide +kernel
theorem dX1_init_42 : decode cX1_init 42 = .ok (.bipush 10, 2) := by decide +kernel
theorem dX1_init_44 : decode cX1_init 44 = .ok (.newarray .int, 2) := by decide +kernel
theorem dX1_init_46 : decode cX1_init 46 = .ok (.putfield 28, 3) := by decide +kernel
theorem dX1_init_49 : decode cX1_init 49 = .ok (.aload_n 0, 1) := by decide +kernel
theorem dX1_init_50 : decode cX1_init 50 = .ok (.bipush 10, 2) := by decide +kernel
theorem dX1_init_52 : decode cX1_init 52 = .ok (.newarray .int, 2) := by decide +kernel
theorem dX1_init_54 : decode cX1_init 54 = .ok (.putfield 31, 3) := by decide +kernel
theorem dX1_init_57 : decode cX1_init 57 = .ok (.aload_n 0, 1) := by decide +kernel
theorem dX1_init_58 : decode cX1_init 58 = .ok (.bipush 10, 2) := by decide +kernel
theorem dX1_init_60 : decode cX1_init 60 = .ok (.newarray .int, 2) := by decide +kernel
theorem dX1_init_62 : decode cX1_init 62 = .ok (.putfield 34, 3) := by decide +kernel
theorem dX1_init_65 : decode cX1_init 65 = .ok (.aload_n 0, 1) := by decide +kernel
theorem dX1_init_66 : decode cX1_init 66 = .ok (.bipush 10, 2) := by decide +kernel
theorem dX1_init_68 : decode cX1_init 68 = .ok (.newarray .int, 2) := by decide +kernel
theorem dX1_init_70 : decode cX1_init 70 = .ok (.putfield 37, 3) := by decide +kernel
theorem dX1_init_73 : decode cX1_init 73 = .ok (.return_, 1) := by decide +kernel
theorem dX1_add_0 : decode cX1_add 0 = .ok (.aload_n 0, 1) := by decide +kernel
theorem dX1_add_1 : decode cX1_add 1 = .ok (.getfield 9, 3) := by decide +kernel
theorem dX1_add_4 : decode cX1_add 4 = .ok (.istore 6, 2) := by decide +kernel
theorem dX1_add_6 : decode cX1_add 6 = .ok (.iconst 0, 1) := by decide +kernel
theorem dX1_add_7 : decode cX1_add 7 = .ok (.istore 7, 2) := by decide +kernel
theorem dX1_add_9 : decode cX1_add 9 = .ok (.iload 7, 2) := by decide +kernel
theorem dX1_add_11 : decode cX1_add 11 = .ok (.iload_n 3, 1) := by decide +kernel
theorem dX1_add_12 : decode cX1_add 12 = .ok (.if_icmp .ge 30, 3) := by decide +kernel
theorem dX1_add_15 : decode cX1_add 15 = .ok (.aload_n 0, 1) := by decide +kernel
theorem dX1_add_16 : decode cX1_add 16 = .ok (.getfield 15, 3) := by decide +kernel
theorem dX1_add_19 : decode cX1_add 19 = .ok (.iload 6, 2) := by decide +kernel
theorem dX1_add_21 : decode cX1_add 21 = .ok (.iconst 5, 1) := by decide +kernel
theorem dX1_add_22 : decode cX1_add 22 = .ok (.imul, 1) := by decide +kernel
theorem dX1_add_23 : decode cX1_add 23 = .ok (.iload 7, 2) := by decide +kernel
theorem dX1_add_25 : decode cX1_add 25 = .ok (.iadd, 1) := by decide +kernel
theorem dX1_add_26 : decode cX1_add 26 = .ok (.aload_n 1, 1) := by decide +kernel
theorem dX1_add_27 : decode cX1_add 27 = .ok (.getfield 40, 3) := by decide +kernel
theorem dX1_add_30 : decode cX1_add 30 = .ok (.iload_n 2, 1) := by decide +kernel
theorem dX1_add_31 : decode cX1_add 31 = .ok (.iload 7, 2) := by decide +kernel
theorem dX1_add_33 : decode cX1_add 33 = .ok (.iadd, 1) := by decide +kernel
theorem dX1_add_34 : decode cX1_add 34 = .ok (.iaload, 1) := by decide +kernel
theorem dX1_add_35 : decode cX1_add 35 = .ok (.iastore, 1) := by decide +kernel
theorem dX1_add_36 : decode cX1_add 36 = .ok (.iinc 7 1, 3) := by decide +kernel
theorem dX1_add_39 : decode cX1_add 39 = .ok (.goto (-30), 3) := by decide +kernel
theorem dX1_add_42 : decode cX1_add 42 = .ok (.aload_n 0, 1) := by decide +kernel
theorem dX1_add_43 : decode cX1_add 43 = .ok (.getfield 19, 3) := by decide +kernel
theorem dX1_add_46 : decode cX1_add 46 = .ok (.iload 6, 2) := by decide +kernel
theorem dX1_add_48 : decode cX1_add 48 = .ok (.iload_n 3, 1) := by decide +kernel
theorem dX1_add_49 : decode cX1_add 49 = .ok (.iastore, 1) := by decide +kernel
theorem dX1_add_50 : decode cX1_add 50 = .ok (.aload_n 0, 1) := by decide +kernel
theorem dX1_add_51 : decode cX1_add 51 = .ok (.getfield 22, 3) := by decide +kernel
theorem dX1_add_54 : decode cX1_add 54 = .ok (.iload 6, 2) := by decide +kernel
theorem dX1_add_56 : decode cX1_add 56 = .ok (.iload 4, 2) := by decide +kernel
theorem dX1_add_58 : decode cX1_add 58 = .ok (.iastore, 1) := by decide +kernel
theorem dX1_add_59 : decode cX1_add 59 = .ok (.aload_n 0, 1) := by decide +kernel
theorem dX1_add_60 : decode cX1_add 60 = .ok (.getfield 25, 3) := by decide +kernel
theorem dX1_add_63 : decode cX1_add 63 = .ok (.iload 6, 2) := by decide +kernel
theorem dX1_add_65 : decode cX1_add 65 = .ok (.iload 5, 2) := by decide +kernel
theorem dX1_add_67 : decode cX1_add 67 = .ok (.iastore, 1) := by decide +kernel
theorem dX1_add_68 : decode cX1_add 68 = .ok (.aload_n 0, 1) := by decide +kernel
theorem dX1_add_69 : decode cX1_add 69 = .ok (.getfield 28, 3) := by decide +kernel
theorem dX1_add_72 : decode cX1_add 72 = .ok (.iload 6, 2) := by decide +kernel
theorem dX1_add_74 : decode cX1_add 74 = .ok (.iconst (-1), 1) := by decide +kernel
theorem dX1_add_75 : decode cX1_add 75 = .ok (.iastore, 1) := by decide +kernel
theorem dX1_add_76 : decode cX1_add 76 = .ok (.aload_n 0, 1) := by decide +kernel
theorem dX1_add_77 : decode cX1_add 77 = .ok (.getfield 31, 3) := by decide +kernel
theorem dX1_add_80 : decode cX1_add 80 = .ok (.iload 6, 2) := by decide +kernel
theorem dX1_add_82 : decode cX1_add 82 = .ok (.iconst 0, 1) := by decide +kernel
theorem dX1_add_83 : decode cX1_add 83 = .ok (.iastore, 1) := by decide +kernel
theorem dX1_add_84 : decode cX1_add 84 = .ok (.aload_n 0, 1) := by decide +kernel
theorem dX1_add_85 : decode cX1_add 85 = .ok (.getfield 34, 3) := by decide +kernel
theorem dX1_add_88 : decode cX1_add 88 = .ok (.iload 6, 2) := by decide +kernel
theorem dX1_add_90 : decode cX1_add 90 = .ok (.iconst 0, 1) := by decide +kernel
theorem dX1_add_91 : decode cX1_add 91 = .ok (.iastore, 1) := by decide +kernel
theorem dX1_add_92 : decode cX1_add 92 = .ok (.aload_n 0, 1) := by decide +kernel
theorem dX1_add_93 : decode cX1_add 93 = .ok (.getfield 37, 3) := by decide +kernel
theorem dX1_add_96 : decode cX1_add 96 = .ok (.iload 6, 2) := by decide +kernel
theorem dX1_add_98 : decode cX1_add 98 = .ok (.iconst 0, 1) := by decide +kernel
theorem dX1_add_99 : decode cX1_add 99 = .ok (.iastore, 1) := by decide +kernel
theorem dX1_add_100 : decode cX1_add 100 = .ok (.aload_n 0, 1) := by decide +kernel
theorem dX1_add_101 : decode cX1_add 101 = .ok (.dup, 1) := by decide +kernel
theorem dX1_add_102 : decode cX1_add 102 = .ok (.getfield 9, 3) := by decide +kernel
theorem dX1_add_105 : decode cX1_add 105 = .ok (.iconst 1, 1) := by decide +kernel
theorem dX1_add_106 : decode cX1_add 106 = .ok (.iadd, 1) := by decide +kernel
theorem dX1_add_107 : decode cX1_add 107 = .ok (.putfield 9, 3) := by decide +kernel
theorem dX1_add_110 : decode cX1_add 110 = .ok (.iload 6, 2) := by decide +kernel
theorem dX1_add_112 : decode cX1_add 112 = .ok (.ireturn, 1) := by decide +kernel
theorem dX1_find_0 : decode cX1_find 0 = .ok (.iconst 0, 1) := by decide +kernel
theorem dX1_find_1 : decode cX1_find 1 = .ok (.istore 4, 2) := by decide +kernel
theorem dX1_find_3 : decode cX1_find 3 = .ok (.iload 4, 2) := by decide +kernel
theorem dX1_find_5 : decode cX1_find 5 = .ok (.aload_n 0, 1) := by decide +kernel
theorem dX1_find_6 : decode cX1_find 6 = .ok (.getfield 9, 3) := by decide +kernel
theorem dX1_find_9 : decode cX1_find 9 = .ok (.if_icmp .ge 34, 3) := by decide +kernel
theorem dX1_find_12 : decode cX1_find 12 = .ok (.aload_n 0, 1) := by decide +kernel
theorem dX1_find_13 : decode cX1_find 13 = .ok (.getfield 19, 3) := by decide +kernel
theorem dX1_find_16 : decode cX1_find 16 = .ok (.iload 4, 2) := by decide +kernel
theorem dX1_find_18 : decode cX1_find 18 = .ok (.iaload, 1) := by decide +kernel
theorem dX1_find_19 : decode cX1_find 19 = .ok (.iload_n 3, 1) := by decide +kernel
theorem dX1_find_20 : decode cX1_find 20 = .ok (.if_icmp .ne 17, 3) := by decide +kernel
theorem dX1_find_23 : decode cX1_find 23 = .ok (.aload_n 0, 1) := by decide +kernel
theorem dX1_find_24 : decode cX1_find 24 = .ok (.iload 4, 2) := by decide +kernel
theorem dX1_find_26 : decode cX1_find 26 = .ok (.aload_n 1, 1) := by decide +kernel
theorem dX1_find_27 : decode cX1_find 27 = .ok (.iload_n 2, 1) := by decide +kernel
theorem dX1_find_28 : decode cX1_find 28 = .ok (.invokevirtual 45, 3) := by decide +kernel
theorem dX1_find_31 : decode cX1_find 31 = .ok (.ifCond .eq 6, 3) := by decide +kernel
theorem dX1_find_34 : decode cX1_find 34 = .ok (.iload 4, 2) := by decide +kernel
theorem dX1_find_36 : decode cX1_find 36 = .ok (.ireturn, 1) := by decide +kernel
theorem dX1_find_37 : decode cX1_find 37 = .ok (.iinc 4 1, 3) := by decide +kernel
theorem dX1_find_40 : decode cX1_find 40 = .ok (.goto (-37), 3) := by decide +kernel
theorem dX1_find_43 : decode cX1_find 43 = .ok (.iconst (-1), 1) := by decide +kernel
theorem dX1_find_44 : decode cX1_find 44 = .ok (.ireturn, 1) := by decide +kernel
theorem dX1_hasLetters_0 : decode cX1_hasLetters 0 = .ok (.iconst 0, 1) := by decide +kernel
theorem dX1_hasLetters_1 : decode cX1_hasLetters 1 = .ok (.istore 4, 2) := by decide +kernel
theorem dX1_hasLetters_3 : decode cX1_hasLetters 3 = .ok (.iload 4, 2) := by decide +kernel
theorem dX1_hasLetters_5 : decode cX1_hasLetters 5 = .ok (.aload_n 0, 1) := by decide +kernel
theorem dX1_hasLetters_6 : decode cX1_hasLetters 6 = .ok (.getfield 19, 3) := by decide +kernel
theorem dX1_hasLetters_9 : decode cX1_hasLetters 9 = .ok (.iload_n 1, 1) := by decide +kernel
theorem dX1_hasLetters_10 : decode cX1_hasLetters 10 = .ok (.iaload, 1) := by decide +kernel
theorem dX1_hasLetters_11 : decode cX1_hasLetters 11 = .ok (.if_icmp .ge 30, 3) := by decide +kernel
theorem dX1_hasLetters_14 : decode cX1_hasLetters 14 = .ok (.aload_n 0, 1) := by decide +kernel
theorem dX1_hasLetters_15 : decode cX1_hasLetters 15 = .ok (.iload_n 1, 1) := by decide +kernel
theorem dX1_hasLetters_16 : decode cX1_hasLetters 16 = .ok (.iload 4, 2) := by decide +kernel
theorem dX1_hasLetters_18 : decode cX1_hasLetters 18 = .ok (.invokevirtual 49, 3) := by decide +kernel
theorem dX1_hasLetters_21 : decode cX1_hasLetters 21 = .ok (.aload_n 2, 1) := by decide +kernel
theorem dX1_hasLetters_22 : decode cX1_hasLetters 22 = .ok (.getfield 40, 3) := by decide +kernel
theorem dX1_hasLetters_25 : decode cX1_hasLetters 25 = .ok (.iload_n 3, 1) := by decide +kernel
theorem dX1_hasLetters_26 : decode cX1_hasLetters 26 = .ok (.iload 4, 2) := by decide +kernel
theorem dX1_hasLetters_28 : decode cX1_hasLetters 28 = .ok (.iadd, 1) := by decide +kernel
theorem dX1_hasLetters_29 : decode cX1_hasLetters 29 = .ok (.iaload, 1) := by decide +kernel
theorem dX1_hasLetters_30 : decode cX1_hasLetters 30 = .ok (.if_icmp .eq 5, 3) := by decide +kernel
theorem dX1_hasLetters_33 : decode cX1_hasLetters 33 = .ok (.iconst 0, 1) := by decide +kernel
theorem dX1_hasLetters_34 : decode cX1_hasLetters 34 = .ok (.ireturn, 1) := by decide +kernel
theorem dX1_hasLetters_35 : decode cX1_hasLetters 35 = .ok (.iinc 4 1, 3) := by decide +kernel
theorem dX1_hasLetters_38 : decode cX1_hasLetters 38 = .ok (.goto (-35), 3) := by decide +kernel
theorem dX1_hasLetters_41 : decode cX1_hasLetters 41 = .ok (.iconst 1, 1) := by decide +kernel
theorem dX1_hasLetters_42 : decode cX1_hasLetters 42 = .ok (.ireturn, 1) := by decide +kernel
theorem dX1_letterOf_0 : decode cX1_letterOf 0 = .ok (.aload_n 0, 1) := by decide +kernel
theorem dX1_letterOf_1 : decode cX1_letterOf 1 = .ok (.getfield 15, 3) := by decide +kernel
theorem dX1_letterOf_4 : decode cX1_letterOf 4 = .ok (.iload_n 1, 1) := by decide +kernel
theorem dX1_letterOf_5 : decode cX1_letterOf 5 = .ok (.iconst 5, 1) := by decide +kernel
theorem dX1_letterOf_6 : decode cX1_letterOf 6 = .ok (.imul, 1) := by decide +kernel
theorem dX1_letterOf_7 : decode cX1_letterOf 7 = .ok (.iload_n 2, 1) := by decide +kernel
theorem dX1_letterOf_8 : decode cX1_letterOf 8 = .ok (.iadd, 1) := by decide +kernel
theorem dX1_letterOf_9 : decode cX1_letterOf 9 = .ok (.iaload, 1) := by decide +kernel
theorem dX1_letterOf_10 : decode cX1_letterOf 10 = .ok (.ireturn, 1) := by decide +kernel
theorem dX1_isAway_0 : decode cX1_isAway 0 = .ok (.aload_n 0, 1) := by decide +kernel
theorem dX1_isAway_1 : decode cX1_isAway 1 = .ok (.getfield 28, 3) := by decide +kernel
theorem dX1_isAway_4 : decode cX1_isAway 4 = .ok (.iload_n 1, 1) := by decide +kernel
theorem dX1_isAway_5 : decode cX1_isAway 5 = .ok (.iaload, 1) := by decide +kernel
theorem dX1_isAway_6 : decode cX1_isAway 6 = .ok (.iconst (-1), 1) := by decide +kernel
theorem dX1_isAway_7 : decode cX1_isAway 7 = .ok (.if_icmp .eq 7, 3) := by decide +kernel
theorem dX1_isAway_10 : decode cX1_isAway 10 = .ok (.iconst 1, 1) := by decide +kernel
theorem dX1_isAway_11 : decode cX1_isAway 11 = .ok (.goto 4, 3) := by decide +kernel
theorem dX1_isAway_14 : decode cX1_isAway 14 = .ok (.iconst 0, 1) := by decide +kernel
theorem dX1_isAway_15 : decode cX1_isAway 15 = .ok (.ireturn, 1) := by decide +kernel
theorem dX1_countAway_0 : decode cX1_countAway 0 = .ok (.iconst 0, 1) := by decide +kernel
theorem dX1_countAway_1 : decode cX1_countAway 1 = .ok (.istore_n 1, 1) := by decide +kernel
theorem dX1_countAway_2 : decode cX1_countAway 2 = .ok (.iconst 0, 1) := by decide +kernel
theorem dX1_countAway_3 : decode cX1_countAway 3 = .ok (.istore_n 2, 1) := by decide +kernel
theorem dX1_countAway_4 : decode cX1_countAway 4 = .ok (.iload_n 2, 1) := by decide +kernel
theorem dX1_countAway_5 : decode cX1_countAway 5 = .ok (.aload_n 0, 1) := by decide +kernel
theorem dX1_countAway_6 : decode cX1_countAway 6 = .ok (.getfield 9, 3) := by decide +kernel
theorem dX1_countAway_9 : decode cX1_countAway 9 = .ok (.if_icmp .ge 20, 3) := by decide +kernel
theorem dX1_countAway_12 : decode cX1_countAway 12 = .ok (.aload_n 0, 1) := by decide +kernel
theorem dX1_countAway_13 : decode cX1_countAway 13 = .ok (.iload_n 2, 1) := by decide +kernel
theorem dX1_countAway_14 : decode cX1_countAway 14 = .ok (.invokevirtual 53, 3) := by decide +kernel
theorem dX1_countAway_17 : decode cX1_countAway 17 = .ok (.ifCond .eq 6, 3) := by decide +kernel
theorem dX1_countAway_20 : decode cX1_countAway 20 = .ok (.iinc 1 1, 3) := by decide +kernel
theorem dX1_countAway_23 : decode cX1_countAway 23 = .ok (.iinc 2 1, 3) := by decide +kernel
theorem dX1_countAway_26 : decode cX1_countAway 26 = .ok (.goto (-22), 3) := by decide +kernel
theorem dX1_countAway_29 : decode cX1_countAway 29 = .ok (.iload_n 1, 1) := by decide +kernel
theorem dX1_countAway_30 : decode cX1_countAway 30 = .ok (.ireturn, 1) := by decide +kernel
theorem dX1_soakBy_0 : decode cX1_soakBy 0 = .ok (.aload_n 0, 1) := by decide +kernel
theorem dX1_soakBy_1 : decode cX1_soakBy 1 = .ok (.getfield 31, 3) := by decide +kernel
theorem dX1_soakBy_4 : decode cX1_soakBy 4 = .ok (.iload_n 1, 1) := by decide +kernel
theorem dX1_soakBy_5 : decode cX1_soakBy 5 = .ok (.sipush 999, 3) := by decide +kernel
theorem dX1_soakBy_8 : decode cX1_soakBy 8 = .ok (.aload_n 0, 1) := by decide +kernel
theorem dX1_soakBy_9 : decode cX1_soakBy 9 = .ok (.getfield 31, 3) := by decide +kernel
theorem dX1_soakBy_12 : decode cX1_soakBy 12 = .ok (.iload_n 1, 1) := by decide +kernel
theorem dX1_soakBy_13 : decode cX1_soakBy 13 = .ok (.iaload, 1) := by decide +kernel
theorem dX1_soakBy_14 : decode cX1_soakBy 14 = .ok (.iload_n 2, 1) := by decide +kernel
theorem dX1_soakBy_15 : decode cX1_soakBy 15 = .ok (.iadd, 1) := by decide +kernel
theorem dX1_soakBy_16 : decode cX1_soakBy 16 = .ok (.invokestatic 57, 3) := by decide +kernel
theorem dX1_soakBy_19 : decode cX1_soakBy 19 = .ok (.iastore, 1) := by decide +kernel
theorem dX1_soakBy_20 : decode cX1_soakBy 20 = .ok (.return_, 1) := by decide +kernel
theorem dX1_walkAt_0 : decode cX1_walkAt 0 = .ok (.aload_n 0, 1) := by decide +kernel
theorem dX1_walkAt_1 : decode cX1_walkAt 1 = .ok (.getfield 34, 3) := by decide +kernel
theorem dX1_walkAt_4 : decode cX1_walkAt 4 = .ok (.iload_n 1, 1) := by decide +kernel
theorem dX1_walkAt_5 : decode cX1_walkAt 5 = .ok (.dup2, 1) := by decide +kernel
theorem dX1_walkAt_6 : decode cX1_walkAt 6 = .ok (.iaload, 1) := by decide +kernel
theorem dX1_walkAt_7 : decode cX1_walkAt 7 = .ok (.iconst 1, 1) := by decide +kernel
theorem dX1_walkAt_8 : decode cX1_walkAt 8 = .ok (.iadd, 1) := by decide +kernel
theorem dX1_walkAt_9 : decode cX1_walkAt 9 = .ok (.iastore, 1) := by decide +kernel
theorem dX1_walkAt_10 : decode cX1_walkAt 10 = .ok (.aload_n 0, 1) := by decide +kernel
theorem dX1_walkAt_11 : decode cX1_walkAt 11 = .ok (.getfield 37, 3) := by decide +kernel
theorem dX1_walkAt_14 : decode cX1_walkAt 14 = .ok (.iload_n 1, 1) := by decide +kernel
theorem dX1_walkAt_15 : decode cX1_walkAt 15 = .ok (.iload_n 2, 1) := by decide +kernel
theorem dX1_walkAt_16 : decode cX1_walkAt 16 = .ok (.iastore, 1) := by decide +kernel
theorem dX1_walkAt_17 : decode cX1_walkAt 17 = .ok (.aload_n 0, 1) := by decide +kernel
theorem dX1_walkAt_18 : decode cX1_walkAt 18 = .ok (.getfield 34, 3) := by decide +kernel
theorem dX1_walkAt_21 : decode cX1_walkAt 21 = .ok (.iload_n 1, 1) := by decide +kernel
theorem dX1_walkAt_22 : decode cX1_walkAt 22 = .ok (.iaload, 1) := by decide +kernel
theorem dX1_walkAt_23 : decode cX1_walkAt 23 = .ok (.ireturn, 1) := by decide +kernel
theorem dX1_barksAt_0 : decode cX1_barksAt 0 = .ok (.aload_n 0, 1) := by decide +kernel
theorem dX1_barksAt_1 : decode cX1_barksAt 1 = .ok (.getfield 25, 3) := by decide +kernel
theorem dX1_barksAt_4 : decode cX1_barksAt 4 = .ok (.iload_n 1, 1) := by decide +kernel
theorem dX1_barksAt_5 : decode cX1_barksAt 5 = .ok (.iaload, 1) := by decide +kernel
theorem dX1_barksAt_6 : decode cX1_barksAt 6 = .ok (.ifCond .eq 11, 3) := by decide +kernel
theorem dX1_barksAt_9 : decode cX1_barksAt 9 = .ok (.aload_n 0, 1) := by decide +kernel
theorem dX1_barksAt_10 : decode cX1_barksAt 10 = .ok (.iload_n 1, 1) := by decide +kernel
theorem dX1_barksAt_11 : decode cX1_barksAt 11 = .ok (.invokevirtual 53, 3) := by decide +kernel
theorem dX1_barksAt_14 : decode cX1_barksAt 14 = .ok (.ifCond .ne 5, 3) := by decide +kernel
theorem dX1_barksAt_17 : decode cX1_barksAt 17 = .ok (.iconst 0, 1) := by decide +kernel
theorem dX1_barksAt_18 : decode cX1_barksAt 18 = .ok (.ireturn, 1) := by decide +kernel
theorem dX1_barksAt_19 : decode cX1_barksAt 19 = .ok (.aload_n 0, 1) := by decide +kernel
theorem dX1_barksAt_20 : decode cX1_barksAt 20 = .ok (.getfield 34, 3) := by decide +kernel
theorem dX1_barksAt_23 : decode cX1_barksAt 23 = .ok (.iload_n 1, 1) := by decide +kernel
theorem dX1_barksAt_24 : decode cX1_barksAt 24 = .ok (.iaload, 1) := by decide +kernel
theorem dX1_barksAt_25 : decode cX1_barksAt 25 = .ok (.ifCond .le 20, 3) := by decide +kernel
theorem dX1_barksAt_28 : decode cX1_barksAt 28 = .ok (.iload_n 2, 1) := by decide +kernel
theorem dX1_barksAt_29 : decode cX1_barksAt 29 = .ok (.aload_n 0, 1) := by decide +kernel
theorem dX1_barksAt_30 : decode cX1_barksAt 30 = .ok (.getfield 37, 3) := by decide +kernel
theorem dX1_barksAt_33 : decode cX1_barksAt 33 = .ok (.iload_n 1, 1) := by decide +kernel
theorem dX1_barksAt_34 : decode cX1_barksAt 34 = .ok (.iaload, 1) := by decide +kernel
theorem dX1_barksAt_35 : decode cX1_barksAt 35 = .ok (.isub, 1) := by decide +kernel
theorem dX1_barksAt_36 : decode cX1_barksAt 36 = .ok (.bipush 60, 2) := by decide +kernel
theorem dX1_barksAt_38 : decode cX1_barksAt 38 = .ok (.if_icmp .ge 7, 3) := by decide +kernel
theorem dX1_barksAt_41 : decode cX1_barksAt 41 = .ok (.iconst 1, 1) := by decide +kernel
theorem dX1_barksAt_42 : decode cX1_barksAt 42 = .ok (.goto 4, 3) := by decide +kernel
theorem dX1_barksAt_45 : decode cX1_barksAt 45 = .ok (.iconst 0, 1) := by decide +kernel
theorem dX1_barksAt_46 : decode cX1_barksAt 46 = .ok (.istore_n 3, 1) := by decide +kernel
theorem dX1_barksAt_47 : decode cX1_barksAt 47 = .ok (.iload_n 2, 1) := by decide +kernel
theorem dX1_barksAt_48 : decode cX1_barksAt 48 = .ok (.aload_n 0, 1) := by decide +kernel
theorem dX1_barksAt_49 : decode cX1_barksAt 49 = .ok (.getfield 28, 3) := by decide +kernel
theorem dX1_barksAt_52 : decode cX1_barksAt 52 = .ok (.iload_n 1, 1) := by decide +kernel
theorem dX1_barksAt_53 : decode cX1_barksAt 53 = .ok (.iaload, 1) := by decide +kernel
theorem dX1_barksAt_54 : decode cX1_barksAt 54 = .ok (.isub, 1) := by decide +kernel
theorem dX1_barksAt_55 : decode cX1_barksAt 55 = .ok (.bipush 10, 2) := by decide +kernel
theorem dX1_barksAt_57 : decode cX1_barksAt 57 = .ok (.if_icmp .le 11, 3) := by decide +kernel
theorem dX1_barksAt_60 : decode cX1_barksAt 60 = .ok (.iload_n 3, 1) := by decide +kernel
theorem dX1_barksAt_61 : decode cX1_barksAt 61 = .ok (.ifCond .ne 7, 3) := by decide +kernel
theorem dX1_barksAt_64 : decode cX1_barksAt 64 = .ok (.iconst 1, 1) := by decide +kernel
theorem dX1_barksAt_65 : decode cX1_barksAt 65 = .ok (.goto 4, 3) := by decide +kernel
theorem dX1_barksAt_68 : decode cX1_barksAt 68 = .ok (.iconst 0, 1) := by decide +kernel
theorem dX1_barksAt_69 : decode cX1_barksAt 69 = .ok (.ireturn, 1) := by decide +kernel
theorem dX1_noiseAt_0 : decode cX1_noiseAt 0 = .ok (.iconst 0, 1) := by decide +kernel
theorem dX1_noiseAt_1 : decode cX1_noiseAt 1 = .ok (.istore_n 2, 1) := by decide +kernel
theorem dX1_noiseAt_2 : decode cX1_noiseAt 2 = .ok (.iconst 0, 1) := by decide +kernel
theorem dX1_noiseAt_3 : decode cX1_noiseAt 3 = .ok (.istore_n 3, 1) := by decide +kernel
theorem dX1_noiseAt_4 : decode cX1_noiseAt 4 = .ok (.iload_n 3, 1) := by decide +kernel
theorem dX1_noiseAt_5 : decode cX1_noiseAt 5 = .ok (.aload_n 0, 1) := by decide +kernel
theorem dX1_noiseAt_6 : decode cX1_noiseAt 6 = .ok (.getfield 9, 3) := by decide +kernel
theorem dX1_noiseAt_9 : decode cX1_noiseAt 9 = .ok (.if_icmp .ge 27, 3) := by decide +kernel
theorem dX1_noiseAt_12 : decode cX1_noiseAt 12 = .ok (.aload_n 0, 1) := by decide +kernel
theorem dX1_noiseAt_13 : decode cX1_noiseAt 13 = .ok (.iload_n 3, 1) := by decide +kernel
theorem dX1_noiseAt_14 : decode cX1_noiseAt 14 = .ok (.iload_n 1, 1) := by decide +kernel
theorem dX1_noiseAt_15 : decode cX1_noiseAt 15 = .ok (.invokevirtual 62, 3) := by decide +kernel
theorem dX1_noiseAt_18 : decode cX1_noiseAt 18 = .ok (.ifCond .eq 12, 3) := by decide +kernel
theorem dX1_noiseAt_21 : decode cX1_noiseAt 21 = .ok (.iload_n 2, 1) := by decide +kernel
theorem dX1_noiseAt_22 : decode cX1_noiseAt 22 = .ok (.aload_n 0, 1) := by decide +kernel
theorem dX1_noiseAt_23 : decode cX1_noiseAt 23 = .ok (.getfield 25, 3) := by decide +kernel
theorem dX1_noiseAt_26 : decode cX1_noiseAt 26 = .ok (.iload_n 3, 1) := by decide +kernel
theorem dX1_noiseAt_27 : decode cX1_noiseAt 27 = .ok (.iaload, 1) := by decide +kernel
theorem dX1_noiseAt_28 : decode cX1_noiseAt 28 = .ok (.iadd, 1) := by decide +kernel
theorem dX1_noiseAt_29 : decode cX1_noiseAt 29 = .ok (.istore_n 2, 1) := by decide +kernel
theorem dX1_noiseAt_30 : decode cX1_noiseAt 30 = .ok (.iinc 3 1, 3) := by decide +kernel
theorem dX1_noiseAt_33 : decode cX1_noiseAt 33 = .ok (.goto (-29), 3) := by decide +kernel
theorem dX1_noiseAt_36 : decode cX1_noiseAt 36 = .ok (.iload_n 2, 1) := by decide +kernel
theorem dX1_noiseAt_37 : decode cX1_noiseAt 37 = .ok (.ireturn, 1) := by decide +kernel
theorem dX1_copyFrom_0 : decode cX1_copyFrom 0 = .ok (.aload_n 0, 1) := by decide +kernel
theorem dX1_copyFrom_1 : decode cX1_copyFrom 1 = .ok (.aload_n 1, 1) := by decide +kernel
theorem dX1_copyFrom_2 : decode cX1_copyFrom 2 = .ok (.getfield 9, 3) := by decide +kernel
theorem dX1_copyFrom_5 : decode cX1_copyFrom 5 = .ok (.putfield 9, 3) := by decide +kernel
theorem dX1_copyFrom_8 : decode cX1_copyFrom 8 = .ok (.aload_n 1, 1) := by decide +kernel
theorem dX1_copyFrom_9 : decode cX1_copyFrom 9 = .ok (.getfield 15, 3) := by decide +kernel
theorem dX1_copyFrom_12 : decode cX1_copyFrom 12 = .ok (.iconst 0, 1) := by decide +kernel
theorem dX1_copyFrom_13 : decode cX1_copyFrom 13 = .ok (.aload_n 0, 1) := by decide +kernel
theorem dX1_copyFrom_14 : decode cX1_copyFrom 14 = .ok (.getfield 15, 3) := by decide +kernel
theorem dX1_copyFrom_17 : decode cX1_copyFrom 17 = .ok (.iconst 0, 1) := by decide +kernel
theorem dX1_copyFrom_18 : decode cX1_copyFrom 18 = .ok (.aload_n 0, 1) := by decide +kernel
theorem dX1_copyFrom_19 : decode cX1_copyFrom 19 = .ok (.getfield 15, 3) := by decide +kernel
theorem dX1_copyFrom_22 : decode cX1_copyFrom 22 = .ok (.arraylength, 1) := by decide +kernel
theorem dX1_copyFrom_23 : decode cX1_copyFrom 23 = .ok (.invokestatic 66, 3) := by decide +kernel
theorem dX1_copyFrom_26 : decode cX1_copyFrom 26 = .ok (.aload_n 1, 1) := by decide +kernel
theorem dX1_copyFrom_27 : decode cX1_copyFrom 27 = .ok (.getfield 19, 3) := by decide +kernel
theorem dX1_copyFrom_30 : decode cX1_copyFrom 30 = .ok (.iconst 0, 1) := by decide +kernel
theorem dX1_copyFrom_31 : decode cX1_copyFrom 31 = .ok (.aload_n 0, 1) := by decide +kernel
theorem dX1_copyFrom_32 : decode cX1_copyFrom 32 = .ok (.getfield 19, 3) := by decide +kernel
theorem dX1_copyFrom_35 : decode cX1_copyFrom 35 = .ok (.iconst 0, 1) := by decide +kernel
theorem dX1_copyFrom_36 : decode cX1_copyFrom 36 = .ok (.bipush 10, 2) := by decide +kernel
theorem dX1_copyFrom_38 : decode cX1_copyFrom 38 = .ok (.invokestatic 66, 3) := by decide +kernel
theorem dX1_copyFrom_41 : decode cX1_copyFrom 41 = .ok (.aload_n 1, 1) := by decide +kernel
theorem dX1_copyFrom_42 : decode cX1_copyFrom 42 = .ok (.getfield 22, 3) := by decide +kernel
theorem dX1_copyFrom_45 : decode cX1_copyFrom 45 = .ok (.iconst 0, 1) := by decide +kernel
theorem dX1_copyFrom_46 : decode cX1_copyFrom 46 = .ok (.aload_n 0, 1) := by decide +kernel
theorem dX1_copyFrom_47 : decode cX1_copyFrom 47 = .ok (.getfield 22, 3) := by decide +kernel
theorem dX1_copyFrom_50 : decode cX1_copyFrom 50 = .ok (.iconst 0, 1) := by decide +kernel
theorem dX1_copyFrom_51 : decode cX1_copyFrom 51 = .ok (.bipush 10, 2) := by decide +kernel
theorem dX1_copyFrom_53 : decode cX1_copyFrom 53 = .ok (.invokestatic 66, 3) := by decide +kernel
theorem dX1_copyFrom_56 : decode cX1_copyFrom 56 = .ok (.aload_n 1, 1) := by decide +kernel
theorem dX1_copyFrom_57 : decode cX1_copyFrom 57 = .ok (.getfield 25, 3) := by decide +kernel
theorem dX1_copyFrom_60 : decode cX1_copyFrom 60 = .ok (.iconst 0, 1) := by decide +kernel
theorem dX1_copyFrom_61 : decode cX1_copyFrom 61 = .ok (.aload_n 0, 1) := by decide +kernel
theorem dX1_copyFrom_62 : decode cX1_copyFrom 62 = .ok (.getfield 25, 3) := by decide +kernel
theorem dX1_copyFrom_65 : decode cX1_copyFrom 65 = .ok (.iconst 0, 1) := by decide +kernel
theorem dX1_copyFrom_66 : decode cX1_copyFrom 66 = .ok (.bipush 10, 2) := by decide +kernel
theorem dX1_copyFrom_68 : decode cX1_copyFrom 68 = .ok (.invokestatic 66, 3) := by decide +kernel
theorem dX1_copyFrom_71 : decode cX1_copyFrom 71 = .ok (.aload_n 1, 1) := by decide +kernel
theorem dX1_copyFrom_72 : decode cX1_copyFrom 72 = .ok (.getfield 28, 3) := by decide +kernel
theorem dX1_copyFrom_75 : decode cX1_copyFrom 75 = .ok (.iconst 0, 1) := by decide +kernel
theorem dX1_copyFrom_76 : decode cX1_copyFrom 76 = .ok (.aload_n 0, 1) := by decide +kernel
theorem dX1_copyFrom_77 : decode cX1_copyFrom 77 = .ok (.getfield 28, 3) := by decide +kernel
theorem dX1_copyFrom_80 : decode cX1_copyFrom 80 = .ok (.iconst 0, 1) := by decide +kernel
theorem dX1_copyFrom_81 : decode cX1_copyFrom 81 = .ok (.bipush 10, 2) := by decide +kernel
theorem dX1_copyFrom_83 : decode cX1_copyFrom 83 = .ok (.invokestatic 66, 3) := by decide +kernel
theorem dX1_copyFrom_86 : decode cX1_copyFrom 86 = .ok (.aload_n 1, 1) := by decide +kernel
theorem dX1_copyFrom_87 : decode cX1_copyFrom 87 = .ok (.getfield 31, 3) := by decide +kernel
theorem dX1_copyFrom_90 : decode cX1_copyFrom 90 = .ok (.iconst 0, 1) := by decide +kernel
theorem dX1_copyFrom_91 : decode cX1_copyFrom 91 = .ok (.aload_n 0, 1) := by decide +kernel
theorem dX1_copyFrom_92 : decode cX1_copyFrom 92 = .ok (.getfield 31, 3) := by decide +kernel
theorem dX1_copyFrom_95 : decode cX1_copyFrom 95 = .ok (.iconst 0, 1) := by decide +kernel
theorem dX1_copyFrom_96 : decode cX1_copyFrom 96 = .ok (.bipush 10, 2) := by decide +kernel
theorem dX1_copyFrom_98 : decode cX1_copyFrom 98 = .ok (.invokestatic 66, 3) := by decide +kernel
theorem dX1_copyFrom_101 : decode cX1_copyFrom 101 = .ok (.aload_n 1, 1) := by decide +kernel
theorem dX1_copyFrom_102 : decode cX1_copyFrom 102 = .ok (.getfield 34, 3) := by decide +kernel
theorem dX1_copyFrom_105 : decode cX1_copyFrom 105 = .ok (.iconst 0, 1) := by decide +kernel
theorem dX1_copyFrom_106 : decode cX1_copyFrom 106 = .ok (.aload_n 0, 1) := by decide +kernel
theorem dX1_copyFrom_107 : decode cX1_copyFrom 107 = .ok (.getfield 34, 3) := by decide +kernel
theorem dX1_copyFrom_110 : decode cX1_copyFrom 110 = .ok (.iconst 0, 1) := by decide +kernel
theorem dX1_copyFrom_111 : decode cX1_copyFrom 111 = .ok (.bipush 10, 2) := by decide +kernel
theorem dX1_copyFrom_113 : decode cX1_copyFrom 113 = .ok (.invokestatic 66, 3) := by decide +kernel
theorem dX1_copyFrom_116 : decode cX1_copyFrom 116 = .ok (.aload_n 1, 1) := by decide +kernel
theorem dX1_copyFrom_117 : decode cX1_copyFrom 117 = .ok (.getfield 37, 3) := by decide +kernel
theorem dX1_copyFrom_120 : decode cX1_copyFrom 120 = .ok (.iconst 0, 1) := by decide +kernel
theorem dX1_copyFrom_121 : decode cX1_copyFrom 121 = .ok (.aload_n 0, 1) := by decide +kernel
theorem dX1_copyFrom_122 : decode cX1_copyFrom 122 = .ok (.getfield 37, 3) := by decide +kernel
theorem dX1_copyFrom_125 : decode cX1_copyFrom 125 = .ok (.iconst 0, 1) := by decide +kernel
theorem dX1_copyFrom_126 : decode cX1_copyFrom 126 = .ok (.bipush 10, 2) := by decide +kernel
theorem dX1_copyFrom_128 : decode cX1_copyFrom 128 = .ok (.invokestatic 66, 3) := by decide +kernel
theorem dX1_copyFrom_131 : decode cX1_copyFrom 131 = .ok (.return_, 1) := by decide +kernel
theorem dX2_init_0 : decode cX2_init 0 = .ok (.aload_n 0, 1) := by decide +kernel
theorem dX2_init_1 : decode cX2_init 1 = .ok (.invokespecial 3, 3) := by decide +kernel
theorem dX2_init_4 : decode cX2_init 4 = .ok (.aload_n 0, 1) := by decide +kernel
theorem dX2_init_5 : decode cX2_init 5 = .ok (.bipush 8, 2) := by decide +kernel
theorem dX2_init_7 : decode cX2_init 7 = .ok (.anewarray 9, 3) := by decide +kernel
theorem dX2_init_10 : decode cX2_init 10 = .ok (.putfield 11, 3) := by decide +kernel
theorem dX2_init_13 : decode cX2_init 13 = .ok (.aload_n 0, 1) := by decide +kernel
theorem dX2_init_14 : decode cX2_init 14 = .ok (.iconst 0, 1) := by decide +kernel
theorem dX2_init_15 : decode cX2_init 15 = .ok (.putfield 17, 3) := by decide +kernel
theorem dX2_init_18 : decode cX2_init 18 = .ok (.aload_n 0, 1) := by decide +kernel
theorem dX2_init_19 : decode cX2_init 19 = .ok (.iconst 0, 1) := by decide +kernel
theorem dX2_init_20 : decode cX2_init 20 = .ok (.putfield 21, 3) := by decide +kernel
theorem dX2_init_23 : decode cX2_init 23 = .ok (.iconst 0, 1) := by decide +kernel
theorem dX2_init_24 : decode cX2_init 24 = .ok (.istore_n 1, 1) := by decide +kernel
theorem dX2_init_25 : decode cX2_init 25 = .ok (.iload_n 1, 1) := by decide +kernel
theorem dX2_init_26 : decode cX2_init 26 = .ok (.bipush 8, 2) := by decide +kernel
theorem dX2_init_28 : decode cX2_init 28 = .ok (.if_icmp .ge 22, 3) := by decide +kernel
theorem dX2_init_31 : decode cX2_init 31 = .ok (.aload_n 0, 1) := by decide +kernel
theorem dX2_init_32 : decode cX2_init 32 = .ok (.getfield 11, 3) := by decide +kernel
theorem dX2_init_35 : decode cX2_init 35 = .ok (.iload_n 1, 1) := by decide +kernel
theorem dX2_init_36 : decode cX2_init 36 = .ok (.new 9, 3) := by decide +kernel
theorem dX2_init_39 : decode cX2_init 39 = .ok (.dup, 1) := by decide +kernel
theorem dX2_init_40 : decode cX2_init 40 = .ok (.invokespecial 24, 3) := by decide +kernel
theorem dX2_init_43 : decode cX2_init 43 = .ok (.aastore, 1) := by decide +kernel
theorem dX2_init_44 : decode cX2_init 44 = .ok (.iinc 1 1, 3) := by decide +kernel
theorem dX2_init_47 : decode cX2_init 47 = .ok (.goto (-22), 3) := by decide +kernel
theorem dX2_init_50 : decode cX2_init 50 = .ok (.return_, 1) := by decide +kernel
theorem dX2_remember_0 : decode cX2_remember 0 = .ok (.aload_n 0, 1) := by decide +kernel
theorem dX2_remember_1 : decode cX2_remember 1 = .ok (.getfield 11, 3) := by decide +kernel
theorem dX2_remember_4 : decode cX2_remember 4 = .ok (.aload_n 0, 1) := by decide +kernel
theorem dX2_remember_5 : decode cX2_remember 5 = .ok (.getfield 17, 3) := by decide +kernel
theorem dX2_remember_8 : decode cX2_remember 8 = .ok (.aaload, 1) := by decide +kernel
theorem dX2_remember_9 : decode cX2_remember 9 = .ok (.aload_n 1, 1) := by decide +kernel
theorem dX2_remember_10 : decode cX2_remember 10 = .ok (.invokevirtual 25, 3) := by decide +kernel
theorem dX2_remember_13 : decode cX2_remember 13 = .ok (.aload_n 0, 1) := by decide +kernel
theorem dX2_remember_14 : decode cX2_remember 14 = .ok (.aload_n 0, 1) := by decide +kernel
theorem dX2_remember_15 : decode cX2_remember 15 = .ok (.getfield 17, 3) := by decide +kernel
theorem dX2_remember_18 : decode cX2_remember 18 = .ok (.iconst 1, 1) := by decide +kernel
theorem dX2_remember_19 : decode cX2_remember 19 = .ok (.iadd, 1) := by decide +kernel
theorem dX2_remember_20 : decode cX2_remember 20 = .ok (.bipush 8, 2) := by decide +kernel
theorem dX2_remember_22 : decode cX2_remember 22 = .ok (.irem, 1) := by decide +kernel
theorem dX2_remember_23 : decode cX2_remember 23 = .ok (.putfield 17, 3) := by decide +kernel
theorem dX2_remember_26 : decode cX2_remember 26 = .ok (.aload_n 0, 1) := by decide +kernel
theorem dX2_remember_27 : decode cX2_remember 27 = .ok (.bipush 8, 2) := by decide +kernel
theorem dX2_remember_29 : decode cX2_remember 29 = .ok (.aload_n 0, 1) := by decide +kernel
theorem dX2_remember_30 : decode cX2_remember 30 = .ok (.getfield 21, 3) := by decide +kernel
theorem dX2_remember_33 : decode cX2_remember 33 = .ok (.iconst 1, 1) := by decide +kernel
theorem dX2_remember_34 : decode cX2_remember 34 = .ok (.iadd, 1) := by decide +kernel
theorem dX2_remember_35 : decode cX2_remember 35 = .ok (.invokestatic 29, 3) := by decide +kernel
theorem dX2_remember_38 : decode cX2_remember 38 = .ok (.putfield 21, 3) := by decide +kernel
theorem dX2_remember_41 : decode cX2_remember 41 = .ok (.return_, 1) := by decide +kernel
theorem dX2_takeBack_0 : decode cX2_takeBack 0 = .ok (.aload_n 0, 1) := by decide +kernel
theorem dX2_takeBack_1 : decode cX2_takeBack 1 = .ok (.aload_n 0, 1) := by decide +kernel
theorem dX2_takeBack_2 : decode cX2_takeBack 2 = .ok (.getfield 17, 3) := by decide +kernel
theorem dX2_takeBack_5 : decode cX2_takeBack 5 = .ok (.bipush 8, 2) := by decide +kernel
theorem dX2_takeBack_7 : decode cX2_takeBack 7 = .ok (.iadd, 1) := by decide +kernel
theorem dX2_takeBack_8 : decode cX2_takeBack 8 = .ok (.iconst 1, 1) := by decide +kernel
theorem dX2_takeBack_9 : decode cX2_takeBack 9 = .ok (.isub, 1) := by decide +kernel
theorem dX2_takeBack_10 : decode cX2_takeBack 10 = .ok (.bipush 8, 2) := by decide +kernel
theorem dX2_takeBack_12 : decode cX2_takeBack 12 = .ok (.irem, 1) := by decide +kernel
theorem dX2_takeBack_13 : decode cX2_takeBack 13 = .ok (.putfield 17, 3) := by decide +kernel
theorem dX2_takeBack_16 : decode cX2_takeBack 16 = .ok (.aload_n 0, 1) := by decide +kernel
theorem dX2_takeBack_17 : decode cX2_takeBack 17 = .ok (.dup, 1) := by decide +kernel
theorem dX2_takeBack_18 : decode cX2_takeBack 18 = .ok (.getfield 21, 3) := by decide +kernel
theorem dX2_takeBack_21 : decode cX2_takeBack 21 = .ok (.iconst 1, 1) := by decide +kernel
theorem dX2_takeBack_22 : decode cX2_takeBack 22 = .ok (.isub, 1) := by decide +kernel
theorem dX2_takeBack_23 : decode cX2_takeBack 23 = .ok (.putfield 21, 3) := by decide +kernel
theorem dX2_takeBack_26 : decode cX2_takeBack 26 = .ok (.aload_n 1, 1) := by decide +kernel
theorem dX2_takeBack_27 : decode cX2_takeBack 27 = .ok (.aload_n 0, 1) := by decide +kernel
theorem dX2_takeBack_28 : decode cX2_takeBack 28 = .ok (.getfield 11, 3) := by decide +kernel
theorem dX2_takeBack_31 : decode cX2_takeBack 31 = .ok (.aload_n 0, 1) := by decide +kernel
theorem dX2_takeBack_32 : decode cX2_takeBack 32 = .ok (.getfield 17, 3) := by decide +kernel
theorem dX2_takeBack_35 : decode cX2_takeBack 35 = .ok (.aaload, 1) := by decide +kernel
theorem dX2_takeBack_36 : decode cX2_takeBack 36 = .ok (.invokevirtual 25, 3) := by decide +kernel
theorem dX2_takeBack_39 : decode cX2_takeBack 39 = .ok (.return_, 1) := by decide +kernel
theorem dX3_init_0 : decode cX3_init 0 = .ok (.aload_n 0, 1) := by decide +kernel
theorem dX3_init_1 : decode cX3_init 1 = .ok (.invokespecial 3, 3) := by decide +kernel
theorem dX3_init_4 : decode cX3_init 4 = .ok (.aload_n 0, 1) := by decide +kernel
theorem dX3_init_5 : decode cX3_init 5 = .ok (.iconst 0, 1) := by decide +kernel
theorem dX3_init_6 : decode cX3_init 6 = .ok (.putfield 9, 3) := by decide +kernel
theorem dX3_init_9 : decode cX3_init 9 = .ok (.aload_n 0, 1) := by decide +kernel
theorem dX3_init_10 : decode cX3_init 10 = .ok (.iconst 0, 1) := by decide +kernel
theorem dX3_init_11 : decode cX3_init 11 = .ok (.putfield 15, 3) := by decide +kernel
theorem dX3_init_14 : decode cX3_init 14 = .ok (.aload_n 0, 1) := by decide +kernel
theorem dX3_init_15 : decode cX3_init 15 = .ok (.iconst 0, 1) := by decide +kernel
theorem dX3_init_16 : decode cX3_init 16 = .ok (.putfield 18, 3) := by decide +kernel
theorem dX3_init_19 : decode cX3_init 19 = .ok (.aload_n 0, 1) := by decide +kernel
theorem dX3_init_20 : decode cX3_init 20 = .ok (.iconst 0, 1) := by decide +kernel
theorem dX3_init_21 : decode cX3_init 21 = .ok (.putfield 21, 3) := by decide +kernel
theorem dX3_init_24 : decode cX3_init 24 = .ok (.aload_n 0, 1) := by decide +kernel
theorem dX3_init_25 : decode cX3_init 25 = .ok (.iconst 0, 1) := by decide +kernel
theorem dX3_init_26 : decode cX3_init 26 = .ok (.putfield 24, 3) := by decide +kernel
theorem dX3_init_29 : decode cX3_init 29 = .ok (.aload_n 0, 1) := by decide +kernel
theorem dX3_init_30 : decode cX3_init 30 = .ok (.iconst 0, 1) := by decide +kernel
theorem dX3_init_31 : decode cX3_init 31 = .ok (.putfield 27, 3) := by decide +kernel
theorem dX3_init_34 : decode cX3_init 34 = .ok (.aload_n 0, 1) := by decide +kernel
theorem dX3_init_35 : decode cX3_init 35 = .ok (.iconst 0, 1) := by decide +kernel
theorem dX3_init_36 : decode cX3_init 36 = .ok (.putfield 30, 3) := by decide +kernel
theorem dX3_init_39 : decode cX3_init 39 = .ok (.aload_n 0, 1) := by decide +kernel
theorem dX3_init_40 : decode cX3_init 40 = .ok (.new 33, 3) := by decide +kernel
theorem dX3_init_43 : decode cX3_init 43 = .ok (.dup, 1) := by decide +kernel
theorem dX3_init_44 : decode cX3_init 44 = .ok (.invokespecial 35, 3) := by decide +kernel
theorem dX3_init_47 : decode cX3_init 47 = .ok (.putfield 36, 3) := by decide +kernel
theorem dX3_init_50 : decode cX3_init 50 = .ok (.aload_n 0, 1) := by decide +kernel
theorem dX3_init_51 : decode cX3_init 51 = .ok (.new 40, 3) := by decide +kernel
theorem dX3_init_54 : decode cX3_init 54 = .ok (.dup, 1) := by decide +kernel
theorem dX3_init_55 : decode cX3_init 55 = .ok (.invokespecial 42, 3) := by decide +kernel
theorem dX3_init_58 : decode cX3_init 58 = .ok (.putfield 43, 3) := by decide +kernel
theorem dX3_init_61 : decode cX3_init 61 = .ok (.aload_n 0, 1) := by decide +kernel
theorem dX3_init_62 : decode cX3_init 62 = .ok (.new 47, 3) := by decide +kernel
theorem dX3_init_65 : decode cX3_init 65 = .ok (.dup, 1) := by decide +kernel
theorem dX3_init_66 : decode cX3_init 66 = .ok (.invokespecial 49, 3) := by decide +kernel
theorem dX3_init_69 : decode cX3_init 69 = .ok (.putfield 50, 3) := by decide +kernel
theorem dX3_init_72 : decode cX3_init 72 = .ok (.return_, 1) := by decide +kernel
theorem dX3_clear_0 : decode cX3_clear 0 = .ok (.aload_n 0, 1) := by decide +kernel
theorem dX3_clear_1 : decode cX3_clear 1 = .ok (.iconst 0, 1) := by decide +kernel
theorem dX3_clear_2 : decode cX3_clear 2 = .ok (.putfield 9, 3) := by decide +kernel
theorem dX3_clear_5 : decode cX3_clear 5 = .ok (.aload_n 0, 1) := by decide +kernel
theorem dX3_clear_6 : decode cX3_clear 6 = .ok (.iconst 0, 1) := by decide +kernel
theorem dX3_clear_7 : decode cX3_clear 7 = .ok (.putfield 15, 3) := by decide +kernel
theorem dX3_clear_10 : decode cX3_clear 10 = .ok (.aload_n 0, 1) := by decide +kernel
theorem dX3_clear_11 : decode cX3_clear 11 = .ok (.iconst 0, 1) := by decide +kernel
theorem dX3_clear_12 : decode cX3_clear 12 = .ok (.putfield 18, 3) := by decide +kernel
theorem dX3_clear_15 : decode cX3_clear 15 = .ok (.aload_n 0, 1) := by decide +kernel
theorem dX3_clear_16 : decode cX3_clear 16 = .ok (.iconst 0, 1) := by decide +kernel
theorem dX3_clear_17 : decode cX3_clear 17 = .ok (.putfield 21, 3) := by decide +kernel
theorem dX3_clear_20 : decode cX3_clear 20 = .ok (.aload_n 0, 1) := by decide +kernel
theorem dX3_clear_21 : decode cX3_clear 21 = .ok (.iconst 0, 1) := by decide +kernel
theorem dX3_clear_22 : decode cX3_clear 22 = .ok (.putfield 24, 3) := by decide +kernel
theorem dX3_clear_25 : decode cX3_clear 25 = .ok (.aload_n 0, 1) := by decide +kernel
theorem dX3_clear_26 : decode cX3_clear 26 = .ok (.iconst 0, 1) := by decide +kernel
theorem dX3_clear_27 : decode cX3_clear 27 = .ok (.putfield 27, 3) := by decide +kernel
theorem dX3_clear_30 : decode cX3_clear 30 = .ok (.aload_n 0, 1) := by decide +kernel
theorem dX3_clear_31 : decode cX3_clear 31 = .ok (.iconst 0, 1) := by decide +kernel
theorem dX3_clear_32 : decode cX3_clear 32 = .ok (.putfield 30, 3) := by decide +kernel
theorem dX3_clear_35 : decode cX3_clear 35 = .ok (.aload_n 0, 1) := by decide +kernel
theorem dX3_clear_36 : decode cX3_clear 36 = .ok (.getfield 36, 3) := by decide +kernel
theorem dX3_clear_39 : decode cX3_clear 39 = .ok (.iconst 0, 1) := by decide +kernel
theorem dX3_clear_40 : decode cX3_clear 40 = .ok (.putfield 54, 3) := by decide +kernel
theorem dX3_clear_43 : decode cX3_clear 43 = .ok (.aload_n 0, 1) := by decide +kernel
theorem dX3_clear_44 : decode cX3_clear 44 = .ok (.getfield 43, 3) := by decide +kernel
theorem dX3_clear_47 : decode cX3_clear 47 = .ok (.iconst 0, 1) := by decide +kernel
theorem dX3_clear_48 : decode cX3_clear 48 = .ok (.putfield 57, 3) := by decide +kernel
theorem dX3_clear_51 : decode cX3_clear 51 = .ok (.aload_n 0, 1) := by decide +kernel
theorem dX3_clear_52 : decode cX3_clear 52 = .ok (.getfield 50, 3) := by decide +kernel
theorem dX3_clear_55 : decode cX3_clear 55 = .ok (.iconst 0, 1) := by decide +kernel
theorem dX3_clear_56 : decode cX3_clear 56 = .ok (.putfield 58, 3) := by decide +kernel
theorem dX3_clear_59 : decode cX3_clear 59 = .ok (.return_, 1) := by decide +kernel
theorem dX3_copyFrom_0 : decode cX3_copyFrom 0 = .ok (.aload_n 0, 1) := by decide +kernel
theorem dX3_copyFrom_1 : decode cX3_copyFrom 1 = .ok (.aload_n 1, 1) := by decide +kernel
theorem dX3_copyFrom_2 : decode cX3_copyFrom 2 = .ok (.getfield 9, 3) := by decide +kernel
theorem dX3_copyFrom_5 : decode cX3_copyFrom 5 = .ok (.putfield 9, 3) := by decide +kernel
theorem dX3_copyFrom_8 : decode cX3_copyFrom 8 = .ok (.aload_n 0, 1) := by decide +kernel
theorem dX3_copyFrom_9 : decode cX3_copyFrom 9 = .ok (.aload_n 1, 1) := by decide +kernel
theorem dX3_copyFrom_10 : decode cX3_copyFrom 10 = .ok (.getfield 15, 3) := by decide +kernel
theorem dX3_copyFrom_13 : decode cX3_copyFrom 13 = .ok (.putfield 15, 3) := by decide +kernel
theorem dX3_copyFrom_16 : decode cX3_copyFrom 16 = .ok (.aload_n 0, 1) := by decide +kernel
theorem dX3_copyFrom_17 : decode cX3_copyFrom 17 = .ok (.aload_n 1, 1) := by decide +kernel
theorem dX3_copyFrom_18 : decode cX3_copyFrom 18 = .ok (.getfield 18, 3) := by decide +kernel
theorem dX3_copyFrom_21 : decode cX3_copyFrom 21 = .ok (.putfield 18, 3) := by decide +kernel
theorem dX3_copyFrom_24 : decode cX3_copyFrom 24 = .ok (.aload_n 0, 1) := by decide +kernel
theorem dX3_copyFrom_25 : decode cX3_copyFrom 25 = .ok (.aload_n 1, 1) := by decide +kernel
theorem dX3_copyFrom_26 : decode cX3_copyFrom 26 = .ok (.getfield 21, 3) := by decide +kernel
theorem dX3_copyFrom_29 : decode cX3_copyFrom 29 = .ok (.putfield 21, 3) := by decide +kernel
theorem dX3_copyFrom_32 : decode cX3_copyFrom 32 = .ok (.aload_n 0, 1) := by decide +kernel
theorem dX3_copyFrom_33 : decode cX3_copyFrom 33 = .ok (.aload_n 1, 1) := by decide +kernel
theorem dX3_copyFrom_34 : decode cX3_copyFrom 34 = .ok (.getfield 24, 3) := by decide +kernel
theorem dX3_copyFrom_37 : decode cX3_copyFrom 37 = .ok (.putfield 24, 3) := by decide +kernel
theorem dX3_copyFrom_40 : decode cX3_copyFrom 40 = .ok (.aload_n 0, 1) := by decide +kernel
theorem dX3_copyFrom_41 : decode cX3_copyFrom 41 = .ok (.aload_n 1, 1) := by decide +kernel
theorem dX3_copyFrom_42 : decode cX3_copyFrom 42 = .ok (.getfield 27, 3) := by decide +kernel
theorem dX3_copyFrom_45 : decode cX3_copyFrom 45 = .ok (.putfield 27, 3) := by decide +kernel
theorem dX3_copyFrom_48 : decode cX3_copyFrom 48 = .ok (.aload_n 0, 1) := by decide +kernel
theorem dX3_copyFrom_49 : decode cX3_copyFrom 49 = .ok (.aload_n 1, 1) := by decide +kernel
theorem dX3_copyFrom_50 : decode cX3_copyFrom 50 = .ok (.getfield 30, 3) := by decide +kernel
theorem dX3_copyFrom_53 : decode cX3_copyFrom 53 = .ok (.putfield 30, 3) := by decide +kernel
theorem dX3_copyFrom_56 : decode cX3_copyFrom 56 = .ok (.aload_n 0, 1) := by decide +kernel
theorem dX3_copyFrom_57 : decode cX3_copyFrom 57 = .ok (.getfield 36, 3) := by decide +kernel
theorem dX3_copyFrom_60 : decode cX3_copyFrom 60 = .ok (.aload_n 1, 1) := by decide +kernel
theorem dX3_copyFrom_61 : decode cX3_copyFrom 61 = .ok (.getfield 36, 3) := by decide +kernel
theorem dX3_copyFrom_64 : decode cX3_copyFrom 64 = .ok (.invokevirtual 59, 3) := by decide +kernel
theorem dX3_copyFrom_67 : decode cX3_copyFrom 67 = .ok (.aload_n 0, 1) := by decide +kernel
theorem dX3_copyFrom_68 : decode cX3_copyFrom 68 = .ok (.getfield 43, 3) := by decide +kernel
theorem dX3_copyFrom_71 : decode cX3_copyFrom 71 = .ok (.aload_n 1, 1) := by decide +kernel
theorem dX3_copyFrom_72 : decode cX3_copyFrom 72 = .ok (.getfield 43, 3) := by decide +kernel
theorem dX3_copyFrom_75 : decode cX3_copyFrom 75 = .ok (.invokevirtual 63, 3) := by decide +kernel
theorem dX3_copyFrom_78 : decode cX3_copyFrom 78 = .ok (.aload_n 0, 1) := by decide +kernel
theorem dX3_copyFrom_79 : decode cX3_copyFrom 79 = .ok (.getfield 50, 3) := by decide +kernel
theorem dX3_copyFrom_82 : decode cX3_copyFrom 82 = .ok (.aload_n 1, 1) := by decide +kernel
theorem dX3_copyFrom_83 : decode cX3_copyFrom 83 = .ok (.getfield 50, 3) := by decide +kernel
theorem dX3_copyFrom_86 : decode cX3_copyFrom 86 = .ok (.invokevirtual 66, 3) := by decide +kernel
theorem dX3_copyFrom_89 : decode cX3_copyFrom 89 = .ok (.return_, 1) := by decide +kernel
theorem dX3_presentYawn_0 : decode cX3_presentYawn 0 = .ok (.bipush 9, 2) := by decide +kernel
theorem dX3_presentYawn_2 : decode cX3_presentYawn 2 = .ok (.aload_n 0, 1) := by decide +kernel
theorem dX3_presentYawn_3 : decode cX3_presentYawn 3 = .ok (.getfield 9, 3) := by decide +kernel
theorem dX3_presentYawn_6 : decode cX3_presentYawn 6 = .ok (.aload_n 0, 1) := by decide +kernel
theorem dX3_presentYawn_7 : decode cX3_presentYawn 7 = .ok (.getfield 50, 3) := by decide +kernel
theorem dX3_presentYawn_10 : decode cX3_presentYawn 10 = .ok (.invokevirtual 69, 3) := by decide +kernel
theorem dX3_presentYawn_13 : decode cX3_presentYawn 13 = .ok (.isub, 1) := by decide +kernel
theorem dX3_presentYawn_14 : decode cX3_presentYawn 14 = .ok (.bipush 30, 2) := by decide +kernel
theorem dX3_presentYawn_16 : decode cX3_presentYawn 16 = .ok (.idiv, 1) := by decide +kernel
theorem dX3_presentYawn_17 : decode cX3_presentYawn 17 = .ok (.invokestatic 73, 3) := by decide +kernel
theorem dX3_presentYawn_20 : decode cX3_presentYawn 20 = .ok (.ireturn, 1) := by decide +kernel
theorem dX3_tipToGive_0 : decode cX3_tipToGive 0 = .ok (.aload_n 0, 1) := by decide +kernel
theorem dX3_tipToGive_1 : decode cX3_tipToGive 1 = .ok (.getfield 36, 3) := by decide +kernel
theorem dX3_tipToGive_4 : decode cX3_tipToGive 4 = .ok (.getfield 79, 3) := by decide +kernel
theorem dX3_tipToGive_7 : decode cX3_tipToGive 7 = .ok (.iload_n 1, 1) := by decide +kernel
theorem dX3_tipToGive_8 : decode cX3_tipToGive 8 = .ok (.iaload, 1) := by decide +kernel
theorem dX3_tipToGive_9 : decode cX3_tipToGive 9 = .ok (.ifCond .eq 7, 3) := by decide +kernel
theorem dX3_tipToGive_12 : decode cX3_tipToGive 12 = .ok (.iconst 1, 1) := by decide +kernel
theorem dX3_tipToGive_13 : decode cX3_tipToGive 13 = .ok (.goto 4, 3) := by decide +kernel
theorem dX3_tipToGive_16 : decode cX3_tipToGive 16 = .ok (.iconst 0, 1) := by decide +kernel
theorem dX3_tipToGive_17 : decode cX3_tipToGive 17 = .ok (.istore_n 2, 1) := by decide +kernel
theorem dX3_tipToGive_18 : decode cX3_tipToGive 18 = .ok (.iconst 0, 1) := by decide +kernel
theorem dX3_tipToGive_19 : decode cX3_tipToGive 19 = .ok (.aload_n 0, 1) := by decide +kernel
theorem dX3_tipToGive_20 : decode cX3_tipToGive 20 = .ok (.getfield 36, 3) := by decide +kernel
theorem dX3_tipToGive_23 : decode cX3_tipToGive 23 = .ok (.getfield 83, 3) := by decide +kernel
theorem dX3_tipToGive_26 : decode cX3_tipToGive 26 = .ok (.iload_n 1, 1) := by decide +kernel
theorem dX3_tipToGive_27 : decode cX3_tipToGive 27 = .ok (.iaload, 1) := by decide +kernel
theorem dX3_tipToGive_28 : decode cX3_tipToGive 28 = .ok (.aload_n 0, 1) := by decide +kernel
theorem dX3_tipToGive_29 : decode cX3_tipToGive 29 = .ok (.invokevirtual 86, 3) := by decide +kernel
theorem dX3_tipToGive_32 : decode cX3_tipToGive 32 = .ok (.isub, 1) := by decide +kernel
theorem dX3_tipToGive_33 : decode cX3_tipToGive 33 = .ok (.iload_n 2, 1) := by decide +kernel
theorem dX3_tipToGive_34 : decode cX3_tipToGive 34 = .ok (.isub, 1) := by decide +kernel
theorem dX3_tipToGive_35 : decode cX3_tipToGive 35 = .ok (.invokestatic 89, 3) := by decide +kernel
theorem dX3_tipToGive_38 : decode cX3_tipToGive 38 = .ok (.ireturn, 1) := by decide +kernel
theorem dX3_umbrellaToTake_0 : decode cX3_umbrellaToTake 0 = .ok (.aload_n 0, 1) := by decide +kernel
theorem dX3_umbrellaToTake_1 : decode cX3_umbrellaToTake 1 = .ok (.getfield 15, 3) := by decide +kernel
theorem dX3_umbrellaToTake_4 : decode cX3_umbrellaToTake 4 = .ok (.ifCond .ne 5, 3) := by decide +kernel
theorem dX3_umbrellaToTake_7 : decode cX3_umbrellaToTake 7 = .ok (.iconst (-1), 1) := by decide +kernel
theorem dX3_umbrellaToTake_8 : decode cX3_umbrellaToTake 8 = .ok (.ireturn, 1) := by decide +kernel
theorem dX3_umbrellaToTake_9 : decode cX3_umbrellaToTake 9 = .ok (.aload_n 0, 1) := by decide +kernel
theorem dX3_umbrellaToTake_10 : decode cX3_umbrellaToTake 10 = .ok (.getfield 43, 3) := by decide +kernel
theorem dX3_umbrellaToTake_13 : decode cX3_umbrellaToTake 13 = .ok (.iload_n 1, 1) := by decide +kernel
theorem dX3_umbrellaToTake_14 : decode cX3_umbrellaToTake 14 = .ok (.invokevirtual 92, 3) := by decide +kernel
theorem dX3_umbrellaToTake_17 : decode cX3_umbrellaToTake 17 = .ok (.istore_n 2, 1) := by decide +kernel
theorem dX3_umbrellaToTake_18 : decode cX3_umbrellaToTake 18 = .ok (.iload_n 2, 1) := by decide +kernel
theorem dX3_umbrellaToTake_19 : decode cX3_umbrellaToTake 19 = .ok (.iconst (-1), 1) := by decide +kernel
theorem dX3_umbrellaToTake_20 : decode cX3_umbrellaToTake 20 = .ok (.if_icmp .eq 7, 3) := by decide +kernel
theorem dX3_umbrellaToTake_23 : decode cX3_umbrellaToTake 23 = .ok (.iload_n 2, 1) := by decide +kernel
theorem dX3_umbrellaToTake_24 : decode cX3_umbrellaToTake 24 = .ok (.goto 10, 3) := by decide +kernel
theorem dX3_umbrellaToTake_27 : decode cX3_umbrellaToTake 27 = .ok (.aload_n 0, 1) := by decide +kernel
theorem dX3_umbrellaToTake_28 : decode cX3_umbrellaToTake 28 = .ok (.getfield 43, 3) := by decide +kernel
theorem dX3_umbrellaToTake_31 : decode cX3_umbrellaToTake 31 = .ok (.invokevirtual 96, 3) := by decide +kernel
theorem dX3_umbrellaToTake_34 : decode cX3_umbrellaToTake 34 = .ok (.ireturn, 1) := by decide +kernel
theorem dX3_letLeave_0 : decode cX3_letLeave 0 = .ok (.aload_n 0, 1) := by decide +kernel
theorem dX3_letLeave_1 : decode cX3_letLeave 1 = .ok (.iload_n 1, 1) := by decide +kernel
theorem dX3_letLeave_2 : decode cX3_letLeave 2 = .ok (.invokevirtual 99, 3) := by decide +kernel
theorem dX3_letLeave_5 : decode cX3_letLeave 5 = .ok (.istore_n 2, 1) := by decide +kernel
theorem dX3_letLeave_6 : decode cX3_letLeave 6 = .ok (.iload_n 2, 1) := by decide +kernel
theorem dX3_letLeave_7 : decode cX3_letLeave 7 = .ok (.iconst (-1), 1) := by decide +kernel
theorem dX3_letLeave_8 : decode cX3_letLeave 8 = .ok (.if_icmp .eq 13, 3) := by decide +kernel
theorem dX3_letLeave_11 : decode cX3_letLeave 11 = .ok (.aload_n 0, 1) := by decide +kernel
theorem dX3_letLeave_12 : decode cX3_letLeave 12 = .ok (.getfield 43, 3) := by decide +kernel
theorem dX3_letLeave_15 : decode cX3_letLeave 15 = .ok (.getfield 102, 3) := by decide +kernel
theorem dX3_letLeave_18 : decode cX3_letLeave 18 = .ok (.iload_n 2, 1) := by decide +kernel
theorem dX3_letLeave_19 : decode cX3_letLeave 19 = .ok (.iload_n 1, 1) := by decide +kernel
theorem dX3_letLeave_20 : decode cX3_letLeave 20 = .ok (.iastore, 1) := by decide +kernel
theorem dX3_letLeave_21 : decode cX3_letLeave 21 = .ok (.aload_n 0, 1) := by decide +kernel
theorem dX3_letLeave_22 : decode cX3_letLeave 22 = .ok (.getfield 36, 3) := by decide +kernel
theorem dX3_letLeave_25 : decode cX3_letLeave 25 = .ok (.getfield 79, 3) := by decide +kernel
theorem dX3_letLeave_28 : decode cX3_letLeave 28 = .ok (.iload_n 1, 1) := by decide +kernel
theorem dX3_letLeave_29 : decode cX3_letLeave 29 = .ok (.iconst 0, 1) := by decide +kernel
theorem dX3_letLeave_30 : decode cX3_letLeave 30 = .ok (.iastore, 1) := by decide +kernel
theorem dX3_letLeave_31 : decode cX3_letLeave 31 = .ok (.aload_n 0, 1) := by decide +kernel
theorem dX3_letLeave_32 : decode cX3_letLeave 32 = .ok (.getfield 36, 3) := by decide +kernel
theorem dX3_letLeave_35 : decode cX3_letLeave 35 = .ok (.getfield 105, 3) := by decide +kernel
theorem dX3_letLeave_38 : decode cX3_letLeave 38 = .ok (.iload_n 1, 1) := by decide +kernel
theorem dX3_letLeave_39 : decode cX3_letLeave 39 = .ok (.aload_n 0, 1) := by decide +kernel
theorem dX3_letLeave_40 : decode cX3_letLeave 40 = .ok (.getfield 9, 3) := by decide +kernel
theorem dX3_letLeave_43 : decode cX3_letLeave 43 = .ok (.iastore, 1) := by decide +kernel
theorem dX3_letLeave_44 : decode cX3_letLeave 44 = .ok (.aload_n 0, 1) := by decide +kernel
theorem dX3_letLeave_45 : decode cX3_letLeave 45 = .ok (.getfield 50, 3) := by decide +kernel
theorem dX3_letLeave_48 : decode cX3_letLeave 48 = .ok (.aload_n 0, 1) := by decide +kernel
theorem dX3_letLeave_49 : decode cX3_letLeave 49 = .ok (.getfield 9, 3) := by decide +kernel
theorem dX3_letLeave_52 : decode cX3_letLeave 52 = .ok (.iload_n 1, 1) := by decide +kernel
theorem dX3_letLeave_53 : decode cX3_letLeave 53 = .ok (.bipush 45, 2) := by decide +kernel
theorem dX3_letLeave_55 : decode cX3_letLeave 55 = .ok (.invokevirtual 108, 3) := by decide +kernel
theorem dX3_letLeave_58 : decode cX3_letLeave 58 = .ok (.return_, 1) := by decide +kernel
theorem dX3_letReturn_0 : decode cX3_letReturn 0 = .ok (.aload_n 0, 1) := by decide +kernel
theorem dX3_letReturn_1 : decode cX3_letReturn 1 = .ok (.iload_n 1, 1) := by decide +kernel
theorem dX3_letReturn_2 : decode cX3_letReturn 2 = .ok (.invokevirtual 112, 3) := by decide +kernel
theorem dX3_letReturn_5 : decode cX3_letReturn 5 = .ok (.istore_n 2, 1) := by decide +kernel
theorem dX3_letReturn_6 : decode cX3_letReturn 6 = .ok (.aload_n 0, 1) := by decide +kernel
theorem dX3_letReturn_7 : decode cX3_letReturn 7 = .ok (.getfield 43, 3) := by decide +kernel
theorem dX3_letReturn_10 : decode cX3_letReturn 10 = .ok (.iload_n 1, 1) := by decide +kernel
theorem dX3_letReturn_11 : decode cX3_letReturn 11 = .ok (.invokevirtual 115, 3) := by decide +kernel
theorem dX3_letReturn_14 : decode cX3_letReturn 14 = .ok (.istore_n 3, 1) := by decide +kernel
theorem dX3_letReturn_15 : decode cX3_letReturn 15 = .ok (.iload_n 3, 1) := by decide +kernel
theorem dX3_letReturn_16 : decode cX3_letReturn 16 = .ok (.iconst (-1), 1) := by decide +kernel
theorem dX3_letReturn_17 : decode cX3_letReturn 17 = .ok (.if_icmp .eq 13, 3) := by decide +kernel
theorem dX3_letReturn_20 : decode cX3_letReturn 20 = .ok (.aload_n 0, 1) := by decide +kernel
theorem dX3_letReturn_21 : decode cX3_letReturn 21 = .ok (.getfield 43, 3) := by decide +kernel
theorem dX3_letReturn_24 : decode cX3_letReturn 24 = .ok (.getfield 102, 3) := by decide +kernel
theorem dX3_letReturn_27 : decode cX3_letReturn 27 = .ok (.iload_n 3, 1) := by decide +kernel
theorem dX3_letReturn_28 : decode cX3_letReturn 28 = .ok (.iconst (-1), 1) := by decide +kernel
theorem dX3_letReturn_29 : decode cX3_letReturn 29 = .ok (.iastore, 1) := by decide +kernel
theorem dX3_letReturn_30 : decode cX3_letReturn 30 = .ok (.aload_n 0, 1) := by decide +kernel
theorem dX3_letReturn_31 : decode cX3_letReturn 31 = .ok (.getfield 36, 3) := by decide +kernel
theorem dX3_letReturn_34 : decode cX3_letReturn 34 = .ok (.getfield 105, 3) := by decide +kernel
theorem dX3_letReturn_37 : decode cX3_letReturn 37 = .ok (.iload_n 1, 1) := by decide +kernel
theorem dX3_letReturn_38 : decode cX3_letReturn 38 = .ok (.iconst (-1), 1) := by decide +kernel
theorem dX3_letReturn_39 : decode cX3_letReturn 39 = .ok (.iastore, 1) := by decide +kernel
theorem dX3_letReturn_40 : decode cX3_letReturn 40 = .ok (.aload_n 0, 1) := by decide +kernel
theorem dX3_letReturn_41 : decode cX3_letReturn 41 = .ok (.dup, 1) := by decide +kernel
theorem dX3_letReturn_42 : decode cX3_letReturn 42 = .ok (.getfield 30, 3) := by decide +kernel
theorem dX3_letReturn_45 : decode cX3_letReturn 45 = .ok (.iload_n 2, 1) := by decide +kernel
theorem dX3_letReturn_46 : decode cX3_letReturn 46 = .ok (.iadd, 1) := by decide +kernel
theorem dX3_letReturn_47 : decode cX3_letReturn 47 = .ok (.putfield 30, 3) := by decide +kernel
theorem dX3_letReturn_50 : decode cX3_letReturn 50 = .ok (.aload_n 0, 1) := by decide +kernel
theorem dX3_letReturn_51 : decode cX3_letReturn 51 = .ok (.getfield 50, 3) := by decide +kernel
theorem dX3_letReturn_54 : decode cX3_letReturn 54 = .ok (.aload_n 0, 1) := by decide +kernel
theorem dX3_letReturn_55 : decode cX3_letReturn 55 = .ok (.getfield 9, 3) := by decide +kernel
theorem dX3_letReturn_58 : decode cX3_letReturn 58 = .ok (.iload_n 1, 1) := by decide +kernel
theorem dX3_letReturn_59 : decode cX3_letReturn 59 = .ok (.bipush 43, 2) := by decide +kernel
theorem dX3_letReturn_61 : decode cX3_letReturn 61 = .ok (.invokevirtual 108, 3) := by decide +kernel
theorem dX3_letReturn_64 : decode cX3_letReturn 64 = .ok (.iload_n 2, 1) := by decide +kernel
theorem dX3_letReturn_65 : decode cX3_letReturn 65 = .ok (.ireturn, 1) := by decide +kernel
theorem dX3_passOne_0 : decode cX3_passOne 0 = .ok (.aload_n 0, 1) := by decide +kernel
theorem dX3_passOne_1 : decode cX3_passOne 1 = .ok (.dup, 1) := by decide +kernel
theorem dX3_passOne_2 : decode cX3_passOne 2 = .ok (.getfield 9, 3) := by decide +kernel
theorem dX3_passOne_5 : decode cX3_passOne 5 = .ok (.iconst 1, 1) := by decide +kernel
theorem dX3_passOne_6 : decode cX3_passOne 6 = .ok (.iadd, 1) := by decide +kernel
theorem dX3_passOne_7 : decode cX3_passOne 7 = .ok (.putfield 9, 3) := by decide +kernel
theorem dX3_passOne_10 : decode cX3_passOne 10 = .ok (.aload_n 0, 1) := by decide +kernel
theorem dX3_passOne_11 : decode cX3_passOne 11 = .ok (.dup, 1) := by decide +kernel
theorem dX3_passOne_12 : decode cX3_passOne 12 = .ok (.getfield 27, 3) := by decide +kernel
theorem dX3_passOne_15 : decode cX3_passOne 15 = .ok (.aload_n 0, 1) := by decide +kernel
theorem dX3_passOne_16 : decode cX3_passOne 16 = .ok (.getfield 43, 3) := by decide +kernel
theorem dX3_passOne_19 : decode cX3_passOne 19 = .ok (.aload_n 0, 1) := by decide +kernel
theorem dX3_passOne_20 : decode cX3_passOne 20 = .ok (.getfield 15, 3) := by decide +kernel
theorem dX3_passOne_23 : decode cX3_passOne 23 = .ok (.invokevirtual 118, 3) := by decide +kernel
theorem dX3_passOne_26 : decode cX3_passOne 26 = .ok (.iadd, 1) := by decide +kernel
theorem dX3_passOne_27 : decode cX3_passOne 27 = .ok (.putfield 27, 3) := by decide +kernel
theorem dX3_passOne_30 : decode cX3_passOne 30 = .ok (.aload_n 0, 1) := by decide +kernel
theorem dX3_passOne_31 : decode cX3_passOne 31 = .ok (.invokevirtual 121, 3) := by decide +kernel
theorem dX3_passOne_34 : decode cX3_passOne 34 = .ok (.aload_n 0, 1) := by decide +kernel
theorem dX3_passOne_35 : decode cX3_passOne 35 = .ok (.dup, 1) := by decide +kernel
theorem dX3_passOne_36 : decode cX3_passOne 36 = .ok (.getfield 21, 3) := by decide +kernel
theorem dX3_passOne_39 : decode cX3_passOne 39 = .ok (.aload_n 0, 1) := by decide +kernel
theorem dX3_passOne_40 : decode cX3_passOne 40 = .ok (.getfield 36, 3) := by decide +kernel
theorem dX3_passOne_43 : decode cX3_passOne 43 = .ok (.aload_n 0, 1) := by decide +kernel
theorem dX3_passOne_44 : decode cX3_passOne 44 = .ok (.getfield 9, 3) := by decide +kernel
theorem dX3_passOne_47 : decode cX3_passOne 47 = .ok (.invokevirtual 124, 3) := by decide +kernel
theorem dX3_passOne_50 : decode cX3_passOne 50 = .ok (.iadd, 1) := by decide +kernel
theorem dX3_passOne_51 : decode cX3_passOne 51 = .ok (.putfield 21, 3) := by decide +kernel
theorem dX3_passOne_54 : decode cX3_passOne 54 = .ok (.aload_n 0, 1) := by decide +kernel
theorem dX3_passOne_55 : decode cX3_passOne 55 = .ok (.getfield 9, 3) := by decide +kernel
theorem dX3_passOne_58 : decode cX3_passOne 58 = .ok (.bipush 60, 2) := by decide +kernel
theorem dX3_passOne_60 : decode cX3_passOne 60 = .ok (.irem, 1) := by decide +kernel
theorem dX3_passOne_61 : decode cX3_passOne 61 = .ok (.ifCond .ne 29, 3) := by decide +kernel
theorem dX3_passOne_64 : decode cX3_passOne 64 = .ok (.aload_n 0, 1) := by decide +kernel
theorem dX3_passOne_65 : decode cX3_passOne 65 = .ok (.getfield 21, 3) := by decide +kernel
theorem dX3_passOne_68 : decode cX3_passOne 68 = .ok (.aload_n 0, 1) := by decide +kernel
theorem dX3_passOne_69 : decode cX3_passOne 69 = .ok (.getfield 18, 3) := by decide +kernel
theorem dX3_passOne_72 : decode cX3_passOne 72 = .ok (.if_icmp .le 13, 3) := by decide +kernel
theorem dX3_passOne_75 : decode cX3_passOne 75 = .ok (.aload_n 0, 1) := by decide +kernel
theorem dX3_passOne_76 : decode cX3_passOne 76 = .ok (.dup, 1) := by decide +kernel
theorem dX3_passOne_77 : decode cX3_passOne 77 = .ok (.getfield 24, 3) := by decide +kernel
theorem dX3_passOne_80 : decode cX3_passOne 80 = .ok (.iconst 1, 1) := by decide +kernel
theorem dX3_passOne_81 : decode cX3_passOne 81 = .ok (.iadd, 1) := by decide +kernel
theorem dX3_passOne_82 : decode cX3_passOne 82 = .ok (.putfield 24, 3) := by decide +kernel
theorem dX3_passOne_85 : decode cX3_passOne 85 = .ok (.aload_n 0, 1) := by decide +kernel
theorem dX3_passOne_86 : decode cX3_passOne 86 = .ok (.iconst 0, 1) := by decide +kernel
theorem dX3_passOne_87 : decode cX3_passOne 87 = .ok (.putfield 21, 3) := by decide +kernel
theorem dX3_passOne_90 : decode cX3_passOne 90 = .ok (.return_, 1) := by decide +kernel
theorem dX3_soakGuests_0 : decode cX3_soakGuests 0 = .ok (.iconst 0, 1) := by decide +kernel
theorem dX3_soakGuests_1 : decode cX3_soakGuests 1 = .ok (.istore_n 1, 1) := by decide +kernel
theorem dX3_soakGuests_2 : decode cX3_soakGuests 2 = .ok (.iload_n 1, 1) := by decide +kernel
theorem dX3_soakGuests_3 : decode cX3_soakGuests 3 = .ok (.aload_n 0, 1) := by decide +kernel
theorem dX3_soakGuests_4 : decode cX3_soakGuests 4 = .ok (.getfield 36, 3) := by decide +kernel
theorem dX3_soakGuests_7 : decode cX3_soakGuests 7 = .ok (.getfield 54, 3) := by decide +kernel
theorem dX3_soakGuests_10 : decode cX3_soakGuests 10 = .ok (.if_icmp .ge 44, 3) := by decide +kernel
theorem dX3_soakGuests_13 : decode cX3_soakGuests 13 = .ok (.aload_n 0, 1) := by decide +kernel
theorem dX3_soakGuests_14 : decode cX3_soakGuests 14 = .ok (.getfield 36, 3) := by decide +kernel
theorem dX3_soakGuests_17 : decode cX3_soakGuests 17 = .ok (.iload_n 1, 1) := by decide +kernel
theorem dX3_soakGuests_18 : decode cX3_soakGuests 18 = .ok (.invokevirtual 127, 3) := by decide +kernel
theorem dX3_soakGuests_21 : decode cX3_soakGuests 21 = .ok (.ifCond .eq 27, 3) := by decide +kernel
theorem dX3_soakGuests_24 : decode cX3_soakGuests 24 = .ok (.aload_n 0, 1) := by decide +kernel
theorem dX3_soakGuests_25 : decode cX3_soakGuests 25 = .ok (.getfield 43, 3) := by decide +kernel
theorem dX3_soakGuests_28 : decode cX3_soakGuests 28 = .ok (.iload_n 1, 1) := by decide +kernel
theorem dX3_soakGuests_29 : decode cX3_soakGuests 29 = .ok (.invokevirtual 115, 3) := by decide +kernel
theorem dX3_soakGuests_32 : decode cX3_soakGuests 32 = .ok (.iconst (-1), 1) := by decide +kernel
theorem dX3_soakGuests_33 : decode cX3_soakGuests 33 = .ok (.if_icmp .ne 15, 3) := by decide +kernel
theorem dX3_soakGuests_36 : decode cX3_soakGuests 36 = .ok (.aload_n 0, 1) := by decide +kernel
theorem dX3_soakGuests_37 : decode cX3_soakGuests 37 = .ok (.getfield 36, 3) := by decide +kernel
theorem dX3_soakGuests_40 : decode cX3_soakGuests 40 = .ok (.iload_n 1, 1) := by decide +kernel
theorem dX3_soakGuests_41 : decode cX3_soakGuests 41 = .ok (.aload_n 0, 1) := by decide +kernel
theorem dX3_soakGuests_42 : decode cX3_soakGuests 42 = .ok (.getfield 15, 3) := by decide +kernel
theorem dX3_soakGuests_45 : decode cX3_soakGuests 45 = .ok (.invokevirtual 131, 3) := by decide +kernel
theorem dX3_soakGuests_48 : decode cX3_soakGuests 48 = .ok (.iinc 1 1, 3) := by decide +kernel
theorem dX3_soakGuests_51 : decode cX3_soakGuests 51 = .ok (.goto (-49), 3) := by decide +kernel
theorem dX3_soakGuests_54 : decode cX3_soakGuests 54 = .ok (.return_, 1) := by decide +kernel
theorem dX3_foreseeComplaints_0 : decode cX3_foreseeComplaints 0 = .ok (.aload_n 0, 1) := by decide +kernel
theorem dX3_foreseeComplaints_1 : decode cX3_foreseeComplaints 1 = .ok (.getfield 24, 3) := by decide +kernel
theorem dX3_foreseeComplaints_4 : decode cX3_foreseeComplaints 4 = .ok (.istore_n 2, 1) := by decide +kernel
theorem dX3_foreseeComplaints_5 : decode cX3_foreseeComplaints 5 = .ok (.aload_n 0, 1) := by decide +kernel
theorem dX3_foreseeComplaints_6 : decode cX3_foreseeComplaints 6 = .ok (.getfield 21, 3) := by decide +kernel
theorem dX3_foreseeComplaints_9 : decode cX3_foreseeComplaints 9 = .ok (.istore_n 3, 1) := by decide +kernel
theorem dX3_foreseeComplaints_10 : decode cX3_foreseeComplaints 10 = .ok (.iconst 1, 1) := by decide +kernel
theorem dX3_foreseeComplaints_11 : decode cX3_foreseeComplaints 11 = .ok (.istore 4, 2) := by decide +kernel
theorem dX3_foreseeComplaints_13 : decode cX3_foreseeComplaints 13 = .ok (.iload 4, 2) := by decide +kernel
theorem dX3_foreseeComplaints_15 : decode cX3_foreseeComplaints 15 = .ok (.iload_n 1, 1) := by decide +kernel
theorem dX3_foreseeComplaints_16 : decode cX3_foreseeComplaints 16 = .ok (.if_icmp .gt 52, 3) := by decide +kernel
theorem dX3_foreseeComplaints_19 : decode cX3_foreseeComplaints 19 = .ok (.iload_n 3, 1) := by decide +kernel
theorem dX3_foreseeComplaints_20 : decode cX3_foreseeComplaints 20 = .ok (.aload_n 0, 1) := by decide +kernel
theorem dX3_foreseeComplaints_21 : decode cX3_foreseeComplaints 21 = .ok (.getfield 36, 3) := by decide +kernel
theorem dX3_foreseeComplaints_24 : decode cX3_foreseeComplaints 24 = .ok (.aload_n 0, 1) := by decide +kernel
theorem dX3_foreseeComplaints_25 : decode cX3_foreseeComplaints 25 = .ok (.getfield 9, 3) := by decide +kernel
theorem dX3_foreseeComplaints_28 : decode cX3_foreseeComplaints 28 = .ok (.iload 4, 2) := by decide +kernel
theorem dX3_foreseeComplaints_30 : decode cX3_foreseeComplaints 30 = .ok (.iadd, 1) := by decide +kernel
theorem dX3_foreseeComplaints_31 : decode cX3_foreseeComplaints 31 = .ok (.invokevirtual 124, 3) := by decide +kernel
theorem dX3_foreseeComplaints_34 : decode cX3_foreseeComplaints 34 = .ok (.iadd, 1) := by decide +kernel
theorem dX3_foreseeComplaints_35 : decode cX3_foreseeComplaints 35 = .ok (.istore_n 3, 1) := by decide +kernel
theorem dX3_foreseeComplaints_36 : decode cX3_foreseeComplaints 36 = .ok (.aload_n 0, 1) := by decide +kernel
theorem dX3_foreseeComplaints_37 : decode cX3_foreseeComplaints 37 = .ok (.getfield 9, 3) := by decide +kernel
theorem dX3_foreseeComplaints_40 : decode cX3_foreseeComplaints 40 = .ok (.iload 4, 2) := by decide +kernel
theorem dX3_foreseeComplaints_42 : decode cX3_foreseeComplaints 42 = .ok (.iadd, 1) := by decide +kernel
theorem dX3_foreseeComplaints_43 : decode cX3_foreseeComplaints 43 = .ok (.bipush 60, 2) := by decide +kernel
theorem dX3_foreseeComplaints_45 : decode cX3_foreseeComplaints 45 = .ok (.irem, 1) := by decide +kernel
theorem dX3_foreseeComplaints_46 : decode cX3_foreseeComplaints 46 = .ok (.ifCond .ne 16, 3) := by decide +kernel
theorem dX3_foreseeComplaints_49 : decode cX3_foreseeComplaints 49 = .ok (.iload_n 3, 1) := by decide +kernel
theorem dX3_foreseeComplaints_50 : decode cX3_foreseeComplaints 50 = .ok (.aload_n 0, 1) := by decide +kernel
theorem dX3_foreseeComplaints_51 : decode cX3_foreseeComplaints 51 = .ok (.getfield 18, 3) := by decide +kernel
theorem dX3_foreseeComplaints_54 : decode cX3_foreseeComplaints 54 = .ok (.if_icmp .le 6, 3) := by decide +kernel
theorem dX3_foreseeComplaints_57 : decode cX3_foreseeComplaints 57 = .ok (.iinc 2 1, 3) := by decide +kernel
theorem dX3_foreseeComplaints_60 : decode cX3_foreseeComplaints 60 = .ok (.iconst 0, 1) := by decide +kernel
theorem dX3_foreseeComplaints_61 : decode cX3_foreseeComplaints 61 = .ok (.istore_n 3, 1) := by decide +kernel
theorem dX3_foreseeComplaints_62 : decode cX3_foreseeComplaints 62 = .ok (.iinc 4 1, 3) := by decide +kernel
theorem dX3_foreseeComplaints_65 : decode cX3_foreseeComplaints 65 = .ok (.goto (-52), 3) := by decide +kernel
theorem dX3_foreseeComplaints_68 : decode cX3_foreseeComplaints 68 = .ok (.iload_n 2, 1) := by decide +kernel
theorem dX3_foreseeComplaints_69 : decode cX3_foreseeComplaints 69 = .ok (.ireturn, 1) := by decide +kernel
theorem dX3_sumOfMinutesAway_0 : decode cX3_sumOfMinutesAway 0 = .ok (.aload_n 0, 1) := by decide +kernel
theorem dX3_sumOfMinutesAway_1 : decode cX3_sumOfMinutesAway 1 = .ok (.getfield 50, 3) := by decide +kernel
theorem dX3_sumOfMinutesAway_4 : decode cX3_sumOfMinutesAway 4 = .ok (.iload_n 1, 1) := by decide +kernel
theorem dX3_sumOfMinutesAway_5 : decode cX3_sumOfMinutesAway 5 = .ok (.iload_n 2, 1) := by decide +kernel
theorem dX3_sumOfMinutesAway_6 : decode cX3_sumOfMinutesAway 6 = .ok (.iconst 0, 1) := by decide +kernel
theorem dX3_sumOfMinutesAway_7 : decode cX3_sumOfMinutesAway 7 = .ok (.aload_n 0, 1) := by decide +kernel
theorem dX3_sumOfMinutesAway_8 : decode cX3_sumOfMinutesAway 8 = .ok (.getfield 9, 3) := by decide +kernel
theorem dX3_sumOfMinutesAway_11 : decode cX3_sumOfMinutesAway 11 = .ok (.invokevirtual 135, 3) := by decide +kernel
theorem dX3_sumOfMinutesAway_14 : decode cX3_sumOfMinutesAway 14 = .ok (.ireturn, 1) := by decide +kernel
theorem dX3_countSuspects_0 : decode cX3_countSuspects 0 = .ok (.iconst 0, 1) := by decide +kernel
theorem dX3_countSuspects_1 : decode cX3_countSuspects 1 = .ok (.istore_n 3, 1) := by decide +kernel
theorem dX3_countSuspects_2 : decode cX3_countSuspects 2 = .ok (.iconst 0, 1) := by decide +kernel
theorem dX3_countSuspects_3 : decode cX3_countSuspects 3 = .ok (.istore 4, 2) := by decide +kernel
theorem dX3_countSuspects_5 : decode cX3_countSuspects 5 = .ok (.iload 4, 2) := by decide +kernel
theorem dX3_countSuspects_7 : decode cX3_countSuspects 7 = .ok (.aload_n 0, 1) := by decide +kernel
theorem dX3_countSuspects_8 : decode cX3_countSuspects 8 = .ok (.getfield 36, 3) := by decide +kernel
theorem dX3_countSuspects_11 : decode cX3_countSuspects 11 = .ok (.getfield 54, 3) := by decide +kernel
theorem dX3_countSuspects_14 : decode cX3_countSuspects 14 = .ok (.if_icmp .ge 26, 3) := by decide +kernel
theorem dX3_countSuspects_17 : decode cX3_countSuspects 17 = .ok (.aload_n 0, 1) := by decide +kernel
theorem dX3_countSuspects_18 : decode cX3_countSuspects 18 = .ok (.getfield 50, 3) := by decide +kernel
theorem dX3_countSuspects_21 : decode cX3_countSuspects 21 = .ok (.iload 4, 2) := by decide +kernel
theorem dX3_countSuspects_23 : decode cX3_countSuspects 23 = .ok (.iload_n 1, 1) := by decide +kernel
theorem dX3_countSuspects_24 : decode cX3_countSuspects 24 = .ok (.iload_n 2, 1) := by decide +kernel
theorem dX3_countSuspects_25 : decode cX3_countSuspects 25 = .ok (.invokevirtual 139, 3) := by decide +kernel
theorem dX3_countSuspects_28 : decode cX3_countSuspects 28 = .ok (.ifCond .ne 6, 3) := by decide +kernel
theorem dX3_countSuspects_31 : decode cX3_countSuspects 31 = .ok (.iinc 3 1, 3) := by decide +kernel
theorem dX3_countSuspects_34 : decode cX3_countSuspects 34 = .ok (.iinc 4 1, 3) := by decide +kernel
theorem dX3_countSuspects_37 : decode cX3_countSuspects 37 = .ok (.goto (-32), 3) := by decide +kernel
theorem dX3_countSuspects_40 : decode cX3_countSuspects 40 = .ok (.iload_n 3, 1) := by decide +kernel
theorem dX3_countSuspects_41 : decode cX3_countSuspects 41 = .ok (.ireturn, 1) := by decide +kernel
theorem dX3_firstSuspect_0 : decode cX3_firstSuspect 0 = .ok (.iconst 0, 1) := by decide +kernel
theorem dX3_firstSuspect_1 : decode cX3_firstSuspect 1 = .ok (.istore_n 3, 1) := by decide +kernel
theorem dX3_firstSuspect_2 : decode cX3_firstSuspect 2 = .ok (.iload_n 3, 1) := by decide +kernel
theorem dX3_firstSuspect_3 : decode cX3_firstSuspect 3 = .ok (.aload_n 0, 1) := by decide +kernel
theorem dX3_firstSuspect_4 : decode cX3_firstSuspect 4 = .ok (.getfield 36, 3) := by decide +kernel
theorem dX3_firstSuspect_7 : decode cX3_firstSuspect 7 = .ok (.getfield 54, 3) := by decide +kernel
theorem dX3_firstSuspect_10 : decode cX3_firstSuspect 10 = .ok (.if_icmp .ge 24, 3) := by decide +kernel
theorem dX3_firstSuspect_13 : decode cX3_firstSuspect 13 = .ok (.aload_n 0, 1) := by decide +kernel
theorem dX3_firstSuspect_14 : decode cX3_firstSuspect 14 = .ok (.getfield 50, 3) := by decide +kernel
theorem dX3_firstSuspect_17 : decode cX3_firstSuspect 17 = .ok (.iload_n 3, 1) := by decide +kernel
theorem dX3_firstSuspect_18 : decode cX3_firstSuspect 18 = .ok (.iload_n 1, 1) := by decide +kernel
theorem dX3_firstSuspect_19 : decode cX3_firstSuspect 19 = .ok (.iload_n 2, 1) := by decide +kernel
theorem dX3_firstSuspect_20 : decode cX3_firstSuspect 20 = .ok (.invokevirtual 139, 3) := by decide +kernel
theorem dX3_firstSuspect_23 : decode cX3_firstSuspect 23 = .ok (.ifCond .ne 5, 3) := by decide +kernel
theorem dX3_firstSuspect_26 : decode cX3_firstSuspect 26 = .ok (.iload_n 3, 1) := by decide +kernel
theorem dX3_firstSuspect_27 : decode cX3_firstSuspect 27 = .ok (.ireturn, 1) := by decide +kernel
theorem dX3_firstSuspect_28 : decode cX3_firstSuspect 28 = .ok (.iinc 3 1, 3) := by decide +kernel
theorem dX3_firstSuspect_31 : decode cX3_firstSuspect 31 = .ok (.goto (-29), 3) := by decide +kernel
theorem dX3_firstSuspect_34 : decode cX3_firstSuspect 34 = .ok (.iconst (-1), 1) := by decide +kernel
theorem dX3_firstSuspect_35 : decode cX3_firstSuspect 35 = .ok (.ireturn, 1) := by decide +kernel
theorem dX4_init_0 : decode cX4_init 0 = .ok (.aload_n 0, 1) := by decide +kernel
theorem dX4_init_1 : decode cX4_init 1 = .ok (.invokespecial 3, 3) := by decide +kernel
theorem dX4_init_4 : decode cX4_init 4 = .ok (.aload_n 0, 1) := by decide +kernel
theorem dX4_init_5 : decode cX4_init 5 = .ok (.iconst 0, 1) := by decide +kernel
theorem dX4_init_6 : decode cX4_init 6 = .ok (.putfield 11, 3) := by decide +kernel
theorem dX4_init_9 : decode cX4_init 9 = .ok (.aload_n 0, 1) := by decide +kernel
theorem dX4_init_10 : decode cX4_init 10 = .ok (.iconst 0, 1) := by decide +kernel
theorem dX4_init_11 : decode cX4_init 11 = .ok (.putfield 15, 3) := by decide +kernel
theorem dX4_init_14 : decode cX4_init 14 = .ok (.aload_n 0, 1) := by decide +kernel
theorem dX4_init_15 : decode cX4_init 15 = .ok (.iconst 0, 1) := by decide +kernel
theorem dX4_init_16 : decode cX4_init 16 = .ok (.putfield 18, 3) := by decide +kernel
theorem dX4_init_19 : decode cX4_init 19 = .ok (.aload_n 0, 1) := by decide +kernel
theorem dX4_init_20 : decode cX4_init 20 = .ok (.iconst 0, 1) := by decide +kernel
theorem dX4_init_21 : decode cX4_init 21 = .ok (.putfield 21, 3) := by decide +kernel
theorem dX4_init_24 : decode cX4_init 24 = .ok (.aload_n 0, 1) := by decide +kernel
theorem dX4_init_25 : decode cX4_init 25 = .ok (.aload_n 1, 1) := by decide +kernel
theorem dX4_init_26 : decode cX4_init 26 = .ok (.putfield 24, 3) := by decide +kernel
theorem dX4_init_29 : decode cX4_init 29 = .ok (.return_, 1) := by decide +kernel
theorem dX4_readText_0 : decode cX4_readText 0 = .ok (.aload_n 1, 1) := by decide +kernel
theorem dX4_readText_1 : decode cX4_readText 1 = .ok (.invokevirtual 28, 3) := by decide +kernel
theorem dX4_readText_4 : decode cX4_readText 4 = .ok (.aload_n 0, 1) := by decide +kernel
theorem dX4_readText_5 : decode cX4_readText 5 = .ok (.iconst 0, 1) := by decide +kernel
theorem dX4_readText_6 : decode cX4_readText 6 = .ok (.putfield 18, 3) := by decide +kernel
theorem dX4_readText_9 : decode cX4_readText 9 = .ok (.aload_n 0, 1) := by decide +kernel
theorem dX4_readText_10 : decode cX4_readText 10 = .ok (.invokevirtual 33, 3) := by decide +kernel
theorem dX4_readText_13 : decode cX4_readText 13 = .ok (.aload_n 0, 1) := by decide +kernel
theorem dX4_readText_14 : decode cX4_readText 14 = .ok (.aload_n 1, 1) := by decide +kernel
theorem dX4_readText_15 : decode cX4_readText 15 = .ok (.invokevirtual 36, 3) := by decide +kernel
theorem dX4_readText_18 : decode cX4_readText 18 = .ok (.ifCond .eq 14, 3) := by decide +kernel
theorem dX4_readText_21 : decode cX4_readText 21 = .ok (.aload_n 0, 1) := by decide +kernel
theorem dX4_readText_22 : decode cX4_readText 22 = .ok (.invokevirtual 40, 3) := by decide +kernel
theorem dX4_readText_25 : decode cX4_readText 25 = .ok (.ifCond .eq 7, 3) := by decide +kernel
theorem dX4_readText_28 : decode cX4_readText 28 = .ok (.iconst 1, 1) := by decide +kernel
theorem dX4_readText_29 : decode cX4_readText 29 = .ok (.goto 4, 3) := by decide +kernel
theorem dX4_readText_32 : decode cX4_readText 32 = .ok (.iconst 0, 1) := by decide +kernel
theorem dX4_readText_33 : decode cX4_readText 33 = .ok (.istore_n 2, 1) := by decide +kernel
theorem dX4_readText_34 : decode cX4_readText 34 = .ok (.iconst 0, 1) := by decide +kernel
theorem dX4_readText_35 : decode cX4_readText 35 = .ok (.istore_n 3, 1) := by decide +kernel
theorem dX4_readText_36 : decode cX4_readText 36 = .ok (.iload_n 3, 1) := by decide +kernel
theorem dX4_readText_37 : decode cX4_readText 37 = .ok (.bipush 10, 2) := by decide +kernel
theorem dX4_readText_39 : decode cX4_readText 39 = .ok (.if_icmp .ge 46, 3) := by decide +kernel
theorem dX4_readText_42 : decode cX4_readText 42 = .ok (.iload_n 2, 1) := by decide +kernel
theorem dX4_readText_43 : decode cX4_readText 43 = .ok (.ifCond .eq 42, 3) := by decide +kernel
theorem dX4_readText_46 : decode cX4_readText 46 = .ok (.aload_n 0, 1) := by decide +kernel
theorem dX4_readText_47 : decode cX4_readText 47 = .ok (.ldc 44, 2) := by decide +kernel
theorem dX4_readText_49 : decode cX4_readText 49 = .ok (.invokevirtual 46, 3) := by decide +kernel
theorem dX4_readText_52 : decode cX4_readText 52 = .ok (.ifCond .eq 33, 3) := by decide +kernel
theorem dX4_readText_55 : decode cX4_readText 55 = .ok (.aload_n 0, 1) := by decide +kernel
theorem dX4_readText_56 : decode cX4_readText 56 = .ok (.aload_n 1, 1) := by decide +kernel
theorem dX4_readText_57 : decode cX4_readText 57 = .ok (.getfield 50, 3) := by decide +kernel
theorem dX4_readText_60 : decode cX4_readText 60 = .ok (.invokevirtual 54, 3) := by decide +kernel
theorem dX4_readText_63 : decode cX4_readText 63 = .ok (.ifCond .eq 14, 3) := by decide +kernel
theorem dX4_readText_66 : decode cX4_readText 66 = .ok (.aload_n 0, 1) := by decide +kernel
theorem dX4_readText_67 : decode cX4_readText 67 = .ok (.invokevirtual 40, 3) := by decide +kernel
theorem dX4_readText_70 : decode cX4_readText 70 = .ok (.ifCond .eq 7, 3) := by decide +kernel
theorem dX4_readText_73 : decode cX4_readText 73 = .ok (.iconst 1, 1) := by decide +kernel
theorem dX4_readText_74 : decode cX4_readText 74 = .ok (.goto 4, 3) := by decide +kernel
theorem dX4_readText_77 : decode cX4_readText 77 = .ok (.iconst 0, 1) := by decide +kernel
theorem dX4_readText_78 : decode cX4_readText 78 = .ok (.istore_n 2, 1) := by decide +kernel
theorem dX4_readText_79 : decode cX4_readText 79 = .ok (.iinc 3 1, 3) := by decide +kernel
theorem dX4_readText_82 : decode cX4_readText 82 = .ok (.goto (-46), 3) := by decide +kernel
theorem dX4_readText_85 : decode cX4_readText 85 = .ok (.iconst 0, 1) := by decide +kernel
theorem dX4_readText_86 : decode cX4_readText 86 = .ok (.istore_n 3, 1) := by decide +kernel
theorem dX4_readText_87 : decode cX4_readText 87 = .ok (.iload_n 3, 1) := by decide +kernel
theorem dX4_readText_88 : decode cX4_readText 88 = .ok (.bipush 12, 2) := by decide +kernel
theorem dX4_readText_90 : decode cX4_readText 90 = .ok (.if_icmp .ge 43, 3) := by decide +kernel
theorem dX4_readText_93 : decode cX4_readText 93 = .ok (.iload_n 2, 1) := by decide +kernel
theorem dX4_readText_94 : decode cX4_readText 94 = .ok (.ifCond .eq 39, 3) := by decide +kernel
theorem dX4_readText_97 : decode cX4_readText 97 = .ok (.aload_n 0, 1) := by decide +kernel
theorem dX4_readText_98 : decode cX4_readText 98 = .ok (.ldc 58, 2) := by decide +kernel
theorem dX4_readText_100 : decode cX4_readText 100 = .ok (.invokevirtual 46, 3) := by decide +kernel
theorem dX4_readText_103 : decode cX4_readText 103 = .ok (.ifCond .eq 30, 3) := by decide +kernel
theorem dX4_readText_106 : decode cX4_readText 106 = .ok (.aload_n 0, 1) := by decide +kernel
theorem dX4_readText_107 : decode cX4_readText 107 = .ok (.aload_n 1, 1) := by decide +kernel
theorem dX4_readText_108 : decode cX4_readText 108 = .ok (.invokevirtual 60, 3) := by decide +kernel
theorem dX4_readText_111 : decode cX4_readText 111 = .ok (.ifCond .eq 14, 3) := by decide +kernel
theorem dX4_readText_114 : decode cX4_readText 114 = .ok (.aload_n 0, 1) := by decide +kernel
theorem dX4_readText_115 : decode cX4_readText 115 = .ok (.invokevirtual 40, 3) := by decide +kernel
theorem dX4_readText_118 : decode cX4_readText 118 = .ok (.ifCond .eq 7, 3) := by decide +kernel
theorem dX4_readText_121 : decode cX4_readText 121 = .ok (.iconst 1, 1) := by decide +kernel
theorem dX4_readText_122 : decode cX4_readText 122 = .ok (.goto 4, 3) := by decide +kernel
theorem dX4_readText_125 : decode cX4_readText 125 = .ok (.iconst 0, 1) := by decide +kernel
theorem dX4_readText_126 : decode cX4_readText 126 = .ok (.istore_n 2, 1) := by decide +kernel
theorem dX4_readText_127 : decode cX4_readText 127 = .ok (.iinc 3 1, 3) := by decide +kernel
theorem dX4_readText_130 : decode cX4_readText 130 = .ok (.goto (-43), 3) := by decide +kernel
theorem dX4_readText_133 : decode cX4_readText 133 = .ok (.iload_n 2, 1) := by decide +kernel
theorem dX4_readText_134 : decode cX4_readText 134 = .ok (.ifCond .eq 14, 3) := by decide +kernel
theorem dX4_readText_137 : decode cX4_readText 137 = .ok (.aload_n 0, 1) := by decide +kernel
theorem dX4_readText_138 : decode cX4_readText 138 = .ok (.getfield 11, 3) := by decide +kernel
theorem dX4_readText_141 : decode cX4_readText 141 = .ok (.ifCond .ne 7, 3) := by decide +kernel
theorem dX4_readText_144 : decode cX4_readText 144 = .ok (.iconst (-1), 1) := by decide +kernel
theorem dX4_readText_145 : decode cX4_readText 145 = .ok (.goto 7, 3) := by decide +kernel
theorem dX4_readText_148 : decode cX4_readText 148 = .ok (.aload_n 0, 1) := by decide +kernel
theorem dX4_readText_149 : decode cX4_readText 149 = .ok (.getfield 15, 3) := by decide +kernel
theorem dX4_readText_152 : decode cX4_readText 152 = .ok (.ireturn, 1) := by decide +kernel
theorem dX4_readHead_0 : decode cX4_readHead 0 = .ok (.aload_n 0, 1) := by decide +kernel
theorem dX4_readHead_1 : decode cX4_readHead 1 = .ok (.ldc 63, 2) := by decide +kernel
theorem dX4_readHead_3 : decode cX4_readHead 3 = .ok (.invokevirtual 46, 3) := by decide +kernel
theorem dX4_readHead_6 : decode cX4_readHead 6 = .ok (.ifCond .ne 5, 3) := by decide +kernel
theorem dX4_readHead_9 : decode cX4_readHead 9 = .ok (.iconst 0, 1) := by decide +kernel
theorem dX4_readHead_10 : decode cX4_readHead 10 = .ok (.ireturn, 1) := by decide +kernel
theorem dX4_readHead_11 : decode cX4_readHead 11 = .ok (.aload_n 0, 1) := by decide +kernel
theorem dX4_readHead_12 : decode cX4_readHead 12 = .ok (.invokevirtual 33, 3) := by decide +kernel
theorem dX4_readHead_15 : decode cX4_readHead 15 = .ok (.aload_n 0, 1) := by decide +kernel
theorem dX4_readHead_16 : decode cX4_readHead 16 = .ok (.iconst 0, 1) := by decide +kernel
theorem dX4_readHead_17 : decode cX4_readHead 17 = .ok (.bipush 9, 2) := by decide +kernel
theorem dX4_readHead_19 : decode cX4_readHead 19 = .ok (.invokevirtual 65, 3) := by decide +kernel
theorem dX4_readHead_22 : decode cX4_readHead 22 = .ok (.ifCond .ne 5, 3) := by decide +kernel
theorem dX4_readHead_25 : decode cX4_readHead 25 = .ok (.iconst 0, 1) := by decide +kernel
theorem dX4_readHead_26 : decode cX4_readHead 26 = .ok (.ireturn, 1) := by decide +kernel
theorem dX4_readHead_27 : decode cX4_readHead 27 = .ok (.aload_n 1, 1) := by decide +kernel
theorem dX4_readHead_28 : decode cX4_readHead 28 = .ok (.aload_n 0, 1) := by decide +kernel
theorem dX4_readHead_29 : decode cX4_readHead 29 = .ok (.getfield 21, 3) := by decide +kernel
theorem dX4_readHead_32 : decode cX4_readHead 32 = .ok (.putfield 69, 3) := by decide +kernel
theorem dX4_readHead_35 : decode cX4_readHead 35 = .ok (.aload_n 0, 1) := by decide +kernel
theorem dX4_readHead_36 : decode cX4_readHead 36 = .ok (.invokevirtual 33, 3) := by decide +kernel
theorem dX4_readHead_39 : decode cX4_readHead 39 = .ok (.aload_n 0, 1) := by decide +kernel
theorem dX4_readHead_40 : decode cX4_readHead 40 = .ok (.iconst 0, 1) := by decide +kernel
theorem dX4_readHead_41 : decode cX4_readHead 41 = .ok (.sipush 999, 3) := by decide +kernel
theorem dX4_readHead_44 : decode cX4_readHead 44 = .ok (.invokevirtual 65, 3) := by decide +kernel
theorem dX4_readHead_47 : decode cX4_readHead 47 = .ok (.ifCond .ne 5, 3) := by decide +kernel
theorem dX4_readHead_50 : decode cX4_readHead 50 = .ok (.iconst 0, 1) := by decide +kernel
theorem dX4_readHead_51 : decode cX4_readHead 51 = .ok (.ireturn, 1) := by decide +kernel
theorem dX4_readHead_52 : decode cX4_readHead 52 = .ok (.aload_n 1, 1) := by decide +kernel
theorem dX4_readHead_53 : decode cX4_readHead 53 = .ok (.aload_n 0, 1) := by decide +kernel
theorem dX4_readHead_54 : decode cX4_readHead 54 = .ok (.getfield 21, 3) := by decide +kernel
theorem dX4_readHead_57 : decode cX4_readHead 57 = .ok (.putfield 72, 3) := by decide +kernel
theorem dX4_readHead_60 : decode cX4_readHead 60 = .ok (.aload_n 0, 1) := by decide +kernel
theorem dX4_readHead_61 : decode cX4_readHead 61 = .ok (.invokevirtual 33, 3) := by decide +kernel
theorem dX4_readHead_64 : decode cX4_readHead 64 = .ok (.iconst 1, 1) := by decide +kernel
theorem dX4_readHead_65 : decode cX4_readHead 65 = .ok (.ireturn, 1) := by decide +kernel
theorem dX4_readGuest_0 : decode cX4_readGuest 0 = .ok (.aload_n 0, 1) := by decide +kernel
theorem dX4_readGuest_1 : decode cX4_readGuest 1 = .ok (.invokevirtual 33, 3) := by decide +kernel
theorem dX4_readGuest_4 : decode cX4_readGuest 4 = .ok (.aload_n 0, 1) := by decide +kernel
theorem dX4_readGuest_5 : decode cX4_readGuest 5 = .ok (.getfield 15, 3) := by decide +kernel
theorem dX4_readGuest_8 : decode cX4_readGuest 8 = .ok (.istore_n 2, 1) := by decide +kernel
theorem dX4_readGuest_9 : decode cX4_readGuest 9 = .ok (.aload_n 0, 1) := by decide +kernel
theorem dX4_readGuest_10 : decode cX4_readGuest 10 = .ok (.getfield 18, 3) := by decide +kernel
theorem dX4_readGuest_13 : decode cX4_readGuest 13 = .ok (.aload_n 0, 1) := by decide +kernel
theorem dX4_readGuest_14 : decode cX4_readGuest 14 = .ok (.getfield 15, 3) := by decide +kernel
theorem dX4_readGuest_17 : decode cX4_readGuest 17 = .ok (.isub, 1) := by decide +kernel
theorem dX4_readGuest_18 : decode cX4_readGuest 18 = .ok (.istore_n 3, 1) := by decide +kernel
theorem dX4_readGuest_19 : decode cX4_readGuest 19 = .ok (.aload_n 0, 1) := by decide +kernel
theorem dX4_readGuest_20 : decode cX4_readGuest 20 = .ok (.getfield 11, 3) := by decide +kernel
theorem dX4_readGuest_23 : decode cX4_readGuest 23 = .ok (.iconst 1, 1) := by decide +kernel
theorem dX4_readGuest_24 : decode cX4_readGuest 24 = .ok (.if_icmp .ne 25, 3) := by decide +kernel
theorem dX4_readGuest_27 : decode cX4_readGuest 27 = .ok (.iload_n 3, 1) := by decide +kernel
theorem dX4_readGuest_28 : decode cX4_readGuest 28 = .ok (.iconst 5, 1) := by decide +kernel
theorem dX4_readGuest_29 : decode cX4_readGuest 29 = .ok (.if_icmp .gt 20, 3) := by decide +kernel
theorem dX4_readGuest_32 : decode cX4_readGuest 32 = .ok (.aload_n 1, 1) := by decide +kernel
theorem dX4_readGuest_33 : decode cX4_readGuest 33 = .ok (.aload_n 0, 1) := by decide +kernel
theorem dX4_readGuest_34 : decode cX4_readGuest 34 = .ok (.getfield 24, 3) := by decide +kernel
theorem dX4_readGuest_37 : decode cX4_readGuest 37 = .ok (.aload_n 0, 1) := by decide +kernel
theorem dX4_readGuest_38 : decode cX4_readGuest 38 = .ok (.getfield 15, 3) := by decide +kernel
theorem dX4_readGuest_41 : decode cX4_readGuest 41 = .ok (.iload_n 3, 1) := by decide +kernel
theorem dX4_readGuest_42 : decode cX4_readGuest 42 = .ok (.invokevirtual 75, 3) := by decide +kernel
theorem dX4_readGuest_45 : decode cX4_readGuest 45 = .ok (.iconst (-1), 1) := by decide +kernel
theorem dX4_readGuest_46 : decode cX4_readGuest 46 = .ok (.if_icmp .eq 5, 3) := by decide +kernel
theorem dX4_readGuest_49 : decode cX4_readGuest 49 = .ok (.iconst 0, 1) := by decide +kernel
theorem dX4_readGuest_50 : decode cX4_readGuest 50 = .ok (.ireturn, 1) := by decide +kernel
theorem dX4_readGuest_51 : decode cX4_readGuest 51 = .ok (.aload_n 0, 1) := by decide +kernel
theorem dX4_readGuest_52 : decode cX4_readGuest 52 = .ok (.invokevirtual 33, 3) := by decide +kernel
theorem dX4_readGuest_55 : decode cX4_readGuest 55 = .ok (.aload_n 0, 1) := by decide +kernel
theorem dX4_readGuest_56 : decode cX4_readGuest 56 = .ok (.iconst 0, 1) := by decide +kernel
theorem dX4_readGuest_57 : decode cX4_readGuest 57 = .ok (.bipush 9, 2) := by decide +kernel
theorem dX4_readGuest_59 : decode cX4_readGuest 59 = .ok (.invokevirtual 65, 3) := by decide +kernel
theorem dX4_readGuest_62 : decode cX4_readGuest 62 = .ok (.ifCond .ne 5, 3) := by decide +kernel
theorem dX4_readGuest_65 : decode cX4_readGuest 65 = .ok (.iconst 0, 1) := by decide +kernel
theorem dX4_readGuest_66 : decode cX4_readGuest 66 = .ok (.ireturn, 1) := by decide +kernel
theorem dX4_readGuest_67 : decode cX4_readGuest 67 = .ok (.aload_n 0, 1) := by decide +kernel
theorem dX4_readGuest_68 : decode cX4_readGuest 68 = .ok (.getfield 21, 3) := by decide +kernel
theorem dX4_readGuest_71 : decode cX4_readGuest 71 = .ok (.istore 4, 2) := by decide +kernel
theorem dX4_readGuest_73 : decode cX4_readGuest 73 = .ok (.iconst 0, 1) := by decide +kernel
theorem dX4_readGuest_74 : decode cX4_readGuest 74 = .ok (.istore 5, 2) := by decide +kernel
theorem dX4_readGuest_76 : decode cX4_readGuest 76 = .ok (.aload_n 0, 1) := by decide +kernel
theorem dX4_readGuest_77 : decode cX4_readGuest 77 = .ok (.invokevirtual 33, 3) := by decide +kernel
theorem dX4_readGuest_80 : decode cX4_readGuest 80 = .ok (.aload_n 0, 1) := by decide +kernel
theorem dX4_readGuest_81 : decode cX4_readGuest 81 = .ok (.ldc 81, 2) := by decide +kernel
theorem dX4_readGuest_83 : decode cX4_readGuest 83 = .ok (.invokevirtual 46, 3) := by decide +kernel
theorem dX4_readGuest_86 : decode cX4_readGuest 86 = .ok (.ifCond .eq 29, 3) := by decide +kernel
theorem dX4_readGuest_89 : decode cX4_readGuest 89 = .ok (.aload_n 0, 1) := by decide +kernel
theorem dX4_readGuest_90 : decode cX4_readGuest 90 = .ok (.invokevirtual 33, 3) := by decide +kernel
theorem dX4_readGuest_93 : decode cX4_readGuest 93 = .ok (.aload_n 0, 1) := by decide +kernel
theorem dX4_readGuest_94 : decode cX4_readGuest 94 = .ok (.iconst 1, 1) := by decide +kernel
theorem dX4_readGuest_95 : decode cX4_readGuest 95 = .ok (.bipush 9, 2) := by decide +kernel
theorem dX4_readGuest_97 : decode cX4_readGuest 97 = .ok (.invokevirtual 65, 3) := by decide +kernel
theorem dX4_readGuest_100 : decode cX4_readGuest 100 = .ok (.ifCond .ne 5, 3) := by decide +kernel
theorem dX4_readGuest_103 : decode cX4_readGuest 103 = .ok (.iconst 0, 1) := by decide +kernel
theorem dX4_readGuest_104 : decode cX4_readGuest 104 = .ok (.ireturn, 1) := by decide +kernel
theorem dX4_readGuest_105 : decode cX4_readGuest 105 = .ok (.aload_n 0, 1) := by decide +kernel
theorem dX4_readGuest_106 : decode cX4_readGuest 106 = .ok (.getfield 21, 3) := by decide +kernel
theorem dX4_readGuest_109 : decode cX4_readGuest 109 = .ok (.istore 5, 2) := by decide +kernel
theorem dX4_readGuest_111 : decode cX4_readGuest 111 = .ok (.aload_n 0, 1) := by decide +kernel
theorem dX4_readGuest_112 : decode cX4_readGuest 112 = .ok (.invokevirtual 33, 3) := by decide +kernel
theorem dX4_readGuest_115 : decode cX4_readGuest 115 = .ok (.aload_n 1, 1) := by decide +kernel
theorem dX4_readGuest_116 : decode cX4_readGuest 116 = .ok (.aload_n 0, 1) := by decide +kernel
theorem dX4_readGuest_117 : decode cX4_readGuest 117 = .ok (.getfield 24, 3) := by decide +kernel
theorem dX4_readGuest_120 : decode cX4_readGuest 120 = .ok (.iload_n 2, 1) := by decide +kernel
theorem dX4_readGuest_121 : decode cX4_readGuest 121 = .ok (.iload_n 3, 1) := by decide +kernel
theorem dX4_readGuest_122 : decode cX4_readGuest 122 = .ok (.iload 4, 2) := by decide +kernel
theorem dX4_readGuest_124 : decode cX4_readGuest 124 = .ok (.iload 5, 2) := by decide +kernel
theorem dX4_readGuest_126 : decode cX4_readGuest 126 = .ok (.invokevirtual 83, 3) := by decide +kernel
theorem dX4_readGuest_129 : decode cX4_readGuest 129 = .ok (.pop, 1) := by decide +kernel
theorem dX4_readGuest_130 : decode cX4_readGuest 130 = .ok (.iconst 1, 1) := by decide +kernel
theorem dX4_readGuest_131 : decode cX4_readGuest 131 = .ok (.ireturn, 1) := by decide +kernel
theorem dX4_readUmbrella_0 : decode cX4_readUmbrella 0 = .ok (.aload_n 0, 1) := by decide +kernel
theorem dX4_readUmbrella_1 : decode cX4_readUmbrella 1 = .ok (.invokevirtual 33, 3) := by decide +kernel
theorem dX4_readUmbrella_4 : decode cX4_readUmbrella 4 = .ok (.aload_n 0, 1) := by decide +kernel
theorem dX4_readUmbrella_5 : decode cX4_readUmbrella 5 = .ok (.getfield 11, 3) := by decide +kernel
theorem dX4_readUmbrella_8 : decode cX4_readUmbrella 8 = .ok (.iconst 1, 1) := by decide +kernel
theorem dX4_readUmbrella_9 : decode cX4_readUmbrella 9 = .ok (.if_icmp .ne 30, 3) := by decide +kernel
theorem dX4_readUmbrella_12 : decode cX4_readUmbrella 12 = .ok (.aload_n 1, 1) := by decide +kernel
theorem dX4_readUmbrella_13 : decode cX4_readUmbrella 13 = .ok (.getfield 50, 3) := by decide +kernel
theorem dX4_readUmbrella_16 : decode cX4_readUmbrella 16 = .ok (.aload_n 0, 1) := by decide +kernel
theorem dX4_readUmbrella_17 : decode cX4_readUmbrella 17 = .ok (.getfield 24, 3) := by decide +kernel
theorem dX4_readUmbrella_20 : decode cX4_readUmbrella 20 = .ok (.aload_n 0, 1) := by decide +kernel
theorem dX4_readUmbrella_21 : decode cX4_readUmbrella 21 = .ok (.getfield 15, 3) := by decide +kernel
theorem dX4_readUmbrella_24 : decode cX4_readUmbrella 24 = .ok (.aload_n 0, 1) := by decide +kernel
theorem dX4_readUmbrella_25 : decode cX4_readUmbrella 25 = .ok (.getfield 18, 3) := by decide +kernel
theorem dX4_readUmbrella_28 : decode cX4_readUmbrella 28 = .ok (.aload_n 0, 1) := by decide +kernel
theorem dX4_readUmbrella_29 : decode cX4_readUmbrella 29 = .ok (.getfield 15, 3) := by decide +kernel
theorem dX4_readUmbrella_32 : decode cX4_readUmbrella 32 = .ok (.isub, 1) := by decide +kernel
theorem dX4_readUmbrella_33 : decode cX4_readUmbrella 33 = .ok (.invokevirtual 75, 3) := by decide +kernel
theorem dX4_readUmbrella_36 : decode cX4_readUmbrella 36 = .ok (.goto 4, 3) := by decide +kernel
theorem dX4_readUmbrella_39 : decode cX4_readUmbrella 39 = .ok (.iconst (-1), 1) := by decide +kernel
theorem dX4_readUmbrella_40 : decode cX4_readUmbrella 40 = .ok (.istore_n 2, 1) := by decide +kernel
theorem dX4_readUmbrella_41 : decode cX4_readUmbrella 41 = .ok (.iload_n 2, 1) := by decide +kernel
theorem dX4_readUmbrella_42 : decode cX4_readUmbrella 42 = .ok (.iconst (-1), 1) := by decide +kernel
theorem dX4_readUmbrella_43 : decode cX4_readUmbrella 43 = .ok (.if_icmp .ne 5, 3) := by decide +kernel
theorem dX4_readUmbrella_46 : decode cX4_readUmbrella 46 = .ok (.iconst 0, 1) := by decide +kernel
theorem dX4_readUmbrella_47 : decode cX4_readUmbrella 47 = .ok (.ireturn, 1) := by decide +kernel
theorem dX4_readUmbrella_48 : decode cX4_readUmbrella 48 = .ok (.aload_n 0, 1) := by decide +kernel
theorem dX4_readUmbrella_49 : decode cX4_readUmbrella 49 = .ok (.invokevirtual 33, 3) := by decide +kernel
theorem dX4_readUmbrella_52 : decode cX4_readUmbrella 52 = .ok (.aload_n 0, 1) := by decide +kernel
theorem dX4_readUmbrella_53 : decode cX4_readUmbrella 53 = .ok (.iconst 0, 1) := by decide +kernel
theorem dX4_readUmbrella_54 : decode cX4_readUmbrella 54 = .ok (.bipush 99, 2) := by decide +kernel
theorem dX4_readUmbrella_56 : decode cX4_readUmbrella 56 = .ok (.invokevirtual 65, 3) := by decide +kernel
theorem dX4_readUmbrella_59 : decode cX4_readUmbrella 59 = .ok (.ifCond .ne 5, 3) := by decide +kernel
theorem dX4_readUmbrella_62 : decode cX4_readUmbrella 62 = .ok (.iconst 0, 1) := by decide +kernel
theorem dX4_readUmbrella_63 : decode cX4_readUmbrella 63 = .ok (.ireturn, 1) := by decide +kernel
theorem dX4_readUmbrella_64 : decode cX4_readUmbrella 64 = .ok (.aload_n 1, 1) := by decide +kernel
theorem dX4_readUmbrella_65 : decode cX4_readUmbrella 65 = .ok (.getfield 87, 3) := by decide +kernel
theorem dX4_readUmbrella_68 : decode cX4_readUmbrella 68 = .ok (.iload_n 2, 1) := by decide +kernel
theorem dX4_readUmbrella_69 : decode cX4_readUmbrella 69 = .ok (.aload_n 0, 1) := by decide +kernel
theorem dX4_readUmbrella_70 : decode cX4_readUmbrella 70 = .ok (.getfield 21, 3) := by decide +kernel
theorem dX4_readUmbrella_73 : decode cX4_readUmbrella 73 = .ok (.invokevirtual 91, 3) := by decide +kernel
theorem dX4_readUmbrella_76 : decode cX4_readUmbrella 76 = .ok (.pop, 1) := by decide +kernel
theorem dX4_readUmbrella_77 : decode cX4_readUmbrella 77 = .ok (.aload_n 0, 1) := by decide +kernel
theorem dX4_readUmbrella_78 : decode cX4_readUmbrella 78 = .ok (.invokevirtual 33, 3) := by decide +kernel
theorem dX4_readUmbrella_81 : decode cX4_readUmbrella 81 = .ok (.iconst 1, 1) := by decide +kernel
theorem dX4_readUmbrella_82 : decode cX4_readUmbrella 82 = .ok (.ireturn, 1) := by decide +kernel
theorem dX4_passSemicolon_0 : decode cX4_passSemicolon 0 = .ok (.aload_n 0, 1) := by decide +kernel
theorem dX4_passSemicolon_1 : decode cX4_passSemicolon 1 = .ok (.getfield 11, 3) := by decide +kernel
theorem dX4_passSemicolon_4 : decode cX4_passSemicolon 4 = .ok (.iconst 3, 1) := by decide +kernel
theorem dX4_passSemicolon_5 : decode cX4_passSemicolon 5 = .ok (.if_icmp .eq 5, 3) := by decide +kernel
theorem dX4_passSemicolon_8 : decode cX4_passSemicolon 8 = .ok (.iconst 0, 1) := by decide +kernel
theorem dX4_passSemicolon_9 : decode cX4_passSemicolon 9 = .ok (.ireturn, 1) := by decide +kernel
theorem dX4_passSemicolon_10 : decode cX4_passSemicolon 10 = .ok (.aload_n 0, 1) := by decide +kernel
theorem dX4_passSemicolon_11 : decode cX4_passSemicolon 11 = .ok (.invokevirtual 33, 3) := by decide +kernel
theorem dX4_passSemicolon_14 : decode cX4_passSemicolon 14 = .ok (.iconst 1, 1) := by decide +kernel
theorem dX4_passSemicolon_15 : decode cX4_passSemicolon 15 = .ok (.ireturn, 1) := by decide +kernel
theorem dX4_isNumber_0 : decode cX4_isNumber 0 = .ok (.aload_n 0, 1) := by decide +kernel
theorem dX4_isNumber_1 : decode cX4_isNumber 1 = .ok (.getfield 11, 3) := by decide +kernel
theorem dX4_isNumber_4 : decode cX4_isNumber 4 = .ok (.iconst 2, 1) := by decide +kernel
theorem dX4_isNumber_5 : decode cX4_isNumber 5 = .ok (.if_icmp .ne 23, 3) := by decide +kernel
theorem dX4_isNumber_8 : decode cX4_isNumber 8 = .ok (.aload_n 0, 1) := by decide +kernel
theorem dX4_isNumber_9 : decode cX4_isNumber 9 = .ok (.getfield 21, 3) := by decide +kernel
theorem dX4_isNumber_12 : decode cX4_isNumber 12 = .ok (.iload_n 1, 1) := by decide +kernel
theorem dX4_isNumber_13 : decode cX4_isNumber 13 = .ok (.if_icmp .lt 15, 3) := by decide +kernel
theorem dX4_isNumber_16 : decode cX4_isNumber 16 = .ok (.aload_n 0, 1) := by decide +kernel
theorem dX4_isNumber_17 : decode cX4_isNumber 17 = .ok (.getfield 21, 3) := by decide +kernel
theorem dX4_isNumber_20 : decode cX4_isNumber 20 = .ok (.iload_n 2, 1) := by decide +kernel
theorem dX4_isNumber_21 : decode cX4_isNumber 21 = .ok (.if_icmp .gt 7, 3) := by decide +kernel
theorem dX4_isNumber_24 : decode cX4_isNumber 24 = .ok (.iconst 1, 1) := by decide +kernel
theorem dX4_isNumber_25 : decode cX4_isNumber 25 = .ok (.goto 4, 3) := by decide +kernel
theorem dX4_isNumber_28 : decode cX4_isNumber 28 = .ok (.iconst 0, 1) := by decide +kernel
theorem dX4_isNumber_29 : decode cX4_isNumber 29 = .ok (.ireturn, 1) := by decide +kernel
theorem dX4_isWord_0 : decode cX4_isWord 0 = .ok (.aload_n 0, 1) := by decide +kernel
theorem dX4_isWord_1 : decode cX4_isWord 1 = .ok (.getfield 11, 3) := by decide +kernel
theorem dX4_isWord_4 : decode cX4_isWord 4 = .ok (.iconst 1, 1) := by decide +kernel
theorem dX4_isWord_5 : decode cX4_isWord 5 = .ok (.if_icmp .ne 19, 3) := by decide +kernel
theorem dX4_isWord_8 : decode cX4_isWord 8 = .ok (.aload_n 0, 1) := by decide +kernel
theorem dX4_isWord_9 : decode cX4_isWord 9 = .ok (.getfield 18, 3) := by decide +kernel
theorem dX4_isWord_12 : decode cX4_isWord 12 = .ok (.aload_n 0, 1) := by decide +kernel
theorem dX4_isWord_13 : decode cX4_isWord 13 = .ok (.getfield 15, 3) := by decide +kernel
theorem dX4_isWord_16 : decode cX4_isWord 16 = .ok (.isub, 1) := by decide +kernel
theorem dX4_isWord_17 : decode cX4_isWord 17 = .ok (.aload_n 1, 1) := by decide +kernel
theorem dX4_isWord_18 : decode cX4_isWord 18 = .ok (.invokevirtual 96, 3) := by decide +kernel
theorem dX4_isWord_21 : decode cX4_isWord 21 = .ok (.if_icmp .eq 5, 3) := by decide +kernel
theorem dX4_isWord_24 : decode cX4_isWord 24 = .ok (.iconst 0, 1) := by decide +kernel
theorem dX4_isWord_25 : decode cX4_isWord 25 = .ok (.ireturn, 1) := by decide +kernel
theorem dX4_isWord_26 : decode cX4_isWord 26 = .ok (.iconst 0, 1) := by decide +kernel
theorem dX4_isWord_27 : decode cX4_isWord 27 = .ok (.istore_n 2, 1) := by decide +kernel
theorem dX4_isWord_28 : decode cX4_isWord 28 = .ok (.iload_n 2, 1) := by decide +kernel
theorem dX4_isWord_29 : decode cX4_isWord 29 = .ok (.aload_n 1, 1) := by decide +kernel
theorem dX4_isWord_30 : decode cX4_isWord 30 = .ok (.invokevirtual 96, 3) := by decide +kernel
theorem dX4_isWord_33 : decode cX4_isWord 33 = .ok (.if_icmp .ge 33, 3) := by decide +kernel
theorem dX4_isWord_36 : decode cX4_isWord 36 = .ok (.aload_n 0, 1) := by decide +kernel
theorem dX4_isWord_37 : decode cX4_isWord 37 = .ok (.getfield 24, 3) := by decide +kernel
theorem dX4_isWord_40 : decode cX4_isWord 40 = .ok (.getfield 102, 3) := by decide +kernel
theorem dX4_isWord_43 : decode cX4_isWord 43 = .ok (.aload_n 0, 1) := by decide +kernel
theorem dX4_isWord_44 : decode cX4_isWord 44 = .ok (.getfield 15, 3) := by decide +kernel
theorem dX4_isWord_47 : decode cX4_isWord 47 = .ok (.iload_n 2, 1) := by decide +kernel
theorem dX4_isWord_48 : decode cX4_isWord 48 = .ok (.iadd, 1) := by decide +kernel
theorem dX4_isWord_49 : decode cX4_isWord 49 = .ok (.iaload, 1) := by decide +kernel
theorem dX4_isWord_50 : decode cX4_isWord 50 = .ok (.aload_n 1, 1) := by decide +kernel
theorem dX4_isWord_51 : decode cX4_isWord 51 = .ok (.iload_n 2, 1) := by decide +kernel
theorem dX4_isWord_52 : decode cX4_isWord 52 = .ok (.invokevirtual 108, 3) := by decide +kernel
theorem dX4_isWord_55 : decode cX4_isWord 55 = .ok (.if_icmp .eq 5, 3) := by decide +kernel
theorem dX4_isWord_58 : decode cX4_isWord 58 = .ok (.iconst 0, 1) := by decide +kernel
theorem dX4_isWord_59 : decode cX4_isWord 59 = .ok (.ireturn, 1) := by decide +kernel
theorem dX4_isWord_60 : decode cX4_isWord 60 = .ok (.iinc 2 1, 3) := by decide +kernel
theorem dX4_isWord_63 : decode cX4_isWord 63 = .ok (.goto (-35), 3) := by decide +kernel
theorem dX4_isWord_66 : decode cX4_isWord 66 = .ok (.iconst 1, 1) := by decide +kernel
theorem dX4_isWord_67 : decode cX4_isWord 67 = .ok (.ireturn, 1) := by decide +kernel
theorem dX4_advance_0 : decode cX4_advance 0 = .ok (.aload_n 0, 1) := by decide +kernel
theorem dX4_advance_1 : decode cX4_advance 1 = .ok (.aload_n 0, 1) := by decide +kernel
theorem dX4_advance_2 : decode cX4_advance 2 = .ok (.getfield 18, 3) := by decide +kernel
theorem dX4_advance_5 : decode cX4_advance 5 = .ok (.putfield 15, 3) := by decide +kernel
theorem dX4_advance_8 : decode cX4_advance 8 = .ok (.aload_n 0, 1) := by decide +kernel
theorem dX4_advance_9 : decode cX4_advance 9 = .ok (.getfield 15, 3) := by decide +kernel
theorem dX4_advance_12 : decode cX4_advance 12 = .ok (.aload_n 0, 1) := by decide +kernel
theorem dX4_advance_13 : decode cX4_advance 13 = .ok (.getfield 24, 3) := by decide +kernel
theorem dX4_advance_16 : decode cX4_advance 16 = .ok (.getfield 112, 3) := by decide +kernel
theorem dX4_advance_19 : decode cX4_advance 19 = .ok (.if_icmp .ge 34, 3) := by decide +kernel
theorem dX4_advance_22 : decode cX4_advance 22 = .ok (.aload_n 0, 1) := by decide +kernel
theorem dX4_advance_23 : decode cX4_advance 23 = .ok (.getfield 24, 3) := by decide +kernel
theorem dX4_advance_26 : decode cX4_advance 26 = .ok (.getfield 102, 3) := by decide +kernel
theorem dX4_advance_29 : decode cX4_advance 29 = .ok (.aload_n 0, 1) := by decide +kernel
theorem dX4_advance_30 : decode cX4_advance 30 = .ok (.getfield 15, 3) := by decide +kernel
theorem dX4_advance_33 : decode cX4_advance 33 = .ok (.iaload, 1) := by decide +kernel
theorem dX4_advance_34 : decode cX4_advance 34 = .ok (.invokestatic 114, 3) := by decide +kernel
theorem dX4_advance_37 : decode cX4_advance 37 = .ok (.ifCond .eq 16, 3) := by decide +kernel
theorem dX4_advance_40 : decode cX4_advance 40 = .ok (.aload_n 0, 1) := by decide +kernel
theorem dX4_advance_41 : decode cX4_advance 41 = .ok (.dup, 1) := by decide +kernel
theorem dX4_advance_42 : decode cX4_advance 42 = .ok (.getfield 15, 3) := by decide +kernel
theorem dX4_advance_45 : decode cX4_advance 45 = .ok (.iconst 1, 1) := by decide +kernel
theorem dX4_advance_46 : decode cX4_advance 46 = .ok (.iadd, 1) := by decide +kernel
theorem dX4_advance_47 : decode cX4_advance 47 = .ok (.putfield 15, 3) := by decide +kernel
theorem dX4_advance_50 : decode cX4_advance 50 = .ok (.goto (-42), 3) := by decide +kernel
theorem dX4_advance_53 : decode cX4_advance 53 = .ok (.aload_n 0, 1) := by decide +kernel
theorem dX4_advance_54 : decode cX4_advance 54 = .ok (.aload_n 0, 1) := by decide +kernel
theorem dX4_advance_55 : decode cX4_advance 55 = .ok (.getfield 15, 3) := by decide +kernel
theorem dX4_advance_58 : decode cX4_advance 58 = .ok (.putfield 18, 3) := by decide +kernel
theorem dX4_advance_61 : decode cX4_advance 61 = .ok (.aload_n 0, 1) := by decide +kernel
theorem dX4_advance_62 : decode cX4_advance 62 = .ok (.getfield 15, 3) := by decide +kernel
theorem dX4_advance_65 : decode cX4_advance 65 = .ok (.aload_n 0, 1) := by decide +kernel
theorem dX4_advance_66 : decode cX4_advance 66 = .ok (.getfield 24, 3) := by decide +kernel
theorem dX4_advance_69 : decode cX4_advance 69 = .ok (.getfield 112, 3) := by decide +kernel
theorem dX4_advance_72 : decode cX4_advance 72 = .ok (.if_icmp .lt 11, 3) := by decide +kernel
theorem dX4_advance_75 : decode cX4_advance 75 = .ok (.aload_n 0, 1) := by decide +kernel
theorem dX4_advance_76 : decode cX4_advance 76 = .ok (.iconst 0, 1) := by decide +kernel
theorem dX4_advance_77 : decode cX4_advance 77 = .ok (.putfield 11, 3) := by decide +kernel
theorem dX4_advance_80 : decode cX4_advance 80 = .ok (.goto 89, 3) := by decide +kernel
theorem dX4_advance_83 : decode cX4_advance 83 = .ok (.aload_n 0, 1) := by decide +kernel
theorem dX4_advance_84 : decode cX4_advance 84 = .ok (.getfield 24, 3) := by decide +kernel
theorem dX4_advance_87 : decode cX4_advance 87 = .ok (.getfield 102, 3) := by decide +kernel
theorem dX4_advance_90 : decode cX4_advance 90 = .ok (.aload_n 0, 1) := by decide +kernel
theorem dX4_advance_91 : decode cX4_advance 91 = .ok (.getfield 15, 3) := by decide +kernel
theorem dX4_advance_94 : decode cX4_advance 94 = .ok (.iaload, 1) := by decide +kernel
theorem dX4_advance_95 : decode cX4_advance 95 = .ok (.invokestatic 118, 3) := by decide +kernel
theorem dX4_advance_98 : decode cX4_advance 98 = .ok (.ifCond .eq 10, 3) := by decide +kernel
theorem dX4_advance_101 : decode cX4_advance 101 = .ok (.aload_n 0, 1) := by decide +kernel
theorem dX4_advance_102 : decode cX4_advance 102 = .ok (.invokevirtual 121, 3) := by decide +kernel
theorem dX4_advance_105 : decode cX4_advance 105 = .ok (.goto 64, 3) := by decide +kernel
theorem dX4_advance_108 : decode cX4_advance 108 = .ok (.aload_n 0, 1) := by decide +kernel
theorem dX4_advance_109 : decode cX4_advance 109 = .ok (.getfield 24, 3) := by decide +kernel
theorem dX4_advance_112 : decode cX4_advance 112 = .ok (.getfield 102, 3) := by decide +kernel
theorem dX4_advance_115 : decode cX4_advance 115 = .ok (.aload_n 0, 1) := by decide +kernel
theorem dX4_advance_116 : decode cX4_advance 116 = .ok (.getfield 15, 3) := by decide +kernel
theorem dX4_advance_119 : decode cX4_advance 119 = .ok (.iaload, 1) := by decide +kernel
theorem dX4_advance_120 : decode cX4_advance 120 = .ok (.invokestatic 124, 3) := by decide +kernel
theorem dX4_advance_123 : decode cX4_advance 123 = .ok (.ifCond .eq 10, 3) := by decide +kernel
theorem dX4_advance_126 : decode cX4_advance 126 = .ok (.aload_n 0, 1) := by decide +kernel
theorem dX4_advance_127 : decode cX4_advance 127 = .ok (.invokevirtual 127, 3) := by decide +kernel
theorem dX4_advance_130 : decode cX4_advance 130 = .ok (.goto 39, 3) := by decide +kernel
theorem dX4_advance_133 : decode cX4_advance 133 = .ok (.aload_n 0, 1) := by decide +kernel
theorem dX4_advance_134 : decode cX4_advance 134 = .ok (.aload_n 0, 1) := by decide +kernel
theorem dX4_advance_135 : decode cX4_advance 135 = .ok (.getfield 24, 3) := by decide +kernel
theorem dX4_advance_138 : decode cX4_advance 138 = .ok (.getfield 102, 3) := by decide +kernel
theorem dX4_advance_141 : decode cX4_advance 141 = .ok (.aload_n 0, 1) := by decide +kernel
theorem dX4_advance_142 : decode cX4_advance 142 = .ok (.getfield 15, 3) := by decide +kernel
theorem dX4_advance_145 : decode cX4_advance 145 = .ok (.iaload, 1) := by decide +kernel
theorem dX4_advance_146 : decode cX4_advance 146 = .ok (.bipush 59, 2) := by decide +kernel
theorem dX4_advance_148 : decode cX4_advance 148 = .ok (.if_icmp .ne 7, 3) := by decide +kernel
theorem dX4_advance_151 : decode cX4_advance 151 = .ok (.iconst 3, 1) := by decide +kernel
theorem dX4_advance_152 : decode cX4_advance 152 = .ok (.goto 4, 3) := by decide +kernel
theorem dX4_advance_155 : decode cX4_advance 155 = .ok (.iconst 4, 1) := by decide +kernel
theorem dX4_advance_156 : decode cX4_advance 156 = .ok (.putfield 11, 3) := by decide +kernel
theorem dX4_advance_159 : decode cX4_advance 159 = .ok (.aload_n 0, 1) := by decide +kernel
theorem dX4_advance_160 : decode cX4_advance 160 = .ok (.aload_n 0, 1) := by decide +kernel
theorem dX4_advance_161 : decode cX4_advance 161 = .ok (.getfield 15, 3) := by decide +kernel
theorem dX4_advance_164 : decode cX4_advance 164 = .ok (.iconst 1, 1) := by decide +kernel
theorem dX4_advance_165 : decode cX4_advance 165 = .ok (.iadd, 1) := by decide +kernel
theorem dX4_advance_166 : decode cX4_advance 166 = .ok (.putfield 18, 3) := by decide +kernel
theorem dX4_advance_169 : decode cX4_advance 169 = .ok (.return_, 1) := by decide +kernel
theorem dX4_takeWord_0 : decode cX4_takeWord 0 = .ok (.aload_n 0, 1) := by decide +kernel
theorem dX4_takeWord_1 : decode cX4_takeWord 1 = .ok (.getfield 18, 3) := by decide +kernel
theorem dX4_takeWord_4 : decode cX4_takeWord 4 = .ok (.aload_n 0, 1) := by decide +kernel
theorem dX4_takeWord_5 : decode cX4_takeWord 5 = .ok (.getfield 24, 3) := by decide +kernel
theorem dX4_takeWord_8 : decode cX4_takeWord 8 = .ok (.getfield 112, 3) := by decide +kernel
theorem dX4_takeWord_11 : decode cX4_takeWord 11 = .ok (.if_icmp .ge 34, 3) := by decide +kernel
theorem dX4_takeWord_14 : decode cX4_takeWord 14 = .ok (.aload_n 0, 1) := by decide +kernel
theorem dX4_takeWord_15 : decode cX4_takeWord 15 = .ok (.getfield 24, 3) := by decide +kernel
theorem dX4_takeWord_18 : decode cX4_takeWord 18 = .ok (.getfield 102, 3) := by decide +kernel
theorem dX4_takeWord_21 : decode cX4_takeWord 21 = .ok (.aload_n 0, 1) := by decide +kernel
theorem dX4_takeWord_22 : decode cX4_takeWord 22 = .ok (.getfield 18, 3) := by decide +kernel
theorem dX4_takeWord_25 : decode cX4_takeWord 25 = .ok (.iaload, 1) := by decide +kernel
theorem dX4_takeWord_26 : decode cX4_takeWord 26 = .ok (.invokestatic 118, 3) := by decide +kernel
theorem dX4_takeWord_29 : decode cX4_takeWord 29 = .ok (.ifCond .eq 16, 3) := by decide +kernel
theorem dX4_takeWord_32 : decode cX4_takeWord 32 = .ok (.aload_n 0, 1) := by decide +kernel
theorem dX4_takeWord_33 : decode cX4_takeWord 33 = .ok (.dup, 1) := by decide +kernel
theorem dX4_takeWord_34 : decode cX4_takeWord 34 = .ok (.getfield 18, 3) := by decide +kernel
theorem dX4_takeWord_37 : decode cX4_takeWord 37 = .ok (.iconst 1, 1) := by decide +kernel
theorem dX4_takeWord_38 : decode cX4_takeWord 38 = .ok (.iadd, 1) := by decide +kernel
theorem dX4_takeWord_39 : decode cX4_takeWord 39 = .ok (.putfield 18, 3) := by decide +kernel
theorem dX4_takeWord_42 : decode cX4_takeWord 42 = .ok (.goto (-42), 3) := by decide +kernel
theorem dX4_takeWord_45 : decode cX4_takeWord 45 = .ok (.aload_n 0, 1) := by decide +kernel
theorem dX4_takeWord_46 : decode cX4_takeWord 46 = .ok (.iconst 1, 1) := by decide +kernel
theorem dX4_takeWord_47 : decode cX4_takeWord 47 = .ok (.putfield 11, 3) := by decide +kernel
theorem dX4_takeWord_50 : decode cX4_takeWord 50 = .ok (.return_, 1) := by decide +kernel
theorem dX4_takeNumber_0 : decode cX4_takeNumber 0 = .ok (.aload_n 0, 1) := by decide +kernel
theorem dX4_takeNumber_1 : decode cX4_takeNumber 1 = .ok (.iconst 0, 1) := by decide +kernel
theorem dX4_takeNumber_2 : decode cX4_takeNumber 2 = .ok (.putfield 21, 3) := by decide +kernel
theorem dX4_takeNumber_5 : decode cX4_takeNumber 5 = .ok (.aload_n 0, 1) := by decide +kernel
theorem dX4_takeNumber_6 : decode cX4_takeNumber 6 = .ok (.getfield 18, 3) := by decide +kernel
theorem dX4_takeNumber_9 : decode cX4_takeNumber 9 = .ok (.aload_n 0, 1) := by decide +kernel
theorem dX4_takeNumber_10 : decode cX4_takeNumber 10 = .ok (.getfield 24, 3) := by decide +kernel
theorem dX4_takeNumber_13 : decode cX4_takeNumber 13 = .ok (.getfield 112, 3) := by decide +kernel
theorem dX4_takeNumber_16 : decode cX4_takeNumber 16 = .ok (.if_icmp .ge 61, 3) := by decide +kernel
theorem dX4_takeNumber_19 : decode cX4_takeNumber 19 = .ok (.aload_n 0, 1) := by decide +kernel
theorem dX4_takeNumber_20 : decode cX4_takeNumber 20 = .ok (.getfield 24, 3) := by decide +kernel
theorem dX4_takeNumber_23 : decode cX4_takeNumber 23 = .ok (.getfield 102, 3) := by decide +kernel
theorem dX4_takeNumber_26 : decode cX4_takeNumber 26 = .ok (.aload_n 0, 1) := by decide +kernel
theorem dX4_takeNumber_27 : decode cX4_takeNumber 27 = .ok (.getfield 18, 3) := by decide +kernel
theorem dX4_takeNumber_30 : decode cX4_takeNumber 30 = .ok (.iaload, 1) := by decide +kernel
theorem dX4_takeNumber_31 : decode cX4_takeNumber 31 = .ok (.invokestatic 124, 3) := by decide +kernel
theorem dX4_takeNumber_34 : decode cX4_takeNumber 34 = .ok (.ifCond .eq 43, 3) := by decide +kernel
theorem dX4_takeNumber_37 : decode cX4_takeNumber 37 = .ok (.aload_n 0, 1) := by decide +kernel
theorem dX4_takeNumber_38 : decode cX4_takeNumber 38 = .ok (.aload_n 0, 1) := by decide +kernel
theorem dX4_takeNumber_39 : decode cX4_takeNumber 39 = .ok (.getfield 21, 3) := by decide +kernel
theorem dX4_takeNumber_42 : decode cX4_takeNumber 42 = .ok (.bipush 10, 2) := by decide +kernel
theorem dX4_takeNumber_44 : decode cX4_takeNumber 44 = .ok (.imul, 1) := by decide +kernel
theorem dX4_takeNumber_45 : decode cX4_takeNumber 45 = .ok (.aload_n 0, 1) := by decide +kernel
theorem dX4_takeNumber_46 : decode cX4_takeNumber 46 = .ok (.getfield 24, 3) := by decide +kernel
theorem dX4_takeNumber_49 : decode cX4_takeNumber 49 = .ok (.getfield 102, 3) := by decide +kernel
theorem dX4_takeNumber_52 : decode cX4_takeNumber 52 = .ok (.aload_n 0, 1) := by decide +kernel
theorem dX4_takeNumber_53 : decode cX4_takeNumber 53 = .ok (.getfield 18, 3) := by decide +kernel
theorem dX4_takeNumber_56 : decode cX4_takeNumber 56 = .ok (.iaload, 1) := by decide +kernel
theorem dX4_takeNumber_57 : decode cX4_takeNumber 57 = .ok (.iadd, 1) := by decide +kernel
theorem dX4_takeNumber_58 : decode cX4_takeNumber 58 = .ok (.bipush 48, 2) := by decide +kernel
theorem dX4_takeNumber_60 : decode cX4_takeNumber 60 = .ok (.isub, 1) := by decide +kernel
theorem dX4_takeNumber_61 : decode cX4_takeNumber 61 = .ok (.putfield 21, 3) := by decide +kernel
theorem dX4_takeNumber_64 : decode cX4_takeNumber 64 = .ok (.aload_n 0, 1) := by decide +kernel
theorem dX4_takeNumber_65 : decode cX4_takeNumber 65 = .ok (.dup, 1) := by decide +kernel
theorem dX4_takeNumber_66 : decode cX4_takeNumber 66 = .ok (.getfield 18, 3) := by decide +kernel
theorem dX4_takeNumber_69 : decode cX4_takeNumber 69 = .ok (.iconst 1, 1) := by decide +kernel
theorem dX4_takeNumber_70 : decode cX4_takeNumber 70 = .ok (.iadd, 1) := by decide +kernel
theorem dX4_takeNumber_71 : decode cX4_takeNumber 71 = .ok (.putfield 18, 3) := by decide +kernel
theorem dX4_takeNumber_74 : decode cX4_takeNumber 74 = .ok (.goto (-69), 3) := by decide +kernel
theorem dX4_takeNumber_77 : decode cX4_takeNumber 77 = .ok (.aload_n 0, 1) := by decide +kernel
theorem dX4_takeNumber_78 : decode cX4_takeNumber 78 = .ok (.aload_n 0, 1) := by decide +kernel
theorem dX4_takeNumber_79 : decode cX4_takeNumber 79 = .ok (.getfield 18, 3) := by decide +kernel
theorem dX4_takeNumber_82 : decode cX4_takeNumber 82 = .ok (.aload_n 0, 1) := by decide +kernel
theorem dX4_takeNumber_83 : decode cX4_takeNumber 83 = .ok (.getfield 15, 3) := by decide +kernel
theorem dX4_takeNumber_86 : decode cX4_takeNumber 86 = .ok (.isub, 1) := by decide +kernel
theorem dX4_takeNumber_87 : decode cX4_takeNumber 87 = .ok (.iconst 3, 1) := by decide +kernel
theorem dX4_takeNumber_88 : decode cX4_takeNumber 88 = .ok (.if_icmp .le 7, 3) := by decide +kernel
theorem dX4_takeNumber_91 : decode cX4_takeNumber 91 = .ok (.iconst 4, 1) := by decide +kernel
theorem dX4_takeNumber_92 : decode cX4_takeNumber 92 = .ok (.goto 4, 3) := by decide +kernel
theorem dX4_takeNumber_95 : decode cX4_takeNumber 95 = .ok (.iconst 2, 1) := by decide +kernel
theorem dX4_takeNumber_96 : decode cX4_takeNumber 96 = .ok (.putfield 11, 3) := by decide +kernel
theorem dX4_takeNumber_99 : decode cX4_takeNumber 99 = .ok (.return_, 1) := by decide +kernel
theorem dX5_init_0 : decode cX5_init 0 = .ok (.aload_n 0, 1) := by decide +kernel
theorem dX5_init_1 : decode cX5_init 1 = .ok (.invokespecial 3, 3) := by decide +kernel
theorem dX5_init_4 : decode cX5_init 4 = .ok (.aload_n 0, 1) := by decide +kernel
theorem dX5_init_5 : decode cX5_init 5 = .ok (.iconst 0, 1) := by decide +kernel
theorem dX5_init_6 : decode cX5_init 6 = .ok (.putfield 9, 3) := by decide +kernel
theorem dX5_init_9 : decode cX5_init 9 = .ok (.aload_n 0, 1) := by decide +kernel
theorem dX5_init_10 : decode cX5_init 10 = .ok (.bipush 60, 2) := by decide +kernel
theorem dX5_init_12 : decode cX5_init 12 = .ok (.newarray .int, 2) := by decide +kernel
theorem dX5_init_14 : decode cX5_init 14 = .ok (.putfield 15, 3) := by decide +kernel
theorem dX5_init_17 : decode cX5_init 17 = .ok (.aload_n 0, 1) := by decide +kernel
theorem dX5_init_18 : decode cX5_init 18 = .ok (.bipush 60, 2) := by decide +kernel
theorem dX5_init_20 : decode cX5_init 20 = .ok (.newarray .int, 2) := by decide +kernel
theorem dX5_init_22 : decode cX5_init 22 = .ok (.putfield 19, 3) := by decide +kernel
theorem dX5_init_25 : decode cX5_init 25 = .ok (.aload_n 0, 1) := by decide +kernel
theorem dX5_init_26 : decode cX5_init 26 = .ok (.bipush 60, 2) := by decide +kernel
theorem dX5_init_28 : decode cX5_init 28 = .ok (.newarray .int, 2) := by decide +kernel
theorem dX5_init_30 : decode cX5_init 30 = .ok (.putfield 22, 3) := by decide +kernel
theorem dX5_init_33 : decode cX5_init 33 = .ok (.return_, 1) := by decide +kernel
theorem dX5_enter_0 : decode cX5_enter 0 = .ok (.aload_n 0, 1) := by decide +kernel
theorem dX5_enter_1 : decode cX5_enter 1 = .ok (.getfield 15, 3) := by decide +kernel
theorem dX5_enter_4 : decode cX5_enter 4 = .ok (.aload_n 0, 1) := by decide +kernel
theorem dX5_enter_5 : decode cX5_enter 5 = .ok (.getfield 9, 3) := by decide +kernel
theorem dX5_enter_8 : decode cX5_enter 8 = .ok (.iload_n 1, 1) := by decide +kernel
theorem dX5_enter_9 : decode cX5_enter 9 = .ok (.iastore, 1) := by decide +kernel
theorem dX5_enter_10 : decode cX5_enter 10 = .ok (.aload_n 0, 1) := by decide +kernel
theorem dX5_enter_11 : decode cX5_enter 11 = .ok (.getfield 19, 3) := by decide +kernel
theorem dX5_enter_14 : decode cX5_enter 14 = .ok (.aload_n 0, 1) := by decide +kernel
theorem dX5_enter_15 : decode cX5_enter 15 = .ok (.getfield 9, 3) := by decide +kernel
theorem dX5_enter_18 : decode cX5_enter 18 = .ok (.iload_n 2, 1) := by decide +kernel
theorem dX5_enter_19 : decode cX5_enter 19 = .ok (.iastore, 1) := by decide +kernel
theorem dX5_enter_20 : decode cX5_enter 20 = .ok (.aload_n 0, 1) := by decide +kernel
theorem dX5_enter_21 : decode cX5_enter 21 = .ok (.getfield 22, 3) := by decide +kernel
theorem dX5_enter_24 : decode cX5_enter 24 = .ok (.aload_n 0, 1) := by decide +kernel
theorem dX5_enter_25 : decode cX5_enter 25 = .ok (.getfield 9, 3) := by decide +kernel
theorem dX5_enter_28 : decode cX5_enter 28 = .ok (.iload_n 3, 1) := by decide +kernel
theorem dX5_enter_29 : decode cX5_enter 29 = .ok (.iastore, 1) := by decide +kernel
theorem dX5_enter_30 : decode cX5_enter 30 = .ok (.aload_n 0, 1) := by decide +kernel
theorem dX5_enter_31 : decode cX5_enter 31 = .ok (.dup, 1) := by decide +kernel
theorem dX5_enter_32 : decode cX5_enter 32 = .ok (.getfield 9, 3) := by decide +kernel
theorem dX5_enter_35 : decode cX5_enter 35 = .ok (.iconst 1, 1) := by decide +kernel
theorem dX5_enter_36 : decode cX5_enter 36 = .ok (.iadd, 1) := by decide +kernel
theorem dX5_enter_37 : decode cX5_enter 37 = .ok (.putfield 9, 3) := by decide +kernel
theorem dX5_enter_40 : decode cX5_enter 40 = .ok (.return_, 1) := by decide +kernel
theorem dX5_latestMinute_0 : decode cX5_latestMinute 0 = .ok (.aload_n 0, 1) := by decide +kernel
theorem dX5_latestMinute_1 : decode cX5_latestMinute 1 = .ok (.getfield 9, 3) := by decide +kernel
theorem dX5_latestMinute_4 : decode cX5_latestMinute 4 = .ok (.ifCond .ne 7, 3) := by decide +kernel
theorem dX5_latestMinute_7 : decode cX5_latestMinute 7 = .ok (.iconst 0, 1) := by decide +kernel
theorem dX5_latestMinute_8 : decode cX5_latestMinute 8 = .ok (.goto 14, 3) := by decide +kernel
theorem dX5_latestMinute_11 : decode cX5_latestMinute 11 = .ok (.aload_n 0, 1) := by decide +kernel
theorem dX5_latestMinute_12 : decode cX5_latestMinute 12 = .ok (.getfield 15, 3) := by decide +kernel
theorem dX5_latestMinute_15 : decode cX5_latestMinute 15 = .ok (.aload_n 0, 1) := by decide +kernel
theorem dX5_latestMinute_16 : decode cX5_latestMinute 16 = .ok (.getfield 9, 3) := by decide +kernel
theorem dX5_latestMinute_19 : decode cX5_latestMinute 19 = .ok (.iconst 1, 1) := by decide +kernel
theorem dX5_latestMinute_20 : decode cX5_latestMinute 20 = .ok (.isub, 1) := by decide +kernel
theorem dX5_latestMinute_21 : decode cX5_latestMinute 21 = .ok (.iaload, 1) := by decide +kernel
theorem dX5_latestMinute_22 : decode cX5_latestMinute 22 = .ok (.ireturn, 1) := by decide +kernel
theorem dX5_wasInAllThrough_0 : decode cX5_wasInAllThrough 0 = .ok (.aload_n 0, 1) := by decide +kernel
theorem dX5_wasInAllThrough_1 : decode cX5_wasInAllThrough 1 = .ok (.iload_n 1, 1) := by decide +kernel
theorem dX5_wasInAllThrough_2 : decode cX5_wasInAllThrough 2 = .ok (.iload_n 1, 1) := by decide +kernel
theorem dX5_wasInAllThrough_3 : decode cX5_wasInAllThrough 3 = .ok (.iload_n 2, 1) := by decide +kernel
theorem dX5_wasInAllThrough_4 : decode cX5_wasInAllThrough 4 = .ok (.iload_n 3, 1) := by decide +kernel
theorem dX5_wasInAllThrough_5 : decode cX5_wasInAllThrough 5 = .ok (.iconst 1, 1) := by decide +kernel
theorem dX5_wasInAllThrough_6 : decode cX5_wasInAllThrough 6 = .ok (.iadd, 1) := by decide +kernel
theorem dX5_wasInAllThrough_7 : decode cX5_wasInAllThrough 7 = .ok (.invokevirtual 25, 3) := by decide +kernel
theorem dX5_wasInAllThrough_10 : decode cX5_wasInAllThrough 10 = .ok (.ifCond .ne 7, 3) := by decide +kernel
theorem dX5_wasInAllThrough_13 : decode cX5_wasInAllThrough 13 = .ok (.iconst 1, 1) := by decide +kernel
theorem dX5_wasInAllThrough_14 : decode cX5_wasInAllThrough 14 = .ok (.goto 4, 3) := by decide +kernel
theorem dX5_wasInAllThrough_17 : decode cX5_wasInAllThrough 17 = .ok (.iconst 0, 1) := by decide +kernel
theorem dX5_wasInAllThrough_18 : decode cX5_wasInAllThrough 18 = .ok (.ireturn, 1) := by decide +kernel
theorem dX5_minutesAway_0 : decode cX5_minutesAway 0 = .ok (.iconst 0, 1) := by decide +kernel
theorem dX5_minutesAway_1 : decode cX5_minutesAway 1 = .ok (.istore 5, 2) := by decide +kernel
theorem dX5_minutesAway_3 : decode cX5_minutesAway 3 = .ok (.iload_n 3, 1) := by decide +kernel
theorem dX5_minutesAway_4 : decode cX5_minutesAway 4 = .ok (.istore 6, 2) := by decide +kernel
theorem dX5_minutesAway_6 : decode cX5_minutesAway 6 = .ok (.iconst 0, 1) := by decide +kernel
theorem dX5_minutesAway_7 : decode cX5_minutesAway 7 = .ok (.istore 7, 2) := by decide +kernel
theorem dX5_minutesAway_9 : decode cX5_minutesAway 9 = .ok (.iconst 0, 1) := by decide +kernel
theorem dX5_minutesAway_10 : decode cX5_minutesAway 10 = .ok (.istore 8, 2) := by decide +kernel
theorem dX5_minutesAway_12 : decode cX5_minutesAway 12 = .ok (.iconst 0, 1) := by decide +kernel
theorem dX5_minutesAway_13 : decode cX5_minutesAway 13 = .ok (.istore 9, 2) := by decide +kernel
theorem dX5_minutesAway_15 : decode cX5_minutesAway 15 = .ok (.iload 9, 2) := by decide +kernel
theorem dX5_minutesAway_17 : decode cX5_minutesAway 17 = .ok (.aload_n 0, 1) := by decide +kernel
theorem dX5_minutesAway_18 : decode cX5_minutesAway 18 = .ok (.getfield 9, 3) := by decide +kernel
theorem dX5_minutesAway_21 : decode cX5_minutesAway 21 = .ok (.if_icmp .ge 110, 3) := by decide +kernel
theorem dX5_minutesAway_24 : decode cX5_minutesAway 24 = .ok (.iload_n 3, 1) := by decide +kernel
theorem dX5_minutesAway_25 : decode cX5_minutesAway 25 = .ok (.iload 4, 2) := by decide +kernel
theorem dX5_minutesAway_27 : decode cX5_minutesAway 27 = .ok (.aload_n 0, 1) := by decide +kernel
theorem dX5_minutesAway_28 : decode cX5_minutesAway 28 = .ok (.getfield 15, 3) := by decide +kernel
theorem dX5_minutesAway_31 : decode cX5_minutesAway 31 = .ok (.iload 9, 2) := by decide +kernel
theorem dX5_minutesAway_33 : decode cX5_minutesAway 33 = .ok (.iaload, 1) := by decide +kernel
theorem dX5_minutesAway_34 : decode cX5_minutesAway 34 = .ok (.invokestatic 29, 3) := by decide +kernel
theorem dX5_minutesAway_37 : decode cX5_minutesAway 37 = .ok (.invokestatic 35, 3) := by decide +kernel
theorem dX5_minutesAway_40 : decode cX5_minutesAway 40 = .ok (.istore 10, 2) := by decide +kernel
theorem dX5_minutesAway_42 : decode cX5_minutesAway 42 = .ok (.iload 7, 2) := by decide +kernel
theorem dX5_minutesAway_44 : decode cX5_minutesAway 44 = .ok (.ifCond .eq 18, 3) := by decide +kernel
theorem dX5_minutesAway_47 : decode cX5_minutesAway 47 = .ok (.iload 8, 2) := by decide +kernel
theorem dX5_minutesAway_49 : decode cX5_minutesAway 49 = .ok (.ifCond .eq 13, 3) := by decide +kernel
theorem dX5_minutesAway_52 : decode cX5_minutesAway 52 = .ok (.iload 5, 2) := by decide +kernel
theorem dX5_minutesAway_54 : decode cX5_minutesAway 54 = .ok (.iload 10, 2) := by decide +kernel
theorem dX5_minutesAway_56 : decode cX5_minutesAway 56 = .ok (.iload 6, 2) := by decide +kernel
theorem dX5_minutesAway_58 : decode cX5_minutesAway 58 = .ok (.isub, 1) := by decide +kernel
theorem dX5_minutesAway_59 : decode cX5_minutesAway 59 = .ok (.iadd, 1) := by decide +kernel
theorem dX5_minutesAway_60 : decode cX5_minutesAway 60 = .ok (.istore 5, 2) := by decide +kernel
theorem dX5_minutesAway_62 : decode cX5_minutesAway 62 = .ok (.iload 10, 2) := by decide +kernel
theorem dX5_minutesAway_64 : decode cX5_minutesAway 64 = .ok (.istore 6, 2) := by decide +kernel
theorem dX5_minutesAway_66 : decode cX5_minutesAway 66 = .ok (.aload_n 0, 1) := by decide +kernel
theorem dX5_minutesAway_67 : decode cX5_minutesAway 67 = .ok (.getfield 22, 3) := by decide +kernel
theorem dX5_minutesAway_70 : decode cX5_minutesAway 70 = .ok (.iload 9, 2) := by decide +kernel
theorem dX5_minutesAway_72 : decode cX5_minutesAway 72 = .ok (.iaload, 1) := by decide +kernel
theorem dX5_minutesAway_73 : decode cX5_minutesAway 73 = .ok (.bipush 45, 2) := by decide +kernel
theorem dX5_minutesAway_75 : decode cX5_minutesAway 75 = .ok (.if_icmp .ne 7, 3) := by decide +kernel
theorem dX5_minutesAway_78 : decode cX5_minutesAway 78 = .ok (.iconst 1, 1) := by decide +kernel
theorem dX5_minutesAway_79 : decode cX5_minutesAway 79 = .ok (.goto 4, 3) := by decide +kernel
theorem dX5_minutesAway_82 : decode cX5_minutesAway 82 = .ok (.iconst 0, 1) := by decide +kernel
theorem dX5_minutesAway_83 : decode cX5_minutesAway 83 = .ok (.istore 11, 2) := by decide +kernel
theorem dX5_minutesAway_85 : decode cX5_minutesAway 85 = .ok (.aload_n 0, 1) := by decide +kernel
theorem dX5_minutesAway_86 : decode cX5_minutesAway 86 = .ok (.getfield 19, 3) := by decide +kernel
theorem dX5_minutesAway_89 : decode cX5_minutesAway 89 = .ok (.iload 9, 2) := by decide +kernel
theorem dX5_minutesAway_91 : decode cX5_minutesAway 91 = .ok (.iaload, 1) := by decide +kernel
theorem dX5_minutesAway_92 : decode cX5_minutesAway 92 = .ok (.iload_n 1, 1) := by decide +kernel
theorem dX5_minutesAway_93 : decode cX5_minutesAway 93 = .ok (.if_icmp .ne 8, 3) := by decide +kernel
theorem dX5_minutesAway_96 : decode cX5_minutesAway 96 = .ok (.iload 11, 2) := by decide +kernel
theorem dX5_minutesAway_98 : decode cX5_minutesAway 98 = .ok (.goto 5, 3) := by decide +kernel
theorem dX5_minutesAway_101 : decode cX5_minutesAway 101 = .ok (.iload 7, 2) := by decide +kernel
theorem dX5_minutesAway_103 : decode cX5_minutesAway 103 = .ok (.istore 7, 2) := by decide +kernel
theorem dX5_minutesAway_105 : decode cX5_minutesAway 105 = .ok (.aload_n 0, 1) := by decide +kernel
theorem dX5_minutesAway_106 : decode cX5_minutesAway 106 = .ok (.getfield 19, 3) := by decide +kernel
theorem dX5_minutesAway_109 : decode cX5_minutesAway 109 = .ok (.iload 9, 2) := by decide +kernel
theorem dX5_minutesAway_111 : decode cX5_minutesAway 111 = .ok (.iaload, 1) := by decide +kernel
theorem dX5_minutesAway_112 : decode cX5_minutesAway 112 = .ok (.iload_n 2, 1) := by decide +kernel
theorem dX5_minutesAway_113 : decode cX5_minutesAway 113 = .ok (.if_icmp .ne 8, 3) := by decide +kernel
theorem dX5_minutesAway_116 : decode cX5_minutesAway 116 = .ok (.iload 11, 2) := by decide +kernel
theorem dX5_minutesAway_118 : decode cX5_minutesAway 118 = .ok (.goto 5, 3) := by decide +kernel
theorem dX5_minutesAway_121 : decode cX5_minutesAway 121 = .ok (.iload 8, 2) := by decide +kernel
theorem dX5_minutesAway_123 : decode cX5_minutesAway 123 = .ok (.istore 8, 2) := by decide +kernel
theorem dX5_minutesAway_125 : decode cX5_minutesAway 125 = .ok (.iinc 9 1, 3) := by decide +kernel
theorem dX5_minutesAway_128 : decode cX5_minutesAway 128 = .ok (.goto (-113), 3) := by decide +kernel
theorem dX5_minutesAway_131 : decode cX5_minutesAway 131 = .ok (.iload 7, 2) := by decide +kernel
theorem dX5_minutesAway_133 : decode cX5_minutesAway 133 = .ok (.ifCond .eq 19, 3) := by decide +kernel
theorem dX5_minutesAway_136 : decode cX5_minutesAway 136 = .ok (.iload 8, 2) := by decide +kernel
theorem dX5_minutesAway_138 : decode cX5_minutesAway 138 = .ok (.ifCond .eq 14, 3) := by decide +kernel
theorem dX5_minutesAway_141 : decode cX5_minutesAway 141 = .ok (.iload 5, 2) := by decide +kernel
theorem dX5_minutesAway_143 : decode cX5_minutesAway 143 = .ok (.iload 4, 2) := by decide +kernel
theorem dX5_minutesAway_145 : decode cX5_minutesAway 145 = .ok (.iadd, 1) := by decide +kernel
theorem dX5_minutesAway_146 : decode cX5_minutesAway 146 = .ok (.iload 6, 2) := by decide +kernel
theorem dX5_minutesAway_148 : decode cX5_minutesAway 148 = .ok (.isub, 1) := by decide +kernel
theorem dX5_minutesAway_149 : decode cX5_minutesAway 149 = .ok (.goto 5, 3) := by decide +kernel
theorem dX5_minutesAway_152 : decode cX5_minutesAway 152 = .ok (.iload 5, 2) := by decide +kernel
theorem dX5_minutesAway_154 : decode cX5_minutesAway 154 = .ok (.ireturn, 1) := by decide +kernel
theorem dX5_writeTo_0 : decode cX5_writeTo 0 = .ok (.iconst 0, 1) := by decide +kernel
theorem dX5_writeTo_1 : decode cX5_writeTo 1 = .ok (.istore_n 3, 1) := by decide +kernel
theorem dX5_writeTo_2 : decode cX5_writeTo 2 = .ok (.iload_n 3, 1) := by decide +kernel
theorem dX5_writeTo_3 : decode cX5_writeTo 3 = .ok (.aload_n 0, 1) := by decide +kernel
theorem dX5_writeTo_4 : decode cX5_writeTo 4 = .ok (.getfield 9, 3) := by decide +kernel
theorem dX5_writeTo_7 : decode cX5_writeTo 7 = .ok (.if_icmp .ge 45, 3) := by decide +kernel
theorem dX5_writeTo_10 : decode cX5_writeTo 10 = .ok (.aload_n 0, 1) := by decide +kernel
theorem dX5_writeTo_11 : decode cX5_writeTo 11 = .ok (.getfield 19, 3) := by decide +kernel
theorem dX5_writeTo_14 : decode cX5_writeTo 14 = .ok (.iload_n 3, 1) := by decide +kernel
theorem dX5_writeTo_15 : decode cX5_writeTo 15 = .ok (.iaload, 1) := by decide +kernel
theorem dX5_writeTo_16 : decode cX5_writeTo 16 = .ok (.iload_n 2, 1) := by decide +kernel
theorem dX5_writeTo_17 : decode cX5_writeTo 17 = .ok (.if_icmp .ne 29, 3) := by decide +kernel
theorem dX5_writeTo_20 : decode cX5_writeTo 20 = .ok (.aload_n 1, 1) := by decide +kernel
theorem dX5_writeTo_21 : decode cX5_writeTo 21 = .ok (.aload_n 0, 1) := by decide +kernel
theorem dX5_writeTo_22 : decode cX5_writeTo 22 = .ok (.getfield 22, 3) := by decide +kernel
theorem dX5_writeTo_25 : decode cX5_writeTo 25 = .ok (.iload_n 3, 1) := by decide +kernel
theorem dX5_writeTo_26 : decode cX5_writeTo 26 = .ok (.iaload, 1) := by decide +kernel
theorem dX5_writeTo_27 : decode cX5_writeTo 27 = .ok (.invokevirtual 38, 3) := by decide +kernel
theorem dX5_writeTo_30 : decode cX5_writeTo 30 = .ok (.aload_n 1, 1) := by decide +kernel
theorem dX5_writeTo_31 : decode cX5_writeTo 31 = .ok (.aload_n 0, 1) := by decide +kernel
theorem dX5_writeTo_32 : decode cX5_writeTo 32 = .ok (.getfield 15, 3) := by decide +kernel
theorem dX5_writeTo_35 : decode cX5_writeTo 35 = .ok (.iload_n 3, 1) := by decide +kernel
theorem dX5_writeTo_36 : decode cX5_writeTo 36 = .ok (.iaload, 1) := by decide +kernel
theorem dX5_writeTo_37 : decode cX5_writeTo 37 = .ok (.invokevirtual 44, 3) := by decide +kernel
theorem dX5_writeTo_40 : decode cX5_writeTo 40 = .ok (.aload_n 1, 1) := by decide +kernel
theorem dX5_writeTo_41 : decode cX5_writeTo 41 = .ok (.bipush 10, 2) := by decide +kernel
theorem dX5_writeTo_43 : decode cX5_writeTo 43 = .ok (.invokevirtual 38, 3) := by decide +kernel
theorem dX5_writeTo_46 : decode cX5_writeTo 46 = .ok (.iinc 3 1, 3) := by decide +kernel
theorem dX5_writeTo_49 : decode cX5_writeTo 49 = .ok (.goto (-47), 3) := by decide +kernel
theorem dX5_writeTo_52 : decode cX5_writeTo 52 = .ok (.return_, 1) := by decide +kernel
theorem dX5_copyFrom_0 : decode cX5_copyFrom 0 = .ok (.aload_n 0, 1) := by decide +kernel
theorem dX5_copyFrom_1 : decode cX5_copyFrom 1 = .ok (.aload_n 1, 1) := by decide +kernel
theorem dX5_copyFrom_2 : decode cX5_copyFrom 2 = .ok (.getfield 9, 3) := by decide +kernel
theorem dX5_copyFrom_5 : decode cX5_copyFrom 5 = .ok (.putfield 9, 3) := by decide +kernel
theorem dX5_copyFrom_8 : decode cX5_copyFrom 8 = .ok (.aload_n 1, 1) := by decide +kernel
theorem dX5_copyFrom_9 : decode cX5_copyFrom 9 = .ok (.getfield 15, 3) := by decide +kernel
theorem dX5_copyFrom_12 : decode cX5_copyFrom 12 = .ok (.iconst 0, 1) := by decide +kernel
theorem dX5_copyFrom_13 : decode cX5_copyFrom 13 = .ok (.aload_n 0, 1) := by decide +kernel
theorem dX5_copyFrom_14 : decode cX5_copyFrom 14 = .ok (.getfield 15, 3) := by decide +kernel
theorem dX5_copyFrom_17 : decode cX5_copyFrom 17 = .ok (.iconst 0, 1) := by decide +kernel
theorem dX5_copyFrom_18 : decode cX5_copyFrom 18 = .ok (.bipush 60, 2) := by decide +kernel
theorem dX5_copyFrom_20 : decode cX5_copyFrom 20 = .ok (.invokestatic 47, 3) := by decide +kernel
theorem dX5_copyFrom_23 : decode cX5_copyFrom 23 = .ok (.aload_n 1, 1) := by decide +kernel
theorem dX5_copyFrom_24 : decode cX5_copyFrom 24 = .ok (.getfield 19, 3) := by decide +kernel
theorem dX5_copyFrom_27 : decode cX5_copyFrom 27 = .ok (.iconst 0, 1) := by decide +kernel
theorem dX5_copyFrom_28 : decode cX5_copyFrom 28 = .ok (.aload_n 0, 1) := by decide +kernel
theorem dX5_copyFrom_29 : decode cX5_copyFrom 29 = .ok (.getfield 19, 3) := by decide +kernel
theorem dX5_copyFrom_32 : decode cX5_copyFrom 32 = .ok (.iconst 0, 1) := by decide +kernel
theorem dX5_copyFrom_33 : decode cX5_copyFrom 33 = .ok (.bipush 60, 2) := by decide +kernel
theorem dX5_copyFrom_35 : decode cX5_copyFrom 35 = .ok (.invokestatic 47, 3) := by decide +kernel
theorem dX5_copyFrom_38 : decode cX5_copyFrom 38 = .ok (.aload_n 1, 1) := by decide +kernel
theorem dX5_copyFrom_39 : decode cX5_copyFrom 39 = .ok (.getfield 22, 3) := by decide +kernel
theorem dX5_copyFrom_42 : decode cX5_copyFrom 42 = .ok (.iconst 0, 1) := by decide +kernel
theorem dX5_copyFrom_43 : decode cX5_copyFrom 43 = .ok (.aload_n 0, 1) := by decide +kernel
theorem dX5_copyFrom_44 : decode cX5_copyFrom 44 = .ok (.getfield 22, 3) := by decide +kernel
theorem dX5_copyFrom_47 : decode cX5_copyFrom 47 = .ok (.iconst 0, 1) := by decide +kernel
theorem dX5_copyFrom_48 : decode cX5_copyFrom 48 = .ok (.bipush 60, 2) := by decide +kernel
theorem dX5_copyFrom_50 : decode cX5_copyFrom 50 = .ok (.invokestatic 47, 3) := by decide +kernel
theorem dX5_copyFrom_53 : decode cX5_copyFrom 53 = .ok (.return_, 1) := by decide +kernel
theorem dX6_init_0 : decode cX6_init 0 = .ok (.aload_n 0, 1) := by decide +kernel
theorem dX6_init_1 : decode cX6_init 1 = .ok (.invokespecial 3, 3) := by decide +kernel
theorem dX6_init_4 : decode cX6_init 4 = .ok (.aload_n 0, 1) := by decide +kernel
theorem dX6_init_5 : decode cX6_init 5 = .ok (.iconst 2, 1) := by decide +kernel
theorem dX6_init_6 : decode cX6_init 6 = .ok (.anewarray 9, 3) := by decide +kernel
theorem dX6_init_9 : decode cX6_init 9 = .ok (.putfield 11, 3) := by decide +kernel
theorem dX6_init_12 : decode cX6_init 12 = .ok (.aload_n 0, 1) := by decide +kernel
theorem dX6_init_13 : decode cX6_init 13 = .ok (.iconst 2, 1) := by decide +kernel
theorem dX6_init_14 : decode cX6_init 14 = .ok (.newarray .boolean, 2) := by decide +kernel
theorem dX6_init_16 : decode cX6_init 16 = .ok (.putfield 17, 3) := by decide +kernel
theorem dX6_init_19 : decode cX6_init 19 = .ok (.iconst 0, 1) := by decide +kernel
theorem dX6_init_20 : decode cX6_init 20 = .ok (.istore_n 1, 1) := by decide +kernel
theorem dX6_init_21 : decode cX6_init 21 = .ok (.iload_n 1, 1) := by decide +kernel
theorem dX6_init_22 : decode cX6_init 22 = .ok (.iconst 2, 1) := by decide +kernel
theorem dX6_init_23 : decode cX6_init 23 = .ok (.if_icmp .ge 22, 3) := by decide +kernel
theorem dX6_init_26 : decode cX6_init 26 = .ok (.aload_n 0, 1) := by decide +kernel
theorem dX6_init_27 : decode cX6_init 27 = .ok (.getfield 11, 3) := by decide +kernel
theorem dX6_init_30 : decode cX6_init 30 = .ok (.iload_n 1, 1) := by decide +kernel
theorem dX6_init_31 : decode cX6_init 31 = .ok (.new 9, 3) := by decide +kernel
theorem dX6_init_34 : decode cX6_init 34 = .ok (.dup, 1) := by decide +kernel
theorem dX6_init_35 : decode cX6_init 35 = .ok (.invokespecial 21, 3) := by decide +kernel
theorem dX6_init_38 : decode cX6_init 38 = .ok (.aastore, 1) := by decide +kernel
theorem dX6_init_39 : decode cX6_init 39 = .ok (.iinc 1 1, 3) := by decide +kernel
theorem dX6_init_42 : decode cX6_init 42 = .ok (.goto (-21), 3) := by decide +kernel
theorem dX6_init_45 : decode cX6_init 45 = .ok (.return_, 1) := by decide +kernel
theorem dX6_put_0 : decode cX6_put 0 = .ok (.aload_n 0, 1) := by decide +kernel
theorem dX6_put_1 : decode cX6_put 1 = .ok (.getfield 11, 3) := by decide +kernel
theorem dX6_put_4 : decode cX6_put 4 = .ok (.iload_n 1, 1) := by decide +kernel
theorem dX6_put_5 : decode cX6_put 5 = .ok (.aaload, 1) := by decide +kernel
theorem dX6_put_6 : decode cX6_put 6 = .ok (.aload_n 2, 1) := by decide +kernel
theorem dX6_put_7 : decode cX6_put 7 = .ok (.invokevirtual 22, 3) := by decide +kernel
theorem dX6_put_10 : decode cX6_put 10 = .ok (.aload_n 0, 1) := by decide +kernel
theorem dX6_put_11 : decode cX6_put 11 = .ok (.getfield 17, 3) := by decide +kernel
theorem dX6_put_14 : decode cX6_put 14 = .ok (.iload_n 1, 1) := by decide +kernel
theorem dX6_put_15 : decode cX6_put 15 = .ok (.iconst 1, 1) := by decide +kernel
theorem dX6_put_16 : decode cX6_put 16 = .ok (.bastore, 1) := by decide +kernel
theorem dX6_put_17 : decode cX6_put 17 = .ok (.return_, 1) := by decide +kernel
theorem dX6_empty_0 : decode cX6_empty 0 = .ok (.iconst 0, 1) := by decide +kernel
theorem dX6_empty_1 : decode cX6_empty 1 = .ok (.istore_n 1, 1) := by decide +kernel
theorem dX6_empty_2 : decode cX6_empty 2 = .ok (.iload_n 1, 1) := by decide +kernel
theorem dX6_empty_3 : decode cX6_empty 3 = .ok (.iconst 2, 1) := by decide +kernel
theorem dX6_empty_4 : decode cX6_empty 4 = .ok (.if_icmp .ge 16, 3) := by decide +kernel
theorem dX6_empty_7 : decode cX6_empty 7 = .ok (.aload_n 0, 1) := by decide +kernel
theorem dX6_empty_8 : decode cX6_empty 8 = .ok (.getfield 17, 3) := by decide +kernel
theorem dX6_empty_11 : decode cX6_empty 11 = .ok (.iload_n 1, 1) := by decide +kernel
theorem dX6_empty_12 : decode cX6_empty 12 = .ok (.iconst 0, 1) := by decide +kernel
theorem dX6_empty_13 : decode cX6_empty 13 = .ok (.bastore, 1) := by decide +kernel
theorem dX6_empty_14 : decode cX6_empty 14 = .ok (.iinc 1 1, 3) := by decide +kernel
theorem dX6_empty_17 : decode cX6_empty 17 = .ok (.goto (-15), 3) := by decide +kernel
theorem dX6_empty_20 : decode cX6_empty 20 = .ok (.return_, 1) := by decide +kernel
theorem dX7_init_0 : decode cX7_init 0 = .ok (.aload_n 0, 1) := by decide +kernel
theorem dX7_init_1 : decode cX7_init 1 = .ok (.invokespecial 3, 3) := by decide +kernel
theorem dX7_init_4 : decode cX7_init 4 = .ok (.aload_n 0, 1) := by decide +kernel
theorem dX7_init_5 : decode cX7_init 5 = .ok (.iconst 0, 1) := by decide +kernel
theorem dX7_init_6 : decode cX7_init 6 = .ok (.putfield 9, 3) := by decide +kernel
theorem dX7_init_9 : decode cX7_init 9 = .ok (.aload_n 0, 1) := by decide +kernel
theorem dX7_init_10 : decode cX7_init 10 = .ok (.bipush 12, 2) := by decide +kernel
theorem dX7_init_12 : decode cX7_init 12 = .ok (.newarray .int, 2) := by decide +kernel
theorem dX7_init_14 : decode cX7_init 14 = .ok (.putfield 15, 3) := by decide +kernel
theorem dX7_init_17 : decode cX7_init 17 = .ok (.aload_n 0, 1) := by decide +kernel
theorem dX7_init_18 : decode cX7_init 18 = .ok (.bipush 12, 2) := by decide +kernel
theorem dX7_init_20 : decode cX7_init 20 = .ok (.newarray .int, 2) := by decide +kernel
theorem dX7_init_22 : decode cX7_init 22 = .ok (.putfield 19, 3) := by decide +kernel
theorem dX7_init_25 : decode cX7_init 25 = .ok (.aload_n 0, 1) := by decide +kernel
theorem dX7_init_26 : decode cX7_init 26 = .ok (.bipush 12, 2) := by decide +kernel
theorem dX7_init_28 : decode cX7_init 28 = .ok (.newarray .int, 2) := by decide +kernel
theorem dX7_init_30 : decode cX7_init 30 = .ok (.putfield 22, 3) := by decide +kernel
theorem dX7_init_33 : decode cX7_init 33 = .ok (.return_, 1) := by decide +kernel
theorem dX7_add_0 : decode cX7_add 0 = .ok (.aload_n 0, 1) := by decide +kernel
theorem dX7_add_1 : decode cX7_add 1 = .ok (.getfield 9, 3) := by decide +kernel
theorem dX7_add_4 : decode cX7_add 4 = .ok (.istore_n 3, 1) := by decide +kernel
theorem dX7_add_5 : decode cX7_add 5 = .ok (.aload_n 0, 1) := by decide +kernel
theorem dX7_add_6 : decode cX7_add 6 = .ok (.getfield 15, 3) := by decide +kernel
theorem dX7_add_9 : decode cX7_add 9 = .ok (.iload_n 3, 1) := by decide +kernel
theorem dX7_add_10 : decode cX7_add 10 = .ok (.iload_n 1, 1) := by decide +kernel
theorem dX7_add_11 : decode cX7_add 11 = .ok (.iastore, 1) := by decide +kernel
theorem dX7_add_12 : decode cX7_add 12 = .ok (.aload_n 0, 1) := by decide +kernel
theorem dX7_add_13 : decode cX7_add 13 = .ok (.getfield 19, 3) := by decide +kernel
theorem dX7_add_16 : decode cX7_add 16 = .ok (.iload_n 3, 1) := by decide +kernel
theorem dX7_add_17 : decode cX7_add 17 = .ok (.iload_n 2, 1) := by decide +kernel
theorem dX7_add_18 : decode cX7_add 18 = .ok (.iastore, 1) := by decide +kernel
theorem dX7_add_19 : decode cX7_add 19 = .ok (.aload_n 0, 1) := by decide +kernel
theorem dX7_add_20 : decode cX7_add 20 = .ok (.getfield 22, 3) := by decide +kernel
theorem dX7_add_23 : decode cX7_add 23 = .ok (.iload_n 3, 1) := by decide +kernel
theorem dX7_add_24 : decode cX7_add 24 = .ok (.iconst (-1), 1) := by decide +kernel
theorem dX7_add_25 : decode cX7_add 25 = .ok (.iastore, 1) := by decide +kernel
theorem dX7_add_26 : decode cX7_add 26 = .ok (.aload_n 0, 1) := by decide +kernel
theorem dX7_add_27 : decode cX7_add 27 = .ok (.dup, 1) := by decide +kernel
theorem dX7_add_28 : decode cX7_add 28 = .ok (.getfield 9, 3) := by decide +kernel
theorem dX7_add_31 : decode cX7_add 31 = .ok (.iconst 1, 1) := by decide +kernel
theorem dX7_add_32 : decode cX7_add 32 = .ok (.iadd, 1) := by decide +kernel
theorem dX7_add_33 : decode cX7_add 33 = .ok (.putfield 9, 3) := by decide +kernel
theorem dX7_add_36 : decode cX7_add 36 = .ok (.iload_n 3, 1) := by decide +kernel
theorem dX7_add_37 : decode cX7_add 37 = .ok (.ireturn, 1) := by decide +kernel
theorem dX7_stands_0 : decode cX7_stands 0 = .ok (.aload_n 0, 1) := by decide +kernel
theorem dX7_stands_1 : decode cX7_stands 1 = .ok (.getfield 22, 3) := by decide +kernel
theorem dX7_stands_4 : decode cX7_stands 4 = .ok (.iload_n 1, 1) := by decide +kernel
theorem dX7_stands_5 : decode cX7_stands 5 = .ok (.iaload, 1) := by decide +kernel
theorem dX7_stands_6 : decode cX7_stands 6 = .ok (.iconst (-1), 1) := by decide +kernel
theorem dX7_stands_7 : decode cX7_stands 7 = .ok (.if_icmp .ne 7, 3) := by decide +kernel
theorem dX7_stands_10 : decode cX7_stands 10 = .ok (.iconst 1, 1) := by decide +kernel
theorem dX7_stands_11 : decode cX7_stands 11 = .ok (.goto 4, 3) := by decide +kernel
theorem dX7_stands_14 : decode cX7_stands 14 = .ok (.iconst 0, 1) := by decide +kernel
theorem dX7_stands_15 : decode cX7_stands 15 = .ok (.ireturn, 1) := by decide +kernel
theorem dX7_canBeTaken_0 : decode cX7_canBeTaken 0 = .ok (.aload_n 0, 1) := by decide +kernel
theorem dX7_canBeTaken_1 : decode cX7_canBeTaken 1 = .ok (.iload_n 1, 1) := by decide +kernel
theorem dX7_canBeTaken_2 : decode cX7_canBeTaken 2 = .ok (.invokevirtual 25, 3) := by decide +kernel
theorem dX7_canBeTaken_5 : decode cX7_canBeTaken 5 = .ok (.ifCond .eq 18, 3) := by decide +kernel
theorem dX7_canBeTaken_8 : decode cX7_canBeTaken 8 = .ok (.aload_n 0, 1) := by decide +kernel
theorem dX7_canBeTaken_9 : decode cX7_canBeTaken 9 = .ok (.getfield 19, 3) := by decide +kernel
theorem dX7_canBeTaken_12 : decode cX7_canBeTaken 12 = .ok (.iload_n 1, 1) := by decide +kernel
theorem dX7_canBeTaken_13 : decode cX7_canBeTaken 13 = .ok (.iaload, 1) := by decide +kernel
theorem dX7_canBeTaken_14 : decode cX7_canBeTaken 14 = .ok (.bipush 50, 2) := by decide +kernel
theorem dX7_canBeTaken_16 : decode cX7_canBeTaken 16 = .ok (.if_icmp .gt 7, 3) := by decide +kernel
theorem dX7_canBeTaken_19 : decode cX7_canBeTaken 19 = .ok (.iconst 1, 1) := by decide +kernel
theorem dX7_canBeTaken_20 : decode cX7_canBeTaken 20 = .ok (.goto 4, 3) := by decide +kernel
theorem dX7_canBeTaken_23 : decode cX7_canBeTaken 23 = .ok (.iconst 0, 1) := by decide +kernel
theorem dX7_canBeTaken_24 : decode cX7_canBeTaken 24 = .ok (.ireturn, 1) := by decide +kernel
theorem dX7_carriedBy_0 : decode cX7_carriedBy 0 = .ok (.iconst 0, 1) := by decide +kernel
theorem dX7_carriedBy_1 : decode cX7_carriedBy 1 = .ok (.istore_n 2, 1) := by decide +kernel
theorem dX7_carriedBy_2 : decode cX7_carriedBy 2 = .ok (.iload_n 2, 1) := by decide +kernel
theorem dX7_carriedBy_3 : decode cX7_carriedBy 3 = .ok (.aload_n 0, 1) := by decide +kernel
theorem dX7_carriedBy_4 : decode cX7_carriedBy 4 = .ok (.getfield 9, 3) := by decide +kernel
theorem dX7_carriedBy_7 : decode cX7_carriedBy 7 = .ok (.if_icmp .ge 21, 3) := by decide +kernel
theorem dX7_carriedBy_10 : decode cX7_carriedBy 10 = .ok (.aload_n 0, 1) := by decide +kernel
theorem dX7_carriedBy_11 : decode cX7_carriedBy 11 = .ok (.getfield 22, 3) := by decide +kernel
theorem dX7_carriedBy_14 : decode cX7_carriedBy 14 = .ok (.iload_n 2, 1) := by decide +kernel
theorem dX7_carriedBy_15 : decode cX7_carriedBy 15 = .ok (.iaload, 1) := by decide +kernel
theorem dX7_carriedBy_16 : decode cX7_carriedBy 16 = .ok (.iload_n 1, 1) := by decide +kernel
theorem dX7_carriedBy_17 : decode cX7_carriedBy 17 = .ok (.if_icmp .ne 5, 3) := by decide +kernel
theorem dX7_carriedBy_20 : decode cX7_carriedBy 20 = .ok (.iload_n 2, 1) := by decide +kernel
theorem dX7_carriedBy_21 : decode cX7_carriedBy 21 = .ok (.ireturn, 1) := by decide +kernel
theorem dX7_carriedBy_22 : decode cX7_carriedBy 22 = .ok (.iinc 2 1, 3) := by decide +kernel
theorem dX7_carriedBy_25 : decode cX7_carriedBy 25 = .ok (.goto (-23), 3) := by decide +kernel
theorem dX7_carriedBy_28 : decode cX7_carriedBy 28 = .ok (.iconst (-1), 1) := by decide +kernel
theorem dX7_carriedBy_29 : decode cX7_carriedBy 29 = .ok (.ireturn, 1) := by decide +kernel
theorem dX7_countInStand_0 : decode cX7_countInStand 0 = .ok (.iconst 0, 1) := by decide +kernel
theorem dX7_countInStand_1 : decode cX7_countInStand 1 = .ok (.istore_n 1, 1) := by decide +kernel
theorem dX7_countInStand_2 : decode cX7_countInStand 2 = .ok (.iconst 0, 1) := by decide +kernel
theorem dX7_countInStand_3 : decode cX7_countInStand 3 = .ok (.istore_n 2, 1) := by decide +kernel
theorem dX7_countInStand_4 : decode cX7_countInStand 4 = .ok (.iload_n 2, 1) := by decide +kernel
theorem dX7_countInStand_5 : decode cX7_countInStand 5 = .ok (.aload_n 0, 1) := by decide +kernel
theorem dX7_countInStand_6 : decode cX7_countInStand 6 = .ok (.getfield 9, 3) := by decide +kernel
theorem dX7_countInStand_9 : decode cX7_countInStand 9 = .ok (.if_icmp .ge 20, 3) := by decide +kernel
theorem dX7_countInStand_12 : decode cX7_countInStand 12 = .ok (.aload_n 0, 1) := by decide +kernel
theorem dX7_countInStand_13 : decode cX7_countInStand 13 = .ok (.iload_n 2, 1) := by decide +kernel
theorem dX7_countInStand_14 : decode cX7_countInStand 14 = .ok (.invokevirtual 25, 3) := by decide +kernel
theorem dX7_countInStand_17 : decode cX7_countInStand 17 = .ok (.ifCond .eq 6, 3) := by decide +kernel
theorem dX7_countInStand_20 : decode cX7_countInStand 20 = .ok (.iinc 1 1, 3) := by decide +kernel
theorem dX7_countInStand_23 : decode cX7_countInStand 23 = .ok (.iinc 2 1, 3) := by decide +kernel
theorem dX7_countInStand_26 : decode cX7_countInStand 26 = .ok (.goto (-22), 3) := by decide +kernel
theorem dX7_countInStand_29 : decode cX7_countInStand 29 = .ok (.iload_n 1, 1) := by decide +kernel
theorem dX7_countInStand_30 : decode cX7_countInStand 30 = .ok (.ireturn, 1) := by decide +kernel
theorem dX7_countBorrowed_0 : decode cX7_countBorrowed 0 = .ok (.iconst 0, 1) := by decide +kernel
theorem dX7_countBorrowed_1 : decode cX7_countBorrowed 1 = .ok (.istore_n 1, 1) := by decide +kernel
theorem dX7_countBorrowed_2 : decode cX7_countBorrowed 2 = .ok (.iconst 0, 1) := by decide +kernel
theorem dX7_countBorrowed_3 : decode cX7_countBorrowed 3 = .ok (.istore_n 2, 1) := by decide +kernel
theorem dX7_countBorrowed_4 : decode cX7_countBorrowed 4 = .ok (.iload_n 2, 1) := by decide +kernel
theorem dX7_countBorrowed_5 : decode cX7_countBorrowed 5 = .ok (.aload_n 0, 1) := by decide +kernel
theorem dX7_countBorrowed_6 : decode cX7_countBorrowed 6 = .ok (.getfield 9, 3) := by decide +kernel
theorem dX7_countBorrowed_9 : decode cX7_countBorrowed 9 = .ok (.if_icmp .ge 35, 3) := by decide +kernel
theorem dX7_countBorrowed_12 : decode cX7_countBorrowed 12 = .ok (.aload_n 0, 1) := by decide +kernel
theorem dX7_countBorrowed_13 : decode cX7_countBorrowed 13 = .ok (.iload_n 2, 1) := by decide +kernel
theorem dX7_countBorrowed_14 : decode cX7_countBorrowed 14 = .ok (.invokevirtual 25, 3) := by decide +kernel
theorem dX7_countBorrowed_17 : decode cX7_countBorrowed 17 = .ok (.ifCond .ne 21, 3) := by decide +kernel
theorem dX7_countBorrowed_20 : decode cX7_countBorrowed 20 = .ok (.aload_n 0, 1) := by decide +kernel
theorem dX7_countBorrowed_21 : decode cX7_countBorrowed 21 = .ok (.getfield 22, 3) := by decide +kernel
theorem dX7_countBorrowed_24 : decode cX7_countBorrowed 24 = .ok (.iload_n 2, 1) := by decide +kernel
theorem dX7_countBorrowed_25 : decode cX7_countBorrowed 25 = .ok (.iaload, 1) := by decide +kernel
theorem dX7_countBorrowed_26 : decode cX7_countBorrowed 26 = .ok (.aload_n 0, 1) := by decide +kernel
theorem dX7_countBorrowed_27 : decode cX7_countBorrowed 27 = .ok (.getfield 15, 3) := by decide +kernel
theorem dX7_countBorrowed_30 : decode cX7_countBorrowed 30 = .ok (.iload_n 2, 1) := by decide +kernel
theorem dX7_countBorrowed_31 : decode cX7_countBorrowed 31 = .ok (.iaload, 1) := by decide +kernel
theorem dX7_countBorrowed_32 : decode cX7_countBorrowed 32 = .ok (.if_icmp .eq 6, 3) := by decide +kernel
theorem dX7_countBorrowed_35 : decode cX7_countBorrowed 35 = .ok (.iinc 1 1, 3) := by decide +kernel
theorem dX7_countBorrowed_38 : decode cX7_countBorrowed 38 = .ok (.iinc 2 1, 3) := by decide +kernel
theorem dX7_countBorrowed_41 : decode cX7_countBorrowed 41 = .ok (.goto (-37), 3) := by decide +kernel
theorem dX7_countBorrowed_44 : decode cX7_countBorrowed 44 = .ok (.iload_n 1, 1) := by decide +kernel
theorem dX7_countBorrowed_45 : decode cX7_countBorrowed 45 = .ok (.ireturn, 1) := by decide +kernel
theorem dX7_firstOwnUsable_0 : decode cX7_firstOwnUsable 0 = .ok (.iconst 0, 1) := by decide +kernel
theorem dX7_firstOwnUsable_1 : decode cX7_firstOwnUsable 1 = .ok (.istore_n 2, 1) := by decide +kernel
theorem dX7_firstOwnUsable_2 : decode cX7_firstOwnUsable 2 = .ok (.iload_n 2, 1) := by decide +kernel
theorem dX7_firstOwnUsable_3 : decode cX7_firstOwnUsable 3 = .ok (.aload_n 0, 1) := by decide +kernel
theorem dX7_firstOwnUsable_4 : decode cX7_firstOwnUsable 4 = .ok (.getfield 9, 3) := by decide +kernel
theorem dX7_firstOwnUsable_7 : decode cX7_firstOwnUsable 7 = .ok (.if_icmp .ge 29, 3) := by decide +kernel
theorem dX7_firstOwnUsable_10 : decode cX7_firstOwnUsable 10 = .ok (.aload_n 0, 1) := by decide +kernel
theorem dX7_firstOwnUsable_11 : decode cX7_firstOwnUsable 11 = .ok (.getfield 15, 3) := by decide +kernel
theorem dX7_firstOwnUsable_14 : decode cX7_firstOwnUsable 14 = .ok (.iload_n 2, 1) := by decide +kernel
theorem dX7_firstOwnUsable_15 : decode cX7_firstOwnUsable 15 = .ok (.iaload, 1) := by decide +kernel
theorem dX7_firstOwnUsable_16 : decode cX7_firstOwnUsable 16 = .ok (.iload_n 1, 1) := by decide +kernel
theorem dX7_firstOwnUsable_17 : decode cX7_firstOwnUsable 17 = .ok (.if_icmp .ne 13, 3) := by decide +kernel
theorem dX7_firstOwnUsable_20 : decode cX7_firstOwnUsable 20 = .ok (.aload_n 0, 1) := by decide +kernel
theorem dX7_firstOwnUsable_21 : decode cX7_firstOwnUsable 21 = .ok (.iload_n 2, 1) := by decide +kernel
theorem dX7_firstOwnUsable_22 : decode cX7_firstOwnUsable 22 = .ok (.invokevirtual 29, 3) := by decide +kernel
theorem dX7_firstOwnUsable_25 : decode cX7_firstOwnUsable 25 = .ok (.ifCond .eq 5, 3) := by decide +kernel
theorem dX7_firstOwnUsable_28 : decode cX7_firstOwnUsable 28 = .ok (.iload_n 2, 1) := by decide +kernel
theorem dX7_firstOwnUsable_29 : decode cX7_firstOwnUsable 29 = .ok (.ireturn, 1) := by decide +kernel
theorem dX7_firstOwnUsable_30 : decode cX7_firstOwnUsable 30 = .ok (.iinc 2 1, 3) := by decide +kernel
theorem dX7_firstOwnUsable_33 : decode cX7_firstOwnUsable 33 = .ok (.goto (-31), 3) := by decide +kernel
theorem dX7_firstOwnUsable_36 : decode cX7_firstOwnUsable 36 = .ok (.iconst (-1), 1) := by decide +kernel
theorem dX7_firstOwnUsable_37 : decode cX7_firstOwnUsable 37 = .ok (.ireturn, 1) := by decide +kernel
theorem dX7_driestUsable_0 : decode cX7_driestUsable 0 = .ok (.iconst (-1), 1) := by decide +kernel
theorem dX7_driestUsable_1 : decode cX7_driestUsable 1 = .ok (.istore_n 1, 1) := by decide +kernel
theorem dX7_driestUsable_2 : decode cX7_driestUsable 2 = .ok (.bipush 100, 2) := by decide +kernel
theorem dX7_driestUsable_4 : decode cX7_driestUsable 4 = .ok (.istore_n 2, 1) := by decide +kernel
theorem dX7_driestUsable_5 : decode cX7_driestUsable 5 = .ok (.iconst 0, 1) := by decide +kernel
theorem dX7_driestUsable_6 : decode cX7_driestUsable 6 = .ok (.istore_n 3, 1) := by decide +kernel
theorem dX7_driestUsable_7 : decode cX7_driestUsable 7 = .ok (.iload_n 3, 1) := by decide +kernel
theorem dX7_driestUsable_8 : decode cX7_driestUsable 8 = .ok (.aload_n 0, 1) := by decide +kernel
theorem dX7_driestUsable_9 : decode cX7_driestUsable 9 = .ok (.getfield 9, 3) := by decide +kernel
theorem dX7_driestUsable_12 : decode cX7_driestUsable 12 = .ok (.if_icmp .ge 36, 3) := by decide +kernel
theorem dX7_driestUsable_15 : decode cX7_driestUsable 15 = .ok (.aload_n 0, 1) := by decide +kernel
theorem dX7_driestUsable_16 : decode cX7_driestUsable 16 = .ok (.iload_n 3, 1) := by decide +kernel
theorem dX7_driestUsable_17 : decode cX7_driestUsable 17 = .ok (.invokevirtual 29, 3) := by decide +kernel
theorem dX7_driestUsable_20 : decode cX7_driestUsable 20 = .ok (.ifCond .eq 22, 3) := by decide +kernel
theorem dX7_driestUsable_23 : decode cX7_driestUsable 23 = .ok (.aload_n 0, 1) := by decide +kernel
theorem dX7_driestUsable_24 : decode cX7_driestUsable 24 = .ok (.getfield 19, 3) := by decide +kernel
theorem dX7_driestUsable_27 : decode cX7_driestUsable 27 = .ok (.iload_n 3, 1) := by decide +kernel
theorem dX7_driestUsable_28 : decode cX7_driestUsable 28 = .ok (.iaload, 1) := by decide +kernel
theorem dX7_driestUsable_29 : decode cX7_driestUsable 29 = .ok (.iload_n 2, 1) := by decide +kernel
theorem dX7_driestUsable_30 : decode cX7_driestUsable 30 = .ok (.if_icmp .ge 12, 3) := by decide +kernel
theorem dX7_driestUsable_33 : decode cX7_driestUsable 33 = .ok (.iload_n 3, 1) := by decide +kernel
theorem dX7_driestUsable_34 : decode cX7_driestUsable 34 = .ok (.istore_n 1, 1) := by decide +kernel
theorem dX7_driestUsable_35 : decode cX7_driestUsable 35 = .ok (.aload_n 0, 1) := by decide +kernel
theorem dX7_driestUsable_36 : decode cX7_driestUsable 36 = .ok (.getfield 19, 3) := by decide +kernel
theorem dX7_driestUsable_39 : decode cX7_driestUsable 39 = .ok (.iload_n 3, 1) := by decide +kernel
theorem dX7_driestUsable_40 : decode cX7_driestUsable 40 = .ok (.iaload, 1) := by decide +kernel
theorem dX7_driestUsable_41 : decode cX7_driestUsable 41 = .ok (.istore_n 2, 1) := by decide +kernel
theorem dX7_driestUsable_42 : decode cX7_driestUsable 42 = .ok (.iinc 3 1, 3) := by decide +kernel
theorem dX7_driestUsable_45 : decode cX7_driestUsable 45 = .ok (.goto (-38), 3) := by decide +kernel
theorem dX7_driestUsable_48 : decode cX7_driestUsable 48 = .ok (.iload_n 1, 1) := by decide +kernel
theorem dX7_driestUsable_49 : decode cX7_driestUsable 49 = .ok (.ireturn, 1) := by decide +kernel
theorem dX7_passOneIn_0 : decode cX7_passOneIn 0 = .ok (.iconst 0, 1) := by decide +kernel
theorem dX7_passOneIn_1 : decode cX7_passOneIn 1 = .ok (.istore_n 2, 1) := by decide +kernel
theorem dX7_passOneIn_2 : decode cX7_passOneIn 2 = .ok (.iconst 0, 1) := by decide +kernel
theorem dX7_passOneIn_3 : decode cX7_passOneIn 3 = .ok (.istore_n 3, 1) := by decide +kernel
theorem dX7_passOneIn_4 : decode cX7_passOneIn 4 = .ok (.iload_n 3, 1) := by decide +kernel
theorem dX7_passOneIn_5 : decode cX7_passOneIn 5 = .ok (.aload_n 0, 1) := by decide +kernel
theorem dX7_passOneIn_6 : decode cX7_passOneIn 6 = .ok (.getfield 9, 3) := by decide +kernel
theorem dX7_passOneIn_9 : decode cX7_passOneIn 9 = .ok (.if_icmp .ge 61, 3) := by decide +kernel
theorem dX7_passOneIn_12 : decode cX7_passOneIn 12 = .ok (.aload_n 0, 1) := by decide +kernel
theorem dX7_passOneIn_13 : decode cX7_passOneIn 13 = .ok (.iload_n 3, 1) := by decide +kernel
theorem dX7_passOneIn_14 : decode cX7_passOneIn 14 = .ok (.invokevirtual 25, 3) := by decide +kernel
theorem dX7_passOneIn_17 : decode cX7_passOneIn 17 = .ok (.ifCond .ne 25, 3) := by decide +kernel
theorem dX7_passOneIn_20 : decode cX7_passOneIn 20 = .ok (.aload_n 0, 1) := by decide +kernel
theorem dX7_passOneIn_21 : decode cX7_passOneIn 21 = .ok (.getfield 19, 3) := by decide +kernel
theorem dX7_passOneIn_24 : decode cX7_passOneIn 24 = .ok (.iload_n 3, 1) := by decide +kernel
theorem dX7_passOneIn_25 : decode cX7_passOneIn 25 = .ok (.bipush 99, 2) := by decide +kernel
theorem dX7_passOneIn_27 : decode cX7_passOneIn 27 = .ok (.aload_n 0, 1) := by decide +kernel
theorem dX7_passOneIn_28 : decode cX7_passOneIn 28 = .ok (.getfield 19, 3) := by decide +kernel
theorem dX7_passOneIn_31 : decode cX7_passOneIn 31 = .ok (.iload_n 3, 1) := by decide +kernel
theorem dX7_passOneIn_32 : decode cX7_passOneIn 32 = .ok (.iaload, 1) := by decide +kernel
theorem dX7_passOneIn_33 : decode cX7_passOneIn 33 = .ok (.iload_n 1, 1) := by decide +kernel
theorem dX7_passOneIn_34 : decode cX7_passOneIn 34 = .ok (.iadd, 1) := by decide +kernel
theorem dX7_passOneIn_35 : decode cX7_passOneIn 35 = .ok (.invokestatic 32, 3) := by decide +kernel
theorem dX7_passOneIn_38 : decode cX7_passOneIn 38 = .ok (.iastore, 1) := by decide +kernel
theorem dX7_passOneIn_39 : decode cX7_passOneIn 39 = .ok (.goto 25, 3) := by decide +kernel
theorem dX7_passOneIn_42 : decode cX7_passOneIn 42 = .ok (.aload_n 0, 1) := by decide +kernel
theorem dX7_passOneIn_43 : decode cX7_passOneIn 43 = .ok (.getfield 19, 3) := by decide +kernel
theorem dX7_passOneIn_46 : decode cX7_passOneIn 46 = .ok (.iload_n 3, 1) := by decide +kernel
theorem dX7_passOneIn_47 : decode cX7_passOneIn 47 = .ok (.iaload, 1) := by decide +kernel
theorem dX7_passOneIn_48 : decode cX7_passOneIn 48 = .ok (.ifCond .le 16, 3) := by decide +kernel
theorem dX7_passOneIn_51 : decode cX7_passOneIn 51 = .ok (.aload_n 0, 1) := by decide +kernel
theorem dX7_passOneIn_52 : decode cX7_passOneIn 52 = .ok (.getfield 19, 3) := by decide +kernel
theorem dX7_passOneIn_55 : decode cX7_passOneIn 55 = .ok (.iload_n 3, 1) := by decide +kernel
theorem dX7_passOneIn_56 : decode cX7_passOneIn 56 = .ok (.dup2, 1) := by decide +kernel
theorem dX7_passOneIn_57 : decode cX7_passOneIn 57 = .ok (.iaload, 1) := by decide +kernel
theorem dX7_passOneIn_58 : decode cX7_passOneIn 58 = .ok (.iconst 1, 1) := by decide +kernel
theorem dX7_passOneIn_59 : decode cX7_passOneIn 59 = .ok (.isub, 1) := by decide +kernel
theorem dX7_passOneIn_60 : decode cX7_passOneIn 60 = .ok (.iastore, 1) := by decide +kernel
theorem dX7_passOneIn_61 : decode cX7_passOneIn 61 = .ok (.iinc 2 1, 3) := by decide +kernel
theorem dX7_passOneIn_64 : decode cX7_passOneIn 64 = .ok (.iinc 3 1, 3) := by decide +kernel
theorem dX7_passOneIn_67 : decode cX7_passOneIn 67 = .ok (.goto (-63), 3) := by decide +kernel
theorem dX7_passOneIn_70 : decode cX7_passOneIn 70 = .ok (.iload_n 2, 1) := by decide +kernel
theorem dX7_passOneIn_71 : decode cX7_passOneIn 71 = .ok (.ireturn, 1) := by decide +kernel
theorem dX7_copyFrom_0 : decode cX7_copyFrom 0 = .ok (.aload_n 0, 1) := by decide +kernel
theorem dX7_copyFrom_1 : decode cX7_copyFrom 1 = .ok (.aload_n 1, 1) := by decide +kernel
theorem dX7_copyFrom_2 : decode cX7_copyFrom 2 = .ok (.getfield 9, 3) := by decide +kernel
theorem dX7_copyFrom_5 : decode cX7_copyFrom 5 = .ok (.putfield 9, 3) := by decide +kernel
theorem dX7_copyFrom_8 : decode cX7_copyFrom 8 = .ok (.aload_n 1, 1) := by decide +kernel
theorem dX7_copyFrom_9 : decode cX7_copyFrom 9 = .ok (.getfield 15, 3) := by decide +kernel
theorem dX7_copyFrom_12 : decode cX7_copyFrom 12 = .ok (.iconst 0, 1) := by decide +kernel
theorem dX7_copyFrom_13 : decode cX7_copyFrom 13 = .ok (.aload_n 0, 1) := by decide +kernel
theorem dX7_copyFrom_14 : decode cX7_copyFrom 14 = .ok (.getfield 15, 3) := by decide +kernel
theorem dX7_copyFrom_17 : decode cX7_copyFrom 17 = .ok (.iconst 0, 1) := by decide +kernel
theorem dX7_copyFrom_18 : decode cX7_copyFrom 18 = .ok (.bipush 12, 2) := by decide +kernel
theorem dX7_copyFrom_20 : decode cX7_copyFrom 20 = .ok (.invokestatic 38, 3) := by decide +kernel
theorem dX7_copyFrom_23 : decode cX7_copyFrom 23 = .ok (.aload_n 1, 1) := by decide +kernel
theorem dX7_copyFrom_24 : decode cX7_copyFrom 24 = .ok (.getfield 19, 3) := by decide +kernel
theorem dX7_copyFrom_27 : decode cX7_copyFrom 27 = .ok (.iconst 0, 1) := by decide +kernel
theorem dX7_copyFrom_28 : decode cX7_copyFrom 28 = .ok (.aload_n 0, 1) := by decide +kernel
theorem dX7_copyFrom_29 : decode cX7_copyFrom 29 = .ok (.getfield 19, 3) := by decide +kernel
theorem dX7_copyFrom_32 : decode cX7_copyFrom 32 = .ok (.iconst 0, 1) := by decide +kernel
theorem dX7_copyFrom_33 : decode cX7_copyFrom 33 = .ok (.bipush 12, 2) := by decide +kernel
theorem dX7_copyFrom_35 : decode cX7_copyFrom 35 = .ok (.invokestatic 38, 3) := by decide +kernel
theorem dX7_copyFrom_38 : decode cX7_copyFrom 38 = .ok (.aload_n 1, 1) := by decide +kernel
theorem dX7_copyFrom_39 : decode cX7_copyFrom 39 = .ok (.getfield 22, 3) := by decide +kernel
theorem dX7_copyFrom_42 : decode cX7_copyFrom 42 = .ok (.iconst 0, 1) := by decide +kernel
theorem dX7_copyFrom_43 : decode cX7_copyFrom 43 = .ok (.aload_n 0, 1) := by decide +kernel
theorem dX7_copyFrom_44 : decode cX7_copyFrom 44 = .ok (.getfield 22, 3) := by decide +kernel
theorem dX7_copyFrom_47 : decode cX7_copyFrom 47 = .ok (.iconst 0, 1) := by decide +kernel
theorem dX7_copyFrom_48 : decode cX7_copyFrom 48 = .ok (.bipush 12, 2) := by decide +kernel
theorem dX7_copyFrom_50 : decode cX7_copyFrom 50 = .ok (.invokestatic 38, 3) := by decide +kernel
theorem dX7_copyFrom_53 : decode cX7_copyFrom 53 = .ok (.return_, 1) := by decide +kernel
theorem dX8_init_0 : decode cX8_init 0 = .ok (.aload_n 0, 1) := by decide +kernel
theorem dX8_init_1 : decode cX8_init 1 = .ok (.invokespecial 1, 3) := by decide +kernel
theorem dX8_init_4 : decode cX8_init 4 = .ok (.aload_n 0, 1) := by decide +kernel
theorem dX8_init_5 : decode cX8_init 5 = .ok (.new 7, 3) := by decide +kernel
theorem dX8_init_8 : decode cX8_init 8 = .ok (.dup, 1) := by decide +kernel
theorem dX8_init_9 : decode cX8_init 9 = .ok (.invokespecial 9, 3) := by decide +kernel
theorem dX8_init_12 : decode cX8_init 12 = .ok (.putfield 10, 3) := by decide +kernel
theorem dX8_init_15 : decode cX8_init 15 = .ok (.aload_n 0, 1) := by decide +kernel
theorem dX8_init_16 : decode cX8_init 16 = .ok (.new 7, 3) := by decide +kernel
theorem dX8_init_19 : decode cX8_init 19 = .ok (.dup, 1) := by decide +kernel
theorem dX8_init_20 : decode cX8_init 20 = .ok (.invokespecial 9, 3) := by decide +kernel
theorem dX8_init_23 : decode cX8_init 23 = .ok (.putfield 16, 3) := by decide +kernel
theorem dX8_init_26 : decode cX8_init 26 = .ok (.aload_n 0, 1) := by decide +kernel
theorem dX8_init_27 : decode cX8_init 27 = .ok (.new 19, 3) := by decide +kernel
theorem dX8_init_30 : decode cX8_init 30 = .ok (.dup, 1) := by decide +kernel
theorem dX8_init_31 : decode cX8_init 31 = .ok (.aload_n 0, 1) := by decide +kernel
theorem dX8_init_32 : decode cX8_init 32 = .ok (.getfield 10, 3) := by decide +kernel
theorem dX8_init_35 : decode cX8_init 35 = .ok (.invokespecial 21, 3) := by decide +kernel
theorem dX8_init_38 : decode cX8_init 38 = .ok (.putfield 24, 3) := by decide +kernel
theorem dX8_init_41 : decode cX8_init 41 = .ok (.aload_n 0, 1) := by decide +kernel
theorem dX8_init_42 : decode cX8_init 42 = .ok (.new 28, 3) := by decide +kernel
theorem dX8_init_45 : decode cX8_init 45 = .ok (.dup, 1) := by decide +kernel
theorem dX8_init_46 : decode cX8_init 46 = .ok (.invokespecial 30, 3) := by decide +kernel
theorem dX8_init_49 : decode cX8_init 49 = .ok (.putfield 31, 3) := by decide +kernel
theorem dX8_init_52 : decode cX8_init 52 = .ok (.aload_n 0, 1) := by decide +kernel
theorem dX8_init_53 : decode cX8_init 53 = .ok (.new 28, 3) := by decide +kernel
theorem dX8_init_56 : decode cX8_init 56 = .ok (.dup, 1) := by decide +kernel
theorem dX8_init_57 : decode cX8_init 57 = .ok (.invokespecial 30, 3) := by decide +kernel
theorem dX8_init_60 : decode cX8_init 60 = .ok (.putfield 35, 3) := by decide +kernel
theorem dX8_init_63 : decode cX8_init 63 = .ok (.aload_n 0, 1) := by decide +kernel
theorem dX8_init_64 : decode cX8_init 64 = .ok (.new 38, 3) := by decide +kernel
theorem dX8_init_67 : decode cX8_init 67 = .ok (.dup, 1) := by decide +kernel
theorem dX8_init_68 : decode cX8_init 68 = .ok (.invokespecial 40, 3) := by decide +kernel
theorem dX8_init_71 : decode cX8_init 71 = .ok (.putfield 41, 3) := by decide +kernel
theorem dX8_init_74 : decode cX8_init 74 = .ok (.aload_n 0, 1) := by decide +kernel
theorem dX8_init_75 : decode cX8_init 75 = .ok (.new 45, 3) := by decide +kernel
theorem dX8_init_78 : decode cX8_init 78 = .ok (.dup, 1) := by decide +kernel
theorem dX8_init_79 : decode cX8_init 79 = .ok (.invokespecial 47, 3) := by decide +kernel
theorem dX8_init_82 : decode cX8_init 82 = .ok (.putfield 48, 3) := by decide +kernel
theorem dX8_init_85 : decode cX8_init 85 = .ok (.aload_n 0, 1) := by decide +kernel
theorem dX8_init_86 : decode cX8_init 86 = .ok (.iconst (-1), 1) := by decide +kernel
theorem dX8_init_87 : decode cX8_init 87 = .ok (.putfield 52, 3) := by decide +kernel
theorem dX8_init_90 : decode cX8_init 90 = .ok (.aload_n 0, 1) := by decide +kernel
theorem dX8_init_91 : decode cX8_init 91 = .ok (.getfield 10, 3) := by decide +kernel
theorem dX8_init_94 : decode cX8_init 94 = .ok (.ldc 56, 2) := by decide +kernel
theorem dX8_init_96 : decode cX8_init 96 = .ok (.invokevirtual 58, 3) := by decide +kernel
theorem dX8_init_99 : decode cX8_init 99 = .ok (.aload_n 0, 1) := by decide +kernel
theorem dX8_init_100 : decode cX8_init 100 = .ok (.invokevirtual 62, 3) := by decide +kernel
theorem dX8_init_103 : decode cX8_init 103 = .ok (.return_, 1) := by decide +kernel
theorem dX8_append_0 : decode cX8_append 0 = .ok (.aload_n 0, 1) := by decide +kernel
theorem dX8_append_1 : decode cX8_append 1 = .ok (.getfield 10, 3) := by decide +kernel
theorem dX8_append_4 : decode cX8_append 4 = .ok (.getfield 65, 3) := by decide +kernel
theorem dX8_append_7 : decode cX8_append 7 = .ok (.sipush 580, 3) := by decide +kernel
theorem dX8_append_10 : decode cX8_append 10 = .ok (.if_icmp .le 13, 3) := by decide +kernel
theorem dX8_append_13 : decode cX8_append 13 = .ok (.new 68, 3) := by decide +kernel
theorem dX8_append_16 : decode cX8_append 16 = .ok (.dup, 1) := by decide +kernel
theorem dX8_append_17 : decode cX8_append 17 = .ok (.ldc 70, 2) := by decide +kernel
theorem dX8_append_19 : decode cX8_append 19 = .ok (.invokespecial 72, 3) := by decide +kernel
theorem dX8_append_22 : decode cX8_append 22 = .ok (.athrow, 1) := by decide +kernel
theorem dX8_append_23 : decode cX8_append 23 = .ok (.aload_n 0, 1) := by decide +kernel
theorem dX8_append_24 : decode cX8_append 24 = .ok (.getfield 10, 3) := by decide +kernel
theorem dX8_append_27 : decode cX8_append 27 = .ok (.iload_n 1, 1) := by decide +kernel
theorem dX8_append_28 : decode cX8_append 28 = .ok (.invokevirtual 74, 3) := by decide +kernel
theorem dX8_append_31 : decode cX8_append 31 = .ok (.aload_n 0, 1) := by decide +kernel
theorem dX8_append_32 : decode cX8_append 32 = .ok (.getfield 10, 3) := by decide +kernel
theorem dX8_append_35 : decode cX8_append 35 = .ok (.iload_n 2, 1) := by decide +kernel
theorem dX8_append_36 : decode cX8_append 36 = .ok (.invokevirtual 74, 3) := by decide +kernel
theorem dX8_append_39 : decode cX8_append 39 = .ok (.aload_n 0, 1) := by decide +kernel
theorem dX8_append_40 : decode cX8_append 40 = .ok (.getfield 10, 3) := by decide +kernel
theorem dX8_append_43 : decode cX8_append 43 = .ok (.iload_n 3, 1) := by decide +kernel
theorem dX8_append_44 : decode cX8_append 44 = .ok (.invokevirtual 74, 3) := by decide +kernel
theorem dX8_append_47 : decode cX8_append 47 = .ok (.aload_n 0, 1) := by decide +kernel
theorem dX8_append_48 : decode cX8_append 48 = .ok (.getfield 10, 3) := by decide +kernel
theorem dX8_append_51 : decode cX8_append 51 = .ok (.iload 4, 2) := by decide +kernel
theorem dX8_append_53 : decode cX8_append 53 = .ok (.invokevirtual 74, 3) := by decide +kernel
theorem dX8_append_56 : decode cX8_append 56 = .ok (.aload_n 0, 1) := by decide +kernel
theorem dX8_append_57 : decode cX8_append 57 = .ok (.getfield 10, 3) := by decide +kernel
theorem dX8_append_60 : decode cX8_append 60 = .ok (.iload 5, 2) := by decide +kernel
theorem dX8_append_62 : decode cX8_append 62 = .ok (.invokevirtual 74, 3) := by decide +kernel
theorem dX8_append_65 : decode cX8_append 65 = .ok (.aload_n 0, 1) := by decide +kernel
theorem dX8_append_66 : decode cX8_append 66 = .ok (.getfield 10, 3) := by decide +kernel
theorem dX8_append_69 : decode cX8_append 69 = .ok (.getfield 65, 3) := by decide +kernel
theorem dX8_append_72 : decode cX8_append 72 = .ok (.ireturn, 1) := by decide +kernel
theorem dX8_shorten_0 : decode cX8_shorten 0 = .ok (.iload_n 1, 1) := by decide +kernel
theorem dX8_shorten_1 : decode cX8_shorten 1 = .ok (.ifCond .lt 14, 3) := by decide +kernel
theorem dX8_shorten_4 : decode cX8_shorten 4 = .ok (.iload_n 1, 1) := by decide +kernel
theorem dX8_shorten_5 : decode cX8_shorten 5 = .ok (.aload_n 0, 1) := by decide +kernel
theorem dX8_shorten_6 : decode cX8_shorten 6 = .ok (.getfield 10, 3) := by decide +kernel
theorem dX8_shorten_9 : decode cX8_shorten 9 = .ok (.getfield 65, 3) := by decide +kernel
theorem dX8_shorten_12 : decode cX8_shorten 12 = .ok (.if_icmp .le 13, 3) := by decide +kernel
theorem dX8_shorten_15 : decode cX8_shorten 15 = .ok (.new 78, 3) := by decide +kernel
theorem dX8_shorten_18 : decode cX8_shorten 18 = .ok (.dup, 1) := by decide +kernel
theorem dX8_shorten_19 : decode cX8_shorten 19 = .ok (.ldc 80, 2) := by decide +kernel
theorem dX8_shorten_21 : decode cX8_shorten 21 = .ok (.invokespecial 82, 3) := by decide +kernel
theorem dX8_shorten_24 : decode cX8_shorten 24 = .ok (.athrow, 1) := by decide +kernel
theorem dX8_shorten_25 : decode cX8_shorten 25 = .ok (.aload_n 0, 1) := by decide +kernel
theorem dX8_shorten_26 : decode cX8_shorten 26 = .ok (.getfield 10, 3) := by decide +kernel
theorem dX8_shorten_29 : decode cX8_shorten 29 = .ok (.iload_n 1, 1) := by decide +kernel
theorem dX8_shorten_30 : decode cX8_shorten 30 = .ok (.putfield 65, 3) := by decide +kernel
theorem dX8_shorten_33 : decode cX8_shorten 33 = .ok (.iload_n 1, 1) := by decide +kernel
theorem dX8_shorten_34 : decode cX8_shorten 34 = .ok (.ireturn, 1) := by decide +kernel
theorem dX8_load_0 : decode cX8_load 0 = .ok (.aload_n 0, 1) := by decide +kernel
theorem dX8_load_1 : decode cX8_load 1 = .ok (.invokevirtual 62, 3) := by decide +kernel
theorem dX8_load_4 : decode cX8_load 4 = .ok (.aload_n 0, 1) := by decide +kernel
theorem dX8_load_5 : decode cX8_load 5 = .ok (.getfield 52, 3) := by decide +kernel
theorem dX8_load_8 : decode cX8_load 8 = .ok (.iconst (-1), 1) := by decide +kernel
theorem dX8_load_9 : decode cX8_load 9 = .ok (.if_icmp .eq 13, 3) := by decide +kernel
theorem dX8_load_12 : decode cX8_load 12 = .ok (.new 78, 3) := by decide +kernel
theorem dX8_load_15 : decode cX8_load 15 = .ok (.dup, 1) := by decide +kernel
theorem dX8_load_16 : decode cX8_load 16 = .ok (.ldc 83, 2) := by decide +kernel
theorem dX8_load_18 : decode cX8_load 18 = .ok (.invokespecial 82, 3) := by decide +kernel
theorem dX8_load_21 : decode cX8_load 21 = .ok (.athrow, 1) := by decide +kernel
theorem dX8_load_22 : decode cX8_load 22 = .ok (.aload_n 0, 1) := by decide +kernel
theorem dX8_load_23 : decode cX8_load 23 = .ok (.getfield 31, 3) := by decide +kernel
theorem dX8_load_26 : decode cX8_load 26 = .ok (.getfield 85, 3) := by decide +kernel
theorem dX8_load_29 : decode cX8_load 29 = .ok (.getfield 89, 3) := by decide +kernel
theorem dX8_load_32 : decode cX8_load 32 = .ok (.ireturn, 1) := by decide +kernel
theorem dX8_hasError_0 : decode cX8_hasError 0 = .ok (.aload_n 0, 1) := by decide +kernel
theorem dX8_hasError_1 : decode cX8_hasError 1 = .ok (.getfield 52, 3) := by decide +kernel
theorem dX8_hasError_4 : decode cX8_hasError 4 = .ok (.iconst (-1), 1) := by decide +kernel
theorem dX8_hasError_5 : decode cX8_hasError 5 = .ok (.if_icmp .eq 7, 3) := by decide +kernel
theorem dX8_hasError_8 : decode cX8_hasError 8 = .ok (.iconst 1, 1) := by decide +kernel
theorem dX8_hasError_9 : decode cX8_hasError 9 = .ok (.goto 4, 3) := by decide +kernel
theorem dX8_hasError_12 : decode cX8_hasError 12 = .ok (.iconst 0, 1) := by decide +kernel
theorem dX8_hasError_13 : decode cX8_hasError 13 = .ok (.ireturn, 1) := by decide +kernel
theorem dX8_errorOffset_0 : decode cX8_errorOffset 0 = .ok (.aload_n 0, 1) := by decide +kernel
theorem dX8_errorOffset_1 : decode cX8_errorOffset 1 = .ok (.getfield 52, 3) := by decide +kernel
theorem dX8_errorOffset_4 : decode cX8_errorOffset 4 = .ok (.iconst (-1), 1) := by decide +kernel
theorem dX8_errorOffset_5 : decode cX8_errorOffset 5 = .ok (.if_icmp .ne 13, 3) := by decide +kernel
theorem dX8_errorOffset_8 : decode cX8_errorOffset 8 = .ok (.new 94, 3) := by decide +kernel
theorem dX8_errorOffset_11 : decode cX8_errorOffset 11 = .ok (.dup, 1) := by decide +kernel
theorem dX8_errorOffset_12 : decode cX8_errorOffset 12 = .ok (.ldc 96, 2) := by decide +kernel
theorem dX8_errorOffset_14 : decode cX8_errorOffset 14 = .ok (.invokespecial 98, 3) := by decide +kernel
theorem dX8_errorOffset_17 : decode cX8_errorOffset 17 = .ok (.athrow, 1) := by decide +kernel
theorem dX8_errorOffset_18 : decode cX8_errorOffset 18 = .ok (.aload_n 0, 1) := by decide +kernel
theorem dX8_errorOffset_19 : decode cX8_errorOffset 19 = .ok (.getfield 52, 3) := by decide +kernel
theorem dX8_errorOffset_22 : decode cX8_errorOffset 22 = .ok (.ireturn, 1) := by decide +kernel
theorem dX8_minute_0 : decode cX8_minute 0 = .ok (.aload_n 0, 1) := by decide +kernel
theorem dX8_minute_1 : decode cX8_minute 1 = .ok (.getfield 31, 3) := by decide +kernel
theorem dX8_minute_4 : decode cX8_minute 4 = .ok (.getfield 99, 3) := by decide +kernel
theorem dX8_minute_7 : decode cX8_minute 7 = .ok (.ireturn, 1) := by decide +kernel
theorem dX8_rain_0 : decode cX8_rain 0 = .ok (.aload_n 0, 1) := by decide +kernel
theorem dX8_rain_1 : decode cX8_rain 1 = .ok (.getfield 31, 3) := by decide +kernel
theorem dX8_rain_4 : decode cX8_rain 4 = .ok (.getfield 102, 3) := by decide +kernel
theorem dX8_rain_7 : decode cX8_rain 7 = .ok (.ireturn, 1) := by decide +kernel
theorem dX8_noiseLimit_0 : decode cX8_noiseLimit 0 = .ok (.aload_n 0, 1) := by decide +kernel
theorem dX8_noiseLimit_1 : decode cX8_noiseLimit 1 = .ok (.getfield 31, 3) := by decide +kernel
theorem dX8_noiseLimit_4 : decode cX8_noiseLimit 4 = .ok (.getfield 105, 3) := by decide +kernel
theorem dX8_noiseLimit_7 : decode cX8_noiseLimit 7 = .ok (.ireturn, 1) := by decide +kernel
theorem dX8_noise_0 : decode cX8_noise 0 = .ok (.aload_n 0, 1) := by decide +kernel
theorem dX8_noise_1 : decode cX8_noise 1 = .ok (.getfield 31, 3) := by decide +kernel
theorem dX8_noise_4 : decode cX8_noise 4 = .ok (.getfield 108, 3) := by decide +kernel
theorem dX8_noise_7 : decode cX8_noise 7 = .ok (.ireturn, 1) := by decide +kernel
theorem dX8_complaints_0 : decode cX8_complaints 0 = .ok (.aload_n 0, 1) := by decide +kernel
theorem dX8_complaints_1 : decode cX8_complaints 1 = .ok (.getfield 31, 3) := by decide +kernel
theorem dX8_complaints_4 : decode cX8_complaints 4 = .ok (.getfield 111, 3) := by decide +kernel
theorem dX8_complaints_7 : decode cX8_complaints 7 = .ok (.ireturn, 1) := by decide +kernel
theorem dX8_puddle_0 : decode cX8_puddle 0 = .ok (.aload_n 0, 1) := by decide +kernel
theorem dX8_puddle_1 : decode cX8_puddle 1 = .ok (.getfield 31, 3) := by decide +kernel
theorem dX8_puddle_4 : decode cX8_puddle 4 = .ok (.getfield 114, 3) := by decide +kernel
theorem dX8_puddle_7 : decode cX8_puddle 7 = .ok (.ireturn, 1) := by decide +kernel
theorem dX8_yawn_0 : decode cX8_yawn 0 = .ok (.aload_n 0, 1) := by decide +kernel
theorem dX8_yawn_1 : decode cX8_yawn 1 = .ok (.getfield 31, 3) := by decide +kernel
theorem dX8_yawn_4 : decode cX8_yawn 4 = .ok (.invokevirtual 117, 3) := by decide +kernel
theorem dX8_yawn_7 : decode cX8_yawn 7 = .ok (.ireturn, 1) := by decide +kernel
theorem dX8_tips_0 : decode cX8_tips 0 = .ok (.aload_n 0, 1) := by decide +kernel
theorem dX8_tips_1 : decode cX8_tips 1 = .ok (.getfield 31, 3) := by decide +kernel
theorem dX8_tips_4 : decode cX8_tips 4 = .ok (.getfield 121, 3) := by decide +kernel
theorem dX8_tips_7 : decode cX8_tips 7 = .ok (.ireturn, 1) := by decide +kernel
theorem dX8_guestCount_0 : decode cX8_guestCount 0 = .ok (.aload_n 0, 1) := by decide +kernel
theorem dX8_guestCount_1 : decode cX8_guestCount 1 = .ok (.getfield 31, 3) := by decide +kernel
theorem dX8_guestCount_4 : decode cX8_guestCount 4 = .ok (.getfield 85, 3) := by decide +kernel
theorem dX8_guestCount_7 : decode cX8_guestCount 7 = .ok (.getfield 89, 3) := by decide +kernel
theorem dX8_guestCount_10 : decode cX8_guestCount 10 = .ok (.ireturn, 1) := by decide +kernel
theorem dX8_nameLength_0 : decode cX8_nameLength 0 = .ok (.aload_n 0, 1) := by decide +kernel
theorem dX8_nameLength_1 : decode cX8_nameLength 1 = .ok (.iload_n 1, 1) := by decide +kernel
theorem dX8_nameLength_2 : decode cX8_nameLength 2 = .ok (.invokevirtual 124, 3) := by decide +kernel
theorem dX8_nameLength_5 : decode cX8_nameLength 5 = .ok (.aload_n 0, 1) := by decide +kernel
theorem dX8_nameLength_6 : decode cX8_nameLength 6 = .ok (.getfield 31, 3) := by decide +kernel
theorem dX8_nameLength_9 : decode cX8_nameLength 9 = .ok (.getfield 85, 3) := by decide +kernel
theorem dX8_nameLength_12 : decode cX8_nameLength 12 = .ok (.getfield 127, 3) := by decide +kernel
theorem dX8_nameLength_15 : decode cX8_nameLength 15 = .ok (.iload_n 1, 1) := by decide +kernel
theorem dX8_nameLength_16 : decode cX8_nameLength 16 = .ok (.iaload, 1) := by decide +kernel
theorem dX8_nameLength_17 : decode cX8_nameLength 17 = .ok (.ireturn, 1) := by decide +kernel
theorem dX8_nameByte_0 : decode cX8_nameByte 0 = .ok (.aload_n 0, 1) := by decide +kernel
theorem dX8_nameByte_1 : decode cX8_nameByte 1 = .ok (.iload_n 1, 1) := by decide +kernel
theorem dX8_nameByte_2 : decode cX8_nameByte 2 = .ok (.invokevirtual 124, 3) := by decide +kernel
theorem dX8_nameByte_5 : decode cX8_nameByte 5 = .ok (.iload_n 2, 1) := by decide +kernel
theorem dX8_nameByte_6 : decode cX8_nameByte 6 = .ok (.ifCond .lt 19, 3) := by decide +kernel
theorem dX8_nameByte_9 : decode cX8_nameByte 9 = .ok (.iload_n 2, 1) := by decide +kernel
theorem dX8_nameByte_10 : decode cX8_nameByte 10 = .ok (.aload_n 0, 1) := by decide +kernel
theorem dX8_nameByte_11 : decode cX8_nameByte 11 = .ok (.getfield 31, 3) := by decide +kernel
theorem dX8_nameByte_14 : decode cX8_nameByte 14 = .ok (.getfield 85, 3) := by decide +kernel
theorem dX8_nameByte_17 : decode cX8_nameByte 17 = .ok (.getfield 127, 3) := by decide +kernel
theorem dX8_nameByte_20 : decode cX8_nameByte 20 = .ok (.iload_n 1, 1) := by decide +kernel
theorem dX8_nameByte_21 : decode cX8_nameByte 21 = .ok (.iaload, 1) := by decide +kernel
theorem dX8_nameByte_22 : decode cX8_nameByte 22 = .ok (.if_icmp .lt 13, 3) := by decide +kernel
theorem dX8_nameByte_25 : decode cX8_nameByte 25 = .ok (.new 131, 3) := by decide +kernel
theorem dX8_nameByte_28 : decode cX8_nameByte 28 = .ok (.dup, 1) := by decide +kernel
theorem dX8_nameByte_29 : decode cX8_nameByte 29 = .ok (.ldc 133, 2) := by decide +kernel
theorem dX8_nameByte_31 : decode cX8_nameByte 31 = .ok (.invokespecial 135, 3) := by decide +kernel
theorem dX8_nameByte_34 : decode cX8_nameByte 34 = .ok (.athrow, 1) := by decide +kernel
theorem dX8_nameByte_35 : decode cX8_nameByte 35 = .ok (.aload_n 0, 1) := by decide +kernel
theorem dX8_nameByte_36 : decode cX8_nameByte 36 = .ok (.getfield 31, 3) := by decide +kernel
theorem dX8_nameByte_39 : decode cX8_nameByte 39 = .ok (.getfield 85, 3) := by decide +kernel
theorem dX8_nameByte_42 : decode cX8_nameByte 42 = .ok (.iload_n 1, 1) := by decide +kernel
theorem dX8_nameByte_43 : decode cX8_nameByte 43 = .ok (.iload_n 2, 1) := by decide +kernel
theorem dX8_nameByte_44 : decode cX8_nameByte 44 = .ok (.invokevirtual 136, 3) := by decide +kernel
theorem dX8_nameByte_47 : decode cX8_nameByte 47 = .ok (.ireturn, 1) := by decide +kernel
theorem dX8_guestOfInput_0 : decode cX8_guestOfInput 0 = .ok (.aload_n 0, 1) := by decide +kernel
theorem dX8_guestOfInput_1 : decode cX8_guestOfInput 1 = .ok (.getfield 31, 3) := by decide +kernel
theorem dX8_guestOfInput_4 : decode cX8_guestOfInput 4 = .ok (.getfield 85, 3) := by decide +kernel
theorem dX8_guestOfInput_7 : decode cX8_guestOfInput 7 = .ok (.aload_n 0, 1) := by decide +kernel
theorem dX8_guestOfInput_8 : decode cX8_guestOfInput 8 = .ok (.getfield 10, 3) := by decide +kernel
theorem dX8_guestOfInput_11 : decode cX8_guestOfInput 11 = .ok (.iconst 0, 1) := by decide +kernel
theorem dX8_guestOfInput_12 : decode cX8_guestOfInput 12 = .ok (.aload_n 0, 1) := by decide +kernel
theorem dX8_guestOfInput_13 : decode cX8_guestOfInput 13 = .ok (.getfield 10, 3) := by decide +kernel
theorem dX8_guestOfInput_16 : decode cX8_guestOfInput 16 = .ok (.getfield 65, 3) := by decide +kernel
theorem dX8_guestOfInput_19 : decode cX8_guestOfInput 19 = .ok (.invokevirtual 140, 3) := by decide +kernel
theorem dX8_guestOfInput_22 : decode cX8_guestOfInput 22 = .ok (.istore_n 1, 1) := by decide +kernel
theorem dX8_guestOfInput_23 : decode cX8_guestOfInput 23 = .ok (.iload_n 1, 1) := by decide +kernel
theorem dX8_guestOfInput_24 : decode cX8_guestOfInput 24 = .ok (.iconst (-1), 1) := by decide +kernel
theorem dX8_guestOfInput_25 : decode cX8_guestOfInput 25 = .ok (.if_icmp .ne 13, 3) := by decide +kernel
theorem dX8_guestOfInput_28 : decode cX8_guestOfInput 28 = .ok (.new 94, 3) := by decide +kernel
theorem dX8_guestOfInput_31 : decode cX8_guestOfInput 31 = .ok (.dup, 1) := by decide +kernel
theorem dX8_guestOfInput_32 : decode cX8_guestOfInput 32 = .ok (.ldc 144, 2) := by decide +kernel
theorem dX8_guestOfInput_34 : decode cX8_guestOfInput 34 = .ok (.invokespecial 98, 3) := by decide +kernel
theorem dX8_guestOfInput_37 : decode cX8_guestOfInput 37 = .ok (.athrow, 1) := by decide +kernel
theorem dX8_guestOfInput_38 : decode cX8_guestOfInput 38 = .ok (.iload_n 1, 1) := by decide +kernel
theorem dX8_guestOfInput_39 : decode cX8_guestOfInput 39 = .ok (.ireturn, 1) := by decide +kernel
theorem dX8_generosity_0 : decode cX8_generosity 0 = .ok (.aload_n 0, 1) := by decide +kernel
theorem dX8_generosity_1 : decode cX8_generosity 1 = .ok (.iload_n 1, 1) := by decide +kernel
theorem dX8_generosity_2 : decode cX8_generosity 2 = .ok (.invokevirtual 124, 3) := by decide +kernel
theorem dX8_generosity_5 : decode cX8_generosity 5 = .ok (.aload_n 0, 1) := by decide +kernel
theorem dX8_generosity_6 : decode cX8_generosity 6 = .ok (.getfield 31, 3) := by decide +kernel
theorem dX8_generosity_9 : decode cX8_generosity 9 = .ok (.getfield 85, 3) := by decide +kernel
theorem dX8_generosity_12 : decode cX8_generosity 12 = .ok (.getfield 146, 3) := by decide +kernel
theorem dX8_generosity_15 : decode cX8_generosity 15 = .ok (.iload_n 1, 1) := by decide +kernel
theorem dX8_generosity_16 : decode cX8_generosity 16 = .ok (.iaload, 1) := by decide +kernel
theorem dX8_generosity_17 : decode cX8_generosity 17 = .ok (.ireturn, 1) := by decide +kernel
theorem dX8_bark_0 : decode cX8_bark 0 = .ok (.aload_n 0, 1) := by decide +kernel
theorem dX8_bark_1 : decode cX8_bark 1 = .ok (.iload_n 1, 1) := by decide +kernel
theorem dX8_bark_2 : decode cX8_bark 2 = .ok (.invokevirtual 124, 3) := by decide +kernel
theorem dX8_bark_5 : decode cX8_bark 5 = .ok (.aload_n 0, 1) := by decide +kernel
theorem dX8_bark_6 : decode cX8_bark 6 = .ok (.getfield 31, 3) := by decide +kernel
theorem dX8_bark_9 : decode cX8_bark 9 = .ok (.getfield 85, 3) := by decide +kernel
theorem dX8_bark_12 : decode cX8_bark 12 = .ok (.getfield 149, 3) := by decide +kernel
theorem dX8_bark_15 : decode cX8_bark 15 = .ok (.iload_n 1, 1) := by decide +kernel
theorem dX8_bark_16 : decode cX8_bark 16 = .ok (.iaload, 1) := by decide +kernel
theorem dX8_bark_17 : decode cX8_bark 17 = .ok (.ireturn, 1) := by decide +kernel
theorem dX8_isOut_0 : decode cX8_isOut 0 = .ok (.aload_n 0, 1) := by decide +kernel
theorem dX8_isOut_1 : decode cX8_isOut 1 = .ok (.iload_n 1, 1) := by decide +kernel
theorem dX8_isOut_2 : decode cX8_isOut 2 = .ok (.invokevirtual 124, 3) := by decide +kernel
theorem dX8_isOut_5 : decode cX8_isOut 5 = .ok (.aload_n 0, 1) := by decide +kernel
theorem dX8_isOut_6 : decode cX8_isOut 6 = .ok (.getfield 31, 3) := by decide +kernel
theorem dX8_isOut_9 : decode cX8_isOut 9 = .ok (.getfield 85, 3) := by decide +kernel
theorem dX8_isOut_12 : decode cX8_isOut 12 = .ok (.iload_n 1, 1) := by decide +kernel
theorem dX8_isOut_13 : decode cX8_isOut 13 = .ok (.invokevirtual 152, 3) := by decide +kernel
theorem dX8_isOut_16 : decode cX8_isOut 16 = .ok (.ireturn, 1) := by decide +kernel
theorem dX8_outSince_0 : decode cX8_outSince 0 = .ok (.aload_n 0, 1) := by decide +kernel
theorem dX8_outSince_1 : decode cX8_outSince 1 = .ok (.iload_n 1, 1) := by decide +kernel
theorem dX8_outSince_2 : decode cX8_outSince 2 = .ok (.invokevirtual 124, 3) := by decide +kernel
theorem dX8_outSince_5 : decode cX8_outSince 5 = .ok (.aload_n 0, 1) := by decide +kernel
theorem dX8_outSince_6 : decode cX8_outSince 6 = .ok (.getfield 31, 3) := by decide +kernel
theorem dX8_outSince_9 : decode cX8_outSince 9 = .ok (.getfield 85, 3) := by decide +kernel
theorem dX8_outSince_12 : decode cX8_outSince 12 = .ok (.iload_n 1, 1) := by decide +kernel
theorem dX8_outSince_13 : decode cX8_outSince 13 = .ok (.invokevirtual 152, 3) := by decide +kernel
theorem dX8_outSince_16 : decode cX8_outSince 16 = .ok (.ifCond .ne 13, 3) := by decide +kernel
theorem dX8_outSince_19 : decode cX8_outSince 19 = .ok (.new 94, 3) := by decide +kernel
theorem dX8_outSince_22 : decode cX8_outSince 22 = .ok (.dup, 1) := by decide +kernel
theorem dX8_outSince_23 : decode cX8_outSince 23 = .ok (.ldc 156, 2) := by decide +kernel
theorem dX8_outSince_25 : decode cX8_outSince 25 = .ok (.invokespecial 98, 3) := by decide +kernel
theorem dX8_outSince_28 : decode cX8_outSince 28 = .ok (.athrow, 1) := by decide +kernel
theorem dX8_outSince_29 : decode cX8_outSince 29 = .ok (.aload_n 0, 1) := by decide +kernel
theorem dX8_outSince_30 : decode cX8_outSince 30 = .ok (.getfield 31, 3) := by decide +kernel
theorem dX8_outSince_33 : decode cX8_outSince 33 = .ok (.getfield 85, 3) := by decide +kernel
theorem dX8_outSince_36 : decode cX8_outSince 36 = .ok (.getfield 158, 3) := by decide +kernel
theorem dX8_outSince_39 : decode cX8_outSince 39 = .ok (.iload_n 1, 1) := by decide +kernel
theorem dX8_outSince_40 : decode cX8_outSince 40 = .ok (.iaload, 1) := by decide +kernel
theorem dX8_outSince_41 : decode cX8_outSince 41 = .ok (.ireturn, 1) := by decide +kernel
theorem dX8_soak_0 : decode cX8_soak 0 = .ok (.aload_n 0, 1) := by decide +kernel
theorem dX8_soak_1 : decode cX8_soak 1 = .ok (.iload_n 1, 1) := by decide +kernel
theorem dX8_soak_2 : decode cX8_soak 2 = .ok (.invokevirtual 124, 3) := by decide +kernel
theorem dX8_soak_5 : decode cX8_soak 5 = .ok (.aload_n 0, 1) := by decide +kernel
theorem dX8_soak_6 : decode cX8_soak 6 = .ok (.getfield 31, 3) := by decide +kernel
theorem dX8_soak_9 : decode cX8_soak 9 = .ok (.getfield 85, 3) := by decide +kernel
theorem dX8_soak_12 : decode cX8_soak 12 = .ok (.getfield 161, 3) := by decide +kernel
theorem dX8_soak_15 : decode cX8_soak 15 = .ok (.iload_n 1, 1) := by decide +kernel
theorem dX8_soak_16 : decode cX8_soak 16 = .ok (.iaload, 1) := by decide +kernel
theorem dX8_soak_17 : decode cX8_soak 17 = .ok (.ireturn, 1) := by decide +kernel
theorem dX8_keysAtDesk_0 : decode cX8_keysAtDesk 0 = .ok (.aload_n 0, 1) := by decide +kernel
theorem dX8_keysAtDesk_1 : decode cX8_keysAtDesk 1 = .ok (.getfield 31, 3) := by decide +kernel
theorem dX8_keysAtDesk_4 : decode cX8_keysAtDesk 4 = .ok (.getfield 85, 3) := by decide +kernel
theorem dX8_keysAtDesk_7 : decode cX8_keysAtDesk 7 = .ok (.invokevirtual 164, 3) := by decide +kernel
theorem dX8_keysAtDesk_10 : decode cX8_keysAtDesk 10 = .ok (.ireturn, 1) := by decide +kernel
theorem dX8_wouldBark_0 : decode cX8_wouldBark 0 = .ok (.aload_n 0, 1) := by decide +kernel
theorem dX8_wouldBark_1 : decode cX8_wouldBark 1 = .ok (.iload_n 1, 1) := by decide +kernel
theorem dX8_wouldBark_2 : decode cX8_wouldBark 2 = .ok (.invokevirtual 124, 3) := by decide +kernel
theorem dX8_wouldBark_5 : decode cX8_wouldBark 5 = .ok (.aload_n 0, 1) := by decide +kernel
theorem dX8_wouldBark_6 : decode cX8_wouldBark 6 = .ok (.getfield 31, 3) := by decide +kernel
theorem dX8_wouldBark_9 : decode cX8_wouldBark 9 = .ok (.getfield 85, 3) := by decide +kernel
theorem dX8_wouldBark_12 : decode cX8_wouldBark 12 = .ok (.iload_n 1, 1) := by decide +kernel
theorem dX8_wouldBark_13 : decode cX8_wouldBark 13 = .ok (.aload_n 0, 1) := by decide +kernel
theorem dX8_wouldBark_14 : decode cX8_wouldBark 14 = .ok (.getfield 31, 3) := by decide +kernel
theorem dX8_wouldBark_17 : decode cX8_wouldBark 17 = .ok (.getfield 99, 3) := by decide +kernel
theorem dX8_wouldBark_20 : decode cX8_wouldBark 20 = .ok (.iconst 1, 1) := by decide +kernel
theorem dX8_wouldBark_21 : decode cX8_wouldBark 21 = .ok (.iadd, 1) := by decide +kernel
theorem dX8_wouldBark_22 : decode cX8_wouldBark 22 = .ok (.invokevirtual 167, 3) := by decide +kernel
theorem dX8_wouldBark_25 : decode cX8_wouldBark 25 = .ok (.ireturn, 1) := by decide +kernel
theorem dX8_umbrellaCount_0 : decode cX8_umbrellaCount 0 = .ok (.aload_n 0, 1) := by decide +kernel
theorem dX8_umbrellaCount_1 : decode cX8_umbrellaCount 1 = .ok (.getfield 31, 3) := by decide +kernel
theorem dX8_umbrellaCount_4 : decode cX8_umbrellaCount 4 = .ok (.getfield 171, 3) := by decide +kernel
theorem dX8_umbrellaCount_7 : decode cX8_umbrellaCount 7 = .ok (.getfield 175, 3) := by decide +kernel
theorem dX8_umbrellaCount_10 : decode cX8_umbrellaCount 10 = .ok (.ireturn, 1) := by decide +kernel
theorem dX8_ownerOf_0 : decode cX8_ownerOf 0 = .ok (.aload_n 0, 1) := by decide +kernel
theorem dX8_ownerOf_1 : decode cX8_ownerOf 1 = .ok (.iload_n 1, 1) := by decide +kernel
theorem dX8_ownerOf_2 : decode cX8_ownerOf 2 = .ok (.invokevirtual 178, 3) := by decide +kernel
theorem dX8_ownerOf_5 : decode cX8_ownerOf 5 = .ok (.aload_n 0, 1) := by decide +kernel
theorem dX8_ownerOf_6 : decode cX8_ownerOf 6 = .ok (.getfield 31, 3) := by decide +kernel
theorem dX8_ownerOf_9 : decode cX8_ownerOf 9 = .ok (.getfield 171, 3) := by decide +kernel
theorem dX8_ownerOf_12 : decode cX8_ownerOf 12 = .ok (.getfield 181, 3) := by decide +kernel
theorem dX8_ownerOf_15 : decode cX8_ownerOf 15 = .ok (.iload_n 1, 1) := by decide +kernel
theorem dX8_ownerOf_16 : decode cX8_ownerOf 16 = .ok (.iaload, 1) := by decide +kernel
theorem dX8_ownerOf_17 : decode cX8_ownerOf 17 = .ok (.ireturn, 1) := by decide +kernel
theorem dX8_wetness_0 : decode cX8_wetness 0 = .ok (.aload_n 0, 1) := by decide +kernel
theorem dX8_wetness_1 : decode cX8_wetness 1 = .ok (.iload_n 1, 1) := by decide +kernel
theorem dX8_wetness_2 : decode cX8_wetness 2 = .ok (.invokevirtual 178, 3) := by decide +kernel
theorem dX8_wetness_5 : decode cX8_wetness 5 = .ok (.aload_n 0, 1) := by decide +kernel
theorem dX8_wetness_6 : decode cX8_wetness 6 = .ok (.getfield 31, 3) := by decide +kernel
theorem dX8_wetness_9 : decode cX8_wetness 9 = .ok (.getfield 171, 3) := by decide +kernel
theorem dX8_wetness_12 : decode cX8_wetness 12 = .ok (.getfield 184, 3) := by decide +kernel
theorem dX8_wetness_15 : decode cX8_wetness 15 = .ok (.iload_n 1, 1) := by decide +kernel
theorem dX8_wetness_16 : decode cX8_wetness 16 = .ok (.iaload, 1) := by decide +kernel
theorem dX8_wetness_17 : decode cX8_wetness 17 = .ok (.ireturn, 1) := by decide +kernel
theorem dX8_isInStand_0 : decode cX8_isInStand 0 = .ok (.aload_n 0, 1) := by decide +kernel
theorem dX8_isInStand_1 : decode cX8_isInStand 1 = .ok (.iload_n 1, 1) := by decide +kernel
theorem dX8_isInStand_2 : decode cX8_isInStand 2 = .ok (.invokevirtual 178, 3) := by decide +kernel
theorem dX8_isInStand_5 : decode cX8_isInStand 5 = .ok (.aload_n 0, 1) := by decide +kernel
theorem dX8_isInStand_6 : decode cX8_isInStand 6 = .ok (.getfield 31, 3) := by decide +kernel
theorem dX8_isInStand_9 : decode cX8_isInStand 9 = .ok (.getfield 171, 3) := by decide +kernel
theorem dX8_isInStand_12 : decode cX8_isInStand 12 = .ok (.iload_n 1, 1) := by decide +kernel
theorem dX8_isInStand_13 : decode cX8_isInStand 13 = .ok (.invokevirtual 187, 3) := by decide +kernel
theorem dX8_isInStand_16 : decode cX8_isInStand 16 = .ok (.ireturn, 1) := by decide +kernel
theorem dX8_isUsable_0 : decode cX8_isUsable 0 = .ok (.aload_n 0, 1) := by decide +kernel
theorem dX8_isUsable_1 : decode cX8_isUsable 1 = .ok (.iload_n 1, 1) := by decide +kernel
theorem dX8_isUsable_2 : decode cX8_isUsable 2 = .ok (.invokevirtual 178, 3) := by decide +kernel
theorem dX8_isUsable_5 : decode cX8_isUsable 5 = .ok (.aload_n 0, 1) := by decide +kernel
theorem dX8_isUsable_6 : decode cX8_isUsable 6 = .ok (.getfield 31, 3) := by decide +kernel
theorem dX8_isUsable_9 : decode cX8_isUsable 9 = .ok (.getfield 171, 3) := by decide +kernel
theorem dX8_isUsable_12 : decode cX8_isUsable 12 = .ok (.iload_n 1, 1) := by decide +kernel
theorem dX8_isUsable_13 : decode cX8_isUsable 13 = .ok (.invokevirtual 190, 3) := by decide +kernel
theorem dX8_isUsable_16 : decode cX8_isUsable 16 = .ok (.ireturn, 1) := by decide +kernel
theorem dX8_carrierOf_0 : decode cX8_carrierOf 0 = .ok (.aload_n 0, 1) := by decide +kernel
theorem dX8_carrierOf_1 : decode cX8_carrierOf 1 = .ok (.iload_n 1, 1) := by decide +kernel
theorem dX8_carrierOf_2 : decode cX8_carrierOf 2 = .ok (.invokevirtual 178, 3) := by decide +kernel
theorem dX8_carrierOf_5 : decode cX8_carrierOf 5 = .ok (.aload_n 0, 1) := by decide +kernel
theorem dX8_carrierOf_6 : decode cX8_carrierOf 6 = .ok (.getfield 31, 3) := by decide +kernel
theorem dX8_carrierOf_9 : decode cX8_carrierOf 9 = .ok (.getfield 171, 3) := by decide +kernel
theorem dX8_carrierOf_12 : decode cX8_carrierOf 12 = .ok (.iload_n 1, 1) := by decide +kernel
theorem dX8_carrierOf_13 : decode cX8_carrierOf 13 = .ok (.invokevirtual 187, 3) := by decide +kernel
theorem dX8_carrierOf_16 : decode cX8_carrierOf 16 = .ok (.ifCond .eq 13, 3) := by decide +kernel
theorem dX8_carrierOf_19 : decode cX8_carrierOf 19 = .ok (.new 94, 3) := by decide +kernel
theorem dX8_carrierOf_22 : decode cX8_carrierOf 22 = .ok (.dup, 1) := by decide +kernel
theorem dX8_carrierOf_23 : decode cX8_carrierOf 23 = .ok (.ldc 193, 2) := by decide +kernel
theorem dX8_carrierOf_25 : decode cX8_carrierOf 25 = .ok (.invokespecial 98, 3) := by decide +kernel
theorem dX8_carrierOf_28 : decode cX8_carrierOf 28 = .ok (.athrow, 1) := by decide +kernel
theorem dX8_carrierOf_29 : decode cX8_carrierOf 29 = .ok (.aload_n 0, 1) := by decide +kernel
theorem dX8_carrierOf_30 : decode cX8_carrierOf 30 = .ok (.getfield 31, 3) := by decide +kernel
theorem dX8_carrierOf_33 : decode cX8_carrierOf 33 = .ok (.getfield 171, 3) := by decide +kernel
theorem dX8_carrierOf_36 : decode cX8_carrierOf 36 = .ok (.getfield 195, 3) := by decide +kernel
theorem dX8_carrierOf_39 : decode cX8_carrierOf 39 = .ok (.iload_n 1, 1) := by decide +kernel
theorem dX8_carrierOf_40 : decode cX8_carrierOf 40 = .ok (.iaload, 1) := by decide +kernel
theorem dX8_carrierOf_41 : decode cX8_carrierOf 41 = .ok (.ireturn, 1) := by decide +kernel
theorem dX8_umbrellaOf_0 : decode cX8_umbrellaOf 0 = .ok (.aload_n 0, 1) := by decide +kernel
theorem dX8_umbrellaOf_1 : decode cX8_umbrellaOf 1 = .ok (.iload_n 1, 1) := by decide +kernel
theorem dX8_umbrellaOf_2 : decode cX8_umbrellaOf 2 = .ok (.invokevirtual 124, 3) := by decide +kernel
theorem dX8_umbrellaOf_5 : decode cX8_umbrellaOf 5 = .ok (.aload_n 0, 1) := by decide +kernel
theorem dX8_umbrellaOf_6 : decode cX8_umbrellaOf 6 = .ok (.getfield 31, 3) := by decide +kernel
theorem dX8_umbrellaOf_9 : decode cX8_umbrellaOf 9 = .ok (.getfield 171, 3) := by decide +kernel
theorem dX8_umbrellaOf_12 : decode cX8_umbrellaOf 12 = .ok (.iload_n 1, 1) := by decide +kernel
theorem dX8_umbrellaOf_13 : decode cX8_umbrellaOf 13 = .ok (.invokevirtual 198, 3) := by decide +kernel
theorem dX8_umbrellaOf_16 : decode cX8_umbrellaOf 16 = .ok (.istore_n 2, 1) := by decide +kernel
theorem dX8_umbrellaOf_17 : decode cX8_umbrellaOf 17 = .ok (.iload_n 2, 1) := by decide +kernel
theorem dX8_umbrellaOf_18 : decode cX8_umbrellaOf 18 = .ok (.iconst (-1), 1) := by decide +kernel
theorem dX8_umbrellaOf_19 : decode cX8_umbrellaOf 19 = .ok (.if_icmp .ne 13, 3) := by decide +kernel
theorem dX8_umbrellaOf_22 : decode cX8_umbrellaOf 22 = .ok (.new 94, 3) := by decide +kernel
theorem dX8_umbrellaOf_25 : decode cX8_umbrellaOf 25 = .ok (.dup, 1) := by decide +kernel
theorem dX8_umbrellaOf_26 : decode cX8_umbrellaOf 26 = .ok (.ldc 202, 2) := by decide +kernel
theorem dX8_umbrellaOf_28 : decode cX8_umbrellaOf 28 = .ok (.invokespecial 98, 3) := by decide +kernel
theorem dX8_umbrellaOf_31 : decode cX8_umbrellaOf 31 = .ok (.athrow, 1) := by decide +kernel
theorem dX8_umbrellaOf_32 : decode cX8_umbrellaOf 32 = .ok (.iload_n 2, 1) := by decide +kernel
theorem dX8_umbrellaOf_33 : decode cX8_umbrellaOf 33 = .ok (.ireturn, 1) := by decide +kernel
theorem dX8_standCount_0 : decode cX8_standCount 0 = .ok (.aload_n 0, 1) := by decide +kernel
theorem dX8_standCount_1 : decode cX8_standCount 1 = .ok (.getfield 31, 3) := by decide +kernel
theorem dX8_standCount_4 : decode cX8_standCount 4 = .ok (.getfield 171, 3) := by decide +kernel
theorem dX8_standCount_7 : decode cX8_standCount 7 = .ok (.invokevirtual 204, 3) := by decide +kernel
theorem dX8_standCount_10 : decode cX8_standCount 10 = .ok (.ireturn, 1) := by decide +kernel
theorem dX8_borrowedCount_0 : decode cX8_borrowedCount 0 = .ok (.aload_n 0, 1) := by decide +kernel
theorem dX8_borrowedCount_1 : decode cX8_borrowedCount 1 = .ok (.getfield 31, 3) := by decide +kernel
theorem dX8_borrowedCount_4 : decode cX8_borrowedCount 4 = .ok (.getfield 171, 3) := by decide +kernel
theorem dX8_borrowedCount_7 : decode cX8_borrowedCount 7 = .ok (.invokevirtual 207, 3) := by decide +kernel
theorem dX8_borrowedCount_10 : decode cX8_borrowedCount 10 = .ok (.ireturn, 1) := by decide +kernel
theorem dX8_entryCount_0 : decode cX8_entryCount 0 = .ok (.aload_n 0, 1) := by decide +kernel
theorem dX8_entryCount_1 : decode cX8_entryCount 1 = .ok (.getfield 31, 3) := by decide +kernel
theorem dX8_entryCount_4 : decode cX8_entryCount 4 = .ok (.getfield 210, 3) := by decide +kernel
theorem dX8_entryCount_7 : decode cX8_entryCount 7 = .ok (.getfield 214, 3) := by decide +kernel
theorem dX8_entryCount_10 : decode cX8_entryCount 10 = .ok (.ireturn, 1) := by decide +kernel
theorem dX8_entryMinute_0 : decode cX8_entryMinute 0 = .ok (.aload_n 0, 1) := by decide +kernel
theorem dX8_entryMinute_1 : decode cX8_entryMinute 1 = .ok (.iload_n 1, 1) := by decide +kernel
theorem dX8_entryMinute_2 : decode cX8_entryMinute 2 = .ok (.invokevirtual 217, 3) := by decide +kernel
theorem dX8_entryMinute_5 : decode cX8_entryMinute 5 = .ok (.aload_n 0, 1) := by decide +kernel
theorem dX8_entryMinute_6 : decode cX8_entryMinute 6 = .ok (.getfield 31, 3) := by decide +kernel
theorem dX8_entryMinute_9 : decode cX8_entryMinute 9 = .ok (.getfield 210, 3) := by decide +kernel
theorem dX8_entryMinute_12 : decode cX8_entryMinute 12 = .ok (.getfield 220, 3) := by decide +kernel
theorem dX8_entryMinute_15 : decode cX8_entryMinute 15 = .ok (.iload_n 1, 1) := by decide +kernel
theorem dX8_entryMinute_16 : decode cX8_entryMinute 16 = .ok (.iaload, 1) := by decide +kernel
theorem dX8_entryMinute_17 : decode cX8_entryMinute 17 = .ok (.ireturn, 1) := by decide +kernel
theorem dX8_entryGuest_0 : decode cX8_entryGuest 0 = .ok (.aload_n 0, 1) := by decide +kernel
theorem dX8_entryGuest_1 : decode cX8_entryGuest 1 = .ok (.iload_n 1, 1) := by decide +kernel
theorem dX8_entryGuest_2 : decode cX8_entryGuest 2 = .ok (.invokevirtual 217, 3) := by decide +kernel
theorem dX8_entryGuest_5 : decode cX8_entryGuest 5 = .ok (.aload_n 0, 1) := by decide +kernel
theorem dX8_entryGuest_6 : decode cX8_entryGuest 6 = .ok (.getfield 31, 3) := by decide +kernel
theorem dX8_entryGuest_9 : decode cX8_entryGuest 9 = .ok (.getfield 210, 3) := by decide +kernel
theorem dX8_entryGuest_12 : decode cX8_entryGuest 12 = .ok (.getfield 223, 3) := by decide +kernel
theorem dX8_entryGuest_15 : decode cX8_entryGuest 15 = .ok (.iload_n 1, 1) := by decide +kernel
theorem dX8_entryGuest_16 : decode cX8_entryGuest 16 = .ok (.iaload, 1) := by decide +kernel
theorem dX8_entryGuest_17 : decode cX8_entryGuest 17 = .ok (.ireturn, 1) := by decide +kernel
theorem dX8_isLeaving_0 : decode cX8_isLeaving 0 = .ok (.aload_n 0, 1) := by decide +kernel
theorem dX8_isLeaving_1 : decode cX8_isLeaving 1 = .ok (.iload_n 1, 1) := by decide +kernel
theorem dX8_isLeaving_2 : decode cX8_isLeaving 2 = .ok (.invokevirtual 217, 3) := by decide +kernel
theorem dX8_isLeaving_5 : decode cX8_isLeaving 5 = .ok (.aload_n 0, 1) := by decide +kernel
theorem dX8_isLeaving_6 : decode cX8_isLeaving 6 = .ok (.getfield 31, 3) := by decide +kernel
theorem dX8_isLeaving_9 : decode cX8_isLeaving 9 = .ok (.getfield 210, 3) := by decide +kernel
theorem dX8_isLeaving_12 : decode cX8_isLeaving 12 = .ok (.getfield 225, 3) := by decide +kernel
theorem dX8_isLeaving_15 : decode cX8_isLeaving 15 = .ok (.iload_n 1, 1) := by decide +kernel
theorem dX8_isLeaving_16 : decode cX8_isLeaving 16 = .ok (.iaload, 1) := by decide +kernel
theorem dX8_isLeaving_17 : decode cX8_isLeaving 17 = .ok (.bipush 45, 2) := by decide +kernel
theorem dX8_isLeaving_19 : decode cX8_isLeaving 19 = .ok (.if_icmp .ne 7, 3) := by decide +kernel
theorem dX8_isLeaving_22 : decode cX8_isLeaving 22 = .ok (.iconst 1, 1) := by decide +kernel
theorem dX8_isLeaving_23 : decode cX8_isLeaving 23 = .ok (.goto 4, 3) := by decide +kernel
theorem dX8_isLeaving_26 : decode cX8_isLeaving 26 = .ok (.iconst 0, 1) := by decide +kernel
theorem dX8_isLeaving_27 : decode cX8_isLeaving 27 = .ok (.ireturn, 1) := by decide +kernel
theorem dX8_wasOut_0 : decode cX8_wasOut 0 = .ok (.aload_n 0, 1) := by decide +kernel
theorem dX8_wasOut_1 : decode cX8_wasOut 1 = .ok (.iload_n 1, 1) := by decide +kernel
theorem dX8_wasOut_2 : decode cX8_wasOut 2 = .ok (.invokevirtual 124, 3) := by decide +kernel
theorem dX8_wasOut_5 : decode cX8_wasOut 5 = .ok (.aload_n 0, 1) := by decide +kernel
theorem dX8_wasOut_6 : decode cX8_wasOut 6 = .ok (.iload_n 2, 1) := by decide +kernel
theorem dX8_wasOut_7 : decode cX8_wasOut 7 = .ok (.iload_n 2, 1) := by decide +kernel
theorem dX8_wasOut_8 : decode cX8_wasOut 8 = .ok (.invokevirtual 228, 3) := by decide +kernel
theorem dX8_wasOut_11 : decode cX8_wasOut 11 = .ok (.aload_n 0, 1) := by decide +kernel
theorem dX8_wasOut_12 : decode cX8_wasOut 12 = .ok (.getfield 31, 3) := by decide +kernel
theorem dX8_wasOut_15 : decode cX8_wasOut 15 = .ok (.getfield 210, 3) := by decide +kernel
theorem dX8_wasOut_18 : decode cX8_wasOut 18 = .ok (.iload_n 1, 1) := by decide +kernel
theorem dX8_wasOut_19 : decode cX8_wasOut 19 = .ok (.iload_n 2, 1) := by decide +kernel
theorem dX8_wasOut_20 : decode cX8_wasOut 20 = .ok (.iload_n 2, 1) := by decide +kernel
theorem dX8_wasOut_21 : decode cX8_wasOut 21 = .ok (.invokevirtual 232, 3) := by decide +kernel
theorem dX8_wasOut_24 : decode cX8_wasOut 24 = .ok (.ifCond .ne 7, 3) := by decide +kernel
theorem dX8_wasOut_27 : decode cX8_wasOut 27 = .ok (.iconst 1, 1) := by decide +kernel
theorem dX8_wasOut_28 : decode cX8_wasOut 28 = .ok (.goto 4, 3) := by decide +kernel
theorem dX8_wasOut_31 : decode cX8_wasOut 31 = .ok (.iconst 0, 1) := by decide +kernel
theorem dX8_wasOut_32 : decode cX8_wasOut 32 = .ok (.ireturn, 1) := by decide +kernel
theorem dX8_hasAlibi_0 : decode cX8_hasAlibi 0 = .ok (.aload_n 0, 1) := by decide +kernel
theorem dX8_hasAlibi_1 : decode cX8_hasAlibi 1 = .ok (.iload_n 1, 1) := by decide +kernel
theorem dX8_hasAlibi_2 : decode cX8_hasAlibi 2 = .ok (.invokevirtual 124, 3) := by decide +kernel
theorem dX8_hasAlibi_5 : decode cX8_hasAlibi 5 = .ok (.aload_n 0, 1) := by decide +kernel
theorem dX8_hasAlibi_6 : decode cX8_hasAlibi 6 = .ok (.iload_n 2, 1) := by decide +kernel
theorem dX8_hasAlibi_7 : decode cX8_hasAlibi 7 = .ok (.iload_n 3, 1) := by decide +kernel
theorem dX8_hasAlibi_8 : decode cX8_hasAlibi 8 = .ok (.invokevirtual 228, 3) := by decide +kernel
theorem dX8_hasAlibi_11 : decode cX8_hasAlibi 11 = .ok (.aload_n 0, 1) := by decide +kernel
theorem dX8_hasAlibi_12 : decode cX8_hasAlibi 12 = .ok (.getfield 31, 3) := by decide +kernel
theorem dX8_hasAlibi_15 : decode cX8_hasAlibi 15 = .ok (.getfield 210, 3) := by decide +kernel
theorem dX8_hasAlibi_18 : decode cX8_hasAlibi 18 = .ok (.iload_n 1, 1) := by decide +kernel
theorem dX8_hasAlibi_19 : decode cX8_hasAlibi 19 = .ok (.iload_n 2, 1) := by decide +kernel
theorem dX8_hasAlibi_20 : decode cX8_hasAlibi 20 = .ok (.iload_n 3, 1) := by decide +kernel
theorem dX8_hasAlibi_21 : decode cX8_hasAlibi 21 = .ok (.invokevirtual 232, 3) := by decide +kernel
theorem dX8_hasAlibi_24 : decode cX8_hasAlibi 24 = .ok (.ireturn, 1) := by decide +kernel
theorem dX8_suspects_0 : decode cX8_suspects 0 = .ok (.aload_n 0, 1) := by decide +kernel
theorem dX8_suspects_1 : decode cX8_suspects 1 = .ok (.iload_n 1, 1) := by decide +kernel
theorem dX8_suspects_2 : decode cX8_suspects 2 = .ok (.iload_n 2, 1) := by decide +kernel
theorem dX8_suspects_3 : decode cX8_suspects 3 = .ok (.invokevirtual 228, 3) := by decide +kernel
theorem dX8_suspects_6 : decode cX8_suspects 6 = .ok (.aload_n 0, 1) := by decide +kernel
theorem dX8_suspects_7 : decode cX8_suspects 7 = .ok (.getfield 31, 3) := by decide +kernel
theorem dX8_suspects_10 : decode cX8_suspects 10 = .ok (.iload_n 1, 1) := by decide +kernel
theorem dX8_suspects_11 : decode cX8_suspects 11 = .ok (.iload_n 2, 1) := by decide +kernel
theorem dX8_suspects_12 : decode cX8_suspects 12 = .ok (.invokevirtual 236, 3) := by decide +kernel
theorem dX8_suspects_15 : decode cX8_suspects 15 = .ok (.ireturn, 1) := by decide +kernel
theorem dX8_culprit_0 : decode cX8_culprit 0 = .ok (.aload_n 0, 1) := by decide +kernel
theorem dX8_culprit_1 : decode cX8_culprit 1 = .ok (.iload_n 1, 1) := by decide +kernel
theorem dX8_culprit_2 : decode cX8_culprit 2 = .ok (.iload_n 2, 1) := by decide +kernel
theorem dX8_culprit_3 : decode cX8_culprit 3 = .ok (.invokevirtual 228, 3) := by decide +kernel
theorem dX8_culprit_6 : decode cX8_culprit 6 = .ok (.aload_n 0, 1) := by decide +kernel
theorem dX8_culprit_7 : decode cX8_culprit 7 = .ok (.getfield 31, 3) := by decide +kernel
theorem dX8_culprit_10 : decode cX8_culprit 10 = .ok (.iload_n 1, 1) := by decide +kernel
theorem dX8_culprit_11 : decode cX8_culprit 11 = .ok (.iload_n 2, 1) := by decide +kernel
theorem dX8_culprit_12 : decode cX8_culprit 12 = .ok (.invokevirtual 236, 3) := by decide +kernel
theorem dX8_culprit_15 : decode cX8_culprit 15 = .ok (.iconst 1, 1) := by decide +kernel
theorem dX8_culprit_16 : decode cX8_culprit 16 = .ok (.if_icmp .eq 13, 3) := by decide +kernel
theorem dX8_culprit_19 : decode cX8_culprit 19 = .ok (.new 94, 3) := by decide +kernel
theorem dX8_culprit_22 : decode cX8_culprit 22 = .ok (.dup, 1) := by decide +kernel
theorem dX8_culprit_23 : decode cX8_culprit 23 = .ok (.ldc 239, 2) := by decide +kernel
theorem dX8_culprit_25 : decode cX8_culprit 25 = .ok (.invokespecial 98, 3) := by decide +kernel
theorem dX8_culprit_28 : decode cX8_culprit 28 = .ok (.athrow, 1) := by decide +kernel
theorem dX8_culprit_29 : decode cX8_culprit 29 = .ok (.aload_n 0, 1) := by decide +kernel
theorem dX8_culprit_30 : decode cX8_culprit 30 = .ok (.getfield 31, 3) := by decide +kernel
theorem dX8_culprit_33 : decode cX8_culprit 33 = .ok (.iload_n 1, 1) := by decide +kernel
theorem dX8_culprit_34 : decode cX8_culprit 34 = .ok (.iload_n 2, 1) := by decide +kernel
theorem dX8_culprit_35 : decode cX8_culprit 35 = .ok (.invokevirtual 241, 3) := by decide +kernel
theorem dX8_culprit_38 : decode cX8_culprit 38 = .ok (.ireturn, 1) := by decide +kernel
theorem dX8_minutesOut_0 : decode cX8_minutesOut 0 = .ok (.aload_n 0, 1) := by decide +kernel
theorem dX8_minutesOut_1 : decode cX8_minutesOut 1 = .ok (.iload_n 1, 1) := by decide +kernel
theorem dX8_minutesOut_2 : decode cX8_minutesOut 2 = .ok (.invokevirtual 124, 3) := by decide +kernel
theorem dX8_minutesOut_5 : decode cX8_minutesOut 5 = .ok (.aload_n 0, 1) := by decide +kernel
theorem dX8_minutesOut_6 : decode cX8_minutesOut 6 = .ok (.getfield 31, 3) := by decide +kernel
theorem dX8_minutesOut_9 : decode cX8_minutesOut 9 = .ok (.iload_n 1, 1) := by decide +kernel
theorem dX8_minutesOut_10 : decode cX8_minutesOut 10 = .ok (.iload_n 1, 1) := by decide +kernel
theorem dX8_minutesOut_11 : decode cX8_minutesOut 11 = .ok (.invokevirtual 244, 3) := by decide +kernel
theorem dX8_minutesOut_14 : decode cX8_minutesOut 14 = .ok (.ireturn, 1) := by decide +kernel
theorem dX8_minutesTogether_0 : decode cX8_minutesTogether 0 = .ok (.aload_n 0, 1) := by decide +kernel
theorem dX8_minutesTogether_1 : decode cX8_minutesTogether 1 = .ok (.iload_n 1, 1) := by decide +kernel
theorem dX8_minutesTogether_2 : decode cX8_minutesTogether 2 = .ok (.invokevirtual 124, 3) := by decide +kernel
theorem dX8_minutesTogether_5 : decode cX8_minutesTogether 5 = .ok (.aload_n 0, 1) := by decide +kernel
theorem dX8_minutesTogether_6 : decode cX8_minutesTogether 6 = .ok (.iload_n 2, 1) := by decide +kernel
theorem dX8_minutesTogether_7 : decode cX8_minutesTogether 7 = .ok (.invokevirtual 124, 3) := by decide +kernel
theorem dX8_minutesTogether_10 : decode cX8_minutesTogether 10 = .ok (.aload_n 0, 1) := by decide +kernel
theorem dX8_minutesTogether_11 : decode cX8_minutesTogether 11 = .ok (.getfield 31, 3) := by decide +kernel
theorem dX8_minutesTogether_14 : decode cX8_minutesTogether 14 = .ok (.iload_n 1, 1) := by decide +kernel
theorem dX8_minutesTogether_15 : decode cX8_minutesTogether 15 = .ok (.iload_n 2, 1) := by decide +kernel
theorem dX8_minutesTogether_16 : decode cX8_minutesTogether 16 = .ok (.invokevirtual 244, 3) := by decide +kernel
theorem dX8_minutesTogether_19 : decode cX8_minutesTogether 19 = .ok (.ireturn, 1) := by decide +kernel
theorem dX8_meanMinutesOut_0 : decode cX8_meanMinutesOut 0 = .ok (.aload_n 0, 1) := by decide +kernel
theorem dX8_meanMinutesOut_1 : decode cX8_meanMinutesOut 1 = .ok (.getfield 31, 3) := by decide +kernel
theorem dX8_meanMinutesOut_4 : decode cX8_meanMinutesOut 4 = .ok (.getfield 85, 3) := by decide +kernel
theorem dX8_meanMinutesOut_7 : decode cX8_meanMinutesOut 7 = .ok (.getfield 89, 3) := by decide +kernel
theorem dX8_meanMinutesOut_10 : decode cX8_meanMinutesOut 10 = .ok (.istore_n 1, 1) := by decide +kernel
theorem dX8_meanMinutesOut_11 : decode cX8_meanMinutesOut 11 = .ok (.iload_n 1, 1) := by decide +kernel
theorem dX8_meanMinutesOut_12 : decode cX8_meanMinutesOut 12 = .ok (.ifCond .ne 5, 3) := by decide +kernel
theorem dX8_meanMinutesOut_15 : decode cX8_meanMinutesOut 15 = .ok (.dconst 0, 1) := by decide +kernel
theorem dX8_meanMinutesOut_16 : decode cX8_meanMinutesOut 16 = .ok (.dreturn, 1) := by decide +kernel
theorem dX8_meanMinutesOut_17 : decode cX8_meanMinutesOut 17 = .ok (.iconst 0, 1) := by decide +kernel
theorem dX8_meanMinutesOut_18 : decode cX8_meanMinutesOut 18 = .ok (.istore_n 2, 1) := by decide +kernel
theorem dX8_meanMinutesOut_19 : decode cX8_meanMinutesOut 19 = .ok (.iconst 0, 1) := by decide +kernel
theorem dX8_meanMinutesOut_20 : decode cX8_meanMinutesOut 20 = .ok (.istore_n 3, 1) := by decide +kernel
theorem dX8_meanMinutesOut_21 : decode cX8_meanMinutesOut 21 = .ok (.iload_n 3, 1) := by decide +kernel
theorem dX8_meanMinutesOut_22 : decode cX8_meanMinutesOut 22 = .ok (.iload_n 1, 1) := by decide +kernel
theorem dX8_meanMinutesOut_23 : decode cX8_meanMinutesOut 23 = .ok (.if_icmp .ge 21, 3) := by decide +kernel
theorem dX8_meanMinutesOut_26 : decode cX8_meanMinutesOut 26 = .ok (.iload_n 2, 1) := by decide +kernel
theorem dX8_meanMinutesOut_27 : decode cX8_meanMinutesOut 27 = .ok (.aload_n 0, 1) := by decide +kernel
theorem dX8_meanMinutesOut_28 : decode cX8_meanMinutesOut 28 = .ok (.getfield 31, 3) := by decide +kernel
theorem dX8_meanMinutesOut_31 : decode cX8_meanMinutesOut 31 = .ok (.iload_n 3, 1) := by decide +kernel
theorem dX8_meanMinutesOut_32 : decode cX8_meanMinutesOut 32 = .ok (.iload_n 3, 1) := by decide +kernel
theorem dX8_meanMinutesOut_33 : decode cX8_meanMinutesOut 33 = .ok (.invokevirtual 244, 3) := by decide +kernel
theorem dX8_meanMinutesOut_36 : decode cX8_meanMinutesOut 36 = .ok (.iadd, 1) := by decide +kernel
theorem dX8_meanMinutesOut_37 : decode cX8_meanMinutesOut 37 = .ok (.istore_n 2, 1) := by decide +kernel
theorem dX8_meanMinutesOut_38 : decode cX8_meanMinutesOut 38 = .ok (.iinc 3 1, 3) := by decide +kernel
theorem dX8_meanMinutesOut_41 : decode cX8_meanMinutesOut 41 = .ok (.goto (-20), 3) := by decide +kernel
theorem dX8_meanMinutesOut_44 : decode cX8_meanMinutesOut 44 = .ok (.iload_n 2, 1) := by decide +kernel
theorem dX8_meanMinutesOut_45 : decode cX8_meanMinutesOut 45 = .ok (.i2d, 1) := by decide +kernel
theorem dX8_meanMinutesOut_46 : decode cX8_meanMinutesOut 46 = .ok (.iload_n 1, 1) := by decide +kernel
theorem dX8_meanMinutesOut_47 : decode cX8_meanMinutesOut 47 = .ok (.i2d, 1) := by decide +kernel
theorem dX8_meanMinutesOut_48 : decode cX8_meanMinutesOut 48 = .ok (.ddiv, 1) := by decide +kernel
theorem dX8_meanMinutesOut_49 : decode cX8_meanMinutesOut 49 = .ok (.dreturn, 1) := by decide +kernel
theorem dX8_shareOut_0 : decode cX8_shareOut 0 = .ok (.aload_n 0, 1) := by decide +kernel
theorem dX8_shareOut_1 : decode cX8_shareOut 1 = .ok (.getfield 31, 3) := by decide +kernel
theorem dX8_shareOut_4 : decode cX8_shareOut 4 = .ok (.getfield 85, 3) := by decide +kernel
theorem dX8_shareOut_7 : decode cX8_shareOut 7 = .ok (.getfield 89, 3) := by decide +kernel
theorem dX8_shareOut_10 : decode cX8_shareOut 10 = .ok (.istore_n 1, 1) := by decide +kernel
theorem dX8_shareOut_11 : decode cX8_shareOut 11 = .ok (.iload_n 1, 1) := by decide +kernel
theorem dX8_shareOut_12 : decode cX8_shareOut 12 = .ok (.ifCond .ne 5, 3) := by decide +kernel
theorem dX8_shareOut_15 : decode cX8_shareOut 15 = .ok (.fconst 0, 1) := by decide +kernel
theorem dX8_shareOut_16 : decode cX8_shareOut 16 = .ok (.freturn, 1) := by decide +kernel
theorem dX8_shareOut_17 : decode cX8_shareOut 17 = .ok (.aload_n 0, 1) := by decide +kernel
theorem dX8_shareOut_18 : decode cX8_shareOut 18 = .ok (.getfield 31, 3) := by decide +kernel
theorem dX8_shareOut_21 : decode cX8_shareOut 21 = .ok (.getfield 85, 3) := by decide +kernel
theorem dX8_shareOut_24 : decode cX8_shareOut 24 = .ok (.invokevirtual 164, 3) := by decide +kernel
theorem dX8_shareOut_27 : decode cX8_shareOut 27 = .ok (.i2f, 1) := by decide +kernel
theorem dX8_shareOut_28 : decode cX8_shareOut 28 = .ok (.iload_n 1, 1) := by decide +kernel
theorem dX8_shareOut_29 : decode cX8_shareOut 29 = .ok (.i2f, 1) := by decide +kernel
theorem dX8_shareOut_30 : decode cX8_shareOut 30 = .ok (.fdiv, 1) := by decide +kernel
theorem dX8_shareOut_31 : decode cX8_shareOut 31 = .ok (.freturn, 1) := by decide +kernel
theorem dX8_umbrellaFor_0 : decode cX8_umbrellaFor 0 = .ok (.aload_n 0, 1) := by decide +kernel
theorem dX8_umbrellaFor_1 : decode cX8_umbrellaFor 1 = .ok (.iload_n 1, 1) := by decide +kernel
theorem dX8_umbrellaFor_2 : decode cX8_umbrellaFor 2 = .ok (.invokevirtual 124, 3) := by decide +kernel
theorem dX8_umbrellaFor_5 : decode cX8_umbrellaFor 5 = .ok (.aload_n 0, 1) := by decide +kernel
theorem dX8_umbrellaFor_6 : decode cX8_umbrellaFor 6 = .ok (.getfield 31, 3) := by decide +kernel
theorem dX8_umbrellaFor_9 : decode cX8_umbrellaFor 9 = .ok (.getfield 85, 3) := by decide +kernel
theorem dX8_umbrellaFor_12 : decode cX8_umbrellaFor 12 = .ok (.iload_n 1, 1) := by decide +kernel
theorem dX8_umbrellaFor_13 : decode cX8_umbrellaFor 13 = .ok (.invokevirtual 152, 3) := by decide +kernel
theorem dX8_umbrellaFor_16 : decode cX8_umbrellaFor 16 = .ok (.ifCond .eq 13, 3) := by decide +kernel
theorem dX8_umbrellaFor_19 : decode cX8_umbrellaFor 19 = .ok (.new 68, 3) := by decide +kernel
theorem dX8_umbrellaFor_22 : decode cX8_umbrellaFor 22 = .ok (.dup, 1) := by decide +kernel
theorem dX8_umbrellaFor_23 : decode cX8_umbrellaFor 23 = .ok (.ldc 247, 2) := by decide +kernel
theorem dX8_umbrellaFor_25 : decode cX8_umbrellaFor 25 = .ok (.invokespecial 72, 3) := by decide +kernel
theorem dX8_umbrellaFor_28 : decode cX8_umbrellaFor 28 = .ok (.athrow, 1) := by decide +kernel
theorem dX8_umbrellaFor_29 : decode cX8_umbrellaFor 29 = .ok (.aload_n 0, 1) := by decide +kernel
theorem dX8_umbrellaFor_30 : decode cX8_umbrellaFor 30 = .ok (.getfield 31, 3) := by decide +kernel
theorem dX8_umbrellaFor_33 : decode cX8_umbrellaFor 33 = .ok (.iload_n 1, 1) := by decide +kernel
theorem dX8_umbrellaFor_34 : decode cX8_umbrellaFor 34 = .ok (.invokevirtual 249, 3) := by decide +kernel
theorem dX8_umbrellaFor_37 : decode cX8_umbrellaFor 37 = .ok (.istore_n 2, 1) := by decide +kernel
theorem dX8_umbrellaFor_38 : decode cX8_umbrellaFor 38 = .ok (.iload_n 2, 1) := by decide +kernel
theorem dX8_umbrellaFor_39 : decode cX8_umbrellaFor 39 = .ok (.iconst (-1), 1) := by decide +kernel
theorem dX8_umbrellaFor_40 : decode cX8_umbrellaFor 40 = .ok (.if_icmp .ne 13, 3) := by decide +kernel
theorem dX8_umbrellaFor_43 : decode cX8_umbrellaFor 43 = .ok (.new 94, 3) := by decide +kernel
theorem dX8_umbrellaFor_46 : decode cX8_umbrellaFor 46 = .ok (.dup, 1) := by decide +kernel
theorem dX8_umbrellaFor_47 : decode cX8_umbrellaFor 47 = .ok (.ldc 252, 2) := by decide +kernel
theorem dX8_umbrellaFor_49 : decode cX8_umbrellaFor 49 = .ok (.invokespecial 98, 3) := by decide +kernel
theorem dX8_umbrellaFor_52 : decode cX8_umbrellaFor 52 = .ok (.athrow, 1) := by decide +kernel
theorem dX8_umbrellaFor_53 : decode cX8_umbrellaFor 53 = .ok (.iload_n 2, 1) := by decide +kernel
theorem dX8_umbrellaFor_54 : decode cX8_umbrellaFor 54 = .ok (.ireturn, 1) := by decide +kernel
theorem dX8_tipOf_0 : decode cX8_tipOf 0 = .ok (.aload_n 0, 1) := by decide +kernel
theorem dX8_tipOf_1 : decode cX8_tipOf 1 = .ok (.iload_n 1, 1) := by decide +kernel
theorem dX8_tipOf_2 : decode cX8_tipOf 2 = .ok (.invokevirtual 124, 3) := by decide +kernel
theorem dX8_tipOf_5 : decode cX8_tipOf 5 = .ok (.aload_n 0, 1) := by decide +kernel
theorem dX8_tipOf_6 : decode cX8_tipOf 6 = .ok (.getfield 31, 3) := by decide +kernel
theorem dX8_tipOf_9 : decode cX8_tipOf 9 = .ok (.getfield 85, 3) := by decide +kernel
theorem dX8_tipOf_12 : decode cX8_tipOf 12 = .ok (.iload_n 1, 1) := by decide +kernel
theorem dX8_tipOf_13 : decode cX8_tipOf 13 = .ok (.invokevirtual 152, 3) := by decide +kernel
theorem dX8_tipOf_16 : decode cX8_tipOf 16 = .ok (.ifCond .ne 13, 3) := by decide +kernel
theorem dX8_tipOf_19 : decode cX8_tipOf 19 = .ok (.new 68, 3) := by decide +kernel
theorem dX8_tipOf_22 : decode cX8_tipOf 22 = .ok (.dup, 1) := by decide +kernel
theorem dX8_tipOf_23 : decode cX8_tipOf 23 = .ok (.ldc 156, 2) := by decide +kernel
theorem dX8_tipOf_25 : decode cX8_tipOf 25 = .ok (.invokespecial 72, 3) := by decide +kernel
theorem dX8_tipOf_28 : decode cX8_tipOf 28 = .ok (.athrow, 1) := by decide +kernel
theorem dX8_tipOf_29 : decode cX8_tipOf 29 = .ok (.aload_n 0, 1) := by decide +kernel
theorem dX8_tipOf_30 : decode cX8_tipOf 30 = .ok (.getfield 31, 3) := by decide +kernel
theorem dX8_tipOf_33 : decode cX8_tipOf 33 = .ok (.iload_n 1, 1) := by decide +kernel
theorem dX8_tipOf_34 : decode cX8_tipOf 34 = .ok (.invokevirtual 254, 3) := by decide +kernel
theorem dX8_tipOf_37 : decode cX8_tipOf 37 = .ok (.ireturn, 1) := by decide +kernel
theorem dX8_complaintsAfter_0 : decode cX8_complaintsAfter 0 = .ok (.aload_n 0, 1) := by decide +kernel
theorem dX8_complaintsAfter_1 : decode cX8_complaintsAfter 1 = .ok (.iload_n 1, 1) := by decide +kernel
theorem dX8_complaintsAfter_2 : decode cX8_complaintsAfter 2 = .ok (.iconst 0, 1) := by decide +kernel
theorem dX8_complaintsAfter_3 : decode cX8_complaintsAfter 3 = .ok (.sipush 240, 3) := by decide +kernel
theorem dX8_complaintsAfter_6 : decode cX8_complaintsAfter 6 = .ok (.invokevirtual 257, 3) := by decide +kernel
theorem dX8_complaintsAfter_9 : decode cX8_complaintsAfter 9 = .ok (.aload_n 0, 1) := by decide +kernel
theorem dX8_complaintsAfter_10 : decode cX8_complaintsAfter 10 = .ok (.getfield 31, 3) := by decide +kernel
theorem dX8_complaintsAfter_13 : decode cX8_complaintsAfter 13 = .ok (.iload_n 1, 1) := by decide +kernel
theorem dX8_complaintsAfter_14 : decode cX8_complaintsAfter 14 = .ok (.invokevirtual 261, 3) := by decide +kernel
theorem dX8_complaintsAfter_17 : decode cX8_complaintsAfter 17 = .ok (.ireturn, 1) := by decide +kernel
theorem dX8_addGuest_0 : decode cX8_addGuest 0 = .ok (.aload_n 0, 1) := by decide +kernel
theorem dX8_addGuest_1 : decode cX8_addGuest 1 = .ok (.iload_n 1, 1) := by decide +kernel
theorem dX8_addGuest_2 : decode cX8_addGuest 2 = .ok (.iconst 0, 1) := by decide +kernel
theorem dX8_addGuest_3 : decode cX8_addGuest 3 = .ok (.bipush 9, 2) := by decide +kernel
theorem dX8_addGuest_5 : decode cX8_addGuest 5 = .ok (.invokevirtual 257, 3) := by decide +kernel
theorem dX8_addGuest_8 : decode cX8_addGuest 8 = .ok (.aload_n 0, 1) := by decide +kernel
theorem dX8_addGuest_9 : decode cX8_addGuest 9 = .ok (.iload_n 2, 1) := by decide +kernel
theorem dX8_addGuest_10 : decode cX8_addGuest 10 = .ok (.iconst 0, 1) := by decide +kernel
theorem dX8_addGuest_11 : decode cX8_addGuest 11 = .ok (.bipush 9, 2) := by decide +kernel
theorem dX8_addGuest_13 : decode cX8_addGuest 13 = .ok (.invokevirtual 257, 3) := by decide +kernel
theorem dX8_addGuest_16 : decode cX8_addGuest 16 = .ok (.aload_n 0, 1) := by decide +kernel
theorem dX8_addGuest_17 : decode cX8_addGuest 17 = .ok (.getfield 10, 3) := by decide +kernel
theorem dX8_addGuest_20 : decode cX8_addGuest 20 = .ok (.invokevirtual 264, 3) := by decide +kernel
theorem dX8_addGuest_23 : decode cX8_addGuest 23 = .ok (.ifCond .ne 14, 3) := by decide +kernel
theorem dX8_addGuest_26 : decode cX8_addGuest 26 = .ok (.new 78, 3) := by decide +kernel
theorem dX8_addGuest_29 : decode cX8_addGuest 29 = .ok (.dup, 1) := by decide +kernel
theorem dX8_addGuest_30 : decode cX8_addGuest 30 = .ok (.ldc_w 268, 3) := by decide +kernel
theorem dX8_addGuest_33 : decode cX8_addGuest 33 = .ok (.invokespecial 82, 3) := by decide +kernel
theorem dX8_addGuest_36 : decode cX8_addGuest 36 = .ok (.athrow, 1) := by decide +kernel
theorem dX8_addGuest_37 : decode cX8_addGuest 37 = .ok (.aload_n 0, 1) := by decide +kernel
theorem dX8_addGuest_38 : decode cX8_addGuest 38 = .ok (.getfield 31, 3) := by decide +kernel
theorem dX8_addGuest_41 : decode cX8_addGuest 41 = .ok (.getfield 85, 3) := by decide +kernel
theorem dX8_addGuest_44 : decode cX8_addGuest 44 = .ok (.getfield 89, 3) := by decide +kernel
theorem dX8_addGuest_47 : decode cX8_addGuest 47 = .ok (.bipush 10, 2) := by decide +kernel
theorem dX8_addGuest_49 : decode cX8_addGuest 49 = .ok (.if_icmp .lt 14, 3) := by decide +kernel
theorem dX8_addGuest_52 : decode cX8_addGuest 52 = .ok (.new 68, 3) := by decide +kernel
theorem dX8_addGuest_55 : decode cX8_addGuest 55 = .ok (.dup, 1) := by decide +kernel
theorem dX8_addGuest_56 : decode cX8_addGuest 56 = .ok (.ldc_w 270, 3) := by decide +kernel
theorem dX8_addGuest_59 : decode cX8_addGuest 59 = .ok (.invokespecial 72, 3) := by decide +kernel
theorem dX8_addGuest_62 : decode cX8_addGuest 62 = .ok (.athrow, 1) := by decide +kernel
theorem dX8_addGuest_63 : decode cX8_addGuest 63 = .ok (.aload_n 0, 1) := by decide +kernel
theorem dX8_addGuest_64 : decode cX8_addGuest 64 = .ok (.getfield 31, 3) := by decide +kernel
theorem dX8_addGuest_67 : decode cX8_addGuest 67 = .ok (.getfield 85, 3) := by decide +kernel
theorem dX8_addGuest_70 : decode cX8_addGuest 70 = .ok (.aload_n 0, 1) := by decide +kernel
theorem dX8_addGuest_71 : decode cX8_addGuest 71 = .ok (.getfield 10, 3) := by decide +kernel
theorem dX8_addGuest_74 : decode cX8_addGuest 74 = .ok (.iconst 0, 1) := by decide +kernel
theorem dX8_addGuest_75 : decode cX8_addGuest 75 = .ok (.aload_n 0, 1) := by decide +kernel
theorem dX8_addGuest_76 : decode cX8_addGuest 76 = .ok (.getfield 10, 3) := by decide +kernel
theorem dX8_addGuest_79 : decode cX8_addGuest 79 = .ok (.getfield 65, 3) := by decide +kernel
theorem dX8_addGuest_82 : decode cX8_addGuest 82 = .ok (.invokevirtual 140, 3) := by decide +kernel
theorem dX8_addGuest_85 : decode cX8_addGuest 85 = .ok (.iconst (-1), 1) := by decide +kernel
theorem dX8_addGuest_86 : decode cX8_addGuest 86 = .ok (.if_icmp .eq 14, 3) := by decide +kernel
theorem dX8_addGuest_89 : decode cX8_addGuest 89 = .ok (.new 68, 3) := by decide +kernel
theorem dX8_addGuest_92 : decode cX8_addGuest 92 = .ok (.dup, 1) := by decide +kernel
theorem dX8_addGuest_93 : decode cX8_addGuest 93 = .ok (.ldc_w 272, 3) := by decide +kernel
theorem dX8_addGuest_96 : decode cX8_addGuest 96 = .ok (.invokespecial 72, 3) := by decide +kernel
theorem dX8_addGuest_99 : decode cX8_addGuest 99 = .ok (.athrow, 1) := by decide +kernel
theorem dX8_addGuest_100 : decode cX8_addGuest 100 = .ok (.aload_n 0, 1) := by decide +kernel
theorem dX8_addGuest_101 : decode cX8_addGuest 101 = .ok (.getfield 41, 3) := by decide +kernel
theorem dX8_addGuest_104 : decode cX8_addGuest 104 = .ok (.aload_n 0, 1) := by decide +kernel
theorem dX8_addGuest_105 : decode cX8_addGuest 105 = .ok (.getfield 31, 3) := by decide +kernel
theorem dX8_addGuest_108 : decode cX8_addGuest 108 = .ok (.invokevirtual 274, 3) := by decide +kernel
theorem dX8_addGuest_111 : decode cX8_addGuest 111 = .ok (.aload_n 0, 1) := by decide +kernel
theorem dX8_addGuest_112 : decode cX8_addGuest 112 = .ok (.getfield 31, 3) := by decide +kernel
theorem dX8_addGuest_115 : decode cX8_addGuest 115 = .ok (.getfield 85, 3) := by decide +kernel
theorem dX8_addGuest_118 : decode cX8_addGuest 118 = .ok (.aload_n 0, 1) := by decide +kernel
theorem dX8_addGuest_119 : decode cX8_addGuest 119 = .ok (.getfield 10, 3) := by decide +kernel
theorem dX8_addGuest_122 : decode cX8_addGuest 122 = .ok (.iconst 0, 1) := by decide +kernel
theorem dX8_addGuest_123 : decode cX8_addGuest 123 = .ok (.aload_n 0, 1) := by decide +kernel
theorem dX8_addGuest_124 : decode cX8_addGuest 124 = .ok (.getfield 10, 3) := by decide +kernel
theorem dX8_addGuest_127 : decode cX8_addGuest 127 = .ok (.getfield 65, 3) := by decide +kernel
theorem dX8_addGuest_130 : decode cX8_addGuest 130 = .ok (.iload_n 1, 1) := by decide +kernel
theorem dX8_addGuest_131 : decode cX8_addGuest 131 = .ok (.iload_n 2, 1) := by decide +kernel
theorem dX8_addGuest_132 : decode cX8_addGuest 132 = .ok (.invokevirtual 278, 3) := by decide +kernel
theorem dX8_addGuest_135 : decode cX8_addGuest 135 = .ok (.istore_n 3, 1) := by decide +kernel
theorem dX8_addGuest_136 : decode cX8_addGuest 136 = .ok (.aload_n 0, 1) := by decide +kernel
theorem dX8_addGuest_137 : decode cX8_addGuest 137 = .ok (.getfield 10, 3) := by decide +kernel
theorem dX8_addGuest_140 : decode cX8_addGuest 140 = .ok (.iconst 0, 1) := by decide +kernel
theorem dX8_addGuest_141 : decode cX8_addGuest 141 = .ok (.putfield 65, 3) := by decide +kernel
theorem dX8_addGuest_144 : decode cX8_addGuest 144 = .ok (.iload_n 3, 1) := by decide +kernel
theorem dX8_addGuest_145 : decode cX8_addGuest 145 = .ok (.ireturn, 1) := by decide +kernel
theorem dX8_addUmbrella_0 : decode cX8_addUmbrella 0 = .ok (.aload_n 0, 1) := by decide +kernel
theorem dX8_addUmbrella_1 : decode cX8_addUmbrella 1 = .ok (.iload_n 1, 1) := by decide +kernel
theorem dX8_addUmbrella_2 : decode cX8_addUmbrella 2 = .ok (.invokevirtual 124, 3) := by decide +kernel
theorem dX8_addUmbrella_5 : decode cX8_addUmbrella 5 = .ok (.aload_n 0, 1) := by decide +kernel
theorem dX8_addUmbrella_6 : decode cX8_addUmbrella 6 = .ok (.iload_n 2, 1) := by decide +kernel
theorem dX8_addUmbrella_7 : decode cX8_addUmbrella 7 = .ok (.iconst 0, 1) := by decide +kernel
theorem dX8_addUmbrella_8 : decode cX8_addUmbrella 8 = .ok (.bipush 99, 2) := by decide +kernel
theorem dX8_addUmbrella_10 : decode cX8_addUmbrella 10 = .ok (.invokevirtual 257, 3) := by decide +kernel
theorem dX8_addUmbrella_13 : decode cX8_addUmbrella 13 = .ok (.aload_n 0, 1) := by decide +kernel
theorem dX8_addUmbrella_14 : decode cX8_addUmbrella 14 = .ok (.getfield 31, 3) := by decide +kernel
theorem dX8_addUmbrella_17 : decode cX8_addUmbrella 17 = .ok (.getfield 171, 3) := by decide +kernel
theorem dX8_addUmbrella_20 : decode cX8_addUmbrella 20 = .ok (.getfield 175, 3) := by decide +kernel
theorem dX8_addUmbrella_23 : decode cX8_addUmbrella 23 = .ok (.bipush 12, 2) := by decide +kernel
theorem dX8_addUmbrella_25 : decode cX8_addUmbrella 25 = .ok (.if_icmp .lt 14, 3) := by decide +kernel
theorem dX8_addUmbrella_28 : decode cX8_addUmbrella 28 = .ok (.new 68, 3) := by decide +kernel
theorem dX8_addUmbrella_31 : decode cX8_addUmbrella 31 = .ok (.dup, 1) := by decide +kernel
theorem dX8_addUmbrella_32 : decode cX8_addUmbrella 32 = .ok (.ldc_w 282, 3) := by decide +kernel
theorem dX8_addUmbrella_35 : decode cX8_addUmbrella 35 = .ok (.invokespecial 72, 3) := by decide +kernel
theorem dX8_addUmbrella_38 : decode cX8_addUmbrella 38 = .ok (.athrow, 1) := by decide +kernel
theorem dX8_addUmbrella_39 : decode cX8_addUmbrella 39 = .ok (.aload_n 0, 1) := by decide +kernel
theorem dX8_addUmbrella_40 : decode cX8_addUmbrella 40 = .ok (.getfield 41, 3) := by decide +kernel
theorem dX8_addUmbrella_43 : decode cX8_addUmbrella 43 = .ok (.aload_n 0, 1) := by decide +kernel
theorem dX8_addUmbrella_44 : decode cX8_addUmbrella 44 = .ok (.getfield 31, 3) := by decide +kernel
theorem dX8_addUmbrella_47 : decode cX8_addUmbrella 47 = .ok (.invokevirtual 274, 3) := by decide +kernel
theorem dX8_addUmbrella_50 : decode cX8_addUmbrella 50 = .ok (.aload_n 0, 1) := by decide +kernel
theorem dX8_addUmbrella_51 : decode cX8_addUmbrella 51 = .ok (.getfield 31, 3) := by decide +kernel
theorem dX8_addUmbrella_54 : decode cX8_addUmbrella 54 = .ok (.getfield 171, 3) := by decide +kernel
theorem dX8_addUmbrella_57 : decode cX8_addUmbrella 57 = .ok (.iload_n 1, 1) := by decide +kernel
theorem dX8_addUmbrella_58 : decode cX8_addUmbrella 58 = .ok (.iload_n 2, 1) := by decide +kernel
theorem dX8_addUmbrella_59 : decode cX8_addUmbrella 59 = .ok (.invokevirtual 284, 3) := by decide +kernel
theorem dX8_addUmbrella_62 : decode cX8_addUmbrella 62 = .ok (.ireturn, 1) := by decide +kernel
theorem dX8_leave_0 : decode cX8_leave 0 = .ok (.aload_n 0, 1) := by decide +kernel
theorem dX8_leave_1 : decode cX8_leave 1 = .ok (.iload_n 1, 1) := by decide +kernel
theorem dX8_leave_2 : decode cX8_leave 2 = .ok (.invokevirtual 124, 3) := by decide +kernel
theorem dX8_leave_5 : decode cX8_leave 5 = .ok (.aload_n 0, 1) := by decide +kernel
theorem dX8_leave_6 : decode cX8_leave 6 = .ok (.getfield 31, 3) := by decide +kernel
theorem dX8_leave_9 : decode cX8_leave 9 = .ok (.getfield 85, 3) := by decide +kernel
theorem dX8_leave_12 : decode cX8_leave 12 = .ok (.iload_n 1, 1) := by decide +kernel
theorem dX8_leave_13 : decode cX8_leave 13 = .ok (.invokevirtual 152, 3) := by decide +kernel
theorem dX8_leave_16 : decode cX8_leave 16 = .ok (.ifCond .eq 13, 3) := by decide +kernel
theorem dX8_leave_19 : decode cX8_leave 19 = .ok (.new 68, 3) := by decide +kernel
theorem dX8_leave_22 : decode cX8_leave 22 = .ok (.dup, 1) := by decide +kernel
theorem dX8_leave_23 : decode cX8_leave 23 = .ok (.ldc 247, 2) := by decide +kernel
theorem dX8_leave_25 : decode cX8_leave 25 = .ok (.invokespecial 72, 3) := by decide +kernel
theorem dX8_leave_28 : decode cX8_leave 28 = .ok (.athrow, 1) := by decide +kernel
theorem dX8_leave_29 : decode cX8_leave 29 = .ok (.aload_n 0, 1) := by decide +kernel
theorem dX8_leave_30 : decode cX8_leave 30 = .ok (.invokevirtual 286, 3) := by decide +kernel
theorem dX8_leave_33 : decode cX8_leave 33 = .ok (.aload_n 0, 1) := by decide +kernel
theorem dX8_leave_34 : decode cX8_leave 34 = .ok (.getfield 41, 3) := by decide +kernel
theorem dX8_leave_37 : decode cX8_leave 37 = .ok (.aload_n 0, 1) := by decide +kernel
theorem dX8_leave_38 : decode cX8_leave 38 = .ok (.getfield 31, 3) := by decide +kernel
theorem dX8_leave_41 : decode cX8_leave 41 = .ok (.invokevirtual 274, 3) := by decide +kernel
theorem dX8_leave_44 : decode cX8_leave 44 = .ok (.aload_n 0, 1) := by decide +kernel
theorem dX8_leave_45 : decode cX8_leave 45 = .ok (.getfield 31, 3) := by decide +kernel
theorem dX8_leave_48 : decode cX8_leave 48 = .ok (.iload_n 1, 1) := by decide +kernel
theorem dX8_leave_49 : decode cX8_leave 49 = .ok (.invokevirtual 289, 3) := by decide +kernel
theorem dX8_leave_52 : decode cX8_leave 52 = .ok (.aload_n 0, 1) := by decide +kernel
theorem dX8_leave_53 : decode cX8_leave 53 = .ok (.getfield 31, 3) := by decide +kernel
theorem dX8_leave_56 : decode cX8_leave 56 = .ok (.getfield 85, 3) := by decide +kernel
theorem dX8_leave_59 : decode cX8_leave 59 = .ok (.invokevirtual 164, 3) := by decide +kernel
theorem dX8_leave_62 : decode cX8_leave 62 = .ok (.ireturn, 1) := by decide +kernel
theorem dX8_comeBack_0 : decode cX8_comeBack 0 = .ok (.aload_n 0, 1) := by decide +kernel
theorem dX8_comeBack_1 : decode cX8_comeBack 1 = .ok (.iload_n 1, 1) := by decide +kernel
theorem dX8_comeBack_2 : decode cX8_comeBack 2 = .ok (.invokevirtual 124, 3) := by decide +kernel
theorem dX8_comeBack_5 : decode cX8_comeBack 5 = .ok (.aload_n 0, 1) := by decide +kernel
theorem dX8_comeBack_6 : decode cX8_comeBack 6 = .ok (.getfield 31, 3) := by decide +kernel
theorem dX8_comeBack_9 : decode cX8_comeBack 9 = .ok (.getfield 85, 3) := by decide +kernel
theorem dX8_comeBack_12 : decode cX8_comeBack 12 = .ok (.iload_n 1, 1) := by decide +kernel
theorem dX8_comeBack_13 : decode cX8_comeBack 13 = .ok (.invokevirtual 152, 3) := by decide +kernel
theorem dX8_comeBack_16 : decode cX8_comeBack 16 = .ok (.ifCond .ne 13, 3) := by decide +kernel
theorem dX8_comeBack_19 : decode cX8_comeBack 19 = .ok (.new 68, 3) := by decide +kernel
theorem dX8_comeBack_22 : decode cX8_comeBack 22 = .ok (.dup, 1) := by decide +kernel
theorem dX8_comeBack_23 : decode cX8_comeBack 23 = .ok (.ldc 156, 2) := by decide +kernel
theorem dX8_comeBack_25 : decode cX8_comeBack 25 = .ok (.invokespecial 72, 3) := by decide +kernel
theorem dX8_comeBack_28 : decode cX8_comeBack 28 = .ok (.athrow, 1) := by decide +kernel
theorem dX8_comeBack_29 : decode cX8_comeBack 29 = .ok (.aload_n 0, 1) := by decide +kernel
theorem dX8_comeBack_30 : decode cX8_comeBack 30 = .ok (.invokevirtual 286, 3) := by decide +kernel
theorem dX8_comeBack_33 : decode cX8_comeBack 33 = .ok (.aload_n 0, 1) := by decide +kernel
theorem dX8_comeBack_34 : decode cX8_comeBack 34 = .ok (.getfield 41, 3) := by decide +kernel
theorem dX8_comeBack_37 : decode cX8_comeBack 37 = .ok (.aload_n 0, 1) := by decide +kernel
theorem dX8_comeBack_38 : decode cX8_comeBack 38 = .ok (.getfield 31, 3) := by decide +kernel
theorem dX8_comeBack_41 : decode cX8_comeBack 41 = .ok (.invokevirtual 274, 3) := by decide +kernel
theorem dX8_comeBack_44 : decode cX8_comeBack 44 = .ok (.aload_n 0, 1) := by decide +kernel
theorem dX8_comeBack_45 : decode cX8_comeBack 45 = .ok (.getfield 31, 3) := by decide +kernel
theorem dX8_comeBack_48 : decode cX8_comeBack 48 = .ok (.iload_n 1, 1) := by decide +kernel
theorem dX8_comeBack_49 : decode cX8_comeBack 49 = .ok (.invokevirtual 292, 3) := by decide +kernel
theorem dX8_comeBack_52 : decode cX8_comeBack 52 = .ok (.ireturn, 1) := by decide +kernel
theorem dX8_passMinutes_0 : decode cX8_passMinutes 0 = .ok (.aload_n 0, 1) := by decide +kernel
theorem dX8_passMinutes_1 : decode cX8_passMinutes 1 = .ok (.iload_n 1, 1) := by decide +kernel
theorem dX8_passMinutes_2 : decode cX8_passMinutes 2 = .ok (.iconst 1, 1) := by decide +kernel
theorem dX8_passMinutes_3 : decode cX8_passMinutes 3 = .ok (.sipush 240, 3) := by decide +kernel
theorem dX8_passMinutes_6 : decode cX8_passMinutes 6 = .ok (.invokevirtual 257, 3) := by decide +kernel
theorem dX8_passMinutes_9 : decode cX8_passMinutes 9 = .ok (.iload_n 1, 1) := by decide +kernel
theorem dX8_passMinutes_10 : decode cX8_passMinutes 10 = .ok (.sipush 720, 3) := by decide +kernel
theorem dX8_passMinutes_13 : decode cX8_passMinutes 13 = .ok (.aload_n 0, 1) := by decide +kernel
theorem dX8_passMinutes_14 : decode cX8_passMinutes 14 = .ok (.getfield 31, 3) := by decide +kernel
theorem dX8_passMinutes_17 : decode cX8_passMinutes 17 = .ok (.getfield 99, 3) := by decide +kernel
theorem dX8_passMinutes_20 : decode cX8_passMinutes 20 = .ok (.isub, 1) := by decide +kernel
theorem dX8_passMinutes_21 : decode cX8_passMinutes 21 = .ok (.if_icmp .le 14, 3) := by decide +kernel
theorem dX8_passMinutes_24 : decode cX8_passMinutes 24 = .ok (.new 68, 3) := by decide +kernel
theorem dX8_passMinutes_27 : decode cX8_passMinutes 27 = .ok (.dup, 1) := by decide +kernel
theorem dX8_passMinutes_28 : decode cX8_passMinutes 28 = .ok (.ldc_w 295, 3) := by decide +kernel
theorem dX8_passMinutes_31 : decode cX8_passMinutes 31 = .ok (.invokespecial 72, 3) := by decide +kernel
theorem dX8_passMinutes_34 : decode cX8_passMinutes 34 = .ok (.athrow, 1) := by decide +kernel
theorem dX8_passMinutes_35 : decode cX8_passMinutes 35 = .ok (.aload_n 0, 1) := by decide +kernel
theorem dX8_passMinutes_36 : decode cX8_passMinutes 36 = .ok (.getfield 41, 3) := by decide +kernel
theorem dX8_passMinutes_39 : decode cX8_passMinutes 39 = .ok (.aload_n 0, 1) := by decide +kernel
theorem dX8_passMinutes_40 : decode cX8_passMinutes 40 = .ok (.getfield 31, 3) := by decide +kernel
theorem dX8_passMinutes_43 : decode cX8_passMinutes 43 = .ok (.invokevirtual 274, 3) := by decide +kernel
theorem dX8_passMinutes_46 : decode cX8_passMinutes 46 = .ok (.aload_n 0, 1) := by decide +kernel
theorem dX8_passMinutes_47 : decode cX8_passMinutes 47 = .ok (.getfield 31, 3) := by decide +kernel
theorem dX8_passMinutes_50 : decode cX8_passMinutes 50 = .ok (.getfield 111, 3) := by decide +kernel
theorem dX8_passMinutes_53 : decode cX8_passMinutes 53 = .ok (.istore_n 2, 1) := by decide +kernel
theorem dX8_passMinutes_54 : decode cX8_passMinutes 54 = .ok (.iconst 0, 1) := by decide +kernel
theorem dX8_passMinutes_55 : decode cX8_passMinutes 55 = .ok (.istore_n 3, 1) := by decide +kernel
theorem dX8_passMinutes_56 : decode cX8_passMinutes 56 = .ok (.iload_n 3, 1) := by decide +kernel
theorem dX8_passMinutes_57 : decode cX8_passMinutes 57 = .ok (.iload_n 1, 1) := by decide +kernel
theorem dX8_passMinutes_58 : decode cX8_passMinutes 58 = .ok (.if_icmp .ge 16, 3) := by decide +kernel
theorem dX8_passMinutes_61 : decode cX8_passMinutes 61 = .ok (.aload_n 0, 1) := by decide +kernel
theorem dX8_passMinutes_62 : decode cX8_passMinutes 62 = .ok (.getfield 31, 3) := by decide +kernel
theorem dX8_passMinutes_65 : decode cX8_passMinutes 65 = .ok (.invokevirtual 297, 3) := by decide +kernel
theorem dX8_passMinutes_68 : decode cX8_passMinutes 68 = .ok (.iinc 3 1, 3) := by decide +kernel
theorem dX8_passMinutes_71 : decode cX8_passMinutes 71 = .ok (.goto (-15), 3) := by decide +kernel
theorem dX8_passMinutes_74 : decode cX8_passMinutes 74 = .ok (.aload_n 0, 1) := by decide +kernel
theorem dX8_passMinutes_75 : decode cX8_passMinutes 75 = .ok (.getfield 31, 3) := by decide +kernel
theorem dX8_passMinutes_78 : decode cX8_passMinutes 78 = .ok (.getfield 111, 3) := by decide +kernel
theorem dX8_passMinutes_81 : decode cX8_passMinutes 81 = .ok (.iload_n 2, 1) := by decide +kernel
theorem dX8_passMinutes_82 : decode cX8_passMinutes 82 = .ok (.isub, 1) := by decide +kernel
theorem dX8_passMinutes_83 : decode cX8_passMinutes 83 = .ok (.ireturn, 1) := by decide +kernel
theorem dX8_walkDog_0 : decode cX8_walkDog 0 = .ok (.aload_n 0, 1) := by decide +kernel
theorem dX8_walkDog_1 : decode cX8_walkDog 1 = .ok (.iload_n 1, 1) := by decide +kernel
theorem dX8_walkDog_2 : decode cX8_walkDog 2 = .ok (.invokevirtual 124, 3) := by decide +kernel
theorem dX8_walkDog_5 : decode cX8_walkDog 5 = .ok (.aload_n 0, 1) := by decide +kernel
theorem dX8_walkDog_6 : decode cX8_walkDog 6 = .ok (.getfield 31, 3) := by decide +kernel
theorem dX8_walkDog_9 : decode cX8_walkDog 9 = .ok (.getfield 85, 3) := by decide +kernel
theorem dX8_walkDog_12 : decode cX8_walkDog 12 = .ok (.iload_n 1, 1) := by decide +kernel
theorem dX8_walkDog_13 : decode cX8_walkDog 13 = .ok (.invokevirtual 152, 3) := by decide +kernel
theorem dX8_walkDog_16 : decode cX8_walkDog 16 = .ok (.ifCond .ne 13, 3) := by decide +kernel
theorem dX8_walkDog_19 : decode cX8_walkDog 19 = .ok (.new 68, 3) := by decide +kernel
theorem dX8_walkDog_22 : decode cX8_walkDog 22 = .ok (.dup, 1) := by decide +kernel
theorem dX8_walkDog_23 : decode cX8_walkDog 23 = .ok (.ldc 156, 2) := by decide +kernel
theorem dX8_walkDog_25 : decode cX8_walkDog 25 = .ok (.invokespecial 72, 3) := by decide +kernel
theorem dX8_walkDog_28 : decode cX8_walkDog 28 = .ok (.athrow, 1) := by decide +kernel
theorem dX8_walkDog_29 : decode cX8_walkDog 29 = .ok (.aload_n 0, 1) := by decide +kernel
theorem dX8_walkDog_30 : decode cX8_walkDog 30 = .ok (.getfield 31, 3) := by decide +kernel
theorem dX8_walkDog_33 : decode cX8_walkDog 33 = .ok (.getfield 85, 3) := by decide +kernel
theorem dX8_walkDog_36 : decode cX8_walkDog 36 = .ok (.getfield 149, 3) := by decide +kernel
theorem dX8_walkDog_39 : decode cX8_walkDog 39 = .ok (.iload_n 1, 1) := by decide +kernel
theorem dX8_walkDog_40 : decode cX8_walkDog 40 = .ok (.iaload, 1) := by decide +kernel
theorem dX8_walkDog_41 : decode cX8_walkDog 41 = .ok (.ifCond .ne 14, 3) := by decide +kernel
theorem dX8_walkDog_44 : decode cX8_walkDog 44 = .ok (.new 68, 3) := by decide +kernel
theorem dX8_walkDog_47 : decode cX8_walkDog 47 = .ok (.dup, 1) := by decide +kernel
theorem dX8_walkDog_48 : decode cX8_walkDog 48 = .ok (.ldc_w 300, 3) := by decide +kernel
theorem dX8_walkDog_51 : decode cX8_walkDog 51 = .ok (.invokespecial 72, 3) := by decide +kernel
theorem dX8_walkDog_54 : decode cX8_walkDog 54 = .ok (.athrow, 1) := by decide +kernel
theorem dX8_walkDog_55 : decode cX8_walkDog 55 = .ok (.aload_n 0, 1) := by decide +kernel
theorem dX8_walkDog_56 : decode cX8_walkDog 56 = .ok (.getfield 41, 3) := by decide +kernel
theorem dX8_walkDog_59 : decode cX8_walkDog 59 = .ok (.aload_n 0, 1) := by decide +kernel
theorem dX8_walkDog_60 : decode cX8_walkDog 60 = .ok (.getfield 31, 3) := by decide +kernel
theorem dX8_walkDog_63 : decode cX8_walkDog 63 = .ok (.invokevirtual 274, 3) := by decide +kernel
theorem dX8_walkDog_66 : decode cX8_walkDog 66 = .ok (.aload_n 0, 1) := by decide +kernel
theorem dX8_walkDog_67 : decode cX8_walkDog 67 = .ok (.getfield 31, 3) := by decide +kernel
theorem dX8_walkDog_70 : decode cX8_walkDog 70 = .ok (.getfield 85, 3) := by decide +kernel
theorem dX8_walkDog_73 : decode cX8_walkDog 73 = .ok (.iload_n 1, 1) := by decide +kernel
theorem dX8_walkDog_74 : decode cX8_walkDog 74 = .ok (.aload_n 0, 1) := by decide +kernel
theorem dX8_walkDog_75 : decode cX8_walkDog 75 = .ok (.getfield 31, 3) := by decide +kernel
theorem dX8_walkDog_78 : decode cX8_walkDog 78 = .ok (.getfield 99, 3) := by decide +kernel
theorem dX8_walkDog_81 : decode cX8_walkDog 81 = .ok (.invokevirtual 302, 3) := by decide +kernel
theorem dX8_walkDog_84 : decode cX8_walkDog 84 = .ok (.ireturn, 1) := by decide +kernel
theorem dX8_setRain_0 : decode cX8_setRain 0 = .ok (.aload_n 0, 1) := by decide +kernel
theorem dX8_setRain_1 : decode cX8_setRain 1 = .ok (.iload_n 1, 1) := by decide +kernel
theorem dX8_setRain_2 : decode cX8_setRain 2 = .ok (.iconst 0, 1) := by decide +kernel
theorem dX8_setRain_3 : decode cX8_setRain 3 = .ok (.bipush 9, 2) := by decide +kernel
theorem dX8_setRain_5 : decode cX8_setRain 5 = .ok (.invokevirtual 257, 3) := by decide +kernel
theorem dX8_setRain_8 : decode cX8_setRain 8 = .ok (.aload_n 0, 1) := by decide +kernel
theorem dX8_setRain_9 : decode cX8_setRain 9 = .ok (.getfield 41, 3) := by decide +kernel
theorem dX8_setRain_12 : decode cX8_setRain 12 = .ok (.aload_n 0, 1) := by decide +kernel
theorem dX8_setRain_13 : decode cX8_setRain 13 = .ok (.getfield 31, 3) := by decide +kernel
theorem dX8_setRain_16 : decode cX8_setRain 16 = .ok (.invokevirtual 274, 3) := by decide +kernel
theorem dX8_setRain_19 : decode cX8_setRain 19 = .ok (.aload_n 0, 1) := by decide +kernel
theorem dX8_setRain_20 : decode cX8_setRain 20 = .ok (.getfield 31, 3) := by decide +kernel
theorem dX8_setRain_23 : decode cX8_setRain 23 = .ok (.getfield 102, 3) := by decide +kernel
theorem dX8_setRain_26 : decode cX8_setRain 26 = .ok (.istore_n 2, 1) := by decide +kernel
theorem dX8_setRain_27 : decode cX8_setRain 27 = .ok (.aload_n 0, 1) := by decide +kernel
theorem dX8_setRain_28 : decode cX8_setRain 28 = .ok (.getfield 31, 3) := by decide +kernel
theorem dX8_setRain_31 : decode cX8_setRain 31 = .ok (.iload_n 1, 1) := by decide +kernel
theorem dX8_setRain_32 : decode cX8_setRain 32 = .ok (.putfield 102, 3) := by decide +kernel
theorem dX8_setRain_35 : decode cX8_setRain 35 = .ok (.iload_n 2, 1) := by decide +kernel
theorem dX8_setRain_36 : decode cX8_setRain 36 = .ok (.ireturn, 1) := by decide +kernel
theorem dX8_setNoiseLimit_0 : decode cX8_setNoiseLimit 0 = .ok (.aload_n 0, 1) := by decide +kernel
theorem dX8_setNoiseLimit_1 : decode cX8_setNoiseLimit 1 = .ok (.iload_n 1, 1) := by decide +kernel
theorem dX8_setNoiseLimit_2 : decode cX8_setNoiseLimit 2 = .ok (.iconst 0, 1) := by decide +kernel
theorem dX8_setNoiseLimit_3 : decode cX8_setNoiseLimit 3 = .ok (.sipush 999, 3) := by decide +kernel
theorem dX8_setNoiseLimit_6 : decode cX8_setNoiseLimit 6 = .ok (.invokevirtual 257, 3) := by decide +kernel
theorem dX8_setNoiseLimit_9 : decode cX8_setNoiseLimit 9 = .ok (.aload_n 0, 1) := by decide +kernel
theorem dX8_setNoiseLimit_10 : decode cX8_setNoiseLimit 10 = .ok (.getfield 41, 3) := by decide +kernel
theorem dX8_setNoiseLimit_13 : decode cX8_setNoiseLimit 13 = .ok (.aload_n 0, 1) := by decide +kernel
theorem dX8_setNoiseLimit_14 : decode cX8_setNoiseLimit 14 = .ok (.getfield 31, 3) := by decide +kernel
theorem dX8_setNoiseLimit_17 : decode cX8_setNoiseLimit 17 = .ok (.invokevirtual 274, 3) := by decide +kernel
theorem dX8_setNoiseLimit_20 : decode cX8_setNoiseLimit 20 = .ok (.aload_n 0, 1) := by decide +kernel
theorem dX8_setNoiseLimit_21 : decode cX8_setNoiseLimit 21 = .ok (.getfield 31, 3) := by decide +kernel
theorem dX8_setNoiseLimit_24 : decode cX8_setNoiseLimit 24 = .ok (.getfield 105, 3) := by decide +kernel
theorem dX8_setNoiseLimit_27 : decode cX8_setNoiseLimit 27 = .ok (.istore_n 2, 1) := by decide +kernel
theorem dX8_setNoiseLimit_28 : decode cX8_setNoiseLimit 28 = .ok (.aload_n 0, 1) := by decide +kernel
theorem dX8_setNoiseLimit_29 : decode cX8_setNoiseLimit 29 = .ok (.getfield 31, 3) := by decide +kernel
theorem dX8_setNoiseLimit_32 : decode cX8_setNoiseLimit 32 = .ok (.iload_n 1, 1) := by decide +kernel
theorem dX8_setNoiseLimit_33 : decode cX8_setNoiseLimit 33 = .ok (.putfield 105, 3) := by decide +kernel
theorem dX8_setNoiseLimit_36 : decode cX8_setNoiseLimit 36 = .ok (.iload_n 2, 1) := by decide +kernel
theorem dX8_setNoiseLimit_37 : decode cX8_setNoiseLimit 37 = .ok (.ireturn, 1) := by decide +kernel
theorem dX8_undo_0 : decode cX8_undo 0 = .ok (.aload_n 0, 1) := by decide +kernel
theorem dX8_undo_1 : decode cX8_undo 1 = .ok (.getfield 41, 3) := by decide +kernel
theorem dX8_undo_4 : decode cX8_undo 4 = .ok (.getfield 305, 3) := by decide +kernel
theorem dX8_undo_7 : decode cX8_undo 7 = .ok (.ifCond .ne 14, 3) := by decide +kernel
theorem dX8_undo_10 : decode cX8_undo 10 = .ok (.new 68, 3) := by decide +kernel
theorem dX8_undo_13 : decode cX8_undo 13 = .ok (.dup, 1) := by decide +kernel
theorem dX8_undo_14 : decode cX8_undo 14 = .ok (.ldc_w 306, 3) := by decide +kernel
theorem dX8_undo_17 : decode cX8_undo 17 = .ok (.invokespecial 72, 3) := by decide +kernel
theorem dX8_undo_20 : decode cX8_undo 20 = .ok (.athrow, 1) := by decide +kernel
theorem dX8_undo_21 : decode cX8_undo 21 = .ok (.aload_n 0, 1) := by decide +kernel
theorem dX8_undo_22 : decode cX8_undo 22 = .ok (.getfield 41, 3) := by decide +kernel
theorem dX8_undo_25 : decode cX8_undo 25 = .ok (.aload_n 0, 1) := by decide +kernel
theorem dX8_undo_26 : decode cX8_undo 26 = .ok (.getfield 31, 3) := by decide +kernel
theorem dX8_undo_29 : decode cX8_undo 29 = .ok (.invokevirtual 308, 3) := by decide +kernel
theorem dX8_undo_32 : decode cX8_undo 32 = .ok (.aload_n 0, 1) := by decide +kernel
theorem dX8_undo_33 : decode cX8_undo 33 = .ok (.getfield 41, 3) := by decide +kernel
theorem dX8_undo_36 : decode cX8_undo 36 = .ok (.getfield 305, 3) := by decide +kernel
theorem dX8_undo_39 : decode cX8_undo 39 = .ok (.ireturn, 1) := by decide +kernel
theorem dX8_saveSnapshot_0 : decode cX8_saveSnapshot 0 = .ok (.aload_n 0, 1) := by decide +kernel
theorem dX8_saveSnapshot_1 : decode cX8_saveSnapshot 1 = .ok (.iload_n 1, 1) := by decide +kernel
theorem dX8_saveSnapshot_2 : decode cX8_saveSnapshot 2 = .ok (.invokevirtual 311, 3) := by decide +kernel
theorem dX8_saveSnapshot_5 : decode cX8_saveSnapshot 5 = .ok (.aload_n 0, 1) := by decide +kernel
theorem dX8_saveSnapshot_6 : decode cX8_saveSnapshot 6 = .ok (.getfield 48, 3) := by decide +kernel
theorem dX8_saveSnapshot_9 : decode cX8_saveSnapshot 9 = .ok (.iload_n 1, 1) := by decide +kernel
theorem dX8_saveSnapshot_10 : decode cX8_saveSnapshot 10 = .ok (.aload_n 0, 1) := by decide +kernel
theorem dX8_saveSnapshot_11 : decode cX8_saveSnapshot 11 = .ok (.getfield 31, 3) := by decide +kernel
theorem dX8_saveSnapshot_14 : decode cX8_saveSnapshot 14 = .ok (.invokevirtual 314, 3) := by decide +kernel
theorem dX8_saveSnapshot_17 : decode cX8_saveSnapshot 17 = .ok (.aload_n 0, 1) := by decide +kernel
theorem dX8_saveSnapshot_18 : decode cX8_saveSnapshot 18 = .ok (.getfield 31, 3) := by decide +kernel
theorem dX8_saveSnapshot_21 : decode cX8_saveSnapshot 21 = .ok (.getfield 99, 3) := by decide +kernel
theorem dX8_saveSnapshot_24 : decode cX8_saveSnapshot 24 = .ok (.ireturn, 1) := by decide +kernel
theorem dX8_restoreSnapshot_0 : decode cX8_restoreSnapshot 0 = .ok (.aload_n 0, 1) := by decide +kernel
theorem dX8_restoreSnapshot_1 : decode cX8_restoreSnapshot 1 = .ok (.iload_n 1, 1) := by decide +kernel
theorem dX8_restoreSnapshot_2 : decode cX8_restoreSnapshot 2 = .ok (.invokevirtual 311, 3) := by decide +kernel
theorem dX8_restoreSnapshot_5 : decode cX8_restoreSnapshot 5 = .ok (.aload_n 0, 1) := by decide +kernel
theorem dX8_restoreSnapshot_6 : decode cX8_restoreSnapshot 6 = .ok (.getfield 48, 3) := by decide +kernel
theorem dX8_restoreSnapshot_9 : decode cX8_restoreSnapshot 9 = .ok (.getfield 318, 3) := by decide +kernel
theorem dX8_restoreSnapshot_12 : decode cX8_restoreSnapshot 12 = .ok (.iload_n 1, 1) := by decide +kernel
theorem dX8_restoreSnapshot_13 : decode cX8_restoreSnapshot 13 = .ok (.baload, 1) := by decide +kernel
theorem dX8_restoreSnapshot_14 : decode cX8_restoreSnapshot 14 = .ok (.ifCond .ne 14, 3) := by decide +kernel
theorem dX8_restoreSnapshot_17 : decode cX8_restoreSnapshot 17 = .ok (.new 94, 3) := by decide +kernel
theorem dX8_restoreSnapshot_20 : decode cX8_restoreSnapshot 20 = .ok (.dup, 1) := by decide +kernel
theorem dX8_restoreSnapshot_21 : decode cX8_restoreSnapshot 21 = .ok (.ldc_w 322, 3) := by decide +kernel
theorem dX8_restoreSnapshot_24 : decode cX8_restoreSnapshot 24 = .ok (.invokespecial 98, 3) := by decide +kernel
theorem dX8_restoreSnapshot_27 : decode cX8_restoreSnapshot 27 = .ok (.athrow, 1) := by decide +kernel
theorem dX8_restoreSnapshot_28 : decode cX8_restoreSnapshot 28 = .ok (.aload_n 0, 1) := by decide +kernel
theorem dX8_restoreSnapshot_29 : decode cX8_restoreSnapshot 29 = .ok (.getfield 41, 3) := by decide +kernel
theorem dX8_restoreSnapshot_32 : decode cX8_restoreSnapshot 32 = .ok (.aload_n 0, 1) := by decide +kernel
theorem dX8_restoreSnapshot_33 : decode cX8_restoreSnapshot 33 = .ok (.getfield 31, 3) := by decide +kernel
theorem dX8_restoreSnapshot_36 : decode cX8_restoreSnapshot 36 = .ok (.invokevirtual 274, 3) := by decide +kernel
theorem dX8_restoreSnapshot_39 : decode cX8_restoreSnapshot 39 = .ok (.aload_n 0, 1) := by decide +kernel
theorem dX8_restoreSnapshot_40 : decode cX8_restoreSnapshot 40 = .ok (.getfield 31, 3) := by decide +kernel
theorem dX8_restoreSnapshot_43 : decode cX8_restoreSnapshot 43 = .ok (.aload_n 0, 1) := by decide +kernel
theorem dX8_restoreSnapshot_44 : decode cX8_restoreSnapshot 44 = .ok (.getfield 48, 3) := by decide +kernel
theorem dX8_restoreSnapshot_47 : decode cX8_restoreSnapshot 47 = .ok (.getfield 324, 3) := by decide +kernel
theorem dX8_restoreSnapshot_50 : decode cX8_restoreSnapshot 50 = .ok (.iload_n 1, 1) := by decide +kernel
theorem dX8_restoreSnapshot_51 : decode cX8_restoreSnapshot 51 = .ok (.aaload, 1) := by decide +kernel
theorem dX8_restoreSnapshot_52 : decode cX8_restoreSnapshot 52 = .ok (.invokevirtual 328, 3) := by decide +kernel
theorem dX8_restoreSnapshot_55 : decode cX8_restoreSnapshot 55 = .ok (.aload_n 0, 1) := by decide +kernel
theorem dX8_restoreSnapshot_56 : decode cX8_restoreSnapshot 56 = .ok (.getfield 31, 3) := by decide +kernel
theorem dX8_restoreSnapshot_59 : decode cX8_restoreSnapshot 59 = .ok (.getfield 99, 3) := by decide +kernel
theorem dX8_restoreSnapshot_62 : decode cX8_restoreSnapshot 62 = .ok (.ireturn, 1) := by decide +kernel
theorem dX8_writeEntries_0 : decode cX8_writeEntries 0 = .ok (.aload_n 0, 1) := by decide +kernel
theorem dX8_writeEntries_1 : decode cX8_writeEntries 1 = .ok (.iload_n 1, 1) := by decide +kernel
theorem dX8_writeEntries_2 : decode cX8_writeEntries 2 = .ok (.invokevirtual 124, 3) := by decide +kernel
theorem dX8_writeEntries_5 : decode cX8_writeEntries 5 = .ok (.aload_n 0, 1) := by decide +kernel
theorem dX8_writeEntries_6 : decode cX8_writeEntries 6 = .ok (.getfield 16, 3) := by decide +kernel
theorem dX8_writeEntries_9 : decode cX8_writeEntries 9 = .ok (.iconst 0, 1) := by decide +kernel
theorem dX8_writeEntries_10 : decode cX8_writeEntries 10 = .ok (.putfield 65, 3) := by decide +kernel
theorem dX8_writeEntries_13 : decode cX8_writeEntries 13 = .ok (.aload_n 0, 1) := by decide +kernel
theorem dX8_writeEntries_14 : decode cX8_writeEntries 14 = .ok (.getfield 31, 3) := by decide +kernel
theorem dX8_writeEntries_17 : decode cX8_writeEntries 17 = .ok (.getfield 210, 3) := by decide +kernel
theorem dX8_writeEntries_20 : decode cX8_writeEntries 20 = .ok (.aload_n 0, 1) := by decide +kernel
theorem dX8_writeEntries_21 : decode cX8_writeEntries 21 = .ok (.getfield 16, 3) := by decide +kernel
theorem dX8_writeEntries_24 : decode cX8_writeEntries 24 = .ok (.iload_n 1, 1) := by decide +kernel
theorem dX8_writeEntries_25 : decode cX8_writeEntries 25 = .ok (.invokevirtual 331, 3) := by decide +kernel
theorem dX8_writeEntries_28 : decode cX8_writeEntries 28 = .ok (.aload_n 0, 1) := by decide +kernel
theorem dX8_writeEntries_29 : decode cX8_writeEntries 29 = .ok (.getfield 16, 3) := by decide +kernel
theorem dX8_writeEntries_32 : decode cX8_writeEntries 32 = .ok (.getfield 65, 3) := by decide +kernel
theorem dX8_writeEntries_35 : decode cX8_writeEntries 35 = .ok (.ireturn, 1) := by decide +kernel
theorem dX8_writtenByte_0 : decode cX8_writtenByte 0 = .ok (.iload_n 1, 1) := by decide +kernel
theorem dX8_writtenByte_1 : decode cX8_writtenByte 1 = .ok (.ifCond .lt 14, 3) := by decide +kernel
theorem dX8_writtenByte_4 : decode cX8_writtenByte 4 = .ok (.iload_n 1, 1) := by decide +kernel
theorem dX8_writtenByte_5 : decode cX8_writtenByte 5 = .ok (.aload_n 0, 1) := by decide +kernel
theorem dX8_writtenByte_6 : decode cX8_writtenByte 6 = .ok (.getfield 16, 3) := by decide +kernel
theorem dX8_writtenByte_9 : decode cX8_writtenByte 9 = .ok (.getfield 65, 3) := by decide +kernel
theorem dX8_writtenByte_12 : decode cX8_writtenByte 12 = .ok (.if_icmp .lt 14, 3) := by decide +kernel
theorem dX8_writtenByte_15 : decode cX8_writtenByte 15 = .ok (.new 131, 3) := by decide +kernel
theorem dX8_writtenByte_18 : decode cX8_writtenByte 18 = .ok (.dup, 1) := by decide +kernel
theorem dX8_writtenByte_19 : decode cX8_writtenByte 19 = .ok (.ldc_w 335, 3) := by decide +kernel
theorem dX8_writtenByte_22 : decode cX8_writtenByte 22 = .ok (.invokespecial 135, 3) := by decide +kernel
theorem dX8_writtenByte_25 : decode cX8_writtenByte 25 = .ok (.athrow, 1) := by decide +kernel
theorem dX8_writtenByte_26 : decode cX8_writtenByte 26 = .ok (.aload_n 0, 1) := by decide +kernel
theorem dX8_writtenByte_27 : decode cX8_writtenByte 27 = .ok (.getfield 16, 3) := by decide +kernel
theorem dX8_writtenByte_30 : decode cX8_writtenByte 30 = .ok (.getfield 337, 3) := by decide +kernel
theorem dX8_writtenByte_33 : decode cX8_writtenByte 33 = .ok (.iload_n 1, 1) := by decide +kernel
theorem dX8_writtenByte_34 : decode cX8_writtenByte 34 = .ok (.iaload, 1) := by decide +kernel
theorem dX8_writtenByte_35 : decode cX8_writtenByte 35 = .ok (.ireturn, 1) := by decide +kernel
theorem dX8_readInput_0 : decode cX8_readInput 0 = .ok (.aload_n 0, 1) := by decide +kernel
theorem dX8_readInput_1 : decode cX8_readInput 1 = .ok (.aload_n 0, 1) := by decide +kernel
theorem dX8_readInput_2 : decode cX8_readInput 2 = .ok (.getfield 24, 3) := by decide +kernel
theorem dX8_readInput_5 : decode cX8_readInput 5 = .ok (.aload_n 0, 1) := by decide +kernel
theorem dX8_readInput_6 : decode cX8_readInput 6 = .ok (.getfield 35, 3) := by decide +kernel
theorem dX8_readInput_9 : decode cX8_readInput 9 = .ok (.invokevirtual 340, 3) := by decide +kernel
theorem dX8_readInput_12 : decode cX8_readInput 12 = .ok (.putfield 52, 3) := by decide +kernel
theorem dX8_readInput_15 : decode cX8_readInput 15 = .ok (.aload_n 0, 1) := by decide +kernel
theorem dX8_readInput_16 : decode cX8_readInput 16 = .ok (.getfield 10, 3) := by decide +kernel
theorem dX8_readInput_19 : decode cX8_readInput 19 = .ok (.iconst 0, 1) := by decide +kernel
theorem dX8_readInput_20 : decode cX8_readInput 20 = .ok (.putfield 65, 3) := by decide +kernel
theorem dX8_readInput_23 : decode cX8_readInput 23 = .ok (.aload_n 0, 1) := by decide +kernel
theorem dX8_readInput_24 : decode cX8_readInput 24 = .ok (.getfield 52, 3) := by decide +kernel
theorem dX8_readInput_27 : decode cX8_readInput 27 = .ok (.iconst (-1), 1) := by decide +kernel
theorem dX8_readInput_28 : decode cX8_readInput 28 = .ok (.if_icmp .ne 29, 3) := by decide +kernel
theorem dX8_readInput_31 : decode cX8_readInput 31 = .ok (.aload_n 0, 1) := by decide +kernel
theorem dX8_readInput_32 : decode cX8_readInput 32 = .ok (.getfield 31, 3) := by decide +kernel
theorem dX8_readInput_35 : decode cX8_readInput 35 = .ok (.aload_n 0, 1) := by decide +kernel
theorem dX8_readInput_36 : decode cX8_readInput 36 = .ok (.getfield 35, 3) := by decide +kernel
theorem dX8_readInput_39 : decode cX8_readInput 39 = .ok (.invokevirtual 328, 3) := by decide +kernel
theorem dX8_readInput_42 : decode cX8_readInput 42 = .ok (.aload_n 0, 1) := by decide +kernel
theorem dX8_readInput_43 : decode cX8_readInput 43 = .ok (.getfield 41, 3) := by decide +kernel
theorem dX8_readInput_46 : decode cX8_readInput 46 = .ok (.iconst 0, 1) := by decide +kernel
theorem dX8_readInput_47 : decode cX8_readInput 47 = .ok (.putfield 305, 3) := by decide +kernel
theorem dX8_readInput_50 : decode cX8_readInput 50 = .ok (.aload_n 0, 1) := by decide +kernel
theorem dX8_readInput_51 : decode cX8_readInput 51 = .ok (.getfield 48, 3) := by decide +kernel
theorem dX8_readInput_54 : decode cX8_readInput 54 = .ok (.invokevirtual 344, 3) := by decide +kernel
theorem dX8_readInput_57 : decode cX8_readInput 57 = .ok (.return_, 1) := by decide +kernel
theorem dX8_requireGuest_0 : decode cX8_requireGuest 0 = .ok (.iload_n 1, 1) := by decide +kernel
theorem dX8_requireGuest_1 : decode cX8_requireGuest 1 = .ok (.ifCond .lt 17, 3) := by decide +kernel
theorem dX8_requireGuest_4 : decode cX8_requireGuest 4 = .ok (.iload_n 1, 1) := by decide +kernel
theorem dX8_requireGuest_5 : decode cX8_requireGuest 5 = .ok (.aload_n 0, 1) := by decide +kernel
theorem dX8_requireGuest_6 : decode cX8_requireGuest 6 = .ok (.getfield 31, 3) := by decide +kernel
theorem dX8_requireGuest_9 : decode cX8_requireGuest 9 = .ok (.getfield 85, 3) := by decide +kernel
theorem dX8_requireGuest_12 : decode cX8_requireGuest 12 = .ok (.getfield 89, 3) := by decide +kernel
theorem dX8_requireGuest_15 : decode cX8_requireGuest 15 = .ok (.if_icmp .lt 14, 3) := by decide +kernel
theorem dX8_requireGuest_18 : decode cX8_requireGuest 18 = .ok (.new 131, 3) := by decide +kernel
theorem dX8_requireGuest_21 : decode cX8_requireGuest 21 = .ok (.dup, 1) := by decide +kernel
theorem dX8_requireGuest_22 : decode cX8_requireGuest 22 = .ok (.ldc_w 347, 3) := by decide +kernel
theorem dX8_requireGuest_25 : decode cX8_requireGuest 25 = .ok (.invokespecial 135, 3) := by decide +kernel
theorem dX8_requireGuest_28 : decode cX8_requireGuest 28 = .ok (.athrow, 1) := by decide +kernel
theorem dX8_requireGuest_29 : decode cX8_requireGuest 29 = .ok (.return_, 1) := by decide +kernel
theorem dX8_requireUmbrella_0 : decode cX8_requireUmbrella 0 = .ok (.iload_n 1, 1) := by decide +kernel
theorem dX8_requireUmbrella_1 : decode cX8_requireUmbrella 1 = .ok (.ifCond .lt 17, 3) := by decide +kernel
theorem dX8_requireUmbrella_4 : decode cX8_requireUmbrella 4 = .ok (.iload_n 1, 1) := by decide +kernel
theorem dX8_requireUmbrella_5 : decode cX8_requireUmbrella 5 = .ok (.aload_n 0, 1) := by decide +kernel
theorem dX8_requireUmbrella_6 : decode cX8_requireUmbrella 6 = .ok (.getfield 31, 3) := by decide +kernel
theorem dX8_requireUmbrella_9 : decode cX8_requireUmbrella 9 = .ok (.getfield 171, 3) := by decide +kernel
theorem dX8_requireUmbrella_12 : decode cX8_requireUmbrella 12 = .ok (.getfield 175, 3) := by decide +kernel
theorem dX8_requireUmbrella_15 : decode cX8_requireUmbrella 15 = .ok (.if_icmp .lt 14, 3) := by decide +kernel
theorem dX8_requireUmbrella_18 : decode cX8_requireUmbrella 18 = .ok (.new 131, 3) := by decide +kernel
theorem dX8_requireUmbrella_21 : decode cX8_requireUmbrella 21 = .ok (.dup, 1) := by decide +kernel
theorem dX8_requireUmbrella_22 : decode cX8_requireUmbrella 22 = .ok (.ldc_w 349, 3) := by decide +kernel
theorem dX8_requireUmbrella_25 : decode cX8_requireUmbrella 25 = .ok (.invokespecial 135, 3) := by decide +kernel
theorem dX8_requireUmbrella_28 : decode cX8_requireUmbrella 28 = .ok (.athrow, 1) := by decide +kernel
theorem dX8_requireUmbrella_29 : decode cX8_requireUmbrella 29 = .ok (.return_, 1) := by decide +kernel
theorem dX8_requireEntry_0 : decode cX8_requireEntry 0 = .ok (.iload_n 1, 1) := by decide +kernel
theorem dX8_requireEntry_1 : decode cX8_requireEntry 1 = .ok (.ifCond .lt 17, 3) := by decide +kernel
theorem dX8_requireEntry_4 : decode cX8_requireEntry 4 = .ok (.iload_n 1, 1) := by decide +kernel
theorem dX8_requireEntry_5 : decode cX8_requireEntry 5 = .ok (.aload_n 0, 1) := by decide +kernel
theorem dX8_requireEntry_6 : decode cX8_requireEntry 6 = .ok (.getfield 31, 3) := by decide +kernel
theorem dX8_requireEntry_9 : decode cX8_requireEntry 9 = .ok (.getfield 210, 3) := by decide +kernel
theorem dX8_requireEntry_12 : decode cX8_requireEntry 12 = .ok (.getfield 214, 3) := by decide +kernel
theorem dX8_requireEntry_15 : decode cX8_requireEntry 15 = .ok (.if_icmp .lt 14, 3) := by decide +kernel
theorem dX8_requireEntry_18 : decode cX8_requireEntry 18 = .ok (.new 131, 3) := by decide +kernel
theorem dX8_requireEntry_21 : decode cX8_requireEntry 21 = .ok (.dup, 1) := by decide +kernel
theorem dX8_requireEntry_22 : decode cX8_requireEntry 22 = .ok (.ldc_w 351, 3) := by decide +kernel
theorem dX8_requireEntry_25 : decode cX8_requireEntry 25 = .ok (.invokespecial 135, 3) := by decide +kernel
theorem dX8_requireEntry_28 : decode cX8_requireEntry 28 = .ok (.athrow, 1) := by decide +kernel
theorem dX8_requireEntry_29 : decode cX8_requireEntry 29 = .ok (.return_, 1) := by decide +kernel
theorem dX8_requireSlot_0 : decode cX8_requireSlot 0 = .ok (.iload_n 1, 1) := by decide +kernel
theorem dX8_requireSlot_1 : decode cX8_requireSlot 1 = .ok (.ifCond .lt 8, 3) := by decide +kernel
theorem dX8_requireSlot_4 : decode cX8_requireSlot 4 = .ok (.iload_n 1, 1) := by decide +kernel
theorem dX8_requireSlot_5 : decode cX8_requireSlot 5 = .ok (.iconst 2, 1) := by decide +kernel
theorem dX8_requireSlot_6 : decode cX8_requireSlot 6 = .ok (.if_icmp .lt 14, 3) := by decide +kernel
theorem dX8_requireSlot_9 : decode cX8_requireSlot 9 = .ok (.new 131, 3) := by decide +kernel
theorem dX8_requireSlot_12 : decode cX8_requireSlot 12 = .ok (.dup, 1) := by decide +kernel
theorem dX8_requireSlot_13 : decode cX8_requireSlot 13 = .ok (.ldc_w 353, 3) := by decide +kernel
theorem dX8_requireSlot_16 : decode cX8_requireSlot 16 = .ok (.invokespecial 135, 3) := by decide +kernel
theorem dX8_requireSlot_19 : decode cX8_requireSlot 19 = .ok (.athrow, 1) := by decide +kernel
theorem dX8_requireSlot_20 : decode cX8_requireSlot 20 = .ok (.return_, 1) := by decide +kernel
theorem dX8_requirePassed_0 : decode cX8_requirePassed 0 = .ok (.iload_n 1, 1) := by decide +kernel
theorem dX8_requirePassed_1 : decode cX8_requirePassed 1 = .ok (.ifCond .lt 19, 3) := by decide +kernel
theorem dX8_requirePassed_4 : decode cX8_requirePassed 4 = .ok (.iload_n 2, 1) := by decide +kernel
theorem dX8_requirePassed_5 : decode cX8_requirePassed 5 = .ok (.iload_n 1, 1) := by decide +kernel
theorem dX8_requirePassed_6 : decode cX8_requirePassed 6 = .ok (.if_icmp .lt 14, 3) := by decide +kernel
theorem dX8_requirePassed_9 : decode cX8_requirePassed 9 = .ok (.iload_n 2, 1) := by decide +kernel
theorem dX8_requirePassed_10 : decode cX8_requirePassed 10 = .ok (.aload_n 0, 1) := by decide +kernel
theorem dX8_requirePassed_11 : decode cX8_requirePassed 11 = .ok (.getfield 31, 3) := by decide +kernel
theorem dX8_requirePassed_14 : decode cX8_requirePassed 14 = .ok (.getfield 99, 3) := by decide +kernel
theorem dX8_requirePassed_17 : decode cX8_requirePassed 17 = .ok (.if_icmp .lt 14, 3) := by decide +kernel
theorem dX8_requirePassed_20 : decode cX8_requirePassed 20 = .ok (.new 78, 3) := by decide +kernel
theorem dX8_requirePassed_23 : decode cX8_requirePassed 23 = .ok (.dup, 1) := by decide +kernel
theorem dX8_requirePassed_24 : decode cX8_requirePassed 24 = .ok (.ldc_w 355, 3) := by decide +kernel
theorem dX8_requirePassed_27 : decode cX8_requirePassed 27 = .ok (.invokespecial 82, 3) := by decide +kernel
theorem dX8_requirePassed_30 : decode cX8_requirePassed 30 = .ok (.athrow, 1) := by decide +kernel
theorem dX8_requirePassed_31 : decode cX8_requirePassed 31 = .ok (.return_, 1) := by decide +kernel
theorem dX8_requireRange_0 : decode cX8_requireRange 0 = .ok (.iload_n 1, 1) := by decide +kernel
theorem dX8_requireRange_1 : decode cX8_requireRange 1 = .ok (.iload_n 2, 1) := by decide +kernel
theorem dX8_requireRange_2 : decode cX8_requireRange 2 = .ok (.if_icmp .lt 8, 3) := by decide +kernel
theorem dX8_requireRange_5 : decode cX8_requireRange 5 = .ok (.iload_n 1, 1) := by decide +kernel
theorem dX8_requireRange_6 : decode cX8_requireRange 6 = .ok (.iload_n 3, 1) := by decide +kernel
theorem dX8_requireRange_7 : decode cX8_requireRange 7 = .ok (.if_icmp .le 14, 3) := by decide +kernel
theorem dX8_requireRange_10 : decode cX8_requireRange 10 = .ok (.new 78, 3) := by decide +kernel
theorem dX8_requireRange_13 : decode cX8_requireRange 13 = .ok (.dup, 1) := by decide +kernel
theorem dX8_requireRange_14 : decode cX8_requireRange 14 = .ok (.ldc_w 357, 3) := by decide +kernel
theorem dX8_requireRange_17 : decode cX8_requireRange 17 = .ok (.invokespecial 82, 3) := by decide +kernel
theorem dX8_requireRange_20 : decode cX8_requireRange 20 = .ok (.athrow, 1) := by decide +kernel
theorem dX8_requireRange_21 : decode cX8_requireRange 21 = .ok (.return_, 1) := by decide +kernel
theorem dX8_requireRoomForEntry_0 : decode cX8_requireRoomForEntry 0 = .ok (.aload_n 0, 1) := by decide +kernel
theorem dX8_requireRoomForEntry_1 : decode cX8_requireRoomForEntry 1 = .ok (.getfield 31, 3) := by decide +kernel
theorem dX8_requireRoomForEntry_4 : decode cX8_requireRoomForEntry 4 = .ok (.getfield 210, 3) := by decide +kernel
theorem dX8_requireRoomForEntry_7 : decode cX8_requireRoomForEntry 7 = .ok (.getfield 214, 3) := by decide +kernel
theorem dX8_requireRoomForEntry_10 : decode cX8_requireRoomForEntry 10 = .ok (.bipush 60, 2) := by decide +kernel
theorem dX8_requireRoomForEntry_12 : decode cX8_requireRoomForEntry 12 = .ok (.if_icmp .lt 14, 3) := by decide +kernel
theorem dX8_requireRoomForEntry_15 : decode cX8_requireRoomForEntry 15 = .ok (.new 68, 3) := by decide +kernel
theorem dX8_requireRoomForEntry_18 : decode cX8_requireRoomForEntry 18 = .ok (.dup, 1) := by decide +kernel
theorem dX8_requireRoomForEntry_19 : decode cX8_requireRoomForEntry 19 = .ok (.ldc_w 359, 3) := by decide +kernel
theorem dX8_requireRoomForEntry_22 : decode cX8_requireRoomForEntry 22 = .ok (.invokespecial 72, 3) := by decide +kernel
theorem dX8_requireRoomForEntry_25 : decode cX8_requireRoomForEntry 25 = .ok (.athrow, 1) := by decide +kernel
theorem dX8_requireRoomForEntry_26 : decode cX8_requireRoomForEntry 26 = .ok (.return_, 1) := by decide +kernel
theorem dX8_isLetter_0 : decode cX8_isLetter 0 = .ok (.iload_n 0, 1) := by decide +kernel
theorem dX8_isLetter_1 : decode cX8_isLetter 1 = .ok (.bipush 97, 2) := by decide +kernel
theorem dX8_isLetter_3 : decode cX8_isLetter 3 = .ok (.if_icmp .lt 13, 3) := by decide +kernel
theorem dX8_isLetter_6 : decode cX8_isLetter 6 = .ok (.iload_n 0, 1) := by decide +kernel
theorem dX8_isLetter_7 : decode cX8_isLetter 7 = .ok (.bipush 122, 2) := by decide +kernel
theorem dX8_isLetter_9 : decode cX8_isLetter 9 = .ok (.if_icmp .gt 7, 3) := by decide +kernel
theorem dX8_isLetter_12 : decode cX8_isLetter 12 = .ok (.iconst 1, 1) := by decide +kernel
theorem dX8_isLetter_13 : decode cX8_isLetter 13 = .ok (.goto 4, 3) := by decide +kernel
theorem dX8_isLetter_16 : decode cX8_isLetter 16 = .ok (.iconst 0, 1) := by decide +kernel
theorem dX8_isLetter_17 : decode cX8_isLetter 17 = .ok (.ireturn, 1) := by decide +kernel
theorem dX8_isDigit_0 : decode cX8_isDigit 0 = .ok (.iload_n 0, 1) := by decide +kernel
theorem dX8_isDigit_1 : decode cX8_isDigit 1 = .ok (.bipush 48, 2) := by decide +kernel
theorem dX8_isDigit_3 : decode cX8_isDigit 3 = .ok (.if_icmp .lt 13, 3) := by decide +kernel
theorem dX8_isDigit_6 : decode cX8_isDigit 6 = .ok (.iload_n 0, 1) := by decide +kernel
theorem dX8_isDigit_7 : decode cX8_isDigit 7 = .ok (.bipush 57, 2) := by decide +kernel
theorem dX8_isDigit_9 : decode cX8_isDigit 9 = .ok (.if_icmp .gt 7, 3) := by decide +kernel
theorem dX8_isDigit_12 : decode cX8_isDigit 12 = .ok (.iconst 1, 1) := by decide +kernel
theorem dX8_isDigit_13 : decode cX8_isDigit 13 = .ok (.goto 4, 3) := by decide +kernel
theorem dX8_isDigit_16 : decode cX8_isDigit 16 = .ok (.iconst 0, 1) := by decide +kernel
theorem dX8_isDigit_17 : decode cX8_isDigit 17 = .ok (.ireturn, 1) := by decide +kernel
theorem dX8_isBlank_0 : decode cX8_isBlank 0 = .ok (.iload_n 0, 1) := by decide +kernel
theorem dX8_isBlank_1 : decode cX8_isBlank 1 = .ok (.bipush 32, 2) := by decide +kernel
theorem dX8_isBlank_3 : decode cX8_isBlank 3 = .ok (.if_icmp .eq 9, 3) := by decide +kernel
theorem dX8_isBlank_6 : decode cX8_isBlank 6 = .ok (.iload_n 0, 1) := by decide +kernel
theorem dX8_isBlank_7 : decode cX8_isBlank 7 = .ok (.bipush 10, 2) := by decide +kernel
theorem dX8_isBlank_9 : decode cX8_isBlank 9 = .ok (.if_icmp .ne 7, 3) := by decide +kernel
theorem dX8_isBlank_12 : decode cX8_isBlank 12 = .ok (.iconst 1, 1) := by decide +kernel
theorem dX8_isBlank_13 : decode cX8_isBlank 13 = .ok (.goto 4, 3) := by decide +kernel
theorem dX8_isBlank_16 : decode cX8_isBlank 16 = .ok (.iconst 0, 1) := by decide +kernel
theorem dX8_isBlank_17 : decode cX8_isBlank 17 = .ok (.ireturn, 1) := by decide +kernel
theorem dJ0_init_81219_0 : decode cJ0_init_81219 0 = .ok (.aload_n 0, 1) := by decide +kernel
theorem dJ0_init_81219_1 : decode cJ0_init_81219 1 = .ok (.aload_n 1, 1) := by decide +kernel
theorem dJ0_init_81219_2 : decode cJ0_init_81219 2 = .ok (.aconst_null, 1) := by decide +kernel
theorem dJ0_init_81219_3 : decode cJ0_init_81219 3 = .ok (.invokespecial 489, 3) := by decide +kernel
theorem dJ0_init_81219_6 : decode cJ0_init_81219 6 = .ok (.return_, 1) := by decide +kernel
theorem dJ0_length_8abf5_0 : decode cJ0_length_8abf5 0 = .ok (.aload_n 0, 1) := by decide +kernel
theorem dJ0_length_8abf5_1 : decode cJ0_length_8abf5 1 = .ok (.getfield 9, 3) := by decide +kernel
theorem dJ0_length_8abf5_4 : decode cJ0_length_8abf5 4 = .ok (.arraylength, 1) := by decide +kernel
theorem dJ0_length_8abf5_5 : decode cJ0_length_8abf5 5 = .ok (.aload_n 0, 1) := by decide +kernel
theorem dJ0_length_8abf5_6 : decode cJ0_length_8abf5 6 = .ok (.invokevirtual 335, 3) := by decide +kernel
theorem dJ0_length_8abf5_9 : decode cJ0_length_8abf5 9 = .ok (.ishr, 1) := by decide +kernel
theorem dJ0_length_8abf5_10 : decode cJ0_length_8abf5 10 = .ok (.ireturn, 1) := by decide +kernel
theorem dJ0_charAt_5068e_0 : decode cJ0_charAt_5068e 0 = .ok (.aload_n 0, 1) := by decide +kernel
theorem dJ0_charAt_5068e_1 : decode cJ0_charAt_5068e 1 = .ok (.invokevirtual 492, 3) := by decide +kernel
theorem dJ0_charAt_5068e_4 : decode cJ0_charAt_5068e 4 = .ok (.ifCond .eq 12, 3) := by decide +kernel
theorem dJ0_charAt_5068e_7 : decode cJ0_charAt_5068e 7 = .ok (.aload_n 0, 1) := by decide +kernel
theorem dJ0_charAt_5068e_8 : decode cJ0_charAt_5068e 8 = .ok (.getfield 9, 3) := by decide +kernel
theorem dJ0_charAt_5068e_11 : decode cJ0_charAt_5068e 11 = .ok (.iload_n 1, 1) := by decide +kernel
theorem dJ0_charAt_5068e_12 : decode cJ0_charAt_5068e 12 = .ok (.invokestatic 495, 3) := by decide +kernel
theorem dJ0_charAt_5068e_15 : decode cJ0_charAt_5068e 15 = .ok (.ireturn, 1) := by decide +kernel
theorem dJ0_charAt_5068e_16 : decode cJ0_charAt_5068e 16 = .ok (.aload_n 0, 1) := by decide +kernel
theorem dJ0_charAt_5068e_17 : decode cJ0_charAt_5068e 17 = .ok (.getfield 9, 3) := by decide +kernel
theorem dJ0_charAt_5068e_20 : decode cJ0_charAt_5068e 20 = .ok (.iload_n 1, 1) := by decide +kernel
theorem dJ0_charAt_5068e_21 : decode cJ0_charAt_5068e 21 = .ok (.invokestatic 498, 3) := by decide +kernel
theorem dJ0_charAt_5068e_24 : decode cJ0_charAt_5068e 24 = .ok (.ireturn, 1) := by decide +kernel
theorem dJ0_getBytes_840e7_0 : decode cJ0_getBytes_840e7 0 = .ok (.aload_n 0, 1) := by decide +kernel
theorem dJ0_getBytes_840e7_1 : decode cJ0_getBytes_840e7 1 = .ok (.invokevirtual 335, 3) := by decide +kernel
theorem dJ0_getBytes_840e7_4 : decode cJ0_getBytes_840e7 4 = .ok (.iload_n 3, 1) := by decide +kernel
theorem dJ0_getBytes_840e7_5 : decode cJ0_getBytes_840e7 5 = .ok (.if_icmp .ne 23, 3) := by decide +kernel
theorem dJ0_getBytes_840e7_8 : decode cJ0_getBytes_840e7 8 = .ok (.aload_n 0, 1) := by decide +kernel
theorem dJ0_getBytes_840e7_9 : decode cJ0_getBytes_840e7 9 = .ok (.getfield 9, 3) := by decide +kernel
theorem dJ0_getBytes_840e7_12 : decode cJ0_getBytes_840e7 12 = .ok (.iconst 0, 1) := by decide +kernel
theorem dJ0_getBytes_840e7_13 : decode cJ0_getBytes_840e7 13 = .ok (.aload_n 1, 1) := by decide +kernel
theorem dJ0_getBytes_840e7_14 : decode cJ0_getBytes_840e7 14 = .ok (.iload_n 2, 1) := by decide +kernel
theorem dJ0_getBytes_840e7_15 : decode cJ0_getBytes_840e7 15 = .ok (.iload_n 3, 1) := by decide +kernel
theorem dJ0_getBytes_840e7_16 : decode cJ0_getBytes_840e7 16 = .ok (.ishl, 1) := by decide +kernel
theorem dJ0_getBytes_840e7_17 : decode cJ0_getBytes_840e7 17 = .ok (.aload_n 0, 1) := by decide +kernel
theorem dJ0_getBytes_840e7_18 : decode cJ0_getBytes_840e7 18 = .ok (.getfield 9, 3) := by decide +kernel
theorem dJ0_getBytes_840e7_21 : decode cJ0_getBytes_840e7 21 = .ok (.arraylength, 1) := by decide +kernel
theorem dJ0_getBytes_840e7_22 : decode cJ0_getBytes_840e7 22 = .ok (.invokestatic 212, 3) := by decide +kernel
theorem dJ0_getBytes_840e7_25 : decode cJ0_getBytes_840e7 25 = .ok (.goto 18, 3) := by decide +kernel
theorem dJ0_getBytes_840e7_28 : decode cJ0_getBytes_840e7 28 = .ok (.aload_n 0, 1) := by decide +kernel
theorem dJ0_getBytes_840e7_29 : decode cJ0_getBytes_840e7 29 = .ok (.getfield 9, 3) := by decide +kernel
theorem dJ0_getBytes_840e7_32 : decode cJ0_getBytes_840e7 32 = .ok (.iconst 0, 1) := by decide +kernel
theorem dJ0_getBytes_840e7_33 : decode cJ0_getBytes_840e7 33 = .ok (.aload_n 1, 1) := by decide +kernel
theorem dJ0_getBytes_840e7_34 : decode cJ0_getBytes_840e7 34 = .ok (.iload_n 2, 1) := by decide +kernel
theorem dJ0_getBytes_840e7_35 : decode cJ0_getBytes_840e7 35 = .ok (.aload_n 0, 1) := by decide +kernel
theorem dJ0_getBytes_840e7_36 : decode cJ0_getBytes_840e7 36 = .ok (.getfield 9, 3) := by decide +kernel
theorem dJ0_getBytes_840e7_39 : decode cJ0_getBytes_840e7 39 = .ok (.arraylength, 1) := by decide +kernel
theorem dJ0_getBytes_840e7_40 : decode cJ0_getBytes_840e7 40 = .ok (.invokestatic 106, 3) := by decide +kernel
theorem dJ0_getBytes_840e7_43 : decode cJ0_getBytes_840e7 43 = .ok (.return_, 1) := by decide +kernel
theorem dJ0_init_db425_0 : decode cJ0_init_db425 0 = .ok (.aload_n 0, 1) := by decide +kernel
theorem dJ0_init_db425_1 : decode cJ0_init_db425 1 = .ok (.invokespecial 1, 3) := by decide +kernel
theorem dJ0_init_db425_4 : decode cJ0_init_db425 4 = .ok (.aload_n 1, 1) := by decide +kernel
theorem dJ0_init_db425_5 : decode cJ0_init_db425 5 = .ok (.invokevirtual 552, 3) := by decide +kernel
theorem dJ0_init_db425_8 : decode cJ0_init_db425 8 = .ok (.astore_n 3, 1) := by decide +kernel
theorem dJ0_init_db425_9 : decode cJ0_init_db425 9 = .ok (.aload_n 1, 1) := by decide +kernel
theorem dJ0_init_db425_10 : decode cJ0_init_db425 10 = .ok (.invokevirtual 549, 3) := by decide +kernel
theorem dJ0_init_db425_13 : decode cJ0_init_db425 13 = .ok (.istore 4, 2) := by decide +kernel
theorem dJ0_init_db425_15 : decode cJ0_init_db425 15 = .ok (.aload_n 1, 1) := by decide +kernel
theorem dJ0_init_db425_16 : decode cJ0_init_db425 16 = .ok (.invokevirtual 1047, 3) := by decide +kernel
theorem dJ0_init_db425_19 : decode cJ0_init_db425 19 = .ok (.ifCond .eq 22, 3) := by decide +kernel
theorem dJ0_init_db425_22 : decode cJ0_init_db425 22 = .ok (.aload_n 0, 1) := by decide +kernel
theorem dJ0_init_db425_23 : decode cJ0_init_db425 23 = .ok (.iconst 0, 1) := by decide +kernel
theorem dJ0_init_db425_24 : decode cJ0_init_db425 24 = .ok (.putfield 15, 3) := by decide +kernel
theorem dJ0_init_db425_27 : decode cJ0_init_db425 27 = .ok (.aload_n 0, 1) := by decide +kernel
theorem dJ0_init_db425_28 : decode cJ0_init_db425 28 = .ok (.aload_n 3, 1) := by decide +kernel
theorem dJ0_init_db425_29 : decode cJ0_init_db425 29 = .ok (.iconst 0, 1) := by decide +kernel
theorem dJ0_init_db425_30 : decode cJ0_init_db425 30 = .ok (.iload 4, 2) := by decide +kernel
theorem dJ0_init_db425_32 : decode cJ0_init_db425 32 = .ok (.invokestatic 54, 3) := by decide +kernel
theorem dJ0_init_db425_35 : decode cJ0_init_db425 35 = .ok (.putfield 9, 3) := by decide +kernel
theorem dJ0_init_db425_38 : decode cJ0_init_db425 38 = .ok (.goto 59, 3) := by decide +kernel
theorem dJ0_init_db425_41 : decode cJ0_init_db425 41 = .ok (.getstatic 38, 3) := by decide +kernel
theorem dJ0_init_db425_44 : decode cJ0_init_db425 44 = .ok (.ifCond .eq 35, 3) := by decide +kernel
theorem dJ0_init_db425_47 : decode cJ0_init_db425 47 = .ok (.aload_n 1, 1) := by decide +kernel
theorem dJ0_init_db425_48 : decode cJ0_init_db425 48 = .ok (.getfield 1048, 3) := by decide +kernel
theorem dJ0_init_db425_51 : decode cJ0_init_db425 51 = .ok (.ifCond .eq 28, 3) := by decide +kernel
theorem dJ0_init_db425_54 : decode cJ0_init_db425 54 = .ok (.aload_n 0, 1) := by decide +kernel
theorem dJ0_init_db425_55 : decode cJ0_init_db425 55 = .ok (.aload_n 3, 1) := by decide +kernel
theorem dJ0_init_db425_56 : decode cJ0_init_db425 56 = .ok (.iconst 0, 1) := by decide +kernel
theorem dJ0_init_db425_57 : decode cJ0_init_db425 57 = .ok (.iload 4, 2) := by decide +kernel
theorem dJ0_init_db425_59 : decode cJ0_init_db425 59 = .ok (.invokestatic 1051, 3) := by decide +kernel
theorem dJ0_init_db425_62 : decode cJ0_init_db425 62 = .ok (.putfield 9, 3) := by decide +kernel
theorem dJ0_init_db425_65 : decode cJ0_init_db425 65 = .ok (.aload_n 0, 1) := by decide +kernel
theorem dJ0_init_db425_66 : decode cJ0_init_db425 66 = .ok (.aload_n 0, 1) := by decide +kernel
theorem dJ0_init_db425_67 : decode cJ0_init_db425 67 = .ok (.getfield 9, 3) := by decide +kernel
theorem dJ0_init_db425_70 : decode cJ0_init_db425 70 = .ok (.iload 4, 2) := by decide +kernel
theorem dJ0_init_db425_72 : decode cJ0_init_db425 72 = .ok (.invokestatic 47, 3) := by decide +kernel
theorem dJ0_init_db425_75 : decode cJ0_init_db425 75 = .ok (.putfield 15, 3) := by decide +kernel
theorem dJ0_init_db425_78 : decode cJ0_init_db425 78 = .ok (.return_, 1) := by decide +kernel
theorem dJ0_init_db425_79 : decode cJ0_init_db425 79 = .ok (.aload_n 0, 1) := by decide +kernel
theorem dJ0_init_db425_80 : decode cJ0_init_db425 80 = .ok (.iconst 1, 1) := by decide +kernel
theorem dJ0_init_db425_81 : decode cJ0_init_db425 81 = .ok (.putfield 15, 3) := by decide +kernel
theorem dJ0_init_db425_84 : decode cJ0_init_db425 84 = .ok (.aload_n 0, 1) := by decide +kernel
theorem dJ0_init_db425_85 : decode cJ0_init_db425 85 = .ok (.aload_n 3, 1) := by decide +kernel
theorem dJ0_init_db425_86 : decode cJ0_init_db425 86 = .ok (.iconst 0, 1) := by decide +kernel
theorem dJ0_init_db425_87 : decode cJ0_init_db425 87 = .ok (.iload 4, 2) := by decide +kernel
theorem dJ0_init_db425_89 : decode cJ0_init_db425 89 = .ok (.iconst 1, 1) := by decide +kernel
theorem dJ0_init_db425_90 : decode cJ0_init_db425 90 = .ok (.ishl, 1) := by decide +kernel
theorem dJ0_init_db425_91 : decode cJ0_init_db425 91 = .ok (.invokestatic 54, 3) := by decide +kernel
theorem dJ0_init_db425_94 : decode cJ0_init_db425 94 = .ok (.putfield 9, 3) := by decide +kernel
theorem dJ0_init_db425_97 : decode cJ0_init_db425 97 = .ok (.return_, 1) := by decide +kernel
theorem dJ0_coder_7d493_0 : decode cJ0_coder_7d493 0 = .ok (.getstatic 38, 3) := by decide +kernel
theorem dJ0_coder_7d493_3 : decode cJ0_coder_7d493 3 = .ok (.ifCond .eq 10, 3) := by decide +kernel
theorem dJ0_coder_7d493_6 : decode cJ0_coder_7d493 6 = .ok (.aload_n 0, 1) := by decide +kernel
theorem dJ0_coder_7d493_7 : decode cJ0_coder_7d493 7 = .ok (.getfield 15, 3) := by decide +kernel
theorem dJ0_coder_7d493_10 : decode cJ0_coder_7d493 10 = .ok (.goto 4, 3) := by decide +kernel
theorem dJ0_coder_7d493_13 : decode cJ0_coder_7d493 13 = .ok (.iconst 1, 1) := by decide +kernel
theorem dJ0_coder_7d493_14 : decode cJ0_coder_7d493 14 = .ok (.ireturn, 1) := by decide +kernel
theorem dJ0_isLatin1_aae02_0 : decode cJ0_isLatin1_aae02 0 = .ok (.getstatic 38, 3) := by decide +kernel
theorem dJ0_isLatin1_aae02_3 : decode cJ0_isLatin1_aae02 3 = .ok (.ifCond .eq 14, 3) := by decide +kernel
theorem dJ0_isLatin1_aae02_6 : decode cJ0_isLatin1_aae02 6 = .ok (.aload_n 0, 1) := by decide +kernel
theorem dJ0_isLatin1_aae02_7 : decode cJ0_isLatin1_aae02 7 = .ok (.getfield 15, 3) := by decide +kernel
theorem dJ0_isLatin1_aae02_10 : decode cJ0_isLatin1_aae02 10 = .ok (.ifCond .ne 7, 3) := by decide +kernel
theorem dJ0_isLatin1_aae02_13 : decode cJ0_isLatin1_aae02 13 = .ok (.iconst 1, 1) := by decide +kernel
theorem dJ0_isLatin1_aae02_14 : decode cJ0_isLatin1_aae02 14 = .ok (.goto 4, 3) := by decide +kernel
theorem dJ0_isLatin1_aae02_17 : decode cJ0_isLatin1_aae02 17 = .ok (.iconst 0, 1) := by decide +kernel
theorem dJ0_isLatin1_aae02_18 : decode cJ0_isLatin1_aae02 18 = .ok (.ireturn, 1) := by decide +kernel
theorem dJ0_checkIndex_df160_0 : decode cJ0_checkIndex_df160 0 = .ok (.iload_n 0, 1) := by decide +kernel
theorem dJ0_checkIndex_df160_1 : decode cJ0_checkIndex_df160 1 = .ok (.iload_n 1, 1) := by decide +kernel
theorem dJ0_checkIndex_df160_2 : decode cJ0_checkIndex_df160 2 = .ok (.getstatic 1053, 3) := by decide +kernel
theorem dJ0_checkIndex_df160_5 : decode cJ0_checkIndex_df160 5 = .ok (.invokestatic 1059, 3) := by decide +kernel
theorem dJ0_checkIndex_df160_8 : decode cJ0_checkIndex_df160 8 = .ok (.pop, 1) := by decide +kernel
theorem dJ0_checkIndex_df160_9 : decode cJ0_checkIndex_df160 9 = .ok (.return_, 1) := by decide +kernel
theorem dJ0_checkBoundsOffCount_cabcc_0 : decode cJ0_checkBoundsOffCount_cabcc 0 = .ok (.iload_n 0, 1) := by decide +kernel
theorem dJ0_checkBoundsOffCount_cabcc_1 : decode cJ0_checkBoundsOffCount_cabcc 1 = .ok (.iload_n 1, 1) := by decide +kernel
theorem dJ0_checkBoundsOffCount_cabcc_2 : decode cJ0_checkBoundsOffCount_cabcc 2 = .ok (.iload_n 2, 1) := by decide +kernel
theorem dJ0_checkBoundsOffCount_cabcc_3 : decode cJ0_checkBoundsOffCount_cabcc 3 = .ok (.getstatic 1053, 3) := by decide +kernel
theorem dJ0_checkBoundsOffCount_cabcc_6 : decode cJ0_checkBoundsOffCount_cabcc 6 = .ok (.invokestatic 1065, 3) := by decide +kernel
theorem dJ0_checkBoundsOffCount_cabcc_9 : decode cJ0_checkBoundsOffCount_cabcc 9 = .ok (.ireturn, 1) := by decide +kernel
theorem dJ0_checkBoundsBeginEnd_23922_0 : decode cJ0_checkBoundsBeginEnd_23922 0 = .ok (.iload_n 0, 1) := by decide +kernel
theorem dJ0_checkBoundsBeginEnd_23922_1 : decode cJ0_checkBoundsBeginEnd_23922 1 = .ok (.iload_n 1, 1) := by decide +kernel
theorem dJ0_checkBoundsBeginEnd_23922_2 : decode cJ0_checkBoundsBeginEnd_23922 2 = .ok (.iload_n 2, 1) := by decide +kernel
theorem dJ0_checkBoundsBeginEnd_23922_3 : decode cJ0_checkBoundsBeginEnd_23922 3 = .ok (.getstatic 1053, 3) := by decide +kernel
theorem dJ0_checkBoundsBeginEnd_23922_6 : decode cJ0_checkBoundsBeginEnd_23922 6 = .ok (.invokestatic 1062, 3) := by decide +kernel
theorem dJ0_checkBoundsBeginEnd_23922_9 : decode cJ0_checkBoundsBeginEnd_23922 9 = .ok (.pop, 1) := by decide +kernel
theorem dJ0_checkBoundsBeginEnd_23922_10 : decode cJ0_checkBoundsBeginEnd_23922 10 = .ok (.return_, 1) := by decide +kernel
theorem dJ1_charAt_3b067_0 : decode cJ1_charAt_3b067 0 = .ok (.iload_n 1, 1) := by decide +kernel
theorem dJ1_charAt_3b067_1 : decode cJ1_charAt_3b067 1 = .ok (.aload_n 0, 1) := by decide +kernel
theorem dJ1_charAt_3b067_2 : decode cJ1_charAt_3b067 2 = .ok (.arraylength, 1) := by decide +kernel
theorem dJ1_charAt_3b067_3 : decode cJ1_charAt_3b067 3 = .ok (.invokestatic 9, 3) := by decide +kernel
theorem dJ1_charAt_3b067_6 : decode cJ1_charAt_3b067 6 = .ok (.aload_n 0, 1) := by decide +kernel
theorem dJ1_charAt_3b067_7 : decode cJ1_charAt_3b067 7 = .ok (.iload_n 1, 1) := by decide +kernel
theorem dJ1_charAt_3b067_8 : decode cJ1_charAt_3b067 8 = .ok (.baload, 1) := by decide +kernel
theorem dJ1_charAt_3b067_9 : decode cJ1_charAt_3b067 9 = .ok (.sipush 255, 3) := by decide +kernel
theorem dJ1_charAt_3b067_12 : decode cJ1_charAt_3b067 12 = .ok (.iand, 1) := by decide +kernel
theorem dJ1_charAt_3b067_13 : decode cJ1_charAt_3b067 13 = .ok (.i2c, 1) := by decide +kernel
theorem dJ1_charAt_3b067_14 : decode cJ1_charAt_3b067 14 = .ok (.ireturn, 1) := by decide +kernel
theorem dJ1_canEncode_fc78d_0 : decode cJ1_canEncode_fc78d 0 = .ok (.iload_n 0, 1) := by decide +kernel
theorem dJ1_canEncode_fc78d_1 : decode cJ1_canEncode_fc78d 1 = .ok (.sipush 255, 3) := by decide +kernel
theorem dJ1_canEncode_fc78d_4 : decode cJ1_canEncode_fc78d 4 = .ok (.if_icmp .gt 7, 3) := by decide +kernel
theorem dJ1_canEncode_fc78d_7 : decode cJ1_canEncode_fc78d 7 = .ok (.iconst 1, 1) := by decide +kernel
theorem dJ1_canEncode_fc78d_8 : decode cJ1_canEncode_fc78d 8 = .ok (.goto 4, 3) := by decide +kernel
theorem dJ1_canEncode_fc78d_11 : decode cJ1_canEncode_fc78d 11 = .ok (.iconst 0, 1) := by decide +kernel
theorem dJ1_canEncode_fc78d_12 : decode cJ1_canEncode_fc78d 12 = .ok (.ireturn, 1) := by decide +kernel
theorem dJ1_inflate_0e8fd_0 : decode cJ1_inflate_0e8fd 0 = .ok (.aload_n 0, 1) := by decide +kernel
theorem dJ1_inflate_0e8fd_1 : decode cJ1_inflate_0e8fd 1 = .ok (.iload_n 1, 1) := by decide +kernel
theorem dJ1_inflate_0e8fd_2 : decode cJ1_inflate_0e8fd 2 = .ok (.aload_n 2, 1) := by decide +kernel
theorem dJ1_inflate_0e8fd_3 : decode cJ1_inflate_0e8fd 3 = .ok (.iload_n 3, 1) := by decide +kernel
theorem dJ1_inflate_0e8fd_4 : decode cJ1_inflate_0e8fd 4 = .ok (.iload 4, 2) := by decide +kernel
theorem dJ1_inflate_0e8fd_6 : decode cJ1_inflate_0e8fd 6 = .ok (.invokestatic 240, 3) := by decide +kernel
theorem dJ1_inflate_0e8fd_9 : decode cJ1_inflate_0e8fd 9 = .ok (.return_, 1) := by decide +kernel
theorem dJ3_checkIndex_8e157_0 : decode cJ3_checkIndex_8e157 0 = .ok (.iload_n 0, 1) := by decide +kernel
theorem dJ3_checkIndex_8e157_1 : decode cJ3_checkIndex_8e157 1 = .ok (.ifCond .lt 8, 3) := by decide +kernel
theorem dJ3_checkIndex_8e157_4 : decode cJ3_checkIndex_8e157 4 = .ok (.iload_n 0, 1) := by decide +kernel
theorem dJ3_checkIndex_8e157_5 : decode cJ3_checkIndex_8e157 5 = .ok (.iload_n 1, 1) := by decide +kernel
theorem dJ3_checkIndex_8e157_6 : decode cJ3_checkIndex_8e157 6 = .ok (.if_icmp .lt 10, 3) := by decide +kernel
theorem dJ3_checkIndex_8e157_9 : decode cJ3_checkIndex_8e157 9 = .ok (.aload_n 2, 1) := by decide +kernel
theorem dJ3_checkIndex_8e157_10 : decode cJ3_checkIndex_8e157 10 = .ok (.iload_n 0, 1) := by decide +kernel
theorem dJ3_checkIndex_8e157_11 : decode cJ3_checkIndex_8e157 11 = .ok (.iload_n 1, 1) := by decide +kernel
theorem dJ3_checkIndex_8e157_12 : decode cJ3_checkIndex_8e157 12 = .ok (.invokestatic 95, 3) := by decide +kernel
theorem dJ3_checkIndex_8e157_15 : decode cJ3_checkIndex_8e157 15 = .ok (.athrow, 1) := by decide +kernel
theorem dJ3_checkIndex_8e157_16 : decode cJ3_checkIndex_8e157 16 = .ok (.iload_n 0, 1) := by decide +kernel
theorem dJ3_checkIndex_8e157_17 : decode cJ3_checkIndex_8e157 17 = .ok (.ireturn, 1) := by decide +kernel
theorem dJ3_checkFromToIndex_8c36e_0 : decode cJ3_checkFromToIndex_8c36e 0 = .ok (.iload_n 0, 1) := by decide +kernel
theorem dJ3_checkFromToIndex_8c36e_1 : decode cJ3_checkFromToIndex_8c36e 1 = .ok (.ifCond .lt 13, 3) := by decide +kernel
theorem dJ3_checkFromToIndex_8c36e_4 : decode cJ3_checkFromToIndex_8c36e 4 = .ok (.iload_n 0, 1) := by decide +kernel
theorem dJ3_checkFromToIndex_8c36e_5 : decode cJ3_checkFromToIndex_8c36e 5 = .ok (.iload_n 1, 1) := by decide +kernel
theorem dJ3_checkFromToIndex_8c36e_6 : decode cJ3_checkFromToIndex_8c36e 6 = .ok (.if_icmp .gt 8, 3) := by decide +kernel
theorem dJ3_checkFromToIndex_8c36e_9 : decode cJ3_checkFromToIndex_8c36e 9 = .ok (.iload_n 1, 1) := by decide +kernel
theorem dJ3_checkFromToIndex_8c36e_10 : decode cJ3_checkFromToIndex_8c36e 10 = .ok (.iload_n 2, 1) := by decide +kernel
theorem dJ3_checkFromToIndex_8c36e_11 : decode cJ3_checkFromToIndex_8c36e 11 = .ok (.if_icmp .le 11, 3) := by decide +kernel
theorem dJ3_checkFromToIndex_8c36e_14 : decode cJ3_checkFromToIndex_8c36e 14 = .ok (.aload_n 3, 1) := by decide +kernel
theorem dJ3_checkFromToIndex_8c36e_15 : decode cJ3_checkFromToIndex_8c36e 15 = .ok (.iload_n 0, 1) := by decide +kernel
theorem dJ3_checkFromToIndex_8c36e_16 : decode cJ3_checkFromToIndex_8c36e 16 = .ok (.iload_n 1, 1) := by decide +kernel
theorem dJ3_checkFromToIndex_8c36e_17 : decode cJ3_checkFromToIndex_8c36e 17 = .ok (.iload_n 2, 1) := by decide +kernel
theorem dJ3_checkFromToIndex_8c36e_18 : decode cJ3_checkFromToIndex_8c36e 18 = .ok (.invokestatic 99, 3) := by decide +kernel
theorem dJ3_checkFromToIndex_8c36e_21 : decode cJ3_checkFromToIndex_8c36e 21 = .ok (.athrow, 1) := by decide +kernel
theorem dJ3_checkFromToIndex_8c36e_22 : decode cJ3_checkFromToIndex_8c36e 22 = .ok (.iload_n 0, 1) := by decide +kernel
theorem dJ3_checkFromToIndex_8c36e_23 : decode cJ3_checkFromToIndex_8c36e 23 = .ok (.ireturn, 1) := by decide +kernel
theorem dJ3_checkFromIndexSize_8c36e_0 : decode cJ3_checkFromIndexSize_8c36e 0 = .ok (.iload_n 2, 1) := by decide +kernel
theorem dJ3_checkFromIndexSize_8c36e_1 : decode cJ3_checkFromIndexSize_8c36e 1 = .ok (.iload_n 0, 1) := by decide +kernel
theorem dJ3_checkFromIndexSize_8c36e_2 : decode cJ3_checkFromIndexSize_8c36e 2 = .ok (.ior, 1) := by decide +kernel
theorem dJ3_checkFromIndexSize_8c36e_3 : decode cJ3_checkFromIndexSize_8c36e 3 = .ok (.iload_n 1, 1) := by decide +kernel
theorem dJ3_checkFromIndexSize_8c36e_4 : decode cJ3_checkFromIndexSize_8c36e 4 = .ok (.ior, 1) := by decide +kernel
theorem dJ3_checkFromIndexSize_8c36e_5 : decode cJ3_checkFromIndexSize_8c36e 5 = .ok (.ifCond .lt 10, 3) := by decide +kernel
theorem dJ3_checkFromIndexSize_8c36e_8 : decode cJ3_checkFromIndexSize_8c36e 8 = .ok (.iload_n 1, 1) := by decide +kernel
theorem dJ3_checkFromIndexSize_8c36e_9 : decode cJ3_checkFromIndexSize_8c36e 9 = .ok (.iload_n 2, 1) := by decide +kernel
theorem dJ3_checkFromIndexSize_8c36e_10 : decode cJ3_checkFromIndexSize_8c36e 10 = .ok (.iload_n 0, 1) := by decide +kernel
theorem dJ3_checkFromIndexSize_8c36e_11 : decode cJ3_checkFromIndexSize_8c36e 11 = .ok (.isub, 1) := by decide +kernel
theorem dJ3_checkFromIndexSize_8c36e_12 : decode cJ3_checkFromIndexSize_8c36e 12 = .ok (.if_icmp .le 11, 3) := by decide +kernel
theorem dJ3_checkFromIndexSize_8c36e_15 : decode cJ3_checkFromIndexSize_8c36e 15 = .ok (.aload_n 3, 1) := by decide +kernel
theorem dJ3_checkFromIndexSize_8c36e_16 : decode cJ3_checkFromIndexSize_8c36e 16 = .ok (.iload_n 0, 1) := by decide +kernel
theorem dJ3_checkFromIndexSize_8c36e_17 : decode cJ3_checkFromIndexSize_8c36e 17 = .ok (.iload_n 1, 1) := by decide +kernel
theorem dJ3_checkFromIndexSize_8c36e_18 : decode cJ3_checkFromIndexSize_8c36e 18 = .ok (.iload_n 2, 1) := by decide +kernel
theorem dJ3_checkFromIndexSize_8c36e_19 : decode cJ3_checkFromIndexSize_8c36e 19 = .ok (.invokestatic 103, 3) := by decide +kernel
theorem dJ3_checkFromIndexSize_8c36e_22 : decode cJ3_checkFromIndexSize_8c36e 22 = .ok (.athrow, 1) := by decide +kernel
theorem dJ3_checkFromIndexSize_8c36e_23 : decode cJ3_checkFromIndexSize_8c36e 23 = .ok (.iload_n 0, 1) := by decide +kernel
theorem dJ3_checkFromIndexSize_8c36e_24 : decode cJ3_checkFromIndexSize_8c36e 24 = .ok (.ireturn, 1) := by decide +kernel
