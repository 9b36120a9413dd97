theorem dL_append_0 : decode cL_append 0 = .ok (.aload 6, 2) := by decide +kernel
theorem dL_append_2 : decode cL_append 2 = .ok (.iconst 0, 1) := by decide +kernel
theorem dL_append_3 : decode cL_append 3 = .ok (.aload_n 0, 1) := by decide +kernel
theorem dL_append_4 : decode cL_append 4 = .ok (.iload_n 1, 1) := by decide +kernel
theorem dL_append_5 : decode cL_append 5 = .ok (.iload_n 2, 1) := by decide +kernel
theorem dL_append_6 : decode cL_append 6 = .ok (.iload_n 3, 1) := by decide +kernel
theorem dL_append_7 : decode cL_append 7 = .ok (.iload 4, 2) := by decide +kernel
theorem dL_append_9 : decode cL_append 9 = .ok (.iload 5, 2) := by decide +kernel
theorem dL_append_11 : decode cL_append 11 = .ok (.invokevirtual 7, 3) := by decide +kernel
theorem dL_append_14 : decode cL_append 14 = .ok (.i2l, 1) := by decide +kernel
theorem dL_append_15 : decode cL_append 15 = .ok (.lastore, 1) := by decide +kernel
theorem dL_append_16 : decode cL_append 16 = .ok (.goto 7, 3) := by decide +kernel
theorem dL_append_19 : decode cL_append 19 = .ok (.astore 7, 2) := by decide +kernel
theorem dL_append_21 : decode cL_append 21 = .ok (.iconst 1, 1) := by decide +kernel
theorem dL_append_22 : decode cL_append 22 = .ok (.ireturn, 1) := by decide +kernel
theorem dL_append_23 : decode cL_append 23 = .ok (.iconst 0, 1) := by decide +kernel
theorem dL_append_24 : decode cL_append 24 = .ok (.ireturn, 1) := by decide +kernel
theorem dL_shorten_0 : decode cL_shorten 0 = .ok (.aload_n 2, 1) := by decide +kernel
theorem dL_shorten_1 : decode cL_shorten 1 = .ok (.iconst 0, 1) := by decide +kernel
theorem dL_shorten_2 : decode cL_shorten 2 = .ok (.aload_n 0, 1) := by decide +kernel
theorem dL_shorten_3 : decode cL_shorten 3 = .ok (.iload_n 1, 1) := by decide +kernel
theorem dL_shorten_4 : decode cL_shorten 4 = .ok (.invokevirtual 15, 3) := by decide +kernel
theorem dL_shorten_7 : decode cL_shorten 7 = .ok (.i2l, 1) := by decide +kernel
theorem dL_shorten_8 : decode cL_shorten 8 = .ok (.lastore, 1) := by decide +kernel
theorem dL_shorten_9 : decode cL_shorten 9 = .ok (.goto 6, 3) := by decide +kernel
theorem dL_shorten_12 : decode cL_shorten 12 = .ok (.astore_n 3, 1) := by decide +kernel
theorem dL_shorten_13 : decode cL_shorten 13 = .ok (.iconst 1, 1) := by decide +kernel
theorem dL_shorten_14 : decode cL_shorten 14 = .ok (.ireturn, 1) := by decide +kernel
theorem dL_shorten_15 : decode cL_shorten 15 = .ok (.iconst 0, 1) := by decide +kernel
theorem dL_shorten_16 : decode cL_shorten 16 = .ok (.ireturn, 1) := by decide +kernel
theorem dL_load_0 : decode cL_load 0 = .ok (.aload_n 1, 1) := by decide +kernel
theorem dL_load_1 : decode cL_load 1 = .ok (.iconst 0, 1) := by decide +kernel
theorem dL_load_2 : decode cL_load 2 = .ok (.aload_n 0, 1) := by decide +kernel
theorem dL_load_3 : decode cL_load 3 = .ok (.invokevirtual 21, 3) := by decide +kernel
theorem dL_load_6 : decode cL_load 6 = .ok (.i2l, 1) := by decide +kernel
theorem dL_load_7 : decode cL_load 7 = .ok (.lastore, 1) := by decide +kernel
theorem dL_load_8 : decode cL_load 8 = .ok (.goto 6, 3) := by decide +kernel
theorem dL_load_11 : decode cL_load 11 = .ok (.astore_n 2, 1) := by decide +kernel
theorem dL_load_12 : decode cL_load 12 = .ok (.iconst 1, 1) := by decide +kernel
theorem dL_load_13 : decode cL_load 13 = .ok (.ireturn, 1) := by decide +kernel
theorem dL_load_14 : decode cL_load 14 = .ok (.iconst 0, 1) := by decide +kernel
theorem dL_load_15 : decode cL_load 15 = .ok (.ireturn, 1) := by decide +kernel
theorem dL_errorOffset_0 : decode cL_errorOffset 0 = .ok (.aload_n 1, 1) := by decide +kernel
theorem dL_errorOffset_1 : decode cL_errorOffset 1 = .ok (.iconst 0, 1) := by decide +kernel
theorem dL_errorOffset_2 : decode cL_errorOffset 2 = .ok (.aload_n 0, 1) := by decide +kernel
theorem dL_errorOffset_3 : decode cL_errorOffset 3 = .ok (.invokevirtual 25, 3) := by decide +kernel
theorem dL_errorOffset_6 : decode cL_errorOffset 6 = .ok (.i2l, 1) := by decide +kernel
theorem dL_errorOffset_7 : decode cL_errorOffset 7 = .ok (.lastore, 1) := by decide +kernel
theorem dL_errorOffset_8 : decode cL_errorOffset 8 = .ok (.goto 6, 3) := by decide +kernel
theorem dL_errorOffset_11 : decode cL_errorOffset 11 = .ok (.astore_n 2, 1) := by decide +kernel
theorem dL_errorOffset_12 : decode cL_errorOffset 12 = .ok (.iconst 1, 1) := by decide +kernel
theorem dL_errorOffset_13 : decode cL_errorOffset 13 = .ok (.ireturn, 1) := by decide +kernel
theorem dL_errorOffset_14 : decode cL_errorOffset 14 = .ok (.iconst 0, 1) := by decide +kernel
theorem dL_errorOffset_15 : decode cL_errorOffset 15 = .ok (.ireturn, 1) := by decide +kernel
theorem dL_nameLength_0 : decode cL_nameLength 0 = .ok (.aload_n 2, 1) := by decide +kernel
theorem dL_nameLength_1 : decode cL_nameLength 1 = .ok (.iconst 0, 1) := by decide +kernel
theorem dL_nameLength_2 : decode cL_nameLength 2 = .ok (.aload_n 0, 1) := by decide +kernel
theorem dL_nameLength_3 : decode cL_nameLength 3 = .ok (.iload_n 1, 1) := by decide +kernel
theorem dL_nameLength_4 : decode cL_nameLength 4 = .ok (.invokevirtual 30, 3) := by decide +kernel
theorem dL_nameLength_7 : decode cL_nameLength 7 = .ok (.i2l, 1) := by decide +kernel
theorem dL_nameLength_8 : decode cL_nameLength 8 = .ok (.lastore, 1) := by decide +kernel
theorem dL_nameLength_9 : decode cL_nameLength 9 = .ok (.goto 6, 3) := by decide +kernel
theorem dL_nameLength_12 : decode cL_nameLength 12 = .ok (.astore_n 3, 1) := by decide +kernel
theorem dL_nameLength_13 : decode cL_nameLength 13 = .ok (.iconst 1, 1) := by decide +kernel
theorem dL_nameLength_14 : decode cL_nameLength 14 = .ok (.ireturn, 1) := by decide +kernel
theorem dL_nameLength_15 : decode cL_nameLength 15 = .ok (.iconst 0, 1) := by decide +kernel
theorem dL_nameLength_16 : decode cL_nameLength 16 = .ok (.ireturn, 1) := by decide +kernel
theorem dL_nameByte_0 : decode cL_nameByte 0 = .ok (.aload_n 3, 1) := by decide +kernel
theorem dL_nameByte_1 : decode cL_nameByte 1 = .ok (.iconst 0, 1) := by decide +kernel
theorem dL_nameByte_2 : decode cL_nameByte 2 = .ok (.aload_n 0, 1) := by decide +kernel
theorem dL_nameByte_3 : decode cL_nameByte 3 = .ok (.iload_n 1, 1) := by decide +kernel
theorem dL_nameByte_4 : decode cL_nameByte 4 = .ok (.iload_n 2, 1) := by decide +kernel
theorem dL_nameByte_5 : decode cL_nameByte 5 = .ok (.invokevirtual 35, 3) := by decide +kernel
theorem dL_nameByte_8 : decode cL_nameByte 8 = .ok (.i2l, 1) := by decide +kernel
theorem dL_nameByte_9 : decode cL_nameByte 9 = .ok (.lastore, 1) := by decide +kernel
theorem dL_nameByte_10 : decode cL_nameByte 10 = .ok (.goto 7, 3) := by decide +kernel
theorem dL_nameByte_13 : decode cL_nameByte 13 = .ok (.astore 4, 2) := by decide +kernel
theorem dL_nameByte_15 : decode cL_nameByte 15 = .ok (.iconst 1, 1) := by decide +kernel
theorem dL_nameByte_16 : decode cL_nameByte 16 = .ok (.ireturn, 1) := by decide +kernel
theorem dL_nameByte_17 : decode cL_nameByte 17 = .ok (.iconst 0, 1) := by decide +kernel
theorem dL_nameByte_18 : decode cL_nameByte 18 = .ok (.ireturn, 1) := by decide +kernel
theorem dL_guestOfInput_0 : decode cL_guestOfInput 0 = .ok (.aload_n 1, 1) := by decide +kernel
theorem dL_guestOfInput_1 : decode cL_guestOfInput 1 = .ok (.iconst 0, 1) := by decide +kernel
theorem dL_guestOfInput_2 : decode cL_guestOfInput 2 = .ok (.aload_n 0, 1) := by decide +kernel
theorem dL_guestOfInput_3 : decode cL_guestOfInput 3 = .ok (.invokevirtual 39, 3) := by decide +kernel
theorem dL_guestOfInput_6 : decode cL_guestOfInput 6 = .ok (.i2l, 1) := by decide +kernel
theorem dL_guestOfInput_7 : decode cL_guestOfInput 7 = .ok (.lastore, 1) := by decide +kernel
theorem dL_guestOfInput_8 : decode cL_guestOfInput 8 = .ok (.goto 6, 3) := by decide +kernel
theorem dL_guestOfInput_11 : decode cL_guestOfInput 11 = .ok (.astore_n 2, 1) := by decide +kernel
theorem dL_guestOfInput_12 : decode cL_guestOfInput 12 = .ok (.iconst 1, 1) := by decide +kernel
theorem dL_guestOfInput_13 : decode cL_guestOfInput 13 = .ok (.ireturn, 1) := by decide +kernel
theorem dL_guestOfInput_14 : decode cL_guestOfInput 14 = .ok (.iconst 0, 1) := by decide +kernel
theorem dL_guestOfInput_15 : decode cL_guestOfInput 15 = .ok (.ireturn, 1) := by decide +kernel
theorem dL_generosity_0 : decode cL_generosity 0 = .ok (.aload_n 2, 1) := by decide +kernel
theorem dL_generosity_1 : decode cL_generosity 1 = .ok (.iconst 0, 1) := by decide +kernel
theorem dL_generosity_2 : decode cL_generosity 2 = .ok (.aload_n 0, 1) := by decide +kernel
theorem dL_generosity_3 : decode cL_generosity 3 = .ok (.iload_n 1, 1) := by decide +kernel
theorem dL_generosity_4 : decode cL_generosity 4 = .ok (.invokevirtual 42, 3) := by decide +kernel
theorem dL_generosity_7 : decode cL_generosity 7 = .ok (.i2l, 1) := by decide +kernel
theorem dL_generosity_8 : decode cL_generosity 8 = .ok (.lastore, 1) := by decide +kernel
theorem dL_generosity_9 : decode cL_generosity 9 = .ok (.goto 6, 3) := by decide +kernel
theorem dL_generosity_12 : decode cL_generosity 12 = .ok (.astore_n 3, 1) := by decide +kernel
theorem dL_generosity_13 : decode cL_generosity 13 = .ok (.iconst 1, 1) := by decide +kernel
theorem dL_generosity_14 : decode cL_generosity 14 = .ok (.ireturn, 1) := by decide +kernel
theorem dL_generosity_15 : decode cL_generosity 15 = .ok (.iconst 0, 1) := by decide +kernel
theorem dL_generosity_16 : decode cL_generosity 16 = .ok (.ireturn, 1) := by decide +kernel
theorem dL_bark_0 : decode cL_bark 0 = .ok (.aload_n 2, 1) := by decide +kernel
theorem dL_bark_1 : decode cL_bark 1 = .ok (.iconst 0, 1) := by decide +kernel
theorem dL_bark_2 : decode cL_bark 2 = .ok (.aload_n 0, 1) := by decide +kernel
theorem dL_bark_3 : decode cL_bark 3 = .ok (.iload_n 1, 1) := by decide +kernel
theorem dL_bark_4 : decode cL_bark 4 = .ok (.invokevirtual 45, 3) := by decide +kernel
theorem dL_bark_7 : decode cL_bark 7 = .ok (.i2l, 1) := by decide +kernel
theorem dL_bark_8 : decode cL_bark 8 = .ok (.lastore, 1) := by decide +kernel
theorem dL_bark_9 : decode cL_bark 9 = .ok (.goto 6, 3) := by decide +kernel
theorem dL_bark_12 : decode cL_bark 12 = .ok (.astore_n 3, 1) := by decide +kernel
theorem dL_bark_13 : decode cL_bark 13 = .ok (.iconst 1, 1) := by decide +kernel
theorem dL_bark_14 : decode cL_bark 14 = .ok (.ireturn, 1) := by decide +kernel
theorem dL_bark_15 : decode cL_bark 15 = .ok (.iconst 0, 1) := by decide +kernel
theorem dL_bark_16 : decode cL_bark 16 = .ok (.ireturn, 1) := by decide +kernel
theorem dL_isOut_0 : decode cL_isOut 0 = .ok (.aload_n 2, 1) := by decide +kernel
theorem dL_isOut_1 : decode cL_isOut 1 = .ok (.iconst 0, 1) := by decide +kernel
theorem dL_isOut_2 : decode cL_isOut 2 = .ok (.aload_n 0, 1) := by decide +kernel
theorem dL_isOut_3 : decode cL_isOut 3 = .ok (.iload_n 1, 1) := by decide +kernel
theorem dL_isOut_4 : decode cL_isOut 4 = .ok (.invokevirtual 48, 3) := by decide +kernel
theorem dL_isOut_7 : decode cL_isOut 7 = .ok (.ifCond .eq 7, 3) := by decide +kernel
theorem dL_isOut_10 : decode cL_isOut 10 = .ok (.lconst 1, 1) := by decide +kernel
theorem dL_isOut_11 : decode cL_isOut 11 = .ok (.goto 4, 3) := by decide +kernel
theorem dL_isOut_14 : decode cL_isOut 14 = .ok (.lconst 0, 1) := by decide +kernel
theorem dL_isOut_15 : decode cL_isOut 15 = .ok (.lastore, 1) := by decide +kernel
theorem dL_isOut_16 : decode cL_isOut 16 = .ok (.goto 6, 3) := by decide +kernel
theorem dL_isOut_19 : decode cL_isOut 19 = .ok (.astore_n 3, 1) := by decide +kernel
theorem dL_isOut_20 : decode cL_isOut 20 = .ok (.iconst 1, 1) := by decide +kernel
theorem dL_isOut_21 : decode cL_isOut 21 = .ok (.ireturn, 1) := by decide +kernel
theorem dL_isOut_22 : decode cL_isOut 22 = .ok (.iconst 0, 1) := by decide +kernel
theorem dL_isOut_23 : decode cL_isOut 23 = .ok (.ireturn, 1) := by decide +kernel
theorem dL_outSince_0 : decode cL_outSince 0 = .ok (.aload_n 2, 1) := by decide +kernel
theorem dL_outSince_1 : decode cL_outSince 1 = .ok (.iconst 0, 1) := by decide +kernel
theorem dL_outSince_2 : decode cL_outSince 2 = .ok (.aload_n 0, 1) := by decide +kernel
theorem dL_outSince_3 : decode cL_outSince 3 = .ok (.iload_n 1, 1) := by decide +kernel
theorem dL_outSince_4 : decode cL_outSince 4 = .ok (.invokevirtual 52, 3) := by decide +kernel
theorem dL_outSince_7 : decode cL_outSince 7 = .ok (.i2l, 1) := by decide +kernel
theorem dL_outSince_8 : decode cL_outSince 8 = .ok (.lastore, 1) := by decide +kernel
theorem dL_outSince_9 : decode cL_outSince 9 = .ok (.goto 9, 3) := by decide +kernel
theorem dL_outSince_12 : decode cL_outSince 12 = .ok (.astore_n 3, 1) := by decide +kernel
theorem dL_outSince_13 : decode cL_outSince 13 = .ok (.iconst 1, 1) := by decide +kernel
theorem dL_outSince_14 : decode cL_outSince 14 = .ok (.ireturn, 1) := by decide +kernel
theorem dL_outSince_15 : decode cL_outSince 15 = .ok (.astore_n 3, 1) := by decide +kernel
theorem dL_outSince_16 : decode cL_outSince 16 = .ok (.iconst 2, 1) := by decide +kernel
theorem dL_outSince_17 : decode cL_outSince 17 = .ok (.ireturn, 1) := by decide +kernel
theorem dL_outSince_18 : decode cL_outSince 18 = .ok (.iconst 0, 1) := by decide +kernel
theorem dL_outSince_19 : decode cL_outSince 19 = .ok (.ireturn, 1) := by decide +kernel
theorem dL_soak_0 : decode cL_soak 0 = .ok (.aload_n 2, 1) := by decide +kernel
theorem dL_soak_1 : decode cL_soak 1 = .ok (.iconst 0, 1) := by decide +kernel
theorem dL_soak_2 : decode cL_soak 2 = .ok (.aload_n 0, 1) := by decide +kernel
theorem dL_soak_3 : decode cL_soak 3 = .ok (.iload_n 1, 1) := by decide +kernel
theorem dL_soak_4 : decode cL_soak 4 = .ok (.invokevirtual 55, 3) := by decide +kernel
theorem dL_soak_7 : decode cL_soak 7 = .ok (.i2l, 1) := by decide +kernel
theorem dL_soak_8 : decode cL_soak 8 = .ok (.lastore, 1) := by decide +kernel
theorem dL_soak_9 : decode cL_soak 9 = .ok (.goto 6, 3) := by decide +kernel
theorem dL_soak_12 : decode cL_soak 12 = .ok (.astore_n 3, 1) := by decide +kernel
theorem dL_soak_13 : decode cL_soak 13 = .ok (.iconst 1, 1) := by decide +kernel
theorem dL_soak_14 : decode cL_soak 14 = .ok (.ireturn, 1) := by decide +kernel
theorem dL_soak_15 : decode cL_soak 15 = .ok (.iconst 0, 1) := by decide +kernel
theorem dL_soak_16 : decode cL_soak 16 = .ok (.ireturn, 1) := by decide +kernel
theorem dL_wouldBark_0 : decode cL_wouldBark 0 = .ok (.aload_n 2, 1) := by decide +kernel
theorem dL_wouldBark_1 : decode cL_wouldBark 1 = .ok (.iconst 0, 1) := by decide +kernel
theorem dL_wouldBark_2 : decode cL_wouldBark 2 = .ok (.aload_n 0, 1) := by decide +kernel
theorem dL_wouldBark_3 : decode cL_wouldBark 3 = .ok (.iload_n 1, 1) := by decide +kernel
theorem dL_wouldBark_4 : decode cL_wouldBark 4 = .ok (.invokevirtual 58, 3) := by decide +kernel
theorem dL_wouldBark_7 : decode cL_wouldBark 7 = .ok (.ifCond .eq 7, 3) := by decide +kernel
theorem dL_wouldBark_10 : decode cL_wouldBark 10 = .ok (.lconst 1, 1) := by decide +kernel
theorem dL_wouldBark_11 : decode cL_wouldBark 11 = .ok (.goto 4, 3) := by decide +kernel
theorem dL_wouldBark_14 : decode cL_wouldBark 14 = .ok (.lconst 0, 1) := by decide +kernel
theorem dL_wouldBark_15 : decode cL_wouldBark 15 = .ok (.lastore, 1) := by decide +kernel
theorem dL_wouldBark_16 : decode cL_wouldBark 16 = .ok (.goto 6, 3) := by decide +kernel
theorem dL_wouldBark_19 : decode cL_wouldBark 19 = .ok (.astore_n 3, 1) := by decide +kernel
theorem dL_wouldBark_20 : decode cL_wouldBark 20 = .ok (.iconst 1, 1) := by decide +kernel
theorem dL_wouldBark_21 : decode cL_wouldBark 21 = .ok (.ireturn, 1) := by decide +kernel
theorem dL_wouldBark_22 : decode cL_wouldBark 22 = .ok (.iconst 0, 1) := by decide +kernel
theorem dL_wouldBark_23 : decode cL_wouldBark 23 = .ok (.ireturn, 1) := by decide +kernel
theorem dL_ownerOf_0 : decode cL_ownerOf 0 = .ok (.aload_n 2, 1) := by decide +kernel
theorem dL_ownerOf_1 : decode cL_ownerOf 1 = .ok (.iconst 0, 1) := by decide +kernel
theorem dL_ownerOf_2 : decode cL_ownerOf 2 = .ok (.aload_n 0, 1) := by decide +kernel
theorem dL_ownerOf_3 : decode cL_ownerOf 3 = .ok (.iload_n 1, 1) := by decide +kernel
theorem dL_ownerOf_4 : decode cL_ownerOf 4 = .ok (.invokevirtual 61, 3) := by decide +kernel
theorem dL_ownerOf_7 : decode cL_ownerOf 7 = .ok (.i2l, 1) := by decide +kernel
theorem dL_ownerOf_8 : decode cL_ownerOf 8 = .ok (.lastore, 1) := by decide +kernel
theorem dL_ownerOf_9 : decode cL_ownerOf 9 = .ok (.goto 6, 3) := by decide +kernel
theorem dL_ownerOf_12 : decode cL_ownerOf 12 = .ok (.astore_n 3, 1) := by decide +kernel
theorem dL_ownerOf_13 : decode cL_ownerOf 13 = .ok (.iconst 1, 1) := by decide +kernel
theorem dL_ownerOf_14 : decode cL_ownerOf 14 = .ok (.ireturn, 1) := by decide +kernel
theorem dL_ownerOf_15 : decode cL_ownerOf 15 = .ok (.iconst 0, 1) := by decide +kernel
theorem dL_ownerOf_16 : decode cL_ownerOf 16 = .ok (.ireturn, 1) := by decide +kernel
theorem dL_wetness_0 : decode cL_wetness 0 = .ok (.aload_n 2, 1) := by decide +kernel
theorem dL_wetness_1 : decode cL_wetness 1 = .ok (.iconst 0, 1) := by decide +kernel
theorem dL_wetness_2 : decode cL_wetness 2 = .ok (.aload_n 0, 1) := by decide +kernel
theorem dL_wetness_3 : decode cL_wetness 3 = .ok (.iload_n 1, 1) := by decide +kernel
theorem dL_wetness_4 : decode cL_wetness 4 = .ok (.invokevirtual 64, 3) := by decide +kernel
theorem dL_wetness_7 : decode cL_wetness 7 = .ok (.i2l, 1) := by decide +kernel
theorem dL_wetness_8 : decode cL_wetness 8 = .ok (.lastore, 1) := by decide +kernel
theorem dL_wetness_9 : decode cL_wetness 9 = .ok (.goto 6, 3) := by decide +kernel
theorem dL_wetness_12 : decode cL_wetness 12 = .ok (.astore_n 3, 1) := by decide +kernel
theorem dL_wetness_13 : decode cL_wetness 13 = .ok (.iconst 1, 1) := by decide +kernel
theorem dL_wetness_14 : decode cL_wetness 14 = .ok (.ireturn, 1) := by decide +kernel
theorem dL_wetness_15 : decode cL_wetness 15 = .ok (.iconst 0, 1) := by decide +kernel
theorem dL_wetness_16 : decode cL_wetness 16 = .ok (.ireturn, 1) := by decide +kernel
theorem dL_isInStand_0 : decode cL_isInStand 0 = .ok (.aload_n 2, 1) := by decide +kernel
theorem dL_isInStand_1 : decode cL_isInStand 1 = .ok (.iconst 0, 1) := by decide +kernel
theorem dL_isInStand_2 : decode cL_isInStand 2 = .ok (.aload_n 0, 1) := by decide +kernel
theorem dL_isInStand_3 : decode cL_isInStand 3 = .ok (.iload_n 1, 1) := by decide +kernel
theorem dL_isInStand_4 : decode cL_isInStand 4 = .ok (.invokevirtual 67, 3) := by decide +kernel
theorem dL_isInStand_7 : decode cL_isInStand 7 = .ok (.ifCond .eq 7, 3) := by decide +kernel
theorem dL_isInStand_10 : decode cL_isInStand 10 = .ok (.lconst 1, 1) := by decide +kernel
theorem dL_isInStand_11 : decode cL_isInStand 11 = .ok (.goto 4, 3) := by decide +kernel
theorem dL_isInStand_14 : decode cL_isInStand 14 = .ok (.lconst 0, 1) := by decide +kernel
theorem dL_isInStand_15 : decode cL_isInStand 15 = .ok (.lastore, 1) := by decide +kernel
theorem dL_isInStand_16 : decode cL_isInStand 16 = .ok (.goto 6, 3) := by decide +kernel
theorem dL_isInStand_19 : decode cL_isInStand 19 = .ok (.astore_n 3, 1) := by decide +kernel
theorem dL_isInStand_20 : decode cL_isInStand 20 = .ok (.iconst 1, 1) := by decide +kernel
theorem dL_isInStand_21 : decode cL_isInStand 21 = .ok (.ireturn, 1) := by decide +kernel
theorem dL_isInStand_22 : decode cL_isInStand 22 = .ok (.iconst 0, 1) := by decide +kernel
theorem dL_isInStand_23 : decode cL_isInStand 23 = .ok (.ireturn, 1) := by decide +kernel
theorem dL_isUsable_0 : decode cL_isUsable 0 = .ok (.aload_n 2, 1) := by decide +kernel
theorem dL_isUsable_1 : decode cL_isUsable 1 = .ok (.iconst 0, 1) := by decide +kernel
theorem dL_isUsable_2 : decode cL_isUsable 2 = .ok (.aload_n 0, 1) := by decide +kernel
theorem dL_isUsable_3 : decode cL_isUsable 3 = .ok (.iload_n 1, 1) := by decide +kernel
theorem dL_isUsable_4 : decode cL_isUsable 4 = .ok (.invokevirtual 70, 3) := by decide +kernel
theorem dL_isUsable_7 : decode cL_isUsable 7 = .ok (.ifCond .eq 7, 3) := by decide +kernel
theorem dL_isUsable_10 : decode cL_isUsable 10 = .ok (.lconst 1, 1) := by decide +kernel
theorem dL_isUsable_11 : decode cL_isUsable 11 = .ok (.goto 4, 3) := by decide +kernel
theorem dL_isUsable_14 : decode cL_isUsable 14 = .ok (.lconst 0, 1) := by decide +kernel
theorem dL_isUsable_15 : decode cL_isUsable 15 = .ok (.lastore, 1) := by decide +kernel
theorem dL_isUsable_16 : decode cL_isUsable 16 = .ok (.goto 6, 3) := by decide +kernel
theorem dL_isUsable_19 : decode cL_isUsable 19 = .ok (.astore_n 3, 1) := by decide +kernel
theorem dL_isUsable_20 : decode cL_isUsable 20 = .ok (.iconst 1, 1) := by decide +kernel
theorem dL_isUsable_21 : decode cL_isUsable 21 = .ok (.ireturn, 1) := by decide +kernel
theorem dL_isUsable_22 : decode cL_isUsable 22 = .ok (.iconst 0, 1) := by decide +kernel
theorem dL_isUsable_23 : decode cL_isUsable 23 = .ok (.ireturn, 1) := by decide +kernel
theorem dL_carrierOf_0 : decode cL_carrierOf 0 = .ok (.aload_n 2, 1) := by decide +kernel
theorem dL_carrierOf_1 : decode cL_carrierOf 1 = .ok (.iconst 0, 1) := by decide +kernel
theorem dL_carrierOf_2 : decode cL_carrierOf 2 = .ok (.aload_n 0, 1) := by decide +kernel
theorem dL_carrierOf_3 : decode cL_carrierOf 3 = .ok (.iload_n 1, 1) := by decide +kernel
theorem dL_carrierOf_4 : decode cL_carrierOf 4 = .ok (.invokevirtual 73, 3) := by decide +kernel
theorem dL_carrierOf_7 : decode cL_carrierOf 7 = .ok (.i2l, 1) := by decide +kernel
theorem dL_carrierOf_8 : decode cL_carrierOf 8 = .ok (.lastore, 1) := by decide +kernel
theorem dL_carrierOf_9 : decode cL_carrierOf 9 = .ok (.goto 9, 3) := by decide +kernel
theorem dL_carrierOf_12 : decode cL_carrierOf 12 = .ok (.astore_n 3, 1) := by decide +kernel
theorem dL_carrierOf_13 : decode cL_carrierOf 13 = .ok (.iconst 1, 1) := by decide +kernel
theorem dL_carrierOf_14 : decode cL_carrierOf 14 = .ok (.ireturn, 1) := by decide +kernel
theorem dL_carrierOf_15 : decode cL_carrierOf 15 = .ok (.astore_n 3, 1) := by decide +kernel
theorem dL_carrierOf_16 : decode cL_carrierOf 16 = .ok (.iconst 2, 1) := by decide +kernel
theorem dL_carrierOf_17 : decode cL_carrierOf 17 = .ok (.ireturn, 1) := by decide +kernel
theorem dL_carrierOf_18 : decode cL_carrierOf 18 = .ok (.iconst 0, 1) := by decide +kernel
theorem dL_carrierOf_19 : decode cL_carrierOf 19 = .ok (.ireturn, 1) := by decide +kernel
theorem dL_umbrellaOf_0 : decode cL_umbrellaOf 0 = .ok (.aload_n 2, 1) := by decide +kernel
theorem dL_umbrellaOf_1 : decode cL_umbrellaOf 1 = .ok (.iconst 0, 1) := by decide +kernel
theorem dL_umbrellaOf_2 : decode cL_umbrellaOf 2 = .ok (.aload_n 0, 1) := by decide +kernel
theorem dL_umbrellaOf_3 : decode cL_umbrellaOf 3 = .ok (.iload_n 1, 1) := by decide +kernel
theorem dL_umbrellaOf_4 : decode cL_umbrellaOf 4 = .ok (.invokevirtual 76, 3) := by decide +kernel
theorem dL_umbrellaOf_7 : decode cL_umbrellaOf 7 = .ok (.i2l, 1) := by decide +kernel
theorem dL_umbrellaOf_8 : decode cL_umbrellaOf 8 = .ok (.lastore, 1) := by decide +kernel
theorem dL_umbrellaOf_9 : decode cL_umbrellaOf 9 = .ok (.goto 9, 3) := by decide +kernel
theorem dL_umbrellaOf_12 : decode cL_umbrellaOf 12 = .ok (.astore_n 3, 1) := by decide +kernel
theorem dL_umbrellaOf_13 : decode cL_umbrellaOf 13 = .ok (.iconst 1, 1) := by decide +kernel
theorem dL_umbrellaOf_14 : decode cL_umbrellaOf 14 = .ok (.ireturn, 1) := by decide +kernel
theorem dL_umbrellaOf_15 : decode cL_umbrellaOf 15 = .ok (.astore_n 3, 1) := by decide +kernel
theorem dL_umbrellaOf_16 : decode cL_umbrellaOf 16 = .ok (.iconst 2, 1) := by decide +kernel
theorem dL_umbrellaOf_17 : decode cL_umbrellaOf 17 = .ok (.ireturn, 1) := by decide +kernel
theorem dL_umbrellaOf_18 : decode cL_umbrellaOf 18 = .ok (.iconst 0, 1) := by decide +kernel
theorem dL_umbrellaOf_19 : decode cL_umbrellaOf 19 = .ok (.ireturn, 1) := by decide +kernel
theorem dL_entryMinute_0 : decode cL_entryMinute 0 = .ok (.aload_n 2, 1) := by decide +kernel
theorem dL_entryMinute_1 : decode cL_entryMinute 1 = .ok (.iconst 0, 1) := by decide +kernel
theorem dL_entryMinute_2 : decode cL_entryMinute 2 = .ok (.aload_n 0, 1) := by decide +kernel
theorem dL_entryMinute_3 : decode cL_entryMinute 3 = .ok (.iload_n 1, 1) := by decide +kernel
theorem dL_entryMinute_4 : decode cL_entryMinute 4 = .ok (.invokevirtual 79, 3) := by decide +kernel
theorem dL_entryMinute_7 : decode cL_entryMinute 7 = .ok (.i2l, 1) := by decide +kernel
theorem dL_entryMinute_8 : decode cL_entryMinute 8 = .ok (.lastore, 1) := by decide +kernel
theorem dL_entryMinute_9 : decode cL_entryMinute 9 = .ok (.goto 6, 3) := by decide +kernel
theorem dL_entryMinute_12 : decode cL_entryMinute 12 = .ok (.astore_n 3, 1) := by decide +kernel
theorem dL_entryMinute_13 : decode cL_entryMinute 13 = .ok (.iconst 1, 1) := by decide +kernel
theorem dL_entryMinute_14 : decode cL_entryMinute 14 = .ok (.ireturn, 1) := by decide +kernel
theorem dL_entryMinute_15 : decode cL_entryMinute 15 = .ok (.iconst 0, 1) := by decide +kernel
theorem dL_entryMinute_16 : decode cL_entryMinute 16 = .ok (.ireturn, 1) := by decide +kernel
theorem dL_entryGuest_0 : decode cL_entryGuest 0 = .ok (.aload_n 2, 1) := by decide +kernel
theorem dL_entryGuest_1 : decode cL_entryGuest 1 = .ok (.iconst 0, 1) := by decide +kernel
theorem dL_entryGuest_2 : decode cL_entryGuest 2 = .ok (.aload_n 0, 1) := by decide +kernel
theorem dL_entryGuest_3 : decode cL_entryGuest 3 = .ok (.iload_n 1, 1) := by decide +kernel
theorem dL_entryGuest_4 : decode cL_entryGuest 4 = .ok (.invokevirtual 82, 3) := by decide +kernel
theorem dL_entryGuest_7 : decode cL_entryGuest 7 = .ok (.i2l, 1) := by decide +kernel
theorem dL_entryGuest_8 : decode cL_entryGuest 8 = .ok (.lastore, 1) := by decide +kernel
theorem dL_entryGuest_9 : decode cL_entryGuest 9 = .ok (.goto 6, 3) := by decide +kernel
theorem dL_entryGuest_12 : decode cL_entryGuest 12 = .ok (.astore_n 3, 1) := by decide +kernel
theorem dL_entryGuest_13 : decode cL_entryGuest 13 = .ok (.iconst 1, 1) := by decide +kernel
theorem dL_entryGuest_14 : decode cL_entryGuest 14 = .ok (.ireturn, 1) := by decide +kernel
theorem dL_entryGuest_15 : decode cL_entryGuest 15 = .ok (.iconst 0, 1) := by decide +kernel
theorem dL_entryGuest_16 : decode cL_entryGuest 16 = .ok (.ireturn, 1) := by decide +kernel
theorem dL_isLeaving_0 : decode cL_isLeaving 0 = .ok (.aload_n 2, 1) := by decide +kernel
theorem dL_isLeaving_1 : decode cL_isLeaving 1 = .ok (.iconst 0, 1) := by decide +kernel
theorem dL_isLeaving_2 : decode cL_isLeaving 2 = .ok (.aload_n 0, 1) := by decide +kernel
theorem dL_isLeaving_3 : decode cL_isLeaving 3 = .ok (.iload_n 1, 1) := by decide +kernel
theorem dL_isLeaving_4 : decode cL_isLeaving 4 = .ok (.invokevirtual 85, 3) := by decide +kernel
theorem dL_isLeaving_7 : decode cL_isLeaving 7 = .ok (.ifCond .eq 7, 3) := by decide +kernel
theorem dL_isLeaving_10 : decode cL_isLeaving 10 = .ok (.lconst 1, 1) := by decide +kernel
theorem dL_isLeaving_11 : decode cL_isLeaving 11 = .ok (.goto 4, 3) := by decide +kernel
theorem dL_isLeaving_14 : decode cL_isLeaving 14 = .ok (.lconst 0, 1) := by decide +kernel
theorem dL_isLeaving_15 : decode cL_isLeaving 15 = .ok (.lastore, 1) := by decide +kernel
theorem dL_isLeaving_16 : decode cL_isLeaving 16 = .ok (.goto 6, 3) := by decide +kernel
theorem dL_isLeaving_19 : decode cL_isLeaving 19 = .ok (.astore_n 3, 1) := by decide +kernel
theorem dL_isLeaving_20 : decode cL_isLeaving 20 = .ok (.iconst 1, 1) := by decide +kernel
theorem dL_isLeaving_21 : decode cL_isLeaving 21 = .ok (.ireturn, 1) := by decide +kernel
theorem dL_isLeaving_22 : decode cL_isLeaving 22 = .ok (.iconst 0, 1) := by decide +kernel
theorem dL_isLeaving_23 : decode cL_isLeaving 23 = .ok (.ireturn, 1) := by decide +kernel
theorem dL_wasOut_0 : decode cL_wasOut 0 = .ok (.aload_n 3, 1) := by decide +kernel
theorem dL_wasOut_1 : decode cL_wasOut 1 = .ok (.iconst 0, 1) := by decide +kernel
theorem dL_wasOut_2 : decode cL_wasOut 2 = .ok (.aload_n 0, 1) := by decide +kernel
theorem dL_wasOut_3 : decode cL_wasOut 3 = .ok (.iload_n 1, 1) := by decide +kernel
theorem dL_wasOut_4 : decode cL_wasOut 4 = .ok (.iload_n 2, 1) := by decide +kernel
theorem dL_wasOut_5 : decode cL_wasOut 5 = .ok (.invokevirtual 88, 3) := by decide +kernel
theorem dL_wasOut_8 : decode cL_wasOut 8 = .ok (.ifCond .eq 7, 3) := by decide +kernel
theorem dL_wasOut_11 : decode cL_wasOut 11 = .ok (.lconst 1, 1) := by decide +kernel
theorem dL_wasOut_12 : decode cL_wasOut 12 = .ok (.goto 4, 3) := by decide +kernel
theorem dL_wasOut_15 : decode cL_wasOut 15 = .ok (.lconst 0, 1) := by decide +kernel
theorem dL_wasOut_16 : decode cL_wasOut 16 = .ok (.lastore, 1) := by decide +kernel
theorem dL_wasOut_17 : decode cL_wasOut 17 = .ok (.goto 11, 3) := by decide +kernel
theorem dL_wasOut_20 : decode cL_wasOut 20 = .ok (.astore 4, 2) := by decide +kernel
theorem dL_wasOut_22 : decode cL_wasOut 22 = .ok (.iconst 1, 1) := by decide +kernel
theorem dL_wasOut_23 : decode cL_wasOut 23 = .ok (.ireturn, 1) := by decide +kernel
theorem dL_wasOut_24 : decode cL_wasOut 24 = .ok (.astore 4, 2) := by decide +kernel
theorem dL_wasOut_26 : decode cL_wasOut 26 = .ok (.iconst 2, 1) := by decide +kernel
theorem dL_wasOut_27 : decode cL_wasOut 27 = .ok (.ireturn, 1) := by decide +kernel
theorem dL_wasOut_28 : decode cL_wasOut 28 = .ok (.iconst 0, 1) := by decide +kernel
theorem dL_wasOut_29 : decode cL_wasOut 29 = .ok (.ireturn, 1) := by decide +kernel
theorem dL_hasAlibi_0 : decode cL_hasAlibi 0 = .ok (.aload 4, 2) := by decide +kernel
theorem dL_hasAlibi_2 : decode cL_hasAlibi 2 = .ok (.iconst 0, 1) := by decide +kernel
theorem dL_hasAlibi_3 : decode cL_hasAlibi 3 = .ok (.aload_n 0, 1) := by decide +kernel
theorem dL_hasAlibi_4 : decode cL_hasAlibi 4 = .ok (.iload_n 1, 1) := by decide +kernel
theorem dL_hasAlibi_5 : decode cL_hasAlibi 5 = .ok (.iload_n 2, 1) := by decide +kernel
theorem dL_hasAlibi_6 : decode cL_hasAlibi 6 = .ok (.iload_n 3, 1) := by decide +kernel
theorem dL_hasAlibi_7 : decode cL_hasAlibi 7 = .ok (.invokevirtual 92, 3) := by decide +kernel
theorem dL_hasAlibi_10 : decode cL_hasAlibi 10 = .ok (.ifCond .eq 7, 3) := by decide +kernel
theorem dL_hasAlibi_13 : decode cL_hasAlibi 13 = .ok (.lconst 1, 1) := by decide +kernel
theorem dL_hasAlibi_14 : decode cL_hasAlibi 14 = .ok (.goto 4, 3) := by decide +kernel
theorem dL_hasAlibi_17 : decode cL_hasAlibi 17 = .ok (.lconst 0, 1) := by decide +kernel
theorem dL_hasAlibi_18 : decode cL_hasAlibi 18 = .ok (.lastore, 1) := by decide +kernel
theorem dL_hasAlibi_19 : decode cL_hasAlibi 19 = .ok (.goto 11, 3) := by decide +kernel
theorem dL_hasAlibi_22 : decode cL_hasAlibi 22 = .ok (.astore 5, 2) := by decide +kernel
theorem dL_hasAlibi_24 : decode cL_hasAlibi 24 = .ok (.iconst 1, 1) := by decide +kernel
theorem dL_hasAlibi_25 : decode cL_hasAlibi 25 = .ok (.ireturn, 1) := by decide +kernel
theorem dL_hasAlibi_26 : decode cL_hasAlibi 26 = .ok (.astore 5, 2) := by decide +kernel
theorem dL_hasAlibi_28 : decode cL_hasAlibi 28 = .ok (.iconst 2, 1) := by decide +kernel
theorem dL_hasAlibi_29 : decode cL_hasAlibi 29 = .ok (.ireturn, 1) := by decide +kernel
theorem dL_hasAlibi_30 : decode cL_hasAlibi 30 = .ok (.iconst 0, 1) := by decide +kernel
theorem dL_hasAlibi_31 : decode cL_hasAlibi 31 = .ok (.ireturn, 1) := by decide +kernel
theorem dL_suspects_0 : decode cL_suspects 0 = .ok (.aload_n 3, 1) := by decide +kernel
theorem dL_suspects_1 : decode cL_suspects 1 = .ok (.iconst 0, 1) := by decide +kernel
theorem dL_suspects_2 : decode cL_suspects 2 = .ok (.aload_n 0, 1) := by decide +kernel
theorem dL_suspects_3 : decode cL_suspects 3 = .ok (.iload_n 1, 1) := by decide +kernel
theorem dL_suspects_4 : decode cL_suspects 4 = .ok (.iload_n 2, 1) := by decide +kernel
theorem dL_suspects_5 : decode cL_suspects 5 = .ok (.invokevirtual 96, 3) := by decide +kernel
theorem dL_suspects_8 : decode cL_suspects 8 = .ok (.i2l, 1) := by decide +kernel
theorem dL_suspects_9 : decode cL_suspects 9 = .ok (.lastore, 1) := by decide +kernel
theorem dL_suspects_10 : decode cL_suspects 10 = .ok (.goto 7, 3) := by decide +kernel
theorem dL_suspects_13 : decode cL_suspects 13 = .ok (.astore 4, 2) := by decide +kernel
theorem dL_suspects_15 : decode cL_suspects 15 = .ok (.iconst 1, 1) := by decide +kernel
theorem dL_suspects_16 : decode cL_suspects 16 = .ok (.ireturn, 1) := by decide +kernel
theorem dL_suspects_17 : decode cL_suspects 17 = .ok (.iconst 0, 1) := by decide +kernel
theorem dL_suspects_18 : decode cL_suspects 18 = .ok (.ireturn, 1) := by decide +kernel
theorem dL_culprit_0 : decode cL_culprit 0 = .ok (.aload_n 3, 1) := by decide +kernel
theorem dL_culprit_1 : decode cL_culprit 1 = .ok (.iconst 0, 1) := by decide +kernel
theorem dL_culprit_2 : decode cL_culprit 2 = .ok (.aload_n 0, 1) := by decide +kernel
theorem dL_culprit_3 : decode cL_culprit 3 = .ok (.iload_n 1, 1) := by decide +kernel
theorem dL_culprit_4 : decode cL_culprit 4 = .ok (.iload_n 2, 1) := by decide +kernel
theorem dL_culprit_5 : decode cL_culprit 5 = .ok (.invokevirtual 99, 3) := by decide +kernel
theorem dL_culprit_8 : decode cL_culprit 8 = .ok (.i2l, 1) := by decide +kernel
theorem dL_culprit_9 : decode cL_culprit 9 = .ok (.lastore, 1) := by decide +kernel
theorem dL_culprit_10 : decode cL_culprit 10 = .ok (.goto 11, 3) := by decide +kernel
theorem dL_culprit_13 : decode cL_culprit 13 = .ok (.astore 4, 2) := by decide +kernel
theorem dL_culprit_15 : decode cL_culprit 15 = .ok (.iconst 1, 1) := by decide +kernel
theorem dL_culprit_16 : decode cL_culprit 16 = .ok (.ireturn, 1) := by decide +kernel
theorem dL_culprit_17 : decode cL_culprit 17 = .ok (.astore 4, 2) := by decide +kernel
theorem dL_culprit_19 : decode cL_culprit 19 = .ok (.iconst 2, 1) := by decide +kernel
theorem dL_culprit_20 : decode cL_culprit 20 = .ok (.ireturn, 1) := by decide +kernel
theorem dL_culprit_21 : decode cL_culprit 21 = .ok (.iconst 0, 1) := by decide +kernel
theorem dL_culprit_22 : decode cL_culprit 22 = .ok (.ireturn, 1) := by decide +kernel
theorem dL_minutesOut_0 : decode cL_minutesOut 0 = .ok (.aload_n 2, 1) := by decide +kernel
theorem dL_minutesOut_1 : decode cL_minutesOut 1 = .ok (.iconst 0, 1) := by decide +kernel
theorem dL_minutesOut_2 : decode cL_minutesOut 2 = .ok (.aload_n 0, 1) := by decide +kernel
theorem dL_minutesOut_3 : decode cL_minutesOut 3 = .ok (.iload_n 1, 1) := by decide +kernel
theorem dL_minutesOut_4 : decode cL_minutesOut 4 = .ok (.invokevirtual 102, 3) := by decide +kernel
theorem dL_minutesOut_7 : decode cL_minutesOut 7 = .ok (.i2l, 1) := by decide +kernel
theorem dL_minutesOut_8 : decode cL_minutesOut 8 = .ok (.lastore, 1) := by decide +kernel
theorem dL_minutesOut_9 : decode cL_minutesOut 9 = .ok (.goto 6, 3) := by decide +kernel
theorem dL_minutesOut_12 : decode cL_minutesOut 12 = .ok (.astore_n 3, 1) := by decide +kernel
theorem dL_minutesOut_13 : decode cL_minutesOut 13 = .ok (.iconst 1, 1) := by decide +kernel
theorem dL_minutesOut_14 : decode cL_minutesOut 14 = .ok (.ireturn, 1) := by decide +kernel
theorem dL_minutesOut_15 : decode cL_minutesOut 15 = .ok (.iconst 0, 1) := by decide +kernel
theorem dL_minutesOut_16 : decode cL_minutesOut 16 = .ok (.ireturn, 1) := by decide +kernel
theorem dL_minutesTogether_0 : decode cL_minutesTogether 0 = .ok (.aload_n 3, 1) := by decide +kernel
theorem dL_minutesTogether_1 : decode cL_minutesTogether 1 = .ok (.iconst 0, 1) := by decide +kernel
theorem dL_minutesTogether_2 : decode cL_minutesTogether 2 = .ok (.aload_n 0, 1) := by decide +kernel
theorem dL_minutesTogether_3 : decode cL_minutesTogether 3 = .ok (.iload_n 1, 1) := by decide +kernel
theorem dL_minutesTogether_4 : decode cL_minutesTogether 4 = .ok (.iload_n 2, 1) := by decide +kernel
theorem dL_minutesTogether_5 : decode cL_minutesTogether 5 = .ok (.invokevirtual 105, 3) := by decide +kernel
theorem dL_minutesTogether_8 : decode cL_minutesTogether 8 = .ok (.i2l, 1) := by decide +kernel
theorem dL_minutesTogether_9 : decode cL_minutesTogether 9 = .ok (.lastore, 1) := by decide +kernel
theorem dL_minutesTogether_10 : decode cL_minutesTogether 10 = .ok (.goto 7, 3) := by decide +kernel
theorem dL_minutesTogether_13 : decode cL_minutesTogether 13 = .ok (.astore 4, 2) := by decide +kernel
theorem dL_minutesTogether_15 : decode cL_minutesTogether 15 = .ok (.iconst 1, 1) := by decide +kernel
theorem dL_minutesTogether_16 : decode cL_minutesTogether 16 = .ok (.ireturn, 1) := by decide +kernel
theorem dL_minutesTogether_17 : decode cL_minutesTogether 17 = .ok (.iconst 0, 1) := by decide +kernel
theorem dL_minutesTogether_18 : decode cL_minutesTogether 18 = .ok (.ireturn, 1) := by decide +kernel
theorem dL_umbrellaFor_0 : decode cL_umbrellaFor 0 = .ok (.aload_n 2, 1) := by decide +kernel
theorem dL_umbrellaFor_1 : decode cL_umbrellaFor 1 = .ok (.iconst 0, 1) := by decide +kernel
theorem dL_umbrellaFor_2 : decode cL_umbrellaFor 2 = .ok (.aload_n 0, 1) := by decide +kernel
theorem dL_umbrellaFor_3 : decode cL_umbrellaFor 3 = .ok (.iload_n 1, 1) := by decide +kernel
theorem dL_umbrellaFor_4 : decode cL_umbrellaFor 4 = .ok (.invokevirtual 108, 3) := by decide +kernel
theorem dL_umbrellaFor_7 : decode cL_umbrellaFor 7 = .ok (.i2l, 1) := by decide +kernel
theorem dL_umbrellaFor_8 : decode cL_umbrellaFor 8 = .ok (.lastore, 1) := by decide +kernel
theorem dL_umbrellaFor_9 : decode cL_umbrellaFor 9 = .ok (.goto 12, 3) := by decide +kernel
theorem dL_umbrellaFor_12 : decode cL_umbrellaFor 12 = .ok (.astore_n 3, 1) := by decide +kernel
theorem dL_umbrellaFor_13 : decode cL_umbrellaFor 13 = .ok (.iconst 1, 1) := by decide +kernel
theorem dL_umbrellaFor_14 : decode cL_umbrellaFor 14 = .ok (.ireturn, 1) := by decide +kernel
theorem dL_umbrellaFor_15 : decode cL_umbrellaFor 15 = .ok (.astore_n 3, 1) := by decide +kernel
theorem dL_umbrellaFor_16 : decode cL_umbrellaFor 16 = .ok (.iconst 2, 1) := by decide +kernel
theorem dL_umbrellaFor_17 : decode cL_umbrellaFor 17 = .ok (.ireturn, 1) := by decide +kernel
theorem dL_umbrellaFor_18 : decode cL_umbrellaFor 18 = .ok (.astore_n 3, 1) := by decide +kernel
theorem dL_umbrellaFor_19 : decode cL_umbrellaFor 19 = .ok (.iconst 3, 1) := by decide +kernel
theorem dL_umbrellaFor_20 : decode cL_umbrellaFor 20 = .ok (.ireturn, 1) := by decide +kernel
theorem dL_umbrellaFor_21 : decode cL_umbrellaFor 21 = .ok (.iconst 0, 1) := by decide +kernel
theorem dL_umbrellaFor_22 : decode cL_umbrellaFor 22 = .ok (.ireturn, 1) := by decide +kernel
theorem dL_tipOf_0 : decode cL_tipOf 0 = .ok (.aload_n 2, 1) := by decide +kernel
theorem dL_tipOf_1 : decode cL_tipOf 1 = .ok (.iconst 0, 1) := by decide +kernel
theorem dL_tipOf_2 : decode cL_tipOf 2 = .ok (.aload_n 0, 1) := by decide +kernel
theorem dL_tipOf_3 : decode cL_tipOf 3 = .ok (.iload_n 1, 1) := by decide +kernel
theorem dL_tipOf_4 : decode cL_tipOf 4 = .ok (.invokevirtual 111, 3) := by decide +kernel
theorem dL_tipOf_7 : decode cL_tipOf 7 = .ok (.i2l, 1) := by decide +kernel
theorem dL_tipOf_8 : decode cL_tipOf 8 = .ok (.lastore, 1) := by decide +kernel
theorem dL_tipOf_9 : decode cL_tipOf 9 = .ok (.goto 9, 3) := by decide +kernel
theorem dL_tipOf_12 : decode cL_tipOf 12 = .ok (.astore_n 3, 1) := by decide +kernel
theorem dL_tipOf_13 : decode cL_tipOf 13 = .ok (.iconst 1, 1) := by decide +kernel
theorem dL_tipOf_14 : decode cL_tipOf 14 = .ok (.ireturn, 1) := by decide +kernel
theorem dL_tipOf_15 : decode cL_tipOf 15 = .ok (.astore_n 3, 1) := by decide +kernel
theorem dL_tipOf_16 : decode cL_tipOf 16 = .ok (.iconst 2, 1) := by decide +kernel
theorem dL_tipOf_17 : decode cL_tipOf 17 = .ok (.ireturn, 1) := by decide +kernel
theorem dL_tipOf_18 : decode cL_tipOf 18 = .ok (.iconst 0, 1) := by decide +kernel
theorem dL_tipOf_19 : decode cL_tipOf 19 = .ok (.ireturn, 1) := by decide +kernel
theorem dL_complaintsAfter_0 : decode cL_complaintsAfter 0 = .ok (.aload_n 2, 1) := by decide +kernel
theorem dL_complaintsAfter_1 : decode cL_complaintsAfter 1 = .ok (.iconst 0, 1) := by decide +kernel
theorem dL_complaintsAfter_2 : decode cL_complaintsAfter 2 = .ok (.aload_n 0, 1) := by decide +kernel
theorem dL_complaintsAfter_3 : decode cL_complaintsAfter 3 = .ok (.iload_n 1, 1) := by decide +kernel
theorem dL_complaintsAfter_4 : decode cL_complaintsAfter 4 = .ok (.invokevirtual 114, 3) := by decide +kernel
theorem dL_complaintsAfter_7 : decode cL_complaintsAfter 7 = .ok (.i2l, 1) := by decide +kernel
theorem dL_complaintsAfter_8 : decode cL_complaintsAfter 8 = .ok (.lastore, 1) := by decide +kernel
theorem dL_complaintsAfter_9 : decode cL_complaintsAfter 9 = .ok (.goto 6, 3) := by decide +kernel
theorem dL_complaintsAfter_12 : decode cL_complaintsAfter 12 = .ok (.astore_n 3, 1) := by decide +kernel
theorem dL_complaintsAfter_13 : decode cL_complaintsAfter 13 = .ok (.iconst 1, 1) := by decide +kernel
theorem dL_complaintsAfter_14 : decode cL_complaintsAfter 14 = .ok (.ireturn, 1) := by decide +kernel
theorem dL_complaintsAfter_15 : decode cL_complaintsAfter 15 = .ok (.iconst 0, 1) := by decide +kernel
theorem dL_complaintsAfter_16 : decode cL_complaintsAfter 16 = .ok (.ireturn, 1) := by decide +kernel
theorem dL_addGuest_0 : decode cL_addGuest 0 = .ok (.aload_n 3, 1) := by decide +kernel
theorem dL_addGuest_1 : decode cL_addGuest 1 = .ok (.iconst 0, 1) := by decide +kernel
theorem dL_addGuest_2 : decode cL_addGuest 2 = .ok (.aload_n 0, 1) := by decide +kernel
theorem dL_addGuest_3 : decode cL_addGuest 3 = .ok (.iload_n 1, 1) := by decide +kernel
theorem dL_addGuest_4 : decode cL_addGuest 4 = .ok (.iload_n 2, 1) := by decide +kernel
theorem dL_addGuest_5 : decode cL_addGuest 5 = .ok (.invokevirtual 117, 3) := by decide +kernel
theorem dL_addGuest_8 : decode cL_addGuest 8 = .ok (.i2l, 1) := by decide +kernel
theorem dL_addGuest_9 : decode cL_addGuest 9 = .ok (.lastore, 1) := by decide +kernel
theorem dL_addGuest_10 : decode cL_addGuest 10 = .ok (.goto 11, 3) := by decide +kernel
theorem dL_addGuest_13 : decode cL_addGuest 13 = .ok (.astore 4, 2) := by decide +kernel
theorem dL_addGuest_15 : decode cL_addGuest 15 = .ok (.iconst 1, 1) := by decide +kernel
theorem dL_addGuest_16 : decode cL_addGuest 16 = .ok (.ireturn, 1) := by decide +kernel
theorem dL_addGuest_17 : decode cL_addGuest 17 = .ok (.astore 4, 2) := by decide +kernel
theorem dL_addGuest_19 : decode cL_addGuest 19 = .ok (.iconst 2, 1) := by decide +kernel
theorem dL_addGuest_20 : decode cL_addGuest 20 = .ok (.ireturn, 1) := by decide +kernel
theorem dL_addGuest_21 : decode cL_addGuest 21 = .ok (.iconst 0, 1) := by decide +kernel
theorem dL_addGuest_22 : decode cL_addGuest 22 = .ok (.ireturn, 1) := by decide +kernel
theorem dL_addUmbrella_0 : decode cL_addUmbrella 0 = .ok (.aload_n 3, 1) := by decide +kernel
theorem dL_addUmbrella_1 : decode cL_addUmbrella 1 = .ok (.iconst 0, 1) := by decide +kernel
theorem dL_addUmbrella_2 : decode cL_addUmbrella 2 = .ok (.aload_n 0, 1) := by decide +kernel
theorem dL_addUmbrella_3 : decode cL_addUmbrella 3 = .ok (.iload_n 1, 1) := by decide +kernel
theorem dL_addUmbrella_4 : decode cL_addUmbrella 4 = .ok (.iload_n 2, 1) := by decide +kernel
theorem dL_addUmbrella_5 : decode cL_addUmbrella 5 = .ok (.invokevirtual 120, 3) := by decide +kernel
theorem dL_addUmbrella_8 : decode cL_addUmbrella 8 = .ok (.i2l, 1) := by decide +kernel
theorem dL_addUmbrella_9 : decode cL_addUmbrella 9 = .ok (.lastore, 1) := by decide +kernel
theorem dL_addUmbrella_10 : decode cL_addUmbrella 10 = .ok (.goto 15, 3) := by decide +kernel
theorem dL_addUmbrella_13 : decode cL_addUmbrella 13 = .ok (.astore 4, 2) := by decide +kernel
theorem dL_addUmbrella_15 : decode cL_addUmbrella 15 = .ok (.iconst 1, 1) := by decide +kernel
theorem dL_addUmbrella_16 : decode cL_addUmbrella 16 = .ok (.ireturn, 1) := by decide +kernel
theorem dL_addUmbrella_17 : decode cL_addUmbrella 17 = .ok (.astore 4, 2) := by decide +kernel
theorem dL_addUmbrella_19 : decode cL_addUmbrella 19 = .ok (.iconst 2, 1) := by decide +kernel
theorem dL_addUmbrella_20 : decode cL_addUmbrella 20 = .ok (.ireturn, 1) := by decide +kernel
theorem dL_addUmbrella_21 : decode cL_addUmbrella 21 = .ok (.astore 4, 2) := by decide +kernel
theorem dL_addUmbrella_23 : decode cL_addUmbrella 23 = .ok (.iconst 3, 1) := by decide +kernel
theorem dL_addUmbrella_24 : decode cL_addUmbrella 24 = .ok (.ireturn, 1) := by decide +kernel
theorem dL_addUmbrella_25 : decode cL_addUmbrella 25 = .ok (.iconst 0, 1) := by decide +kernel
theorem dL_addUmbrella_26 : decode cL_addUmbrella 26 = .ok (.ireturn, 1) := by decide +kernel
theorem dL_leave_0 : decode cL_leave 0 = .ok (.aload_n 2, 1) := by decide +kernel
theorem dL_leave_1 : decode cL_leave 1 = .ok (.iconst 0, 1) := by decide +kernel
theorem dL_leave_2 : decode cL_leave 2 = .ok (.aload_n 0, 1) := by decide +kernel
theorem dL_leave_3 : decode cL_leave 3 = .ok (.iload_n 1, 1) := by decide +kernel
theorem dL_leave_4 : decode cL_leave 4 = .ok (.invokevirtual 123, 3) := by decide +kernel
theorem dL_leave_7 : decode cL_leave 7 = .ok (.i2l, 1) := by decide +kernel
theorem dL_leave_8 : decode cL_leave 8 = .ok (.lastore, 1) := by decide +kernel
theorem dL_leave_9 : decode cL_leave 9 = .ok (.goto 9, 3) := by decide +kernel
theorem dL_leave_12 : decode cL_leave 12 = .ok (.astore_n 3, 1) := by decide +kernel
theorem dL_leave_13 : decode cL_leave 13 = .ok (.iconst 1, 1) := by decide +kernel
theorem dL_leave_14 : decode cL_leave 14 = .ok (.ireturn, 1) := by decide +kernel
theorem dL_leave_15 : decode cL_leave 15 = .ok (.astore_n 3, 1) := by decide +kernel
theorem dL_leave_16 : decode cL_leave 16 = .ok (.iconst 2, 1) := by decide +kernel
theorem dL_leave_17 : decode cL_leave 17 = .ok (.ireturn, 1) := by decide +kernel
theorem dL_leave_18 : decode cL_leave 18 = .ok (.iconst 0, 1) := by decide +kernel
theorem dL_leave_19 : decode cL_leave 19 = .ok (.ireturn, 1) := by decide +kernel
theorem dL_comeBack_0 : decode cL_comeBack 0 = .ok (.aload_n 2, 1) := by decide +kernel
theorem dL_comeBack_1 : decode cL_comeBack 1 = .ok (.iconst 0, 1) := by decide +kernel
theorem dL_comeBack_2 : decode cL_comeBack 2 = .ok (.aload_n 0, 1) := by decide +kernel
theorem dL_comeBack_3 : decode cL_comeBack 3 = .ok (.iload_n 1, 1) := by decide +kernel
theorem dL_comeBack_4 : decode cL_comeBack 4 = .ok (.invokevirtual 126, 3) := by decide +kernel
theorem dL_comeBack_7 : decode cL_comeBack 7 = .ok (.i2l, 1) := by decide +kernel
theorem dL_comeBack_8 : decode cL_comeBack 8 = .ok (.lastore, 1) := by decide +kernel
theorem dL_comeBack_9 : decode cL_comeBack 9 = .ok (.goto 9, 3) := by decide +kernel
theorem dL_comeBack_12 : decode cL_comeBack 12 = .ok (.astore_n 3, 1) := by decide +kernel
theorem dL_comeBack_13 : decode cL_comeBack 13 = .ok (.iconst 1, 1) := by decide +kernel
theorem dL_comeBack_14 : decode cL_comeBack 14 = .ok (.ireturn, 1) := by decide +kernel
theorem dL_comeBack_15 : decode cL_comeBack 15 = .ok (.astore_n 3, 1) := by decide +kernel
theorem dL_comeBack_16 : decode cL_comeBack 16 = .ok (.iconst 2, 1) := by decide +kernel
theorem dL_comeBack_17 : decode cL_comeBack 17 = .ok (.ireturn, 1) := by decide +kernel
theorem dL_comeBack_18 : decode cL_comeBack 18 = .ok (.iconst 0, 1) := by decide +kernel
theorem dL_comeBack_19 : decode cL_comeBack 19 = .ok (.ireturn, 1) := by decide +kernel
theorem dL_passMinutes_0 : decode cL_passMinutes 0 = .ok (.aload_n 2, 1) := by decide +kernel
theorem dL_passMinutes_1 : decode cL_passMinutes 1 = .ok (.iconst 0, 1) := by decide +kernel
theorem dL_passMinutes_2 : decode cL_passMinutes 2 = .ok (.aload_n 0, 1) := by decide +kernel
theorem dL_passMinutes_3 : decode cL_passMinutes 3 = .ok (.iload_n 1, 1) := by decide +kernel
theorem dL_passMinutes_4 : decode cL_passMinutes 4 = .ok (.invokevirtual 129, 3) := by decide +kernel
theorem dL_passMinutes_7 : decode cL_passMinutes 7 = .ok (.i2l, 1) := by decide +kernel
theorem dL_passMinutes_8 : decode cL_passMinutes 8 = .ok (.lastore, 1) := by decide +kernel
theorem dL_passMinutes_9 : decode cL_passMinutes 9 = .ok (.goto 9, 3) := by decide +kernel
theorem dL_passMinutes_12 : decode cL_passMinutes 12 = .ok (.astore_n 3, 1) := by decide +kernel
theorem dL_passMinutes_13 : decode cL_passMinutes 13 = .ok (.iconst 1, 1) := by decide +kernel
theorem dL_passMinutes_14 : decode cL_passMinutes 14 = .ok (.ireturn, 1) := by decide +kernel
theorem dL_passMinutes_15 : decode cL_passMinutes 15 = .ok (.astore_n 3, 1) := by decide +kernel
theorem dL_passMinutes_16 : decode cL_passMinutes 16 = .ok (.iconst 2, 1) := by decide +kernel
theorem dL_passMinutes_17 : decode cL_passMinutes 17 = .ok (.ireturn, 1) := by decide +kernel
theorem dL_passMinutes_18 : decode cL_passMinutes 18 = .ok (.iconst 0, 1) := by decide +kernel
theorem dL_passMinutes_19 : decode cL_passMinutes 19 = .ok (.ireturn, 1) := by decide +kernel
theorem dL_walkDog_0 : decode cL_walkDog 0 = .ok (.aload_n 2, 1) := by decide +kernel
theorem dL_walkDog_1 : decode cL_walkDog 1 = .ok (.iconst 0, 1) := by decide +kernel
theorem dL_walkDog_2 : decode cL_walkDog 2 = .ok (.aload_n 0, 1) := by decide +kernel
theorem dL_walkDog_3 : decode cL_walkDog 3 = .ok (.iload_n 1, 1) := by decide +kernel
theorem dL_walkDog_4 : decode cL_walkDog 4 = .ok (.invokevirtual 132, 3) := by decide +kernel
theorem dL_walkDog_7 : decode cL_walkDog 7 = .ok (.i2l, 1) := by decide +kernel
theorem dL_walkDog_8 : decode cL_walkDog 8 = .ok (.lastore, 1) := by decide +kernel
theorem dL_walkDog_9 : decode cL_walkDog 9 = .ok (.goto 9, 3) := by decide +kernel
theorem dL_walkDog_12 : decode cL_walkDog 12 = .ok (.astore_n 3, 1) := by decide +kernel
theorem dL_walkDog_13 : decode cL_walkDog 13 = .ok (.iconst 1, 1) := by decide +kernel
theorem dL_walkDog_14 : decode cL_walkDog 14 = .ok (.ireturn, 1) := by decide +kernel
theorem dL_walkDog_15 : decode cL_walkDog 15 = .ok (.astore_n 3, 1) := by decide +kernel
theorem dL_walkDog_16 : decode cL_walkDog 16 = .ok (.iconst 2, 1) := by decide +kernel
theorem dL_walkDog_17 : decode cL_walkDog 17 = .ok (.ireturn, 1) := by decide +kernel
theorem dL_walkDog_18 : decode cL_walkDog 18 = .ok (.iconst 0, 1) := by decide +kernel
theorem dL_walkDog_19 : decode cL_walkDog 19 = .ok (.ireturn, 1) := by decide +kernel
theorem dL_setRain_0 : decode cL_setRain 0 = .ok (.aload_n 2, 1) := by decide +kernel
theorem dL_setRain_1 : decode cL_setRain 1 = .ok (.iconst 0, 1) := by decide +kernel
theorem dL_setRain_2 : decode cL_setRain 2 = .ok (.aload_n 0, 1) := by decide +kernel
theorem dL_setRain_3 : decode cL_setRain 3 = .ok (.iload_n 1, 1) := by decide +kernel
theorem dL_setRain_4 : decode cL_setRain 4 = .ok (.invokevirtual 135, 3) := by decide +kernel
theorem dL_setRain_7 : decode cL_setRain 7 = .ok (.i2l, 1) := by decide +kernel
theorem dL_setRain_8 : decode cL_setRain 8 = .ok (.lastore, 1) := by decide +kernel
theorem dL_setRain_9 : decode cL_setRain 9 = .ok (.goto 6, 3) := by decide +kernel
theorem dL_setRain_12 : decode cL_setRain 12 = .ok (.astore_n 3, 1) := by decide +kernel
theorem dL_setRain_13 : decode cL_setRain 13 = .ok (.iconst 1, 1) := by decide +kernel
theorem dL_setRain_14 : decode cL_setRain 14 = .ok (.ireturn, 1) := by decide +kernel
theorem dL_setRain_15 : decode cL_setRain 15 = .ok (.iconst 0, 1) := by decide +kernel
theorem dL_setRain_16 : decode cL_setRain 16 = .ok (.ireturn, 1) := by decide +kernel
theorem dL_setNoiseLimit_0 : decode cL_setNoiseLimit 0 = .ok (.aload_n 2, 1) := by decide +kernel
theorem dL_setNoiseLimit_1 : decode cL_setNoiseLimit 1 = .ok (.iconst 0, 1) := by decide +kernel
theorem dL_setNoiseLimit_2 : decode cL_setNoiseLimit 2 = .ok (.aload_n 0, 1) := by decide +kernel
theorem dL_setNoiseLimit_3 : decode cL_setNoiseLimit 3 = .ok (.iload_n 1, 1) := by decide +kernel
theorem dL_setNoiseLimit_4 : decode cL_setNoiseLimit 4 = .ok (.invokevirtual 138, 3) := by decide +kernel
theorem dL_setNoiseLimit_7 : decode cL_setNoiseLimit 7 = .ok (.i2l, 1) := by decide +kernel
theorem dL_setNoiseLimit_8 : decode cL_setNoiseLimit 8 = .ok (.lastore, 1) := by decide +kernel
theorem dL_setNoiseLimit_9 : decode cL_setNoiseLimit 9 = .ok (.goto 6, 3) := by decide +kernel
theorem dL_setNoiseLimit_12 : decode cL_setNoiseLimit 12 = .ok (.astore_n 3, 1) := by decide +kernel
theorem dL_setNoiseLimit_13 : decode cL_setNoiseLimit 13 = .ok (.iconst 1, 1) := by decide +kernel
theorem dL_setNoiseLimit_14 : decode cL_setNoiseLimit 14 = .ok (.ireturn, 1) := by decide +kernel
theorem dL_setNoiseLimit_15 : decode cL_setNoiseLimit 15 = .ok (.iconst 0, 1) := by decide +kernel
theorem dL_setNoiseLimit_16 : decode cL_setNoiseLimit 16 = .ok (.ireturn, 1) := by decide +kernel
theorem dL_undo_0 : decode cL_undo 0 = .ok (.aload_n 1, 1) := by decide +kernel
theorem dL_undo_1 : decode cL_undo 1 = .ok (.iconst 0, 1) := by decide +kernel
theorem dL_undo_2 : decode cL_undo 2 = .ok (.aload_n 0, 1) := by decide +kernel
theorem dL_undo_3 : decode cL_undo 3 = .ok (.invokevirtual 141, 3) := by decide +kernel
theorem dL_undo_6 : decode cL_undo 6 = .ok (.i2l, 1) := by decide +kernel
theorem dL_undo_7 : decode cL_undo 7 = .ok (.lastore, 1) := by decide +kernel
theorem dL_undo_8 : decode cL_undo 8 = .ok (.goto 6, 3) := by decide +kernel
theorem dL_undo_11 : decode cL_undo 11 = .ok (.astore_n 2, 1) := by decide +kernel
theorem dL_undo_12 : decode cL_undo 12 = .ok (.iconst 1, 1) := by decide +kernel
theorem dL_undo_13 : decode cL_undo 13 = .ok (.ireturn, 1) := by decide +kernel
theorem dL_undo_14 : decode cL_undo 14 = .ok (.iconst 0, 1) := by decide +kernel
theorem dL_undo_15 : decode cL_undo 15 = .ok (.ireturn, 1) := by decide +kernel
theorem dL_saveSnapshot_0 : decode cL_saveSnapshot 0 = .ok (.aload_n 2, 1) := by decide +kernel
theorem dL_saveSnapshot_1 : decode cL_saveSnapshot 1 = .ok (.iconst 0, 1) := by decide +kernel
theorem dL_saveSnapshot_2 : decode cL_saveSnapshot 2 = .ok (.aload_n 0, 1) := by decide +kernel
theorem dL_saveSnapshot_3 : decode cL_saveSnapshot 3 = .ok (.iload_n 1, 1) := by decide +kernel
theorem dL_saveSnapshot_4 : decode cL_saveSnapshot 4 = .ok (.invokevirtual 144, 3) := by decide +kernel
theorem dL_saveSnapshot_7 : decode cL_saveSnapshot 7 = .ok (.i2l, 1) := by decide +kernel
theorem dL_saveSnapshot_8 : decode cL_saveSnapshot 8 = .ok (.lastore, 1) := by decide +kernel
theorem dL_saveSnapshot_9 : decode cL_saveSnapshot 9 = .ok (.goto 6, 3) := by decide +kernel
theorem dL_saveSnapshot_12 : decode cL_saveSnapshot 12 = .ok (.astore_n 3, 1) := by decide +kernel
theorem dL_saveSnapshot_13 : decode cL_saveSnapshot 13 = .ok (.iconst 1, 1) := by decide +kernel
theorem dL_saveSnapshot_14 : decode cL_saveSnapshot 14 = .ok (.ireturn, 1) := by decide +kernel
theorem dL_saveSnapshot_15 : decode cL_saveSnapshot 15 = .ok (.iconst 0, 1) := by decide +kernel
theorem dL_saveSnapshot_16 : decode cL_saveSnapshot 16 = .ok (.ireturn, 1) := by decide +kernel
theorem dL_restoreSnapshot_0 : decode cL_restoreSnapshot 0 = .ok (.aload_n 2, 1) := by decide +kernel
theorem dL_restoreSnapshot_1 : decode cL_restoreSnapshot 1 = .ok (.iconst 0, 1) := by decide +kernel
theorem dL_restoreSnapshot_2 : decode cL_restoreSnapshot 2 = .ok (.aload_n 0, 1) := by decide +kernel
theorem dL_restoreSnapshot_3 : decode cL_restoreSnapshot 3 = .ok (.iload_n 1, 1) := by decide +kernel
theorem dL_restoreSnapshot_4 : decode cL_restoreSnapshot 4 = .ok (.invokevirtual 147, 3) := by decide +kernel
theorem dL_restoreSnapshot_7 : decode cL_restoreSnapshot 7 = .ok (.i2l, 1) := by decide +kernel
theorem dL_restoreSnapshot_8 : decode cL_restoreSnapshot 8 = .ok (.lastore, 1) := by decide +kernel
theorem dL_restoreSnapshot_9 : decode cL_restoreSnapshot 9 = .ok (.goto 9, 3) := by decide +kernel
theorem dL_restoreSnapshot_12 : decode cL_restoreSnapshot 12 = .ok (.astore_n 3, 1) := by decide +kernel
theorem dL_restoreSnapshot_13 : decode cL_restoreSnapshot 13 = .ok (.iconst 1, 1) := by decide +kernel
theorem dL_restoreSnapshot_14 : decode cL_restoreSnapshot 14 = .ok (.ireturn, 1) := by decide +kernel
theorem dL_restoreSnapshot_15 : decode cL_restoreSnapshot 15 = .ok (.astore_n 3, 1) := by decide +kernel
theorem dL_restoreSnapshot_16 : decode cL_restoreSnapshot 16 = .ok (.iconst 2, 1) := by decide +kernel
theorem dL_restoreSnapshot_17 : decode cL_restoreSnapshot 17 = .ok (.ireturn, 1) := by decide +kernel
theorem dL_restoreSnapshot_18 : decode cL_restoreSnapshot 18 = .ok (.iconst 0, 1) := by decide +kernel
theorem dL_restoreSnapshot_19 : decode cL_restoreSnapshot 19 = .ok (.ireturn, 1) := by decide +kernel
theorem dL_writeEntries_0 : decode cL_writeEntries 0 = .ok (.aload_n 2, 1) := by decide +kernel
theorem dL_writeEntries_1 : decode cL_writeEntries 1 = .ok (.iconst 0, 1) := by decide +kernel
theorem dL_writeEntries_2 : decode cL_writeEntries 2 = .ok (.aload_n 0, 1) := by decide +kernel
theorem dL_writeEntries_3 : decode cL_writeEntries 3 = .ok (.iload_n 1, 1) := by decide +kernel
theorem dL_writeEntries_4 : decode cL_writeEntries 4 = .ok (.invokevirtual 150, 3) := by decide +kernel
theorem dL_writeEntries_7 : decode cL_writeEntries 7 = .ok (.i2l, 1) := by decide +kernel
theorem dL_writeEntries_8 : decode cL_writeEntries 8 = .ok (.lastore, 1) := by decide +kernel
theorem dL_writeEntries_9 : decode cL_writeEntries 9 = .ok (.goto 6, 3) := by decide +kernel
theorem dL_writeEntries_12 : decode cL_writeEntries 12 = .ok (.astore_n 3, 1) := by decide +kernel
theorem dL_writeEntries_13 : decode cL_writeEntries 13 = .ok (.iconst 1, 1) := by decide +kernel
theorem dL_writeEntries_14 : decode cL_writeEntries 14 = .ok (.ireturn, 1) := by decide +kernel
theorem dL_writeEntries_15 : decode cL_writeEntries 15 = .ok (.iconst 0, 1) := by decide +kernel
theorem dL_writeEntries_16 : decode cL_writeEntries 16 = .ok (.ireturn, 1) := by decide +kernel
theorem dL_writtenByte_0 : decode cL_writtenByte 0 = .ok (.aload_n 2, 1) := by decide +kernel
theorem dL_writtenByte_1 : decode cL_writtenByte 1 = .ok (.iconst 0, 1) := by decide +kernel
theorem dL_writtenByte_2 : decode cL_writtenByte 2 = .ok (.aload_n 0, 1) := by decide +kernel
theorem dL_writtenByte_3 : decode cL_writtenByte 3 = .ok (.iload_n 1, 1) := by decide +kernel
theorem dL_writtenByte_4 : decode cL_writtenByte 4 = .ok (.invokevirtual 153, 3) := by decide +kernel
theorem dL_writtenByte_7 : decode cL_writtenByte 7 = .ok (.i2l, 1) := by decide +kernel
theorem dL_writtenByte_8 : decode cL_writtenByte 8 = .ok (.lastore, 1) := by decide +kernel
theorem dL_writtenByte_9 : decode cL_writtenByte 9 = .ok (.goto 6, 3) := by decide +kernel
theorem dL_writtenByte_12 : decode cL_writtenByte 12 = .ok (.astore_n 3, 1) := by decide +kernel
theorem dL_writtenByte_13 : decode cL_writtenByte 13 = .ok (.iconst 1, 1) := by decide +kernel
theorem dL_writtenByte_14 : decode cL_writtenByte 14 = .ok (.ireturn, 1) := by decide +kernel
theorem dL_writtenByte_15 : decode cL_writtenByte 15 = .ok (.iconst 0, 1) := by decide +kernel
theorem dL_writtenByte_16 : decode cL_writtenByte 16 = .ok (.ireturn, 1) := by decide +kernel
