theorem dX4_add_51 : decode cX4_add 51 = .ok (.aload_n 0, 1) := by decide +kernel
theorem dX4_add_52 : decode cX4_add 52 = .ok (.dup, 1) := by decide +kernel
theorem dX4_add_53 : decode cX4_add 53 = .ok (.getfield 15, 3) := by decide +kernel
theorem dX4_add_56 : decode cX4_add 56 = .ok (.iconst 1, 1) := by decide +kernel
theorem dX4_add_57 : decode cX4_add 57 = .ok (.iadd, 1) := by decide +kernel
theorem dX4_add_58 : decode cX4_add 58 = .ok (.putfield 15, 3) := by decide +kernel
theorem dX4_add_61 : decode cX4_add 61 = .ok (.return_, 1) := by decide +kernel
theorem dX4_estimate_0 : decode cX4_estimate 0 = .ok (.aload_n 0, 1) := by decide +kernel
theorem dX4_estimate_1 : decode cX4_estimate 1 = .ok (.getfield 15, 3) := by decide +kernel
theorem dX4_estimate_4 : decode cX4_estimate 4 = .ok (.ifCond .gt 6, 3) := by decide +kernel
theorem dX4_estimate_7 : decode cX4_estimate 7 = .ok (.bipush (-6), 2) := by decide +kernel
theorem dX4_estimate_9 : decode cX4_estimate 9 = .ok (.ireturn, 1) := by decide +kernel
theorem dX4_estimate_10 : decode cX4_estimate 10 = .ok (.iconst 0, 1) := by decide +kernel
theorem dX4_estimate_11 : decode cX4_estimate 11 = .ok (.istore_n 1, 1) := by decide +kernel
theorem dX4_estimate_12 : decode cX4_estimate 12 = .ok (.iconst 0, 1) := by decide +kernel
theorem dX4_estimate_13 : decode cX4_estimate 13 = .ok (.istore_n 2, 1) := by decide +kernel
theorem dX4_estimate_14 : decode cX4_estimate 14 = .ok (.iload_n 2, 1) := by decide +kernel
theorem dX4_estimate_15 : decode cX4_estimate 15 = .ok (.aload_n 0, 1) := by decide +kernel
theorem dX4_estimate_16 : decode cX4_estimate 16 = .ok (.getfield 15, 3) := by decide +kernel
theorem dX4_estimate_19 : decode cX4_estimate 19 = .ok (.if_icmp .ge 27, 3) := by decide +kernel
theorem dX4_estimate_22 : decode cX4_estimate 22 = .ok (.iload_n 2, 1) := by decide +kernel
theorem dX4_estimate_23 : decode cX4_estimate 23 = .ok (.aload_n 0, 1) := by decide +kernel
theorem dX4_estimate_24 : decode cX4_estimate 24 = .ok (.getfield 9, 3) := by decide +kernel
theorem dX4_estimate_27 : decode cX4_estimate 27 = .ok (.arraylength, 1) := by decide +kernel
theorem dX4_estimate_28 : decode cX4_estimate 28 = .ok (.if_icmp .ge 18, 3) := by decide +kernel
theorem dX4_estimate_31 : decode cX4_estimate 31 = .ok (.iload_n 1, 1) := by decide +kernel
theorem dX4_estimate_32 : decode cX4_estimate 32 = .ok (.aload_n 0, 1) := by decide +kernel
theorem dX4_estimate_33 : decode cX4_estimate 33 = .ok (.getfield 9, 3) := by decide +kernel
theorem dX4_estimate_36 : decode cX4_estimate 36 = .ok (.iload_n 2, 1) := by decide +kernel
theorem dX4_estimate_37 : decode cX4_estimate 37 = .ok (.iaload, 1) := by decide +kernel
theorem dX4_estimate_38 : decode cX4_estimate 38 = .ok (.iadd, 1) := by decide +kernel
theorem dX4_estimate_39 : decode cX4_estimate 39 = .ok (.istore_n 1, 1) := by decide +kernel
theorem dX4_estimate_40 : decode cX4_estimate 40 = .ok (.iinc 2 1, 3) := by decide +kernel
theorem dX4_estimate_43 : decode cX4_estimate 43 = .ok (.goto (-29), 3) := by decide +kernel
theorem dX4_estimate_46 : decode cX4_estimate 46 = .ok (.iload_n 1, 1) := by decide +kernel
theorem dX4_estimate_47 : decode cX4_estimate 47 = .ok (.aload_n 0, 1) := by decide +kernel
theorem dX4_estimate_48 : decode cX4_estimate 48 = .ok (.getfield 15, 3) := by decide +kernel
theorem dX4_estimate_51 : decode cX4_estimate 51 = .ok (.idiv, 1) := by decide +kernel
theorem dX4_estimate_52 : decode cX4_estimate 52 = .ok (.ireturn, 1) := by decide +kernel
theorem dX5_init_0 : decode cX5_init 0 = .ok (.aload_n 0, 1) := by decide +kernel
theorem dX5_init_1 : decode cX5_init 1 = .ok (.invokespecial 3, 3) := by decide +kernel
theorem dX5_init_4 : decode cX5_init 4 = .ok (.aload_n 0, 1) := by decide +kernel
theorem dX5_init_5 : decode cX5_init 5 = .ok (.iconst 5, 1) := by decide +kernel
theorem dX5_init_6 : decode cX5_init 6 = .ok (.newarray .int, 2) := by decide +kernel
theorem dX5_init_8 : decode cX5_init 8 = .ok (.putfield 9, 3) := by decide +kernel
theorem dX5_init_11 : decode cX5_init 11 = .ok (.aload_n 0, 1) := by decide +kernel
theorem dX5_init_12 : decode cX5_init 12 = .ok (.bipush 30, 2) := by decide +kernel
theorem dX5_init_14 : decode cX5_init 14 = .ok (.newarray .int, 2) := by decide +kernel
theorem dX5_init_16 : decode cX5_init 16 = .ok (.putfield 15, 3) := by decide +kernel
theorem dX5_init_19 : decode cX5_init 19 = .ok (.aload_n 0, 1) := by decide +kernel
theorem dX5_init_20 : decode cX5_init 20 = .ok (.bipush 10, 2) := by decide +kernel
theorem dX5_init_22 : decode cX5_init 22 = .ok (.sipush 2000, 3) := by decide +kernel
theorem dX5_init_25 : decode cX5_init 25 = .ok (.invokevirtual 18, 3) := by decide +kernel
theorem dX5_init_28 : decode cX5_init 28 = .ok (.return_, 1) := by decide +kernel
theorem dX5_replace_0 : decode cX5_replace 0 = .ok (.aload_n 0, 1) := by decide +kernel
theorem dX5_replace_1 : decode cX5_replace 1 = .ok (.iload_n 1, 1) := by decide +kernel
theorem dX5_replace_2 : decode cX5_replace 2 = .ok (.putfield 22, 3) := by decide +kernel
theorem dX5_replace_5 : decode cX5_replace 5 = .ok (.aload_n 0, 1) := by decide +kernel
theorem dX5_replace_6 : decode cX5_replace 6 = .ok (.iload_n 2, 1) := by decide +kernel
theorem dX5_replace_7 : decode cX5_replace 7 = .ok (.putfield 26, 3) := by decide +kernel
theorem dX5_replace_10 : decode cX5_replace 10 = .ok (.aload_n 0, 1) := by decide +kernel
theorem dX5_replace_11 : decode cX5_replace 11 = .ok (.iconst 0, 1) := by decide +kernel
theorem dX5_replace_12 : decode cX5_replace 12 = .ok (.putfield 29, 3) := by decide +kernel
theorem dX5_replace_15 : decode cX5_replace 15 = .ok (.iconst 0, 1) := by decide +kernel
theorem dX5_replace_16 : decode cX5_replace 16 = .ok (.istore_n 3, 1) := by decide +kernel
theorem dX5_replace_17 : decode cX5_replace 17 = .ok (.iload_n 3, 1) := by decide +kernel
theorem dX5_replace_18 : decode cX5_replace 18 = .ok (.aload_n 0, 1) := by decide +kernel
theorem dX5_replace_19 : decode cX5_replace 19 = .ok (.getfield 15, 3) := by decide +kernel
theorem dX5_replace_22 : decode cX5_replace 22 = .ok (.arraylength, 1) := by decide +kernel
theorem dX5_replace_23 : decode cX5_replace 23 = .ok (.if_icmp .ge 17, 3) := by decide +kernel
theorem dX5_replace_26 : decode cX5_replace 26 = .ok (.aload_n 0, 1) := by decide +kernel
theorem dX5_replace_27 : decode cX5_replace 27 = .ok (.getfield 15, 3) := by decide +kernel
theorem dX5_replace_30 : decode cX5_replace 30 = .ok (.iload_n 3, 1) := by decide +kernel
theorem dX5_replace_31 : decode cX5_replace 31 = .ok (.bipush 100, 2) := by decide +kernel
theorem dX5_replace_33 : decode cX5_replace 33 = .ok (.iastore, 1) := by decide +kernel
theorem dX5_replace_34 : decode cX5_replace 34 = .ok (.iinc 3 1, 3) := by decide +kernel
theorem dX5_replace_37 : decode cX5_replace 37 = .ok (.goto (-20), 3) := by decide +kernel
theorem dX5_replace_40 : decode cX5_replace 40 = .ok (.return_, 1) := by decide +kernel
theorem dX5_appendLevel_0 : decode cX5_appendLevel 0 = .ok (.aload_n 0, 1) := by decide +kernel
theorem dX5_appendLevel_1 : decode cX5_appendLevel 1 = .ok (.getfield 29, 3) := by decide +kernel
theorem dX5_appendLevel_4 : decode cX5_appendLevel 4 = .ok (.aload_n 0, 1) := by decide +kernel
theorem dX5_appendLevel_5 : decode cX5_appendLevel 5 = .ok (.getfield 9, 3) := by decide +kernel
theorem dX5_appendLevel_8 : decode cX5_appendLevel 8 = .ok (.arraylength, 1) := by decide +kernel
theorem dX5_appendLevel_9 : decode cX5_appendLevel 9 = .ok (.if_icmp .ge 23, 3) := by decide +kernel
theorem dX5_appendLevel_12 : decode cX5_appendLevel 12 = .ok (.aload_n 0, 1) := by decide +kernel
theorem dX5_appendLevel_13 : decode cX5_appendLevel 13 = .ok (.getfield 9, 3) := by decide +kernel
theorem dX5_appendLevel_16 : decode cX5_appendLevel 16 = .ok (.aload_n 0, 1) := by decide +kernel
theorem dX5_appendLevel_17 : decode cX5_appendLevel 17 = .ok (.getfield 29, 3) := by decide +kernel
theorem dX5_appendLevel_20 : decode cX5_appendLevel 20 = .ok (.iload_n 1, 1) := by decide +kernel
theorem dX5_appendLevel_21 : decode cX5_appendLevel 21 = .ok (.iastore, 1) := by decide +kernel
theorem dX5_appendLevel_22 : decode cX5_appendLevel 22 = .ok (.aload_n 0, 1) := by decide +kernel
theorem dX5_appendLevel_23 : decode cX5_appendLevel 23 = .ok (.dup, 1) := by decide +kernel
theorem dX5_appendLevel_24 : decode cX5_appendLevel 24 = .ok (.getfield 29, 3) := by decide +kernel
theorem dX5_appendLevel_27 : decode cX5_appendLevel 27 = .ok (.iconst 1, 1) := by decide +kernel
theorem dX5_appendLevel_28 : decode cX5_appendLevel 28 = .ok (.iadd, 1) := by decide +kernel
theorem dX5_appendLevel_29 : decode cX5_appendLevel 29 = .ok (.putfield 29, 3) := by decide +kernel
theorem dX5_appendLevel_32 : decode cX5_appendLevel 32 = .ok (.return_, 1) := by decide +kernel
theorem dX5_hasSegment_0 : decode cX5_hasSegment 0 = .ok (.iload_n 1, 1) := by decide +kernel
theorem dX5_hasSegment_1 : decode cX5_hasSegment 1 = .ok (.ifCond .lt 24, 3) := by decide +kernel
theorem dX5_hasSegment_4 : decode cX5_hasSegment 4 = .ok (.iload_n 1, 1) := by decide +kernel
theorem dX5_hasSegment_5 : decode cX5_hasSegment 5 = .ok (.aload_n 0, 1) := by decide +kernel
theorem dX5_hasSegment_6 : decode cX5_hasSegment 6 = .ok (.getfield 22, 3) := by decide +kernel
theorem dX5_hasSegment_9 : decode cX5_hasSegment 9 = .ok (.if_icmp .ge 16, 3) := by decide +kernel
theorem dX5_hasSegment_12 : decode cX5_hasSegment 12 = .ok (.iload_n 1, 1) := by decide +kernel
theorem dX5_hasSegment_13 : decode cX5_hasSegment 13 = .ok (.aload_n 0, 1) := by decide +kernel
theorem dX5_hasSegment_14 : decode cX5_hasSegment 14 = .ok (.getfield 15, 3) := by decide +kernel
theorem dX5_hasSegment_17 : decode cX5_hasSegment 17 = .ok (.arraylength, 1) := by decide +kernel
theorem dX5_hasSegment_18 : decode cX5_hasSegment 18 = .ok (.if_icmp .ge 7, 3) := by decide +kernel
theorem dX5_hasSegment_21 : decode cX5_hasSegment 21 = .ok (.iconst 1, 1) := by decide +kernel
theorem dX5_hasSegment_22 : decode cX5_hasSegment 22 = .ok (.goto 4, 3) := by decide +kernel
theorem dX5_hasSegment_25 : decode cX5_hasSegment 25 = .ok (.iconst 0, 1) := by decide +kernel
theorem dX5_hasSegment_26 : decode cX5_hasSegment 26 = .ok (.ireturn, 1) := by decide +kernel
theorem dX5_hasLevel_0 : decode cX5_hasLevel 0 = .ok (.iload_n 1, 1) := by decide +kernel
theorem dX5_hasLevel_1 : decode cX5_hasLevel 1 = .ok (.ifCond .lt 24, 3) := by decide +kernel
theorem dX5_hasLevel_4 : decode cX5_hasLevel 4 = .ok (.iload_n 1, 1) := by decide +kernel
theorem dX5_hasLevel_5 : decode cX5_hasLevel 5 = .ok (.aload_n 0, 1) := by decide +kernel
theorem dX5_hasLevel_6 : decode cX5_hasLevel 6 = .ok (.getfield 29, 3) := by decide +kernel
theorem dX5_hasLevel_9 : decode cX5_hasLevel 9 = .ok (.if_icmp .ge 16, 3) := by decide +kernel
theorem dX5_hasLevel_12 : decode cX5_hasLevel 12 = .ok (.iload_n 1, 1) := by decide +kernel
theorem dX5_hasLevel_13 : decode cX5_hasLevel 13 = .ok (.aload_n 0, 1) := by decide +kernel
theorem dX5_hasLevel_14 : decode cX5_hasLevel 14 = .ok (.getfield 9, 3) := by decide +kernel
theorem dX5_hasLevel_17 : decode cX5_hasLevel 17 = .ok (.arraylength, 1) := by decide +kernel
theorem dX5_hasLevel_18 : decode cX5_hasLevel 18 = .ok (.if_icmp .ge 7, 3) := by decide +kernel
theorem dX5_hasLevel_21 : decode cX5_hasLevel 21 = .ok (.iconst 1, 1) := by decide +kernel
theorem dX5_hasLevel_22 : decode cX5_hasLevel 22 = .ok (.goto 4, 3) := by decide +kernel
theorem dX5_hasLevel_25 : decode cX5_hasLevel 25 = .ok (.iconst 0, 1) := by decide +kernel
theorem dX5_hasLevel_26 : decode cX5_hasLevel 26 = .ok (.ireturn, 1) := by decide +kernel
theorem dX5_bitrateOf_0 : decode cX5_bitrateOf 0 = .ok (.aload_n 0, 1) := by decide +kernel
theorem dX5_bitrateOf_1 : decode cX5_bitrateOf 1 = .ok (.iload_n 1, 1) := by decide +kernel
theorem dX5_bitrateOf_2 : decode cX5_bitrateOf 2 = .ok (.invokevirtual 32, 3) := by decide +kernel
theorem dX5_bitrateOf_5 : decode cX5_bitrateOf 5 = .ok (.ifCond .eq 12, 3) := by decide +kernel
theorem dX5_bitrateOf_8 : decode cX5_bitrateOf 8 = .ok (.aload_n 0, 1) := by decide +kernel
theorem dX5_bitrateOf_9 : decode cX5_bitrateOf 9 = .ok (.getfield 9, 3) := by decide +kernel
theorem dX5_bitrateOf_12 : decode cX5_bitrateOf 12 = .ok (.iload_n 1, 1) := by decide +kernel
theorem dX5_bitrateOf_13 : decode cX5_bitrateOf 13 = .ok (.iaload, 1) := by decide +kernel
theorem dX5_bitrateOf_14 : decode cX5_bitrateOf 14 = .ok (.goto 4, 3) := by decide +kernel
theorem dX5_bitrateOf_17 : decode cX5_bitrateOf 17 = .ok (.iconst 0, 1) := by decide +kernel
theorem dX5_bitrateOf_18 : decode cX5_bitrateOf 18 = .ok (.ireturn, 1) := by decide +kernel
theorem dX5_highestBitrate_0 : decode cX5_highestBitrate 0 = .ok (.aload_n 0, 1) := by decide +kernel
theorem dX5_highestBitrate_1 : decode cX5_highestBitrate 1 = .ok (.aload_n 0, 1) := by decide +kernel
theorem dX5_highestBitrate_2 : decode cX5_highestBitrate 2 = .ok (.getfield 29, 3) := by decide +kernel
theorem dX5_highestBitrate_5 : decode cX5_highestBitrate 5 = .ok (.iconst 1, 1) := by decide +kernel
theorem dX5_highestBitrate_6 : decode cX5_highestBitrate 6 = .ok (.isub, 1) := by decide +kernel
theorem dX5_highestBitrate_7 : decode cX5_highestBitrate 7 = .ok (.invokevirtual 36, 3) := by decide +kernel
theorem dX5_highestBitrate_10 : decode cX5_highestBitrate 10 = .ok (.ireturn, 1) := by decide +kernel
theorem dX5_highestLevelWithin_0 : decode cX5_highestLevelWithin 0 = .ok (.iload_n 2, 1) := by decide +kernel
theorem dX5_highestLevelWithin_1 : decode cX5_highestLevelWithin 1 = .ok (.aload_n 0, 1) := by decide +kernel
theorem dX5_highestLevelWithin_2 : decode cX5_highestLevelWithin 2 = .ok (.getfield 9, 3) := by decide +kernel
theorem dX5_highestLevelWithin_5 : decode cX5_highestLevelWithin 5 = .ok (.arraylength, 1) := by decide +kernel
theorem dX5_highestLevelWithin_6 : decode cX5_highestLevelWithin 6 = .ok (.iconst 1, 1) := by decide +kernel
theorem dX5_highestLevelWithin_7 : decode cX5_highestLevelWithin 7 = .ok (.isub, 1) := by decide +kernel
theorem dX5_highestLevelWithin_8 : decode cX5_highestLevelWithin 8 = .ok (.invokestatic 40, 3) := by decide +kernel
theorem dX5_highestLevelWithin_11 : decode cX5_highestLevelWithin 11 = .ok (.istore_n 3, 1) := by decide +kernel
theorem dX5_highestLevelWithin_12 : decode cX5_highestLevelWithin 12 = .ok (.iload_n 3, 1) := by decide +kernel
theorem dX5_highestLevelWithin_13 : decode cX5_highestLevelWithin 13 = .ok (.ifCond .le 21, 3) := by decide +kernel
theorem dX5_highestLevelWithin_16 : decode cX5_highestLevelWithin 16 = .ok (.aload_n 0, 1) := by decide +kernel
theorem dX5_highestLevelWithin_17 : decode cX5_highestLevelWithin 17 = .ok (.getfield 9, 3) := by decide +kernel
theorem dX5_highestLevelWithin_20 : decode cX5_highestLevelWithin 20 = .ok (.iload_n 3, 1) := by decide +kernel
theorem dX5_highestLevelWithin_21 : decode cX5_highestLevelWithin 21 = .ok (.iaload, 1) := by decide +kernel
theorem dX5_highestLevelWithin_22 : decode cX5_highestLevelWithin 22 = .ok (.iload_n 1, 1) := by decide +kernel
theorem dX5_highestLevelWithin_23 : decode cX5_highestLevelWithin 23 = .ok (.if_icmp .gt 5, 3) := by decide +kernel
theorem dX5_highestLevelWithin_26 : decode cX5_highestLevelWithin 26 = .ok (.iload_n 3, 1) := by decide +kernel
theorem dX5_highestLevelWithin_27 : decode cX5_highestLevelWithin 27 = .ok (.ireturn, 1) := by decide +kernel
theorem dX5_highestLevelWithin_28 : decode cX5_highestLevelWithin 28 = .ok (.iinc 3 (-1), 3) := by decide +kernel
theorem dX5_highestLevelWithin_31 : decode cX5_highestLevelWithin 31 = .ok (.goto (-19), 3) := by decide +kernel
theorem dX5_highestLevelWithin_34 : decode cX5_highestLevelWithin 34 = .ok (.iconst 0, 1) := by decide +kernel
theorem dX5_highestLevelWithin_35 : decode cX5_highestLevelWithin 35 = .ok (.ireturn, 1) := by decide +kernel
theorem dX5_variationOf_0 : decode cX5_variationOf 0 = .ok (.aload_n 0, 1) := by decide +kernel
theorem dX5_variationOf_1 : decode cX5_variationOf 1 = .ok (.iload_n 1, 1) := by decide +kernel
theorem dX5_variationOf_2 : decode cX5_variationOf 2 = .ok (.invokevirtual 46, 3) := by decide +kernel
theorem dX5_variationOf_5 : decode cX5_variationOf 5 = .ok (.ifCond .eq 12, 3) := by decide +kernel
theorem dX5_variationOf_8 : decode cX5_variationOf 8 = .ok (.aload_n 0, 1) := by decide +kernel
theorem dX5_variationOf_9 : decode cX5_variationOf 9 = .ok (.getfield 15, 3) := by decide +kernel
theorem dX5_variationOf_12 : decode cX5_variationOf 12 = .ok (.iload_n 1, 1) := by decide +kernel
theorem dX5_variationOf_13 : decode cX5_variationOf 13 = .ok (.iaload, 1) := by decide +kernel
theorem dX5_variationOf_14 : decode cX5_variationOf 14 = .ok (.goto 4, 3) := by decide +kernel
theorem dX5_variationOf_17 : decode cX5_variationOf 17 = .ok (.iconst 0, 1) := by decide +kernel
theorem dX5_variationOf_18 : decode cX5_variationOf 18 = .ok (.ireturn, 1) := by decide +kernel
theorem dX5_changeVariation_0 : decode cX5_changeVariation 0 = .ok (.aload_n 0, 1) := by decide +kernel
theorem dX5_changeVariation_1 : decode cX5_changeVariation 1 = .ok (.iload_n 1, 1) := by decide +kernel
theorem dX5_changeVariation_2 : decode cX5_changeVariation 2 = .ok (.invokevirtual 46, 3) := by decide +kernel
theorem dX5_changeVariation_5 : decode cX5_changeVariation 5 = .ok (.ifCond .eq 10, 3) := by decide +kernel
theorem dX5_changeVariation_8 : decode cX5_changeVariation 8 = .ok (.aload_n 0, 1) := by decide +kernel
theorem dX5_changeVariation_9 : decode cX5_changeVariation 9 = .ok (.getfield 15, 3) := by decide +kernel
theorem dX5_changeVariation_12 : decode cX5_changeVariation 12 = .ok (.iload_n 1, 1) := by decide +kernel
theorem dX5_changeVariation_13 : decode cX5_changeVariation 13 = .ok (.iload_n 2, 1) := by decide +kernel
theorem dX5_changeVariation_14 : decode cX5_changeVariation 14 = .ok (.iastore, 1) := by decide +kernel
theorem dX5_changeVariation_15 : decode cX5_changeVariation 15 = .ok (.return_, 1) := by decide +kernel
theorem dX5_sizeOf_0 : decode cX5_sizeOf 0 = .ok (.aload_n 0, 1) := by decide +kernel
theorem dX5_sizeOf_1 : decode cX5_sizeOf 1 = .ok (.iload_n 1, 1) := by decide +kernel
theorem dX5_sizeOf_2 : decode cX5_sizeOf 2 = .ok (.invokevirtual 36, 3) := by decide +kernel
theorem dX5_sizeOf_5 : decode cX5_sizeOf 5 = .ok (.i2l, 1) := by decide +kernel
theorem dX5_sizeOf_6 : decode cX5_sizeOf 6 = .ok (.aload_n 0, 1) := by decide +kernel
theorem dX5_sizeOf_7 : decode cX5_sizeOf 7 = .ok (.getfield 26, 3) := by decide +kernel
theorem dX5_sizeOf_10 : decode cX5_sizeOf 10 = .ok (.i2l, 1) := by decide +kernel
theorem dX5_sizeOf_11 : decode cX5_sizeOf 11 = .ok (.lmul, 1) := by decide +kernel
theorem dX5_sizeOf_12 : decode cX5_sizeOf 12 = .ok (.aload_n 0, 1) := by decide +kernel
theorem dX5_sizeOf_13 : decode cX5_sizeOf 13 = .ok (.iload_n 2, 1) := by decide +kernel
theorem dX5_sizeOf_14 : decode cX5_sizeOf 14 = .ok (.invokevirtual 49, 3) := by decide +kernel
theorem dX5_sizeOf_17 : decode cX5_sizeOf 17 = .ok (.i2l, 1) := by decide +kernel
theorem dX5_sizeOf_18 : decode cX5_sizeOf 18 = .ok (.lmul, 1) := by decide +kernel
theorem dX5_sizeOf_19 : decode cX5_sizeOf 19 = .ok (.ldc2_w 52, 3) := by decide +kernel
theorem dX5_sizeOf_22 : decode cX5_sizeOf 22 = .ok (.ldiv, 1) := by decide +kernel
theorem dX5_sizeOf_23 : decode cX5_sizeOf 23 = .ok (.l2i, 1) := by decide +kernel
theorem dX5_sizeOf_24 : decode cX5_sizeOf 24 = .ok (.ireturn, 1) := by decide +kernel
theorem dX6_init_0 : decode cX6_init 0 = .ok (.aload_n 0, 1) := by decide +kernel
theorem dX6_init_1 : decode cX6_init 1 = .ok (.invokespecial 3, 3) := by decide +kernel
theorem dX6_init_4 : decode cX6_init 4 = .ok (.aload_n 0, 1) := by decide +kernel
theorem dX6_init_5 : decode cX6_init 5 = .ok (.new 9, 3) := by decide +kernel
theorem dX6_init_8 : decode cX6_init 8 = .ok (.dup, 1) := by decide +kernel
theorem dX6_init_9 : decode cX6_init 9 = .ok (.invokespecial 11, 3) := by decide +kernel
theorem dX6_init_12 : decode cX6_init 12 = .ok (.putfield 12, 3) := by decide +kernel
theorem dX6_init_15 : decode cX6_init 15 = .ok (.aload_n 0, 1) := by decide +kernel
theorem dX6_init_16 : decode cX6_init 16 = .ok (.new 16, 3) := by decide +kernel
theorem dX6_init_19 : decode cX6_init 19 = .ok (.dup, 1) := by decide +kernel
theorem dX6_init_20 : decode cX6_init 20 = .ok (.invokespecial 18, 3) := by decide +kernel
theorem dX6_init_23 : decode cX6_init 23 = .ok (.putfield 19, 3) := by decide +kernel
theorem dX6_init_26 : decode cX6_init 26 = .ok (.aload_n 0, 1) := by decide +kernel
theorem dX6_init_27 : decode cX6_init 27 = .ok (.new 23, 3) := by decide +kernel
theorem dX6_init_30 : decode cX6_init 30 = .ok (.dup, 1) := by decide +kernel
theorem dX6_init_31 : decode cX6_init 31 = .ok (.invokespecial 25, 3) := by decide +kernel
theorem dX6_init_34 : decode cX6_init 34 = .ok (.putfield 26, 3) := by decide +kernel
theorem dX6_init_37 : decode cX6_init 37 = .ok (.aload_n 0, 1) := by decide +kernel
theorem dX6_init_38 : decode cX6_init 38 = .ok (.new 30, 3) := by decide +kernel
theorem dX6_init_41 : decode cX6_init 41 = .ok (.dup, 1) := by decide +kernel
theorem dX6_init_42 : decode cX6_init 42 = .ok (.aload_n 0, 1) := by decide +kernel
theorem dX6_init_43 : decode cX6_init 43 = .ok (.getfield 12, 3) := by decide +kernel
theorem dX6_init_46 : decode cX6_init 46 = .ok (.aload_n 0, 1) := by decide +kernel
theorem dX6_init_47 : decode cX6_init 47 = .ok (.getfield 19, 3) := by decide +kernel
theorem dX6_init_50 : decode cX6_init 50 = .ok (.aload_n 0, 1) := by decide +kernel
theorem dX6_init_51 : decode cX6_init 51 = .ok (.getfield 26, 3) := by decide +kernel
theorem dX6_init_54 : decode cX6_init 54 = .ok (.invokespecial 32, 3) := by decide +kernel
theorem dX6_init_57 : decode cX6_init 57 = .ok (.putfield 35, 3) := by decide +kernel
theorem dX6_init_60 : decode cX6_init 60 = .ok (.aload_n 0, 1) := by decide +kernel
theorem dX6_init_61 : decode cX6_init 61 = .ok (.new 30, 3) := by decide +kernel
theorem dX6_init_64 : decode cX6_init 64 = .ok (.dup, 1) := by decide +kernel
theorem dX6_init_65 : decode cX6_init 65 = .ok (.aload_n 0, 1) := by decide +kernel
theorem dX6_init_66 : decode cX6_init 66 = .ok (.getfield 12, 3) := by decide +kernel
theorem dX6_init_69 : decode cX6_init 69 = .ok (.aload_n 0, 1) := by decide +kernel
theorem dX6_init_70 : decode cX6_init 70 = .ok (.getfield 19, 3) := by decide +kernel
theorem dX6_init_73 : decode cX6_init 73 = .ok (.aload_n 0, 1) := by decide +kernel
theorem dX6_init_74 : decode cX6_init 74 = .ok (.getfield 26, 3) := by decide +kernel
theorem dX6_init_77 : decode cX6_init 77 = .ok (.invokespecial 32, 3) := by decide +kernel
theorem dX6_init_80 : decode cX6_init 80 = .ok (.putfield 39, 3) := by decide +kernel
theorem dX6_init_83 : decode cX6_init 83 = .ok (.aload_n 0, 1) := by decide +kernel
theorem dX6_init_84 : decode cX6_init 84 = .ok (.new 42, 3) := by decide +kernel
theorem dX6_init_87 : decode cX6_init 87 = .ok (.dup, 1) := by decide +kernel
theorem dX6_init_88 : decode cX6_init 88 = .ok (.invokespecial 44, 3) := by decide +kernel
theorem dX6_init_91 : decode cX6_init 91 = .ok (.putfield 45, 3) := by decide +kernel
theorem dX6_init_94 : decode cX6_init 94 = .ok (.aload_n 0, 1) := by decide +kernel
theorem dX6_init_95 : decode cX6_init 95 = .ok (.iconst 0, 1) := by decide +kernel
theorem dX6_init_96 : decode cX6_init 96 = .ok (.putfield 49, 3) := by decide +kernel
theorem dX6_init_99 : decode cX6_init 99 = .ok (.aload_n 0, 1) := by decide +kernel
theorem dX6_init_100 : decode cX6_init 100 = .ok (.iconst 4, 1) := by decide +kernel
theorem dX6_init_101 : decode cX6_init 101 = .ok (.putfield 53, 3) := by decide +kernel
theorem dX6_init_104 : decode cX6_init 104 = .ok (.return_, 1) := by decide +kernel
theorem dX6_setVideo_0 : decode cX6_setVideo 0 = .ok (.iload_n 1, 1) := by decide +kernel
theorem dX6_setVideo_1 : decode cX6_setVideo 1 = .ok (.iconst 1, 1) := by decide +kernel
theorem dX6_setVideo_2 : decode cX6_setVideo 2 = .ok (.bipush 30, 2) := by decide +kernel
theorem dX6_setVideo_4 : decode cX6_setVideo 4 = .ok (.invokestatic 56, 3) := by decide +kernel
theorem dX6_setVideo_7 : decode cX6_setVideo 7 = .ok (.ifCond .eq 15, 3) := by decide +kernel
theorem dX6_setVideo_10 : decode cX6_setVideo 10 = .ok (.iload_n 2, 1) := by decide +kernel
theorem dX6_setVideo_11 : decode cX6_setVideo 11 = .ok (.bipush 100, 2) := by decide +kernel
theorem dX6_setVideo_13 : decode cX6_setVideo 13 = .ok (.sipush 5000, 3) := by decide +kernel
theorem dX6_setVideo_16 : decode cX6_setVideo 16 = .ok (.invokestatic 56, 3) := by decide +kernel
theorem dX6_setVideo_19 : decode cX6_setVideo 19 = .ok (.ifCond .ne 5, 3) := by decide +kernel
theorem dX6_setVideo_22 : decode cX6_setVideo 22 = .ok (.iconst (-1), 1) := by decide +kernel
theorem dX6_setVideo_23 : decode cX6_setVideo 23 = .ok (.ireturn, 1) := by decide +kernel
theorem dX6_setVideo_24 : decode cX6_setVideo 24 = .ok (.aload_n 0, 1) := by decide +kernel
theorem dX6_setVideo_25 : decode cX6_setVideo 25 = .ok (.getfield 12, 3) := by decide +kernel
theorem dX6_setVideo_28 : decode cX6_setVideo 28 = .ok (.iload_n 1, 1) := by decide +kernel
theorem dX6_setVideo_29 : decode cX6_setVideo 29 = .ok (.iload_n 2, 1) := by decide +kernel
theorem dX6_setVideo_30 : decode cX6_setVideo 30 = .ok (.invokevirtual 60, 3) := by decide +kernel
theorem dX6_setVideo_33 : decode cX6_setVideo 33 = .ok (.aload_n 0, 1) := by decide +kernel
theorem dX6_setVideo_34 : decode cX6_setVideo 34 = .ok (.getfield 35, 3) := by decide +kernel
theorem dX6_setVideo_37 : decode cX6_setVideo 37 = .ok (.invokevirtual 64, 3) := by decide +kernel
theorem dX6_setVideo_40 : decode cX6_setVideo 40 = .ok (.iload_n 1, 1) := by decide +kernel
theorem dX6_setVideo_41 : decode cX6_setVideo 41 = .ok (.iload_n 2, 1) := by decide +kernel
theorem dX6_setVideo_42 : decode cX6_setVideo 42 = .ok (.imul, 1) := by decide +kernel
theorem dX6_setVideo_43 : decode cX6_setVideo 43 = .ok (.ireturn, 1) := by decide +kernel
theorem dX6_addLevel_0 : decode cX6_addLevel 0 = .ok (.iload_n 1, 1) := by decide +kernel
theorem dX6_addLevel_1 : decode cX6_addLevel 1 = .ok (.iconst 1, 1) := by decide +kernel
theorem dX6_addLevel_2 : decode cX6_addLevel 2 = .ok (.sipush 9000, 3) := by decide +kernel
theorem dX6_addLevel_5 : decode cX6_addLevel 5 = .ok (.invokestatic 56, 3) := by decide +kernel
theorem dX6_addLevel_8 : decode cX6_addLevel 8 = .ok (.ifCond .eq 14, 3) := by decide +kernel
theorem dX6_addLevel_11 : decode cX6_addLevel 11 = .ok (.iload_n 1, 1) := by decide +kernel
theorem dX6_addLevel_12 : decode cX6_addLevel 12 = .ok (.aload_n 0, 1) := by decide +kernel
theorem dX6_addLevel_13 : decode cX6_addLevel 13 = .ok (.getfield 12, 3) := by decide +kernel
theorem dX6_addLevel_16 : decode cX6_addLevel 16 = .ok (.invokevirtual 67, 3) := by decide +kernel
theorem dX6_addLevel_19 : decode cX6_addLevel 19 = .ok (.if_icmp .gt 5, 3) := by decide +kernel
theorem dX6_addLevel_22 : decode cX6_addLevel 22 = .ok (.iconst (-1), 1) := by decide +kernel
theorem dX6_addLevel_23 : decode cX6_addLevel 23 = .ok (.ireturn, 1) := by decide +kernel
theorem dX6_addLevel_24 : decode cX6_addLevel 24 = .ok (.aload_n 0, 1) := by decide +kernel
theorem dX6_addLevel_25 : decode cX6_addLevel 25 = .ok (.getfield 12, 3) := by decide +kernel
theorem dX6_addLevel_28 : decode cX6_addLevel 28 = .ok (.getfield 71, 3) := by decide +kernel
theorem dX6_addLevel_31 : decode cX6_addLevel 31 = .ok (.iconst 5, 1) := by decide +kernel
theorem dX6_addLevel_32 : decode cX6_addLevel 32 = .ok (.if_icmp .lt 6, 3) := by decide +kernel
theorem dX6_addLevel_35 : decode cX6_addLevel 35 = .ok (.bipush (-3), 2) := by decide +kernel
theorem dX6_addLevel_37 : decode cX6_addLevel 37 = .ok (.ireturn, 1) := by decide +kernel
theorem dX6_addLevel_38 : decode cX6_addLevel 38 = .ok (.aload_n 0, 1) := by decide +kernel
theorem dX6_addLevel_39 : decode cX6_addLevel 39 = .ok (.getfield 12, 3) := by decide +kernel
theorem dX6_addLevel_42 : decode cX6_addLevel 42 = .ok (.iload_n 1, 1) := by decide +kernel
theorem dX6_addLevel_43 : decode cX6_addLevel 43 = .ok (.invokevirtual 74, 3) := by decide +kernel
theorem dX6_addLevel_46 : decode cX6_addLevel 46 = .ok (.aload_n 0, 1) := by decide +kernel
theorem dX6_addLevel_47 : decode cX6_addLevel 47 = .ok (.getfield 35, 3) := by decide +kernel
theorem dX6_addLevel_50 : decode cX6_addLevel 50 = .ok (.invokevirtual 64, 3) := by decide +kernel
theorem dX6_addLevel_53 : decode cX6_addLevel 53 = .ok (.aload_n 0, 1) := by decide +kernel
theorem dX6_addLevel_54 : decode cX6_addLevel 54 = .ok (.getfield 12, 3) := by decide +kernel
theorem dX6_addLevel_57 : decode cX6_addLevel 57 = .ok (.getfield 71, 3) := by decide +kernel
theorem dX6_addLevel_60 : decode cX6_addLevel 60 = .ok (.iconst 1, 1) := by decide +kernel
theorem dX6_addLevel_61 : decode cX6_addLevel 61 = .ok (.isub, 1) := by decide +kernel
theorem dX6_addLevel_62 : decode cX6_addLevel 62 = .ok (.ireturn, 1) := by decide +kernel
theorem dX6_setVariation_0 : decode cX6_setVariation 0 = .ok (.aload_n 0, 1) := by decide +kernel
theorem dX6_setVariation_1 : decode cX6_setVariation 1 = .ok (.getfield 12, 3) := by decide +kernel
theorem dX6_setVariation_4 : decode cX6_setVariation 4 = .ok (.iload_n 1, 1) := by decide +kernel
theorem dX6_setVariation_5 : decode cX6_setVariation 5 = .ok (.invokevirtual 78, 3) := by decide +kernel
theorem dX6_setVariation_8 : decode cX6_setVariation 8 = .ok (.ifCond .ne 6, 3) := by decide +kernel
theorem dX6_setVariation_11 : decode cX6_setVariation 11 = .ok (.bipush (-2), 2) := by decide +kernel
theorem dX6_setVariation_13 : decode cX6_setVariation 13 = .ok (.ireturn, 1) := by decide +kernel
theorem dX6_setVariation_14 : decode cX6_setVariation 14 = .ok (.iload_n 2, 1) := by decide +kernel
theorem dX6_setVariation_15 : decode cX6_setVariation 15 = .ok (.iconst 0, 1) := by decide +kernel
theorem dX6_setVariation_16 : decode cX6_setVariation 16 = .ok (.sipush 300, 3) := by decide +kernel
theorem dX6_setVariation_19 : decode cX6_setVariation 19 = .ok (.invokestatic 56, 3) := by decide +kernel
theorem dX6_setVariation_22 : decode cX6_setVariation 22 = .ok (.ifCond .ne 5, 3) := by decide +kernel
theorem dX6_setVariation_25 : decode cX6_setVariation 25 = .ok (.iconst (-1), 1) := by decide +kernel
theorem dX6_setVariation_26 : decode cX6_setVariation 26 = .ok (.ireturn, 1) := by decide +kernel
theorem dX6_setVariation_27 : decode cX6_setVariation 27 = .ok (.aload_n 0, 1) := by decide +kernel
theorem dX6_setVariation_28 : decode cX6_setVariation 28 = .ok (.getfield 12, 3) := by decide +kernel
theorem dX6_setVariation_31 : decode cX6_setVariation 31 = .ok (.iload_n 1, 1) := by decide +kernel
theorem dX6_setVariation_32 : decode cX6_setVariation 32 = .ok (.invokevirtual 82, 3) := by decide +kernel
theorem dX6_setVariation_35 : decode cX6_setVariation 35 = .ok (.istore_n 3, 1) := by decide +kernel
theorem dX6_setVariation_36 : decode cX6_setVariation 36 = .ok (.aload_n 0, 1) := by decide +kernel
theorem dX6_setVariation_37 : decode cX6_setVariation 37 = .ok (.getfield 12, 3) := by decide +kernel
theorem dX6_setVariation_40 : decode cX6_setVariation 40 = .ok (.iload_n 1, 1) := by decide +kernel
theorem dX6_setVariation_41 : decode cX6_setVariation 41 = .ok (.iload_n 2, 1) := by decide +kernel
theorem dX6_setVariation_42 : decode cX6_setVariation 42 = .ok (.invokevirtual 86, 3) := by decide +kernel
theorem dX6_setVariation_45 : decode cX6_setVariation 45 = .ok (.iload_n 3, 1) := by decide +kernel
theorem dX6_setVariation_46 : decode cX6_setVariation 46 = .ok (.ireturn, 1) := by decide +kernel
theorem dX6_addPeriod_0 : decode cX6_addPeriod 0 = .ok (.iload_n 1, 1) := by decide +kernel
theorem dX6_addPeriod_1 : decode cX6_addPeriod 1 = .ok (.iconst 1, 1) := by decide +kernel
theorem dX6_addPeriod_2 : decode cX6_addPeriod 2 = .ok (.ldc 89, 2) := by decide +kernel
theorem dX6_addPeriod_4 : decode cX6_addPeriod 4 = .ok (.invokestatic 56, 3) := by decide +kernel
theorem dX6_addPeriod_7 : decode cX6_addPeriod 7 = .ok (.ifCond .eq 14, 3) := by decide +kernel
theorem dX6_addPeriod_10 : decode cX6_addPeriod 10 = .ok (.iload_n 2, 1) := by decide +kernel
theorem dX6_addPeriod_11 : decode cX6_addPeriod 11 = .ok (.iconst 0, 1) := by decide +kernel
theorem dX6_addPeriod_12 : decode cX6_addPeriod 12 = .ok (.sipush 9000, 3) := by decide +kernel
theorem dX6_addPeriod_15 : decode cX6_addPeriod 15 = .ok (.invokestatic 56, 3) := by decide +kernel
theorem dX6_addPeriod_18 : decode cX6_addPeriod 18 = .ok (.ifCond .ne 5, 3) := by decide +kernel
theorem dX6_addPeriod_21 : decode cX6_addPeriod 21 = .ok (.iconst (-1), 1) := by decide +kernel
theorem dX6_addPeriod_22 : decode cX6_addPeriod 22 = .ok (.ireturn, 1) := by decide +kernel
theorem dX6_addPeriod_23 : decode cX6_addPeriod 23 = .ok (.aload_n 0, 1) := by decide +kernel
theorem dX6_addPeriod_24 : decode cX6_addPeriod 24 = .ok (.getfield 19, 3) := by decide +kernel
theorem dX6_addPeriod_27 : decode cX6_addPeriod 27 = .ok (.getfield 90, 3) := by decide +kernel
theorem dX6_addPeriod_30 : decode cX6_addPeriod 30 = .ok (.bipush 12, 2) := by decide +kernel
theorem dX6_addPeriod_32 : decode cX6_addPeriod 32 = .ok (.if_icmp .lt 6, 3) := by decide +kernel
theorem dX6_addPeriod_35 : decode cX6_addPeriod 35 = .ok (.bipush (-3), 2) := by decide +kernel
theorem dX6_addPeriod_37 : decode cX6_addPeriod 37 = .ok (.ireturn, 1) := by decide +kernel
theorem dX6_addPeriod_38 : decode cX6_addPeriod 38 = .ok (.aload_n 0, 1) := by decide +kernel
theorem dX6_addPeriod_39 : decode cX6_addPeriod 39 = .ok (.getfield 19, 3) := by decide +kernel
theorem dX6_addPeriod_42 : decode cX6_addPeriod 42 = .ok (.iload_n 1, 1) := by decide +kernel
theorem dX6_addPeriod_43 : decode cX6_addPeriod 43 = .ok (.iload_n 2, 1) := by decide +kernel
theorem dX6_addPeriod_44 : decode cX6_addPeriod 44 = .ok (.invokevirtual 93, 3) := by decide +kernel
theorem dX6_addPeriod_47 : decode cX6_addPeriod 47 = .ok (.aload_n 0, 1) := by decide +kernel
theorem dX6_addPeriod_48 : decode cX6_addPeriod 48 = .ok (.getfield 19, 3) := by decide +kernel
theorem dX6_addPeriod_51 : decode cX6_addPeriod 51 = .ok (.getfield 90, 3) := by decide +kernel
theorem dX6_addPeriod_54 : decode cX6_addPeriod 54 = .ok (.ireturn, 1) := by decide +kernel
theorem dX6_setBuffer_0 : decode cX6_setBuffer 0 = .ok (.iload_n 1, 1) := by decide +kernel
theorem dX6_setBuffer_1 : decode cX6_setBuffer 1 = .ok (.bipush 100, 2) := by decide +kernel
theorem dX6_setBuffer_3 : decode cX6_setBuffer 3 = .ok (.ldc 89, 2) := by decide +kernel
theorem dX6_setBuffer_5 : decode cX6_setBuffer 5 = .ok (.invokestatic 56, 3) := by decide +kernel
theorem dX6_setBuffer_8 : decode cX6_setBuffer 8 = .ok (.ifCond .eq 12, 3) := by decide +kernel
theorem dX6_setBuffer_11 : decode cX6_setBuffer 11 = .ok (.iload_n 2, 1) := by decide +kernel
theorem dX6_setBuffer_12 : decode cX6_setBuffer 12 = .ok (.iconst 1, 1) := by decide +kernel
theorem dX6_setBuffer_13 : decode cX6_setBuffer 13 = .ok (.iload_n 1, 1) := by decide +kernel
theorem dX6_setBuffer_14 : decode cX6_setBuffer 14 = .ok (.invokestatic 56, 3) := by decide +kernel
theorem dX6_setBuffer_17 : decode cX6_setBuffer 17 = .ok (.ifCond .ne 5, 3) := by decide +kernel
theorem dX6_setBuffer_20 : decode cX6_setBuffer 20 = .ok (.iconst (-1), 1) := by decide +kernel
theorem dX6_setBuffer_21 : decode cX6_setBuffer 21 = .ok (.ireturn, 1) := by decide +kernel
theorem dX6_setBuffer_22 : decode cX6_setBuffer 22 = .ok (.aload_n 0, 1) := by decide +kernel
theorem dX6_setBuffer_23 : decode cX6_setBuffer 23 = .ok (.getfield 26, 3) := by decide +kernel
theorem dX6_setBuffer_26 : decode cX6_setBuffer 26 = .ok (.iload_n 1, 1) := by decide +kernel
theorem dX6_setBuffer_27 : decode cX6_setBuffer 27 = .ok (.iload_n 2, 1) := by decide +kernel
theorem dX6_setBuffer_28 : decode cX6_setBuffer 28 = .ok (.invokevirtual 96, 3) := by decide +kernel
theorem dX6_setBuffer_31 : decode cX6_setBuffer 31 = .ok (.invokestatic 100, 3) := by decide +kernel
theorem dX6_setBuffer_34 : decode cX6_setBuffer 34 = .ok (.ireturn, 1) := by decide +kernel
theorem dX6_setPolicyNumbers_0 : decode cX6_setPolicyNumbers 0 = .ok (.iload_n 1, 1) := by decide +kernel
theorem dX6_setPolicyNumbers_1 : decode cX6_setPolicyNumbers 1 = .ok (.iconst 1, 1) := by decide +kernel
theorem dX6_setPolicyNumbers_2 : decode cX6_setPolicyNumbers 2 = .ok (.sipush 200, 3) := by decide +kernel
theorem dX6_setPolicyNumbers_5 : decode cX6_setPolicyNumbers 5 = .ok (.invokestatic 56, 3) := by decide +kernel
theorem dX6_setPolicyNumbers_8 : decode cX6_setPolicyNumbers 8 = .ok (.ifCond .eq 23, 3) := by decide +kernel
theorem dX6_setPolicyNumbers_11 : decode cX6_setPolicyNumbers 11 = .ok (.iload_n 2, 1) := by decide +kernel
theorem dX6_setPolicyNumbers_12 : decode cX6_setPolicyNumbers 12 = .ok (.iconst 0, 1) := by decide +kernel
theorem dX6_setPolicyNumbers_13 : decode cX6_setPolicyNumbers 13 = .ok (.ldc 89, 2) := by decide +kernel
theorem dX6_setPolicyNumbers_15 : decode cX6_setPolicyNumbers 15 = .ok (.invokestatic 56, 3) := by decide +kernel
theorem dX6_setPolicyNumbers_18 : decode cX6_setPolicyNumbers 18 = .ok (.ifCond .eq 13, 3) := by decide +kernel
theorem dX6_setPolicyNumbers_21 : decode cX6_setPolicyNumbers 21 = .ok (.iload_n 3, 1) := by decide +kernel
theorem dX6_setPolicyNumbers_22 : decode cX6_setPolicyNumbers 22 = .ok (.iconst 1, 1) := by decide +kernel
theorem dX6_setPolicyNumbers_23 : decode cX6_setPolicyNumbers 23 = .ok (.ldc 89, 2) := by decide +kernel
theorem dX6_setPolicyNumbers_25 : decode cX6_setPolicyNumbers 25 = .ok (.invokestatic 56, 3) := by decide +kernel
theorem dX6_setPolicyNumbers_28 : decode cX6_setPolicyNumbers 28 = .ok (.ifCond .ne 5, 3) := by decide +kernel
theorem dX6_setPolicyNumbers_31 : decode cX6_setPolicyNumbers 31 = .ok (.iconst (-1), 1) := by decide +kernel
theorem dX6_setPolicyNumbers_32 : decode cX6_setPolicyNumbers 32 = .ok (.ireturn, 1) := by decide +kernel
theorem dX6_setPolicyNumbers_33 : decode cX6_setPolicyNumbers 33 = .ok (.aload_n 0, 1) := by decide +kernel
theorem dX6_setPolicyNumbers_34 : decode cX6_setPolicyNumbers 34 = .ok (.getfield 26, 3) := by decide +kernel
theorem dX6_setPolicyNumbers_37 : decode cX6_setPolicyNumbers 37 = .ok (.iload_n 1, 1) := by decide +kernel
theorem dX6_setPolicyNumbers_38 : decode cX6_setPolicyNumbers 38 = .ok (.iload_n 2, 1) := by decide +kernel
theorem dX6_setPolicyNumbers_39 : decode cX6_setPolicyNumbers 39 = .ok (.iload_n 3, 1) := by decide +kernel
theorem dX6_setPolicyNumbers_40 : decode cX6_setPolicyNumbers 40 = .ok (.invokevirtual 104, 3) := by decide +kernel
theorem dX6_setPolicyNumbers_43 : decode cX6_setPolicyNumbers 43 = .ok (.invokestatic 100, 3) := by decide +kernel
theorem dX6_setPolicyNumbers_46 : decode cX6_setPolicyNumbers 46 = .ok (.ireturn, 1) := by decide +kernel
theorem dX6_typeKey_0 : decode cX6_typeKey 0 = .ok (.iload_n 1, 1) := by decide +kernel
theorem dX6_typeKey_1 : decode cX6_typeKey 1 = .ok (.bipush 32, 2) := by decide +kernel
theorem dX6_typeKey_3 : decode cX6_typeKey 3 = .ok (.bipush 126, 2) := by decide +kernel
theorem dX6_typeKey_5 : decode cX6_typeKey 5 = .ok (.invokestatic 56, 3) := by decide +kernel
theorem dX6_typeKey_8 : decode cX6_typeKey 8 = .ok (.ifCond .ne 5, 3) := by decide +kernel
theorem dX6_typeKey_11 : decode cX6_typeKey 11 = .ok (.iconst (-1), 1) := by decide +kernel
theorem dX6_typeKey_12 : decode cX6_typeKey 12 = .ok (.ireturn, 1) := by decide +kernel
theorem dX6_typeKey_13 : decode cX6_typeKey 13 = .ok (.aload_n 0, 1) := by decide +kernel
theorem dX6_typeKey_14 : decode cX6_typeKey 14 = .ok (.getfield 45, 3) := by decide +kernel
theorem dX6_typeKey_17 : decode cX6_typeKey 17 = .ok (.invokevirtual 107, 3) := by decide +kernel
theorem dX6_typeKey_20 : decode cX6_typeKey 20 = .ok (.bipush 16, 2) := by decide +kernel
theorem dX6_typeKey_22 : decode cX6_typeKey 22 = .ok (.if_icmp .lt 6, 3) := by decide +kernel
theorem dX6_typeKey_25 : decode cX6_typeKey 25 = .ok (.bipush (-3), 2) := by decide +kernel
theorem dX6_typeKey_27 : decode cX6_typeKey 27 = .ok (.ireturn, 1) := by decide +kernel
theorem dX6_typeKey_28 : decode cX6_typeKey 28 = .ok (.aload_n 0, 1) := by decide +kernel
theorem dX6_typeKey_29 : decode cX6_typeKey 29 = .ok (.getfield 45, 3) := by decide +kernel
theorem dX6_typeKey_32 : decode cX6_typeKey 32 = .ok (.iload_n 1, 1) := by decide +kernel
theorem dX6_typeKey_33 : decode cX6_typeKey 33 = .ok (.i2c, 1) := by decide +kernel
theorem dX6_typeKey_34 : decode cX6_typeKey 34 = .ok (.invokevirtual 110, 3) := by decide +kernel
theorem dX6_typeKey_37 : decode cX6_typeKey 37 = .ok (.pop, 1) := by decide +kernel
theorem dX6_typeKey_38 : decode cX6_typeKey 38 = .ok (.aload_n 0, 1) := by decide +kernel
theorem dX6_typeKey_39 : decode cX6_typeKey 39 = .ok (.getfield 45, 3) := by decide +kernel
theorem dX6_typeKey_42 : decode cX6_typeKey 42 = .ok (.invokevirtual 107, 3) := by decide +kernel
theorem dX6_typeKey_45 : decode cX6_typeKey 45 = .ok (.ireturn, 1) := by decide +kernel
theorem dX6_runCommand_0 : decode cX6_runCommand 0 = .ok (.aload_n 0, 1) := by decide +kernel
theorem dX6_runCommand_1 : decode cX6_runCommand 1 = .ok (.getfield 45, 3) := by decide +kernel
theorem dX6_runCommand_4 : decode cX6_runCommand 4 = .ok (.invokevirtual 114, 3) := by decide +kernel
theorem dX6_runCommand_7 : decode cX6_runCommand 7 = .ok (.astore_n 1, 1) := by decide +kernel
theorem dX6_runCommand_8 : decode cX6_runCommand 8 = .ok (.aload_n 0, 1) := by decide +kernel
theorem dX6_runCommand_9 : decode cX6_runCommand 9 = .ok (.getfield 45, 3) := by decide +kernel
theorem dX6_runCommand_12 : decode cX6_runCommand 12 = .ok (.iconst 0, 1) := by decide +kernel
theorem dX6_runCommand_13 : decode cX6_runCommand 13 = .ok (.invokevirtual 118, 3) := by decide +kernel
theorem dX6_runCommand_16 : decode cX6_runCommand 16 = .ok (.aload_n 1, 1) := by decide +kernel
theorem dX6_runCommand_17 : decode cX6_runCommand 17 = .ok (.bipush 32, 2) := by decide +kernel
theorem dX6_runCommand_19 : decode cX6_runCommand 19 = .ok (.invokevirtual 121, 3) := by decide +kernel
theorem dX6_runCommand_22 : decode cX6_runCommand 22 = .ok (.istore_n 2, 1) := by decide +kernel
theorem dX6_runCommand_23 : decode cX6_runCommand 23 = .ok (.iload_n 2, 1) := by decide +kernel
theorem dX6_runCommand_24 : decode cX6_runCommand 24 = .ok (.ifCond .ge 9, 3) := by decide +kernel
theorem dX6_runCommand_27 : decode cX6_runCommand 27 = .ok (.aload_n 0, 1) := by decide +kernel
theorem dX6_runCommand_28 : decode cX6_runCommand 28 = .ok (.aload_n 1, 1) := by decide +kernel
theorem dX6_runCommand_29 : decode cX6_runCommand 29 = .ok (.invokevirtual 126, 3) := by decide +kernel
theorem dX6_runCommand_32 : decode cX6_runCommand 32 = .ok (.ireturn, 1) := by decide +kernel
theorem dX6_runCommand_33 : decode cX6_runCommand 33 = .ok (.aload_n 0, 1) := by decide +kernel
theorem dX6_runCommand_34 : decode cX6_runCommand 34 = .ok (.aload_n 1, 1) := by decide +kernel
theorem dX6_runCommand_35 : decode cX6_runCommand 35 = .ok (.iconst 0, 1) := by decide +kernel
theorem dX6_runCommand_36 : decode cX6_runCommand 36 = .ok (.iload_n 2, 1) := by decide +kernel
theorem dX6_runCommand_37 : decode cX6_runCommand 37 = .ok (.invokevirtual 130, 3) := by decide +kernel
theorem dX6_runCommand_40 : decode cX6_runCommand 40 = .ok (.aload_n 1, 1) := by decide +kernel
theorem dX6_runCommand_41 : decode cX6_runCommand 41 = .ok (.iload_n 2, 1) := by decide +kernel
theorem dX6_runCommand_42 : decode cX6_runCommand 42 = .ok (.iconst 1, 1) := by decide +kernel
theorem dX6_runCommand_43 : decode cX6_runCommand 43 = .ok (.iadd, 1) := by decide +kernel
theorem dX6_runCommand_44 : decode cX6_runCommand 44 = .ok (.invokevirtual 134, 3) := by decide +kernel
theorem dX6_runCommand_47 : decode cX6_runCommand 47 = .ok (.invokevirtual 137, 3) := by decide +kernel
theorem dX6_runCommand_50 : decode cX6_runCommand 50 = .ok (.ireturn, 1) := by decide +kernel
theorem dX6_restart_0 : decode cX6_restart 0 = .ok (.aload_n 0, 1) := by decide +kernel
theorem dX6_restart_1 : decode cX6_restart 1 = .ok (.getfield 35, 3) := by decide +kernel
theorem dX6_restart_4 : decode cX6_restart 4 = .ok (.getfield 141, 3) := by decide +kernel
theorem dX6_restart_7 : decode cX6_restart 7 = .ok (.istore_n 1, 1) := by decide +kernel
theorem dX6_restart_8 : decode cX6_restart 8 = .ok (.aload_n 0, 1) := by decide +kernel
theorem dX6_restart_9 : decode cX6_restart 9 = .ok (.getfield 35, 3) := by decide +kernel
theorem dX6_restart_12 : decode cX6_restart 12 = .ok (.invokevirtual 64, 3) := by decide +kernel
theorem dX6_restart_15 : decode cX6_restart 15 = .ok (.iload_n 1, 1) := by decide +kernel
theorem dX6_restart_16 : decode cX6_restart 16 = .ok (.ireturn, 1) := by decide +kernel
theorem dX6_advance_0 : decode cX6_advance 0 = .ok (.iload_n 1, 1) := by decide +kernel
theorem dX6_advance_1 : decode cX6_advance 1 = .ok (.iconst 1, 1) := by decide +kernel
theorem dX6_advance_2 : decode cX6_advance 2 = .ok (.ldc 89, 2) := by decide +kernel
theorem dX6_advance_4 : decode cX6_advance 4 = .ok (.invokestatic 56, 3) := by decide +kernel
theorem dX6_advance_7 : decode cX6_advance 7 = .ok (.ifCond .ne 5, 3) := by decide +kernel
theorem dX6_advance_10 : decode cX6_advance 10 = .ok (.iconst (-1), 1) := by decide +kernel
theorem dX6_advance_11 : decode cX6_advance 11 = .ok (.ireturn, 1) := by decide +kernel
theorem dX6_advance_12 : decode cX6_advance 12 = .ok (.aload_n 0, 1) := by decide +kernel
theorem dX6_advance_13 : decode cX6_advance 13 = .ok (.getfield 12, 3) := by decide +kernel
theorem dX6_advance_16 : decode cX6_advance 16 = .ok (.getfield 71, 3) := by decide +kernel
theorem dX6_advance_19 : decode cX6_advance 19 = .ok (.ifCond .ne 6, 3) := by decide +kernel
theorem dX6_advance_22 : decode cX6_advance 22 = .ok (.bipush (-4), 2) := by decide +kernel
theorem dX6_advance_24 : decode cX6_advance 24 = .ok (.ireturn, 1) := by decide +kernel
theorem dX6_advance_25 : decode cX6_advance 25 = .ok (.iconst 0, 1) := by decide +kernel
theorem dX6_advance_26 : decode cX6_advance 26 = .ok (.istore_n 2, 1) := by decide +kernel
theorem dX6_advance_27 : decode cX6_advance 27 = .ok (.iconst 0, 1) := by decide +kernel
theorem dX6_advance_28 : decode cX6_advance 28 = .ok (.istore_n 3, 1) := by decide +kernel
theorem dX6_advance_29 : decode cX6_advance 29 = .ok (.iload_n 3, 1) := by decide +kernel
theorem dX6_advance_30 : decode cX6_advance 30 = .ok (.iload_n 1, 1) := by decide +kernel
theorem dX6_advance_31 : decode cX6_advance 31 = .ok (.if_icmp .ge 30, 3) := by decide +kernel
theorem dX6_advance_34 : decode cX6_advance 34 = .ok (.aload_n 0, 1) := by decide +kernel
theorem dX6_advance_35 : decode cX6_advance 35 = .ok (.getfield 35, 3) := by decide +kernel
theorem dX6_advance_38 : decode cX6_advance 38 = .ok (.aload_n 0, 1) := by decide +kernel
theorem dX6_advance_39 : decode cX6_advance 39 = .ok (.getfield 49, 3) := by decide +kernel
theorem dX6_advance_42 : decode cX6_advance 42 = .ok (.aload_n 0, 1) := by decide +kernel
theorem dX6_advance_43 : decode cX6_advance 43 = .ok (.getfield 53, 3) := by decide +kernel
theorem dX6_advance_46 : decode cX6_advance 46 = .ok (.invokevirtual 144, 3) := by decide +kernel
theorem dX6_advance_49 : decode cX6_advance 49 = .ok (.ifCond .eq 6, 3) := by decide +kernel
theorem dX6_advance_52 : decode cX6_advance 52 = .ok (.iinc 2 1, 3) := by decide +kernel
theorem dX6_advance_55 : decode cX6_advance 55 = .ok (.iinc 3 1, 3) := by decide +kernel
theorem dX6_advance_58 : decode cX6_advance 58 = .ok (.goto (-29), 3) := by decide +kernel
theorem dX6_advance_61 : decode cX6_advance 61 = .ok (.iload_n 2, 1) := by decide +kernel
theorem dX6_advance_62 : decode cX6_advance 62 = .ok (.ireturn, 1) := by decide +kernel
theorem dX6_time_0 : decode cX6_time 0 = .ok (.aload_n 0, 1) := by decide +kernel
theorem dX6_time_1 : decode cX6_time 1 = .ok (.getfield 35, 3) := by decide +kernel
theorem dX6_time_4 : decode cX6_time 4 = .ok (.getfield 141, 3) := by decide +kernel
theorem dX6_time_7 : decode cX6_time 7 = .ok (.ireturn, 1) := by decide +kernel
theorem dX6_position_0 : decode cX6_position 0 = .ok (.aload_n 0, 1) := by decide +kernel
theorem dX6_position_1 : decode cX6_position 1 = .ok (.getfield 35, 3) := by decide +kernel
theorem dX6_position_4 : decode cX6_position 4 = .ok (.getfield 147, 3) := by decide +kernel
theorem dX6_position_7 : decode cX6_position 7 = .ok (.ireturn, 1) := by decide +kernel
theorem dX6_bufferLevel_0 : decode cX6_bufferLevel 0 = .ok (.aload_n 0, 1) := by decide +kernel
theorem dX6_bufferLevel_1 : decode cX6_bufferLevel 1 = .ok (.getfield 35, 3) := by decide +kernel
theorem dX6_bufferLevel_4 : decode cX6_bufferLevel 4 = .ok (.getfield 150, 3) := by decide +kernel
theorem dX6_bufferLevel_7 : decode cX6_bufferLevel 7 = .ok (.ireturn, 1) := by decide +kernel
theorem dX6_state_0 : decode cX6_state 0 = .ok (.aload_n 0, 1) := by decide +kernel
theorem dX6_state_1 : decode cX6_state 1 = .ok (.getfield 35, 3) := by decide +kernel
theorem dX6_state_4 : decode cX6_state 4 = .ok (.getfield 153, 3) := by decide +kernel
theorem dX6_state_7 : decode cX6_state 7 = .ok (.ireturn, 1) := by decide +kernel
theorem dX6_isPaused_0 : decode cX6_isPaused 0 = .ok (.aload_n 0, 1) := by decide +kernel
theorem dX6_isPaused_1 : decode cX6_isPaused 1 = .ok (.getfield 35, 3) := by decide +kernel
theorem dX6_isPaused_4 : decode cX6_isPaused 4 = .ok (.getfield 156, 3) := by decide +kernel
theorem dX6_isPaused_7 : decode cX6_isPaused 7 = .ok (.invokestatic 100, 3) := by decide +kernel
theorem dX6_isPaused_10 : decode cX6_isPaused 10 = .ok (.ireturn, 1) := by decide +kernel
theorem dX6_downloadingSegment_0 : decode cX6_downloadingSegment 0 = .ok (.aload_n 0, 1) := by decide +kernel
theorem dX6_downloadingSegment_1 : decode cX6_downloadingSegment 1 = .ok (.getfield 35, 3) := by decide +kernel
theorem dX6_downloadingSegment_4 : decode cX6_downloadingSegment 4 = .ok (.getfield 160, 3) := by decide +kernel
theorem dX6_downloadingSegment_7 : decode cX6_downloadingSegment 7 = .ok (.getfield 164, 3) := by decide +kernel
theorem dX6_downloadingSegment_10 : decode cX6_downloadingSegment 10 = .ok (.ifCond .eq 13, 3) := by decide +kernel
theorem dX6_downloadingSegment_13 : decode cX6_downloadingSegment 13 = .ok (.aload_n 0, 1) := by decide +kernel
theorem dX6_downloadingSegment_14 : decode cX6_downloadingSegment 14 = .ok (.getfield 35, 3) := by decide +kernel
theorem dX6_downloadingSegment_17 : decode cX6_downloadingSegment 17 = .ok (.getfield 169, 3) := by decide +kernel
theorem dX6_downloadingSegment_20 : decode cX6_downloadingSegment 20 = .ok (.goto 5, 3) := by decide +kernel
theorem dX6_downloadingSegment_23 : decode cX6_downloadingSegment 23 = .ok (.bipush (-6), 2) := by decide +kernel
theorem dX6_downloadingSegment_25 : decode cX6_downloadingSegment 25 = .ok (.ireturn, 1) := by decide +kernel
theorem dX6_segmentLevel_0 : decode cX6_segmentLevel 0 = .ok (.aload_n 0, 1) := by decide +kernel
theorem dX6_segmentLevel_1 : decode cX6_segmentLevel 1 = .ok (.getfield 12, 3) := by decide +kernel
theorem dX6_segmentLevel_4 : decode cX6_segmentLevel 4 = .ok (.iload_n 1, 1) := by decide +kernel
theorem dX6_segmentLevel_5 : decode cX6_segmentLevel 5 = .ok (.invokevirtual 78, 3) := by decide +kernel
theorem dX6_segmentLevel_8 : decode cX6_segmentLevel 8 = .ok (.ifCond .ne 6, 3) := by decide +kernel
theorem dX6_segmentLevel_11 : decode cX6_segmentLevel 11 = .ok (.bipush (-2), 2) := by decide +kernel
theorem dX6_segmentLevel_13 : decode cX6_segmentLevel 13 = .ok (.ireturn, 1) := by decide +kernel
theorem dX6_segmentLevel_14 : decode cX6_segmentLevel 14 = .ok (.aload_n 0, 1) := by decide +kernel
theorem dX6_segmentLevel_15 : decode cX6_segmentLevel 15 = .ok (.getfield 35, 3) := by decide +kernel
theorem dX6_segmentLevel_18 : decode cX6_segmentLevel 18 = .ok (.iload_n 1, 1) := by decide +kernel
theorem dX6_segmentLevel_19 : decode cX6_segmentLevel 19 = .ok (.invokevirtual 172, 3) := by decide +kernel
theorem dX6_segmentLevel_22 : decode cX6_segmentLevel 22 = .ok (.ireturn, 1) := by decide +kernel
theorem dX6_throughputEstimate_0 : decode cX6_throughputEstimate 0 = .ok (.aload_n 0, 1) := by decide +kernel
theorem dX6_throughputEstimate_1 : decode cX6_throughputEstimate 1 = .ok (.getfield 35, 3) := by decide +kernel
theorem dX6_throughputEstimate_4 : decode cX6_throughputEstimate 4 = .ok (.getfield 175, 3) := by decide +kernel
theorem dX6_throughputEstimate_7 : decode cX6_throughputEstimate 7 = .ok (.invokevirtual 179, 3) := by decide +kernel
theorem dX6_throughputEstimate_10 : decode cX6_throughputEstimate 10 = .ok (.ireturn, 1) := by decide +kernel
theorem dX6_switchCount_0 : decode cX6_switchCount 0 = .ok (.aload_n 0, 1) := by decide +kernel
theorem dX6_switchCount_1 : decode cX6_switchCount 1 = .ok (.getfield 35, 3) := by decide +kernel
theorem dX6_switchCount_4 : decode cX6_switchCount 4 = .ok (.getfield 184, 3) := by decide +kernel
theorem dX6_switchCount_7 : decode cX6_switchCount 7 = .ok (.ireturn, 1) := by decide +kernel
theorem dX6_stallCount_0 : decode cX6_stallCount 0 = .ok (.aload_n 0, 1) := by decide +kernel
theorem dX6_stallCount_1 : decode cX6_stallCount 1 = .ok (.getfield 35, 3) := by decide +kernel
theorem dX6_stallCount_4 : decode cX6_stallCount 4 = .ok (.getfield 187, 3) := by decide +kernel
theorem dX6_stallCount_7 : decode cX6_stallCount 7 = .ok (.ireturn, 1) := by decide +kernel
theorem dX6_stallTime_0 : decode cX6_stallTime 0 = .ok (.aload_n 0, 1) := by decide +kernel
theorem dX6_stallTime_1 : decode cX6_stallTime 1 = .ok (.getfield 35, 3) := by decide +kernel
theorem dX6_stallTime_4 : decode cX6_stallTime 4 = .ok (.getfield 190, 3) := by decide +kernel
theorem dX6_stallTime_7 : decode cX6_stallTime 7 = .ok (.ireturn, 1) := by decide +kernel
theorem dX6_startupTime_0 : decode cX6_startupTime 0 = .ok (.aload_n 0, 1) := by decide +kernel
theorem dX6_startupTime_1 : decode cX6_startupTime 1 = .ok (.getfield 35, 3) := by decide +kernel
theorem dX6_startupTime_4 : decode cX6_startupTime 4 = .ok (.getfield 193, 3) := by decide +kernel
theorem dX6_startupTime_7 : decode cX6_startupTime 7 = .ok (.ireturn, 1) := by decide +kernel
theorem dX6_bitrateSum_0 : decode cX6_bitrateSum 0 = .ok (.aload_n 0, 1) := by decide +kernel
theorem dX6_bitrateSum_1 : decode cX6_bitrateSum 1 = .ok (.getfield 35, 3) := by decide +kernel
theorem dX6_bitrateSum_4 : decode cX6_bitrateSum 4 = .ok (.getfield 196, 3) := by decide +kernel
theorem dX6_bitrateSum_7 : decode cX6_bitrateSum 7 = .ok (.ireturn, 1) := by decide +kernel
theorem dX6_segmentSize_0 : decode cX6_segmentSize 0 = .ok (.aload_n 0, 1) := by decide +kernel
theorem dX6_segmentSize_1 : decode cX6_segmentSize 1 = .ok (.getfield 12, 3) := by decide +kernel
theorem dX6_segmentSize_4 : decode cX6_segmentSize 4 = .ok (.iload_n 1, 1) := by decide +kernel
theorem dX6_segmentSize_5 : decode cX6_segmentSize 5 = .ok (.invokevirtual 199, 3) := by decide +kernel
theorem dX6_segmentSize_8 : decode cX6_segmentSize 8 = .ok (.ifCond .eq 14, 3) := by decide +kernel
theorem dX6_segmentSize_11 : decode cX6_segmentSize 11 = .ok (.aload_n 0, 1) := by decide +kernel
theorem dX6_segmentSize_12 : decode cX6_segmentSize 12 = .ok (.getfield 12, 3) := by decide +kernel
theorem dX6_segmentSize_15 : decode cX6_segmentSize 15 = .ok (.iload_n 2, 1) := by decide +kernel
theorem dX6_segmentSize_16 : decode cX6_segmentSize 16 = .ok (.invokevirtual 78, 3) := by decide +kernel
theorem dX6_segmentSize_19 : decode cX6_segmentSize 19 = .ok (.ifCond .ne 6, 3) := by decide +kernel
theorem dX6_segmentSize_22 : decode cX6_segmentSize 22 = .ok (.bipush (-2), 2) := by decide +kernel
theorem dX6_segmentSize_24 : decode cX6_segmentSize 24 = .ok (.ireturn, 1) := by decide +kernel
theorem dX6_segmentSize_25 : decode cX6_segmentSize 25 = .ok (.aload_n 0, 1) := by decide +kernel
theorem dX6_segmentSize_26 : decode cX6_segmentSize 26 = .ok (.getfield 12, 3) := by decide +kernel
theorem dX6_segmentSize_29 : decode cX6_segmentSize 29 = .ok (.iload_n 1, 1) := by decide +kernel
theorem dX6_segmentSize_30 : decode cX6_segmentSize 30 = .ok (.iload_n 2, 1) := by decide +kernel
theorem dX6_segmentSize_31 : decode cX6_segmentSize 31 = .ok (.invokevirtual 202, 3) := by decide +kernel
theorem dX6_segmentSize_34 : decode cX6_segmentSize 34 = .ok (.ireturn, 1) := by decide +kernel
theorem dX6_simulatedStallTime_0 : decode cX6_simulatedStallTime 0 = .ok (.aload_n 0, 1) := by decide +kernel
theorem dX6_simulatedStallTime_1 : decode cX6_simulatedStallTime 1 = .ok (.iload_n 1, 1) := by decide +kernel
theorem dX6_simulatedStallTime_2 : decode cX6_simulatedStallTime 2 = .ok (.invokevirtual 206, 3) := by decide +kernel
theorem dX6_simulatedStallTime_5 : decode cX6_simulatedStallTime 5 = .ok (.istore_n 2, 1) := by decide +kernel
theorem dX6_simulatedStallTime_6 : decode cX6_simulatedStallTime 6 = .ok (.iload_n 2, 1) := by decide +kernel
theorem dX6_simulatedStallTime_7 : decode cX6_simulatedStallTime 7 = .ok (.ifCond .eq 5, 3) := by decide +kernel
theorem dX6_simulatedStallTime_10 : decode cX6_simulatedStallTime 10 = .ok (.iload_n 2, 1) := by decide +kernel
theorem dX6_simulatedStallTime_11 : decode cX6_simulatedStallTime 11 = .ok (.ireturn, 1) := by decide +kernel
theorem dX6_simulatedStallTime_12 : decode cX6_simulatedStallTime 12 = .ok (.aload_n 0, 1) := by decide +kernel
theorem dX6_simulatedStallTime_13 : decode cX6_simulatedStallTime 13 = .ok (.getfield 39, 3) := by decide +kernel
theorem dX6_simulatedStallTime_16 : decode cX6_simulatedStallTime 16 = .ok (.iload_n 1, 1) := by decide +kernel
theorem dX6_simulatedStallTime_17 : decode cX6_simulatedStallTime 17 = .ok (.aload_n 0, 1) := by decide +kernel
theorem dX6_simulatedStallTime_18 : decode cX6_simulatedStallTime 18 = .ok (.getfield 53, 3) := by decide +kernel
theorem dX6_simulatedStallTime_21 : decode cX6_simulatedStallTime 21 = .ok (.invokevirtual 209, 3) := by decide +kernel
theorem dX6_simulatedStallTime_24 : decode cX6_simulatedStallTime 24 = .ok (.aload_n 0, 1) := by decide +kernel
theorem dX6_simulatedStallTime_25 : decode cX6_simulatedStallTime 25 = .ok (.getfield 39, 3) := by decide +kernel
theorem dX6_simulatedStallTime_28 : decode cX6_simulatedStallTime 28 = .ok (.getfield 190, 3) := by decide +kernel
theorem dX6_simulatedStallTime_31 : decode cX6_simulatedStallTime 31 = .ok (.ireturn, 1) := by decide +kernel
theorem dX6_simulatedBitrateSum_0 : decode cX6_simulatedBitrateSum 0 = .ok (.aload_n 0, 1) := by decide +kernel
theorem dX6_simulatedBitrateSum_1 : decode cX6_simulatedBitrateSum 1 = .ok (.iload_n 1, 1) := by decide +kernel
theorem dX6_simulatedBitrateSum_2 : decode cX6_simulatedBitrateSum 2 = .ok (.invokevirtual 206, 3) := by decide +kernel
theorem dX6_simulatedBitrateSum_5 : decode cX6_simulatedBitrateSum 5 = .ok (.istore_n 2, 1) := by decide +kernel
theorem dX6_simulatedBitrateSum_6 : decode cX6_simulatedBitrateSum 6 = .ok (.iload_n 2, 1) := by decide +kernel
theorem dX6_simulatedBitrateSum_7 : decode cX6_simulatedBitrateSum 7 = .ok (.ifCond .eq 5, 3) := by decide +kernel
theorem dX6_simulatedBitrateSum_10 : decode cX6_simulatedBitrateSum 10 = .ok (.iload_n 2, 1) := by decide +kernel
theorem dX6_simulatedBitrateSum_11 : decode cX6_simulatedBitrateSum 11 = .ok (.ireturn, 1) := by decide +kernel
theorem dX6_simulatedBitrateSum_12 : decode cX6_simulatedBitrateSum 12 = .ok (.aload_n 0, 1) := by decide +kernel
theorem dX6_simulatedBitrateSum_13 : decode cX6_simulatedBitrateSum 13 = .ok (.getfield 39, 3) := by decide +kernel
theorem dX6_simulatedBitrateSum_16 : decode cX6_simulatedBitrateSum 16 = .ok (.iload_n 1, 1) := by decide +kernel
theorem dX6_simulatedBitrateSum_17 : decode cX6_simulatedBitrateSum 17 = .ok (.aload_n 0, 1) := by decide +kernel
theorem dX6_simulatedBitrateSum_18 : decode cX6_simulatedBitrateSum 18 = .ok (.getfield 53, 3) := by decide +kernel
theorem dX6_simulatedBitrateSum_21 : decode cX6_simulatedBitrateSum 21 = .ok (.invokevirtual 209, 3) := by decide +kernel
theorem dX6_simulatedBitrateSum_24 : decode cX6_simulatedBitrateSum 24 = .ok (.aload_n 0, 1) := by decide +kernel
theorem dX6_simulatedBitrateSum_25 : decode cX6_simulatedBitrateSum 25 = .ok (.getfield 39, 3) := by decide +kernel
theorem dX6_simulatedBitrateSum_28 : decode cX6_simulatedBitrateSum 28 = .ok (.getfield 196, 3) := by decide +kernel
theorem dX6_simulatedBitrateSum_31 : decode cX6_simulatedBitrateSum 31 = .ok (.ireturn, 1) := by decide +kernel
theorem dX6_bestSmoothLevel_0 : decode cX6_bestSmoothLevel 0 = .ok (.aload_n 0, 1) := by decide +kernel
theorem dX6_bestSmoothLevel_1 : decode cX6_bestSmoothLevel 1 = .ok (.getfield 12, 3) := by decide +kernel
theorem dX6_bestSmoothLevel_4 : decode cX6_bestSmoothLevel 4 = .ok (.getfield 71, 3) := by decide +kernel
theorem dX6_bestSmoothLevel_7 : decode cX6_bestSmoothLevel 7 = .ok (.ifCond .ne 6, 3) := by decide +kernel
theorem dX6_bestSmoothLevel_10 : decode cX6_bestSmoothLevel 10 = .ok (.bipush (-4), 2) := by decide +kernel
theorem dX6_bestSmoothLevel_12 : decode cX6_bestSmoothLevel 12 = .ok (.ireturn, 1) := by decide +kernel
theorem dX6_bestSmoothLevel_13 : decode cX6_bestSmoothLevel 13 = .ok (.aload_n 0, 1) := by decide +kernel
theorem dX6_bestSmoothLevel_14 : decode cX6_bestSmoothLevel 14 = .ok (.getfield 12, 3) := by decide +kernel
theorem dX6_bestSmoothLevel_17 : decode cX6_bestSmoothLevel 17 = .ok (.getfield 71, 3) := by decide +kernel
theorem dX6_bestSmoothLevel_20 : decode cX6_bestSmoothLevel 20 = .ok (.iconst 1, 1) := by decide +kernel
theorem dX6_bestSmoothLevel_21 : decode cX6_bestSmoothLevel 21 = .ok (.isub, 1) := by decide +kernel
theorem dX6_bestSmoothLevel_22 : decode cX6_bestSmoothLevel 22 = .ok (.istore_n 1, 1) := by decide +kernel
theorem dX6_bestSmoothLevel_23 : decode cX6_bestSmoothLevel 23 = .ok (.iload_n 1, 1) := by decide +kernel
theorem dX6_bestSmoothLevel_24 : decode cX6_bestSmoothLevel 24 = .ok (.ifCond .lt 41, 3) := by decide +kernel
theorem dX6_bestSmoothLevel_27 : decode cX6_bestSmoothLevel 27 = .ok (.aload_n 0, 1) := by decide +kernel
theorem dX6_bestSmoothLevel_28 : decode cX6_bestSmoothLevel 28 = .ok (.getfield 39, 3) := by decide +kernel
theorem dX6_bestSmoothLevel_31 : decode cX6_bestSmoothLevel 31 = .ok (.iconst 0, 1) := by decide +kernel
theorem dX6_bestSmoothLevel_32 : decode cX6_bestSmoothLevel 32 = .ok (.iload_n 1, 1) := by decide +kernel
theorem dX6_bestSmoothLevel_33 : decode cX6_bestSmoothLevel 33 = .ok (.invokevirtual 209, 3) := by decide +kernel
theorem dX6_bestSmoothLevel_36 : decode cX6_bestSmoothLevel 36 = .ok (.aload_n 0, 1) := by decide +kernel
theorem dX6_bestSmoothLevel_37 : decode cX6_bestSmoothLevel 37 = .ok (.getfield 39, 3) := by decide +kernel
theorem dX6_bestSmoothLevel_40 : decode cX6_bestSmoothLevel 40 = .ok (.getfield 153, 3) := by decide +kernel
theorem dX6_bestSmoothLevel_43 : decode cX6_bestSmoothLevel 43 = .ok (.iconst 3, 1) := by decide +kernel
theorem dX6_bestSmoothLevel_44 : decode cX6_bestSmoothLevel 44 = .ok (.if_icmp .ne 15, 3) := by decide +kernel
theorem dX6_bestSmoothLevel_47 : decode cX6_bestSmoothLevel 47 = .ok (.aload_n 0, 1) := by decide +kernel
theorem dX6_bestSmoothLevel_48 : decode cX6_bestSmoothLevel 48 = .ok (.getfield 39, 3) := by decide +kernel
theorem dX6_bestSmoothLevel_51 : decode cX6_bestSmoothLevel 51 = .ok (.getfield 187, 3) := by decide +kernel
theorem dX6_bestSmoothLevel_54 : decode cX6_bestSmoothLevel 54 = .ok (.ifCond .ne 5, 3) := by decide +kernel
theorem dX6_bestSmoothLevel_57 : decode cX6_bestSmoothLevel 57 = .ok (.iload_n 1, 1) := by decide +kernel
theorem dX6_bestSmoothLevel_58 : decode cX6_bestSmoothLevel 58 = .ok (.ireturn, 1) := by decide +kernel
theorem dX6_bestSmoothLevel_59 : decode cX6_bestSmoothLevel 59 = .ok (.iinc 1 (-1), 3) := by decide +kernel
theorem dX6_bestSmoothLevel_62 : decode cX6_bestSmoothLevel 62 = .ok (.goto (-39), 3) := by decide +kernel
theorem dX6_bestSmoothLevel_65 : decode cX6_bestSmoothLevel 65 = .ok (.bipush (-6), 2) := by decide +kernel
theorem dX6_bestSmoothLevel_67 : decode cX6_bestSmoothLevel 67 = .ok (.ireturn, 1) := by decide +kernel
theorem dX6_simulationError_0 : decode cX6_simulationError 0 = .ok (.iload_n 1, 1) := by decide +kernel
theorem dX6_simulationError_1 : decode cX6_simulationError 1 = .ok (.iconst 0, 1) := by decide +kernel
theorem dX6_simulationError_2 : decode cX6_simulationError 2 = .ok (.iconst 3, 1) := by decide +kernel
theorem dX6_simulationError_3 : decode cX6_simulationError 3 = .ok (.invokestatic 56, 3) := by decide +kernel
theorem dX6_simulationError_6 : decode cX6_simulationError 6 = .ok (.ifCond .ne 6, 3) := by decide +kernel
theorem dX6_simulationError_9 : decode cX6_simulationError 9 = .ok (.bipush (-2), 2) := by decide +kernel
theorem dX6_simulationError_11 : decode cX6_simulationError 11 = .ok (.ireturn, 1) := by decide +kernel
theorem dX6_simulationError_12 : decode cX6_simulationError 12 = .ok (.aload_n 0, 1) := by decide +kernel
theorem dX6_simulationError_13 : decode cX6_simulationError 13 = .ok (.getfield 12, 3) := by decide +kernel
theorem dX6_simulationError_16 : decode cX6_simulationError 16 = .ok (.getfield 71, 3) := by decide +kernel
theorem dX6_simulationError_19 : decode cX6_simulationError 19 = .ok (.ifCond .ne 8, 3) := by decide +kernel
theorem dX6_simulationError_22 : decode cX6_simulationError 22 = .ok (.bipush (-4), 2) := by decide +kernel
theorem dX6_simulationError_24 : decode cX6_simulationError 24 = .ok (.goto 4, 3) := by decide +kernel
theorem dX6_simulationError_27 : decode cX6_simulationError 27 = .ok (.iconst 0, 1) := by decide +kernel
theorem dX6_simulationError_28 : decode cX6_simulationError 28 = .ok (.ireturn, 1) := by decide +kernel
theorem dX6_runWord_0 : decode cX6_runWord 0 = .ok (.aload_n 1, 1) := by decide +kernel
theorem dX6_runWord_1 : decode cX6_runWord 1 = .ok (.ldc 212, 2) := by decide +kernel
theorem dX6_runWord_3 : decode cX6_runWord 3 = .ok (.invokevirtual 214, 3) := by decide +kernel
theorem dX6_runWord_6 : decode cX6_runWord 6 = .ok (.ifCond .eq 9, 3) := by decide +kernel
theorem dX6_runWord_9 : decode cX6_runWord 9 = .ok (.aload_n 0, 1) := by decide +kernel
theorem dX6_runWord_10 : decode cX6_runWord 10 = .ok (.iconst 1, 1) := by decide +kernel
theorem dX6_runWord_11 : decode cX6_runWord 11 = .ok (.invokevirtual 218, 3) := by decide +kernel
theorem dX6_runWord_14 : decode cX6_runWord 14 = .ok (.ireturn, 1) := by decide +kernel
theorem dX6_runWord_15 : decode cX6_runWord 15 = .ok (.aload_n 1, 1) := by decide +kernel
theorem dX6_runWord_16 : decode cX6_runWord 16 = .ok (.ldc 221, 2) := by decide +kernel
theorem dX6_runWord_18 : decode cX6_runWord 18 = .ok (.invokevirtual 214, 3) := by decide +kernel
theorem dX6_runWord_21 : decode cX6_runWord 21 = .ok (.ifCond .eq 9, 3) := by decide +kernel
theorem dX6_runWord_24 : decode cX6_runWord 24 = .ok (.aload_n 0, 1) := by decide +kernel
theorem dX6_runWord_25 : decode cX6_runWord 25 = .ok (.iconst 0, 1) := by decide +kernel
theorem dX6_runWord_26 : decode cX6_runWord 26 = .ok (.invokevirtual 218, 3) := by decide +kernel
theorem dX6_runWord_29 : decode cX6_runWord 29 = .ok (.ireturn, 1) := by decide +kernel
theorem dX6_runWord_30 : decode cX6_runWord 30 = .ok (.bipush (-5), 2) := by decide +kernel
theorem dX6_runWord_32 : decode cX6_runWord 32 = .ok (.ireturn, 1) := by decide +kernel
theorem dX6_runWordWithArgument_0 : decode cX6_runWordWithArgument 0 = .ok (.aload_n 1, 1) := by decide +kernel
theorem dX6_runWordWithArgument_1 : decode cX6_runWordWithArgument 1 = .ok (.ldc 223, 2) := by decide +kernel
theorem dX6_runWordWithArgument_3 : decode cX6_runWordWithArgument 3 = .ok (.invokevirtual 214, 3) := by decide +kernel
theorem dX6_runWordWithArgument_6 : decode cX6_runWordWithArgument 6 = .ok (.ifCond .eq 12, 3) := by decide +kernel
