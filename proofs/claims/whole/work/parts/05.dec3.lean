theorem dX6_runWordWithArgument_9 : decode cX6_runWordWithArgument 9 = .ok (.aload_n 0, 1) := by decide +kernel
theorem dX6_runWordWithArgument_10 : decode cX6_runWordWithArgument 10 = .ok (.aload_n 2, 1) := by decide +kernel
theorem dX6_runWordWithArgument_11 : decode cX6_runWordWithArgument 11 = .ok (.invokestatic 224, 3) := by decide +kernel
theorem dX6_runWordWithArgument_14 : decode cX6_runWordWithArgument 14 = .ok (.invokevirtual 227, 3) := by decide +kernel
theorem dX6_runWordWithArgument_17 : decode cX6_runWordWithArgument 17 = .ok (.ireturn, 1) := by decide +kernel
theorem dX6_runWordWithArgument_18 : decode cX6_runWordWithArgument 18 = .ok (.aload_n 1, 1) := by decide +kernel
theorem dX6_runWordWithArgument_19 : decode cX6_runWordWithArgument 19 = .ok (.ldc 230, 2) := by decide +kernel
theorem dX6_runWordWithArgument_21 : decode cX6_runWordWithArgument 21 = .ok (.invokevirtual 214, 3) := by decide +kernel
theorem dX6_runWordWithArgument_24 : decode cX6_runWordWithArgument 24 = .ok (.ifCond .eq 12, 3) := by decide +kernel
theorem dX6_runWordWithArgument_27 : decode cX6_runWordWithArgument 27 = .ok (.aload_n 0, 1) := by decide +kernel
theorem dX6_runWordWithArgument_28 : decode cX6_runWordWithArgument 28 = .ok (.aload_n 2, 1) := by decide +kernel
theorem dX6_runWordWithArgument_29 : decode cX6_runWordWithArgument 29 = .ok (.invokestatic 231, 3) := by decide +kernel
theorem dX6_runWordWithArgument_32 : decode cX6_runWordWithArgument 32 = .ok (.invokevirtual 234, 3) := by decide +kernel
theorem dX6_runWordWithArgument_35 : decode cX6_runWordWithArgument 35 = .ok (.ireturn, 1) := by decide +kernel
theorem dX6_runWordWithArgument_36 : decode cX6_runWordWithArgument 36 = .ok (.aload_n 1, 1) := by decide +kernel
theorem dX6_runWordWithArgument_37 : decode cX6_runWordWithArgument 37 = .ok (.ldc 237, 2) := by decide +kernel
theorem dX6_runWordWithArgument_39 : decode cX6_runWordWithArgument 39 = .ok (.invokevirtual 214, 3) := by decide +kernel
theorem dX6_runWordWithArgument_42 : decode cX6_runWordWithArgument 42 = .ok (.ifCond .eq 12, 3) := by decide +kernel
theorem dX6_runWordWithArgument_45 : decode cX6_runWordWithArgument 45 = .ok (.aload_n 0, 1) := by decide +kernel
theorem dX6_runWordWithArgument_46 : decode cX6_runWordWithArgument 46 = .ok (.aload_n 2, 1) := by decide +kernel
theorem dX6_runWordWithArgument_47 : decode cX6_runWordWithArgument 47 = .ok (.invokestatic 231, 3) := by decide +kernel
theorem dX6_runWordWithArgument_50 : decode cX6_runWordWithArgument 50 = .ok (.invokevirtual 239, 3) := by decide +kernel
theorem dX6_runWordWithArgument_53 : decode cX6_runWordWithArgument 53 = .ok (.ireturn, 1) := by decide +kernel
theorem dX6_runWordWithArgument_54 : decode cX6_runWordWithArgument 54 = .ok (.bipush (-5), 2) := by decide +kernel
theorem dX6_runWordWithArgument_56 : decode cX6_runWordWithArgument 56 = .ok (.ireturn, 1) := by decide +kernel
theorem dX6_changePause_0 : decode cX6_changePause 0 = .ok (.aload_n 0, 1) := by decide +kernel
theorem dX6_changePause_1 : decode cX6_changePause 1 = .ok (.getfield 35, 3) := by decide +kernel
theorem dX6_changePause_4 : decode cX6_changePause 4 = .ok (.getfield 156, 3) := by decide +kernel
theorem dX6_changePause_7 : decode cX6_changePause 7 = .ok (.iload_n 1, 1) := by decide +kernel
theorem dX6_changePause_8 : decode cX6_changePause 8 = .ok (.if_icmp .eq 7, 3) := by decide +kernel
theorem dX6_changePause_11 : decode cX6_changePause 11 = .ok (.iconst 1, 1) := by decide +kernel
theorem dX6_changePause_12 : decode cX6_changePause 12 = .ok (.goto 4, 3) := by decide +kernel
theorem dX6_changePause_15 : decode cX6_changePause 15 = .ok (.iconst 0, 1) := by decide +kernel
theorem dX6_changePause_16 : decode cX6_changePause 16 = .ok (.istore_n 2, 1) := by decide +kernel
theorem dX6_changePause_17 : decode cX6_changePause 17 = .ok (.aload_n 0, 1) := by decide +kernel
theorem dX6_changePause_18 : decode cX6_changePause 18 = .ok (.getfield 35, 3) := by decide +kernel
theorem dX6_changePause_21 : decode cX6_changePause 21 = .ok (.iload_n 1, 1) := by decide +kernel
theorem dX6_changePause_22 : decode cX6_changePause 22 = .ok (.putfield 156, 3) := by decide +kernel
theorem dX6_changePause_25 : decode cX6_changePause 25 = .ok (.iload_n 2, 1) := by decide +kernel
theorem dX6_changePause_26 : decode cX6_changePause 26 = .ok (.invokestatic 100, 3) := by decide +kernel
theorem dX6_changePause_29 : decode cX6_changePause 29 = .ok (.ireturn, 1) := by decide +kernel
theorem dX6_changePolicy_0 : decode cX6_changePolicy 0 = .ok (.iload_n 1, 1) := by decide +kernel
theorem dX6_changePolicy_1 : decode cX6_changePolicy 1 = .ok (.bipush (-6), 2) := by decide +kernel
theorem dX6_changePolicy_3 : decode cX6_changePolicy 3 = .ok (.if_icmp .ne 6, 3) := by decide +kernel
theorem dX6_changePolicy_6 : decode cX6_changePolicy 6 = .ok (.bipush (-5), 2) := by decide +kernel
theorem dX6_changePolicy_8 : decode cX6_changePolicy 8 = .ok (.ireturn, 1) := by decide +kernel
theorem dX6_changePolicy_9 : decode cX6_changePolicy 9 = .ok (.aload_n 0, 1) := by decide +kernel
theorem dX6_changePolicy_10 : decode cX6_changePolicy 10 = .ok (.getfield 49, 3) := by decide +kernel
theorem dX6_changePolicy_13 : decode cX6_changePolicy 13 = .ok (.iload_n 1, 1) := by decide +kernel
theorem dX6_changePolicy_14 : decode cX6_changePolicy 14 = .ok (.if_icmp .eq 7, 3) := by decide +kernel
theorem dX6_changePolicy_17 : decode cX6_changePolicy 17 = .ok (.iconst 1, 1) := by decide +kernel
theorem dX6_changePolicy_18 : decode cX6_changePolicy 18 = .ok (.goto 4, 3) := by decide +kernel
theorem dX6_changePolicy_21 : decode cX6_changePolicy 21 = .ok (.iconst 0, 1) := by decide +kernel
theorem dX6_changePolicy_22 : decode cX6_changePolicy 22 = .ok (.istore_n 2, 1) := by decide +kernel
theorem dX6_changePolicy_23 : decode cX6_changePolicy 23 = .ok (.aload_n 0, 1) := by decide +kernel
theorem dX6_changePolicy_24 : decode cX6_changePolicy 24 = .ok (.iload_n 1, 1) := by decide +kernel
theorem dX6_changePolicy_25 : decode cX6_changePolicy 25 = .ok (.putfield 49, 3) := by decide +kernel
theorem dX6_changePolicy_28 : decode cX6_changePolicy 28 = .ok (.iload_n 2, 1) := by decide +kernel
theorem dX6_changePolicy_29 : decode cX6_changePolicy 29 = .ok (.invokestatic 100, 3) := by decide +kernel
theorem dX6_changePolicy_32 : decode cX6_changePolicy 32 = .ok (.ireturn, 1) := by decide +kernel
theorem dX6_changeCap_0 : decode cX6_changeCap 0 = .ok (.iload_n 1, 1) := by decide +kernel
theorem dX6_changeCap_1 : decode cX6_changeCap 1 = .ok (.bipush (-6), 2) := by decide +kernel
theorem dX6_changeCap_3 : decode cX6_changeCap 3 = .ok (.if_icmp .ne 6, 3) := by decide +kernel
theorem dX6_changeCap_6 : decode cX6_changeCap 6 = .ok (.bipush (-5), 2) := by decide +kernel
theorem dX6_changeCap_8 : decode cX6_changeCap 8 = .ok (.ireturn, 1) := by decide +kernel
theorem dX6_changeCap_9 : decode cX6_changeCap 9 = .ok (.iload_n 1, 1) := by decide +kernel
theorem dX6_changeCap_10 : decode cX6_changeCap 10 = .ok (.iconst 4, 1) := by decide +kernel
theorem dX6_changeCap_11 : decode cX6_changeCap 11 = .ok (.if_icmp .le 6, 3) := by decide +kernel
theorem dX6_changeCap_14 : decode cX6_changeCap 14 = .ok (.bipush (-2), 2) := by decide +kernel
theorem dX6_changeCap_16 : decode cX6_changeCap 16 = .ok (.ireturn, 1) := by decide +kernel
theorem dX6_changeCap_17 : decode cX6_changeCap 17 = .ok (.aload_n 0, 1) := by decide +kernel
theorem dX6_changeCap_18 : decode cX6_changeCap 18 = .ok (.getfield 53, 3) := by decide +kernel
theorem dX6_changeCap_21 : decode cX6_changeCap 21 = .ok (.iload_n 1, 1) := by decide +kernel
theorem dX6_changeCap_22 : decode cX6_changeCap 22 = .ok (.if_icmp .eq 7, 3) := by decide +kernel
theorem dX6_changeCap_25 : decode cX6_changeCap 25 = .ok (.iconst 1, 1) := by decide +kernel
theorem dX6_changeCap_26 : decode cX6_changeCap 26 = .ok (.goto 4, 3) := by decide +kernel
theorem dX6_changeCap_29 : decode cX6_changeCap 29 = .ok (.iconst 0, 1) := by decide +kernel
theorem dX6_changeCap_30 : decode cX6_changeCap 30 = .ok (.istore_n 2, 1) := by decide +kernel
theorem dX6_changeCap_31 : decode cX6_changeCap 31 = .ok (.aload_n 0, 1) := by decide +kernel
theorem dX6_changeCap_32 : decode cX6_changeCap 32 = .ok (.iload_n 1, 1) := by decide +kernel
theorem dX6_changeCap_33 : decode cX6_changeCap 33 = .ok (.putfield 53, 3) := by decide +kernel
theorem dX6_changeCap_36 : decode cX6_changeCap 36 = .ok (.iload_n 2, 1) := by decide +kernel
theorem dX6_changeCap_37 : decode cX6_changeCap 37 = .ok (.invokestatic 100, 3) := by decide +kernel
theorem dX6_changeCap_40 : decode cX6_changeCap 40 = .ok (.ireturn, 1) := by decide +kernel
theorem dX6_seek_0 : decode cX6_seek 0 = .ok (.iload_n 1, 1) := by decide +kernel
theorem dX6_seek_1 : decode cX6_seek 1 = .ok (.bipush (-6), 2) := by decide +kernel
theorem dX6_seek_3 : decode cX6_seek 3 = .ok (.if_icmp .ne 6, 3) := by decide +kernel
theorem dX6_seek_6 : decode cX6_seek 6 = .ok (.bipush (-5), 2) := by decide +kernel
theorem dX6_seek_8 : decode cX6_seek 8 = .ok (.ireturn, 1) := by decide +kernel
theorem dX6_seek_9 : decode cX6_seek 9 = .ok (.aload_n 0, 1) := by decide +kernel
theorem dX6_seek_10 : decode cX6_seek 10 = .ok (.getfield 12, 3) := by decide +kernel
theorem dX6_seek_13 : decode cX6_seek 13 = .ok (.iload_n 1, 1) := by decide +kernel
theorem dX6_seek_14 : decode cX6_seek 14 = .ok (.invokevirtual 78, 3) := by decide +kernel
theorem dX6_seek_17 : decode cX6_seek 17 = .ok (.ifCond .ne 6, 3) := by decide +kernel
theorem dX6_seek_20 : decode cX6_seek 20 = .ok (.bipush (-2), 2) := by decide +kernel
theorem dX6_seek_22 : decode cX6_seek 22 = .ok (.ireturn, 1) := by decide +kernel
theorem dX6_seek_23 : decode cX6_seek 23 = .ok (.aload_n 0, 1) := by decide +kernel
theorem dX6_seek_24 : decode cX6_seek 24 = .ok (.getfield 35, 3) := by decide +kernel
theorem dX6_seek_27 : decode cX6_seek 27 = .ok (.iload_n 1, 1) := by decide +kernel
theorem dX6_seek_28 : decode cX6_seek 28 = .ok (.invokevirtual 241, 3) := by decide +kernel
theorem dX6_seek_31 : decode cX6_seek 31 = .ok (.iconst 1, 1) := by decide +kernel
theorem dX6_seek_32 : decode cX6_seek 32 = .ok (.ireturn, 1) := by decide +kernel
theorem dX6_policyNamed_0 : decode cX6_policyNamed 0 = .ok (.aload_n 0, 1) := by decide +kernel
theorem dX6_policyNamed_1 : decode cX6_policyNamed 1 = .ok (.ldc 244, 2) := by decide +kernel
theorem dX6_policyNamed_3 : decode cX6_policyNamed 3 = .ok (.invokevirtual 214, 3) := by decide +kernel
theorem dX6_policyNamed_6 : decode cX6_policyNamed 6 = .ok (.ifCond .eq 5, 3) := by decide +kernel
theorem dX6_policyNamed_9 : decode cX6_policyNamed 9 = .ok (.iconst 0, 1) := by decide +kernel
theorem dX6_policyNamed_10 : decode cX6_policyNamed 10 = .ok (.ireturn, 1) := by decide +kernel
theorem dX6_policyNamed_11 : decode cX6_policyNamed 11 = .ok (.aload_n 0, 1) := by decide +kernel
theorem dX6_policyNamed_12 : decode cX6_policyNamed 12 = .ok (.ldc 246, 2) := by decide +kernel
theorem dX6_policyNamed_14 : decode cX6_policyNamed 14 = .ok (.invokevirtual 214, 3) := by decide +kernel
theorem dX6_policyNamed_17 : decode cX6_policyNamed 17 = .ok (.ifCond .eq 5, 3) := by decide +kernel
theorem dX6_policyNamed_20 : decode cX6_policyNamed 20 = .ok (.iconst 1, 1) := by decide +kernel
theorem dX6_policyNamed_21 : decode cX6_policyNamed 21 = .ok (.ireturn, 1) := by decide +kernel
theorem dX6_policyNamed_22 : decode cX6_policyNamed 22 = .ok (.aload_n 0, 1) := by decide +kernel
theorem dX6_policyNamed_23 : decode cX6_policyNamed 23 = .ok (.ldc 248, 2) := by decide +kernel
theorem dX6_policyNamed_25 : decode cX6_policyNamed 25 = .ok (.invokevirtual 214, 3) := by decide +kernel
theorem dX6_policyNamed_28 : decode cX6_policyNamed 28 = .ok (.ifCond .eq 5, 3) := by decide +kernel
theorem dX6_policyNamed_31 : decode cX6_policyNamed 31 = .ok (.iconst 2, 1) := by decide +kernel
theorem dX6_policyNamed_32 : decode cX6_policyNamed 32 = .ok (.ireturn, 1) := by decide +kernel
theorem dX6_policyNamed_33 : decode cX6_policyNamed 33 = .ok (.aload_n 0, 1) := by decide +kernel
theorem dX6_policyNamed_34 : decode cX6_policyNamed 34 = .ok (.ldc 249, 2) := by decide +kernel
theorem dX6_policyNamed_36 : decode cX6_policyNamed 36 = .ok (.invokevirtual 214, 3) := by decide +kernel
theorem dX6_policyNamed_39 : decode cX6_policyNamed 39 = .ok (.ifCond .eq 7, 3) := by decide +kernel
theorem dX6_policyNamed_42 : decode cX6_policyNamed 42 = .ok (.iconst 3, 1) := by decide +kernel
theorem dX6_policyNamed_43 : decode cX6_policyNamed 43 = .ok (.goto 5, 3) := by decide +kernel
theorem dX6_policyNamed_46 : decode cX6_policyNamed 46 = .ok (.bipush (-6), 2) := by decide +kernel
theorem dX6_policyNamed_48 : decode cX6_policyNamed 48 = .ok (.ireturn, 1) := by decide +kernel
theorem dX6_numberIn_0 : decode cX6_numberIn 0 = .ok (.aload_n 0, 1) := by decide +kernel
theorem dX6_numberIn_1 : decode cX6_numberIn 1 = .ok (.invokevirtual 251, 3) := by decide +kernel
theorem dX6_numberIn_4 : decode cX6_numberIn 4 = .ok (.iconst 1, 1) := by decide +kernel
theorem dX6_numberIn_5 : decode cX6_numberIn 5 = .ok (.iconst 2, 1) := by decide +kernel
theorem dX6_numberIn_6 : decode cX6_numberIn 6 = .ok (.invokestatic 56, 3) := by decide +kernel
theorem dX6_numberIn_9 : decode cX6_numberIn 9 = .ok (.ifCond .ne 6, 3) := by decide +kernel
theorem dX6_numberIn_12 : decode cX6_numberIn 12 = .ok (.bipush (-6), 2) := by decide +kernel
theorem dX6_numberIn_14 : decode cX6_numberIn 14 = .ok (.ireturn, 1) := by decide +kernel
theorem dX6_numberIn_15 : decode cX6_numberIn 15 = .ok (.iconst 0, 1) := by decide +kernel
theorem dX6_numberIn_16 : decode cX6_numberIn 16 = .ok (.istore_n 1, 1) := by decide +kernel
theorem dX6_numberIn_17 : decode cX6_numberIn 17 = .ok (.iconst 0, 1) := by decide +kernel
theorem dX6_numberIn_18 : decode cX6_numberIn 18 = .ok (.istore_n 2, 1) := by decide +kernel
theorem dX6_numberIn_19 : decode cX6_numberIn 19 = .ok (.iload_n 2, 1) := by decide +kernel
theorem dX6_numberIn_20 : decode cX6_numberIn 20 = .ok (.aload_n 0, 1) := by decide +kernel
theorem dX6_numberIn_21 : decode cX6_numberIn 21 = .ok (.invokevirtual 251, 3) := by decide +kernel
theorem dX6_numberIn_24 : decode cX6_numberIn 24 = .ok (.if_icmp .ge 40, 3) := by decide +kernel
theorem dX6_numberIn_27 : decode cX6_numberIn 27 = .ok (.aload_n 0, 1) := by decide +kernel
theorem dX6_numberIn_28 : decode cX6_numberIn 28 = .ok (.iload_n 2, 1) := by decide +kernel
theorem dX6_numberIn_29 : decode cX6_numberIn 29 = .ok (.invokevirtual 252, 3) := by decide +kernel
theorem dX6_numberIn_32 : decode cX6_numberIn 32 = .ok (.istore_n 3, 1) := by decide +kernel
theorem dX6_numberIn_33 : decode cX6_numberIn 33 = .ok (.iload_n 3, 1) := by decide +kernel
theorem dX6_numberIn_34 : decode cX6_numberIn 34 = .ok (.bipush 48, 2) := by decide +kernel
theorem dX6_numberIn_36 : decode cX6_numberIn 36 = .ok (.if_icmp .lt 9, 3) := by decide +kernel
theorem dX6_numberIn_39 : decode cX6_numberIn 39 = .ok (.iload_n 3, 1) := by decide +kernel
theorem dX6_numberIn_40 : decode cX6_numberIn 40 = .ok (.bipush 57, 2) := by decide +kernel
theorem dX6_numberIn_42 : decode cX6_numberIn 42 = .ok (.if_icmp .le 6, 3) := by decide +kernel
theorem dX6_numberIn_45 : decode cX6_numberIn 45 = .ok (.bipush (-6), 2) := by decide +kernel
theorem dX6_numberIn_47 : decode cX6_numberIn 47 = .ok (.ireturn, 1) := by decide +kernel
theorem dX6_numberIn_48 : decode cX6_numberIn 48 = .ok (.iload_n 1, 1) := by decide +kernel
theorem dX6_numberIn_49 : decode cX6_numberIn 49 = .ok (.bipush 10, 2) := by decide +kernel
theorem dX6_numberIn_51 : decode cX6_numberIn 51 = .ok (.imul, 1) := by decide +kernel
theorem dX6_numberIn_52 : decode cX6_numberIn 52 = .ok (.iload_n 3, 1) := by decide +kernel
theorem dX6_numberIn_53 : decode cX6_numberIn 53 = .ok (.bipush 48, 2) := by decide +kernel
theorem dX6_numberIn_55 : decode cX6_numberIn 55 = .ok (.isub, 1) := by decide +kernel
theorem dX6_numberIn_56 : decode cX6_numberIn 56 = .ok (.iadd, 1) := by decide +kernel
theorem dX6_numberIn_57 : decode cX6_numberIn 57 = .ok (.istore_n 1, 1) := by decide +kernel
theorem dX6_numberIn_58 : decode cX6_numberIn 58 = .ok (.iinc 2 1, 3) := by decide +kernel
theorem dX6_numberIn_61 : decode cX6_numberIn 61 = .ok (.goto (-42), 3) := by decide +kernel
theorem dX6_numberIn_64 : decode cX6_numberIn 64 = .ok (.iload_n 1, 1) := by decide +kernel
theorem dX6_numberIn_65 : decode cX6_numberIn 65 = .ok (.ireturn, 1) := by decide +kernel
theorem dX6_isWithin_0 : decode cX6_isWithin 0 = .ok (.iload_n 0, 1) := by decide +kernel
theorem dX6_isWithin_1 : decode cX6_isWithin 1 = .ok (.iload_n 1, 1) := by decide +kernel
theorem dX6_isWithin_2 : decode cX6_isWithin 2 = .ok (.if_icmp .lt 12, 3) := by decide +kernel
theorem dX6_isWithin_5 : decode cX6_isWithin 5 = .ok (.iload_n 0, 1) := by decide +kernel
theorem dX6_isWithin_6 : decode cX6_isWithin 6 = .ok (.iload_n 2, 1) := by decide +kernel
theorem dX6_isWithin_7 : decode cX6_isWithin 7 = .ok (.if_icmp .gt 7, 3) := by decide +kernel
theorem dX6_isWithin_10 : decode cX6_isWithin 10 = .ok (.iconst 1, 1) := by decide +kernel
theorem dX6_isWithin_11 : decode cX6_isWithin 11 = .ok (.goto 4, 3) := by decide +kernel
theorem dX6_isWithin_14 : decode cX6_isWithin 14 = .ok (.iconst 0, 1) := by decide +kernel
theorem dX6_isWithin_15 : decode cX6_isWithin 15 = .ok (.ireturn, 1) := by decide +kernel
theorem dX6_oneIf_0 : decode cX6_oneIf 0 = .ok (.iload_n 0, 1) := by decide +kernel
theorem dX6_oneIf_1 : decode cX6_oneIf 1 = .ok (.ifCond .eq 7, 3) := by decide +kernel
theorem dX6_oneIf_4 : decode cX6_oneIf 4 = .ok (.iconst 1, 1) := by decide +kernel
theorem dX6_oneIf_5 : decode cX6_oneIf 5 = .ok (.goto 4, 3) := by decide +kernel
theorem dX6_oneIf_8 : decode cX6_oneIf 8 = .ok (.iconst 0, 1) := by decide +kernel
theorem dX6_oneIf_9 : decode cX6_oneIf 9 = .ok (.ireturn, 1) := by decide +kernel
theorem dX7_init_0 : decode cX7_init 0 = .ok (.aload_n 0, 1) := by decide +kernel
theorem dX7_init_1 : decode cX7_init 1 = .ok (.invokespecial 1, 3) := by decide +kernel
theorem dX7_init_4 : decode cX7_init 4 = .ok (.aload_n 0, 1) := by decide +kernel
theorem dX7_init_5 : decode cX7_init 5 = .ok (.bipush 10, 2) := by decide +kernel
theorem dX7_init_7 : decode cX7_init 7 = .ok (.putfield 7, 3) := by decide +kernel
theorem dX7_init_10 : decode cX7_init 10 = .ok (.aload_n 0, 1) := by decide +kernel
theorem dX7_init_11 : decode cX7_init 11 = .ok (.sipush 2000, 3) := by decide +kernel
theorem dX7_init_14 : decode cX7_init 14 = .ok (.putfield 13, 3) := by decide +kernel
theorem dX7_init_17 : decode cX7_init 17 = .ok (.aload_n 0, 1) := by decide +kernel
theorem dX7_init_18 : decode cX7_init 18 = .ok (.bipush 30, 2) := by decide +kernel
theorem dX7_init_20 : decode cX7_init 20 = .ok (.newarray .int, 2) := by decide +kernel
theorem dX7_init_22 : decode cX7_init 22 = .ok (.putfield 16, 3) := by decide +kernel
theorem dX7_init_25 : decode cX7_init 25 = .ok (.aload_n 0, 1) := by decide +kernel
theorem dX7_init_26 : decode cX7_init 26 = .ok (.iconst 5, 1) := by decide +kernel
theorem dX7_init_27 : decode cX7_init 27 = .ok (.newarray .int, 2) := by decide +kernel
theorem dX7_init_29 : decode cX7_init 29 = .ok (.putfield 20, 3) := by decide +kernel
theorem dX7_init_32 : decode cX7_init 32 = .ok (.aload_n 0, 1) := by decide +kernel
theorem dX7_init_33 : decode cX7_init 33 = .ok (.bipush 12, 2) := by decide +kernel
theorem dX7_init_35 : decode cX7_init 35 = .ok (.newarray .int, 2) := by decide +kernel
theorem dX7_init_37 : decode cX7_init 37 = .ok (.putfield 23, 3) := by decide +kernel
theorem dX7_init_40 : decode cX7_init 40 = .ok (.aload_n 0, 1) := by decide +kernel
theorem dX7_init_41 : decode cX7_init 41 = .ok (.bipush 12, 2) := by decide +kernel
theorem dX7_init_43 : decode cX7_init 43 = .ok (.newarray .int, 2) := by decide +kernel
theorem dX7_init_45 : decode cX7_init 45 = .ok (.putfield 26, 3) := by decide +kernel
theorem dX7_init_48 : decode cX7_init 48 = .ok (.aload_n 0, 1) := by decide +kernel
theorem dX7_init_49 : decode cX7_init 49 = .ok (.sipush 20000, 3) := by decide +kernel
theorem dX7_init_52 : decode cX7_init 52 = .ok (.putfield 29, 3) := by decide +kernel
theorem dX7_init_55 : decode cX7_init 55 = .ok (.aload_n 0, 1) := by decide +kernel
theorem dX7_init_56 : decode cX7_init 56 = .ok (.sipush 2000, 3) := by decide +kernel
theorem dX7_init_59 : decode cX7_init 59 = .ok (.putfield 32, 3) := by decide +kernel
theorem dX7_init_62 : decode cX7_init 62 = .ok (.aload_n 0, 1) := by decide +kernel
theorem dX7_init_63 : decode cX7_init 63 = .ok (.bipush 80, 2) := by decide +kernel
theorem dX7_init_65 : decode cX7_init 65 = .ok (.putfield 35, 3) := by decide +kernel
theorem dX7_init_68 : decode cX7_init 68 = .ok (.aload_n 0, 1) := by decide +kernel
theorem dX7_init_69 : decode cX7_init 69 = .ok (.sipush 4000, 3) := by decide +kernel
theorem dX7_init_72 : decode cX7_init 72 = .ok (.putfield 38, 3) := by decide +kernel
theorem dX7_init_75 : decode cX7_init 75 = .ok (.aload_n 0, 1) := by decide +kernel
theorem dX7_init_76 : decode cX7_init 76 = .ok (.sipush 8000, 3) := by decide +kernel
theorem dX7_init_79 : decode cX7_init 79 = .ok (.putfield 41, 3) := by decide +kernel
theorem dX7_init_82 : decode cX7_init 82 = .ok (.aload_n 0, 1) := by decide +kernel
theorem dX7_init_83 : decode cX7_init 83 = .ok (.iconst 4, 1) := by decide +kernel
theorem dX7_init_84 : decode cX7_init 84 = .ok (.putfield 44, 3) := by decide +kernel
theorem dX7_init_87 : decode cX7_init 87 = .ok (.aload_n 0, 1) := by decide +kernel
theorem dX7_init_88 : decode cX7_init 88 = .ok (.bipush 52, 2) := by decide +kernel
theorem dX7_init_90 : decode cX7_init 90 = .ok (.newarray .int, 2) := by decide +kernel
theorem dX7_init_92 : decode cX7_init 92 = .ok (.putfield 47, 3) := by decide +kernel
theorem dX7_init_95 : decode cX7_init 95 = .ok (.aload_n 0, 1) := by decide +kernel
theorem dX7_init_96 : decode cX7_init 96 = .ok (.bipush 52, 2) := by decide +kernel
theorem dX7_init_98 : decode cX7_init 98 = .ok (.newarray .int, 2) := by decide +kernel
theorem dX7_init_100 : decode cX7_init 100 = .ok (.putfield 50, 3) := by decide +kernel
theorem dX7_init_103 : decode cX7_init 103 = .ok (.aload_n 0, 1) := by decide +kernel
theorem dX7_init_104 : decode cX7_init 104 = .ok (.bipush 16, 2) := by decide +kernel
theorem dX7_init_106 : decode cX7_init 106 = .ok (.newarray .int, 2) := by decide +kernel
theorem dX7_init_108 : decode cX7_init 108 = .ok (.putfield 53, 3) := by decide +kernel
theorem dX7_init_111 : decode cX7_init 111 = .ok (.iconst 0, 1) := by decide +kernel
theorem dX7_init_112 : decode cX7_init 112 = .ok (.istore_n 1, 1) := by decide +kernel
theorem dX7_init_113 : decode cX7_init 113 = .ok (.iload_n 1, 1) := by decide +kernel
theorem dX7_init_114 : decode cX7_init 114 = .ok (.bipush 30, 2) := by decide +kernel
theorem dX7_init_116 : decode cX7_init 116 = .ok (.if_icmp .ge 17, 3) := by decide +kernel
theorem dX7_init_119 : decode cX7_init 119 = .ok (.aload_n 0, 1) := by decide +kernel
theorem dX7_init_120 : decode cX7_init 120 = .ok (.getfield 16, 3) := by decide +kernel
theorem dX7_init_123 : decode cX7_init 123 = .ok (.iload_n 1, 1) := by decide +kernel
theorem dX7_init_124 : decode cX7_init 124 = .ok (.bipush 100, 2) := by decide +kernel
theorem dX7_init_126 : decode cX7_init 126 = .ok (.iastore, 1) := by decide +kernel
theorem dX7_init_127 : decode cX7_init 127 = .ok (.iinc 1 1, 3) := by decide +kernel
theorem dX7_init_130 : decode cX7_init 130 = .ok (.goto (-17), 3) := by decide +kernel
theorem dX7_init_133 : decode cX7_init 133 = .ok (.aload_n 0, 1) := by decide +kernel
theorem dX7_init_134 : decode cX7_init 134 = .ok (.invokevirtual 56, 3) := by decide +kernel
theorem dX7_init_137 : decode cX7_init 137 = .ok (.return_, 1) := by decide +kernel
theorem dX7_within_0 : decode cX7_within 0 = .ok (.iload_n 0, 1) := by decide +kernel
theorem dX7_within_1 : decode cX7_within 1 = .ok (.iload_n 1, 1) := by decide +kernel
theorem dX7_within_2 : decode cX7_within 2 = .ok (.if_icmp .lt 12, 3) := by decide +kernel
theorem dX7_within_5 : decode cX7_within 5 = .ok (.iload_n 0, 1) := by decide +kernel
theorem dX7_within_6 : decode cX7_within 6 = .ok (.iload_n 2, 1) := by decide +kernel
theorem dX7_within_7 : decode cX7_within 7 = .ok (.if_icmp .gt 7, 3) := by decide +kernel
theorem dX7_within_10 : decode cX7_within 10 = .ok (.iconst 1, 1) := by decide +kernel
theorem dX7_within_11 : decode cX7_within 11 = .ok (.goto 4, 3) := by decide +kernel
theorem dX7_within_14 : decode cX7_within 14 = .ok (.iconst 0, 1) := by decide +kernel
theorem dX7_within_15 : decode cX7_within 15 = .ok (.ireturn, 1) := by decide +kernel
theorem dX7_begins_0 : decode cX7_begins 0 = .ok (.iconst 0, 1) := by decide +kernel
theorem dX7_begins_1 : decode cX7_begins 1 = .ok (.istore_n 1, 1) := by decide +kernel
theorem dX7_begins_2 : decode cX7_begins 2 = .ok (.iload_n 1, 1) := by decide +kernel
theorem dX7_begins_3 : decode cX7_begins 3 = .ok (.bipush 52, 2) := by decide +kernel
theorem dX7_begins_5 : decode cX7_begins 5 = .ok (.if_icmp .ge 16, 3) := by decide +kernel
theorem dX7_begins_8 : decode cX7_begins 8 = .ok (.aload_n 0, 1) := by decide +kernel
theorem dX7_begins_9 : decode cX7_begins 9 = .ok (.getfield 47, 3) := by decide +kernel
theorem dX7_begins_12 : decode cX7_begins 12 = .ok (.iload_n 1, 1) := by decide +kernel
theorem dX7_begins_13 : decode cX7_begins 13 = .ok (.iconst 0, 1) := by decide +kernel
theorem dX7_begins_14 : decode cX7_begins 14 = .ok (.iastore, 1) := by decide +kernel
theorem dX7_begins_15 : decode cX7_begins 15 = .ok (.iinc 1 1, 3) := by decide +kernel
theorem dX7_begins_18 : decode cX7_begins 18 = .ok (.goto (-16), 3) := by decide +kernel
theorem dX7_begins_21 : decode cX7_begins 21 = .ok (.aload_n 0, 1) := by decide +kernel
theorem dX7_begins_22 : decode cX7_begins 22 = .ok (.getfield 47, 3) := by decide +kernel
theorem dX7_begins_25 : decode cX7_begins 25 = .ok (.bipush 15, 2) := by decide +kernel
theorem dX7_begins_27 : decode cX7_begins 27 = .ok (.bipush (-6), 2) := by decide +kernel
theorem dX7_begins_29 : decode cX7_begins 29 = .ok (.iastore, 1) := by decide +kernel
theorem dX7_begins_30 : decode cX7_begins 30 = .ok (.iconst 0, 1) := by decide +kernel
theorem dX7_begins_31 : decode cX7_begins 31 = .ok (.istore_n 1, 1) := by decide +kernel
theorem dX7_begins_32 : decode cX7_begins 32 = .ok (.iload_n 1, 1) := by decide +kernel
theorem dX7_begins_33 : decode cX7_begins 33 = .ok (.bipush 30, 2) := by decide +kernel
theorem dX7_begins_35 : decode cX7_begins 35 = .ok (.if_icmp .ge 20, 3) := by decide +kernel
theorem dX7_begins_38 : decode cX7_begins 38 = .ok (.aload_n 0, 1) := by decide +kernel
theorem dX7_begins_39 : decode cX7_begins 39 = .ok (.getfield 47, 3) := by decide +kernel
theorem dX7_begins_42 : decode cX7_begins 42 = .ok (.bipush 22, 2) := by decide +kernel
theorem dX7_begins_44 : decode cX7_begins 44 = .ok (.iload_n 1, 1) := by decide +kernel
theorem dX7_begins_45 : decode cX7_begins 45 = .ok (.iadd, 1) := by decide +kernel
theorem dX7_begins_46 : decode cX7_begins 46 = .ok (.bipush (-6), 2) := by decide +kernel
theorem dX7_begins_48 : decode cX7_begins 48 = .ok (.iastore, 1) := by decide +kernel
theorem dX7_begins_49 : decode cX7_begins 49 = .ok (.iinc 1 1, 3) := by decide +kernel
theorem dX7_begins_52 : decode cX7_begins 52 = .ok (.goto (-20), 3) := by decide +kernel
theorem dX7_begins_55 : decode cX7_begins 55 = .ok (.return_, 1) := by decide +kernel
theorem dX7_setVideo_0 : decode cX7_setVideo 0 = .ok (.iload_n 1, 1) := by decide +kernel
theorem dX7_setVideo_1 : decode cX7_setVideo 1 = .ok (.iconst 1, 1) := by decide +kernel
theorem dX7_setVideo_2 : decode cX7_setVideo 2 = .ok (.bipush 30, 2) := by decide +kernel
theorem dX7_setVideo_4 : decode cX7_setVideo 4 = .ok (.invokestatic 59, 3) := by decide +kernel
theorem dX7_setVideo_7 : decode cX7_setVideo 7 = .ok (.ifCond .eq 15, 3) := by decide +kernel
theorem dX7_setVideo_10 : decode cX7_setVideo 10 = .ok (.iload_n 2, 1) := by decide +kernel
theorem dX7_setVideo_11 : decode cX7_setVideo 11 = .ok (.bipush 100, 2) := by decide +kernel
theorem dX7_setVideo_13 : decode cX7_setVideo 13 = .ok (.sipush 5000, 3) := by decide +kernel
theorem dX7_setVideo_16 : decode cX7_setVideo 16 = .ok (.invokestatic 59, 3) := by decide +kernel
theorem dX7_setVideo_19 : decode cX7_setVideo 19 = .ok (.ifCond .ne 5, 3) := by decide +kernel
theorem dX7_setVideo_22 : decode cX7_setVideo 22 = .ok (.iconst (-1), 1) := by decide +kernel
theorem dX7_setVideo_23 : decode cX7_setVideo 23 = .ok (.ireturn, 1) := by decide +kernel
theorem dX7_setVideo_24 : decode cX7_setVideo 24 = .ok (.aload_n 0, 1) := by decide +kernel
theorem dX7_setVideo_25 : decode cX7_setVideo 25 = .ok (.iload_n 1, 1) := by decide +kernel
theorem dX7_setVideo_26 : decode cX7_setVideo 26 = .ok (.putfield 7, 3) := by decide +kernel
theorem dX7_setVideo_29 : decode cX7_setVideo 29 = .ok (.aload_n 0, 1) := by decide +kernel
theorem dX7_setVideo_30 : decode cX7_setVideo 30 = .ok (.iload_n 2, 1) := by decide +kernel
theorem dX7_setVideo_31 : decode cX7_setVideo 31 = .ok (.putfield 13, 3) := by decide +kernel
theorem dX7_setVideo_34 : decode cX7_setVideo 34 = .ok (.aload_n 0, 1) := by decide +kernel
theorem dX7_setVideo_35 : decode cX7_setVideo 35 = .ok (.iconst 0, 1) := by decide +kernel
theorem dX7_setVideo_36 : decode cX7_setVideo 36 = .ok (.putfield 63, 3) := by decide +kernel
theorem dX7_setVideo_39 : decode cX7_setVideo 39 = .ok (.iconst 0, 1) := by decide +kernel
theorem dX7_setVideo_40 : decode cX7_setVideo 40 = .ok (.istore_n 3, 1) := by decide +kernel
theorem dX7_setVideo_41 : decode cX7_setVideo 41 = .ok (.iload_n 3, 1) := by decide +kernel
theorem dX7_setVideo_42 : decode cX7_setVideo 42 = .ok (.bipush 30, 2) := by decide +kernel
theorem dX7_setVideo_44 : decode cX7_setVideo 44 = .ok (.if_icmp .ge 17, 3) := by decide +kernel
theorem dX7_setVideo_47 : decode cX7_setVideo 47 = .ok (.aload_n 0, 1) := by decide +kernel
theorem dX7_setVideo_48 : decode cX7_setVideo 48 = .ok (.getfield 16, 3) := by decide +kernel
theorem dX7_setVideo_51 : decode cX7_setVideo 51 = .ok (.iload_n 3, 1) := by decide +kernel
theorem dX7_setVideo_52 : decode cX7_setVideo 52 = .ok (.bipush 100, 2) := by decide +kernel
theorem dX7_setVideo_54 : decode cX7_setVideo 54 = .ok (.iastore, 1) := by decide +kernel
theorem dX7_setVideo_55 : decode cX7_setVideo 55 = .ok (.iinc 3 1, 3) := by decide +kernel
theorem dX7_setVideo_58 : decode cX7_setVideo 58 = .ok (.goto (-17), 3) := by decide +kernel
theorem dX7_setVideo_61 : decode cX7_setVideo 61 = .ok (.aload_n 0, 1) := by decide +kernel
theorem dX7_setVideo_62 : decode cX7_setVideo 62 = .ok (.invokevirtual 56, 3) := by decide +kernel
theorem dX7_setVideo_65 : decode cX7_setVideo 65 = .ok (.aload_n 0, 1) := by decide +kernel
theorem dX7_setVideo_66 : decode cX7_setVideo 66 = .ok (.getfield 7, 3) := by decide +kernel
theorem dX7_setVideo_69 : decode cX7_setVideo 69 = .ok (.aload_n 0, 1) := by decide +kernel
theorem dX7_setVideo_70 : decode cX7_setVideo 70 = .ok (.getfield 13, 3) := by decide +kernel
theorem dX7_setVideo_73 : decode cX7_setVideo 73 = .ok (.imul, 1) := by decide +kernel
theorem dX7_setVideo_74 : decode cX7_setVideo 74 = .ok (.ireturn, 1) := by decide +kernel
theorem dX7_addLevel_0 : decode cX7_addLevel 0 = .ok (.iload_n 1, 1) := by decide +kernel
theorem dX7_addLevel_1 : decode cX7_addLevel 1 = .ok (.aload_n 0, 1) := by decide +kernel
theorem dX7_addLevel_2 : decode cX7_addLevel 2 = .ok (.getfield 63, 3) := by decide +kernel
theorem dX7_addLevel_5 : decode cX7_addLevel 5 = .ok (.ifCond .ne 7, 3) := by decide +kernel
theorem dX7_addLevel_8 : decode cX7_addLevel 8 = .ok (.iconst 1, 1) := by decide +kernel
theorem dX7_addLevel_9 : decode cX7_addLevel 9 = .ok (.goto 16, 3) := by decide +kernel
theorem dX7_addLevel_12 : decode cX7_addLevel 12 = .ok (.aload_n 0, 1) := by decide +kernel
theorem dX7_addLevel_13 : decode cX7_addLevel 13 = .ok (.getfield 20, 3) := by decide +kernel
theorem dX7_addLevel_16 : decode cX7_addLevel 16 = .ok (.aload_n 0, 1) := by decide +kernel
theorem dX7_addLevel_17 : decode cX7_addLevel 17 = .ok (.getfield 63, 3) := by decide +kernel
theorem dX7_addLevel_20 : decode cX7_addLevel 20 = .ok (.iconst 1, 1) := by decide +kernel
theorem dX7_addLevel_21 : decode cX7_addLevel 21 = .ok (.isub, 1) := by decide +kernel
theorem dX7_addLevel_22 : decode cX7_addLevel 22 = .ok (.iaload, 1) := by decide +kernel
theorem dX7_addLevel_23 : decode cX7_addLevel 23 = .ok (.iconst 1, 1) := by decide +kernel
theorem dX7_addLevel_24 : decode cX7_addLevel 24 = .ok (.iadd, 1) := by decide +kernel
theorem dX7_addLevel_25 : decode cX7_addLevel 25 = .ok (.sipush 9000, 3) := by decide +kernel
theorem dX7_addLevel_28 : decode cX7_addLevel 28 = .ok (.invokestatic 59, 3) := by decide +kernel
theorem dX7_addLevel_31 : decode cX7_addLevel 31 = .ok (.ifCond .ne 5, 3) := by decide +kernel
theorem dX7_addLevel_34 : decode cX7_addLevel 34 = .ok (.iconst (-1), 1) := by decide +kernel
theorem dX7_addLevel_35 : decode cX7_addLevel 35 = .ok (.ireturn, 1) := by decide +kernel
theorem dX7_addLevel_36 : decode cX7_addLevel 36 = .ok (.aload_n 0, 1) := by decide +kernel
theorem dX7_addLevel_37 : decode cX7_addLevel 37 = .ok (.getfield 63, 3) := by decide +kernel
theorem dX7_addLevel_40 : decode cX7_addLevel 40 = .ok (.iconst 5, 1) := by decide +kernel
theorem dX7_addLevel_41 : decode cX7_addLevel 41 = .ok (.if_icmp .ne 6, 3) := by decide +kernel
theorem dX7_addLevel_44 : decode cX7_addLevel 44 = .ok (.bipush (-3), 2) := by decide +kernel
theorem dX7_addLevel_46 : decode cX7_addLevel 46 = .ok (.ireturn, 1) := by decide +kernel
theorem dX7_addLevel_47 : decode cX7_addLevel 47 = .ok (.aload_n 0, 1) := by decide +kernel
theorem dX7_addLevel_48 : decode cX7_addLevel 48 = .ok (.getfield 20, 3) := by decide +kernel
theorem dX7_addLevel_51 : decode cX7_addLevel 51 = .ok (.aload_n 0, 1) := by decide +kernel
theorem dX7_addLevel_52 : decode cX7_addLevel 52 = .ok (.getfield 63, 3) := by decide +kernel
theorem dX7_addLevel_55 : decode cX7_addLevel 55 = .ok (.iload_n 1, 1) := by decide +kernel
theorem dX7_addLevel_56 : decode cX7_addLevel 56 = .ok (.iastore, 1) := by decide +kernel
theorem dX7_addLevel_57 : decode cX7_addLevel 57 = .ok (.aload_n 0, 1) := by decide +kernel
theorem dX7_addLevel_58 : decode cX7_addLevel 58 = .ok (.dup, 1) := by decide +kernel
theorem dX7_addLevel_59 : decode cX7_addLevel 59 = .ok (.getfield 63, 3) := by decide +kernel
theorem dX7_addLevel_62 : decode cX7_addLevel 62 = .ok (.iconst 1, 1) := by decide +kernel
theorem dX7_addLevel_63 : decode cX7_addLevel 63 = .ok (.iadd, 1) := by decide +kernel
theorem dX7_addLevel_64 : decode cX7_addLevel 64 = .ok (.putfield 63, 3) := by decide +kernel
theorem dX7_addLevel_67 : decode cX7_addLevel 67 = .ok (.aload_n 0, 1) := by decide +kernel
theorem dX7_addLevel_68 : decode cX7_addLevel 68 = .ok (.invokevirtual 56, 3) := by decide +kernel
theorem dX7_addLevel_71 : decode cX7_addLevel 71 = .ok (.aload_n 0, 1) := by decide +kernel
theorem dX7_addLevel_72 : decode cX7_addLevel 72 = .ok (.getfield 63, 3) := by decide +kernel
theorem dX7_addLevel_75 : decode cX7_addLevel 75 = .ok (.iconst 1, 1) := by decide +kernel
theorem dX7_addLevel_76 : decode cX7_addLevel 76 = .ok (.isub, 1) := by decide +kernel
theorem dX7_addLevel_77 : decode cX7_addLevel 77 = .ok (.ireturn, 1) := by decide +kernel
theorem dX7_setVariation_0 : decode cX7_setVariation 0 = .ok (.iload_n 1, 1) := by decide +kernel
theorem dX7_setVariation_1 : decode cX7_setVariation 1 = .ok (.iconst 0, 1) := by decide +kernel
theorem dX7_setVariation_2 : decode cX7_setVariation 2 = .ok (.aload_n 0, 1) := by decide +kernel
theorem dX7_setVariation_3 : decode cX7_setVariation 3 = .ok (.getfield 7, 3) := by decide +kernel
theorem dX7_setVariation_6 : decode cX7_setVariation 6 = .ok (.iconst 1, 1) := by decide +kernel
theorem dX7_setVariation_7 : decode cX7_setVariation 7 = .ok (.isub, 1) := by decide +kernel
theorem dX7_setVariation_8 : decode cX7_setVariation 8 = .ok (.invokestatic 59, 3) := by decide +kernel
theorem dX7_setVariation_11 : decode cX7_setVariation 11 = .ok (.ifCond .ne 6, 3) := by decide +kernel
theorem dX7_setVariation_14 : decode cX7_setVariation 14 = .ok (.bipush (-2), 2) := by decide +kernel
theorem dX7_setVariation_16 : decode cX7_setVariation 16 = .ok (.ireturn, 1) := by decide +kernel
theorem dX7_setVariation_17 : decode cX7_setVariation 17 = .ok (.iload_n 2, 1) := by decide +kernel
theorem dX7_setVariation_18 : decode cX7_setVariation 18 = .ok (.iconst 0, 1) := by decide +kernel
theorem dX7_setVariation_19 : decode cX7_setVariation 19 = .ok (.sipush 300, 3) := by decide +kernel
theorem dX7_setVariation_22 : decode cX7_setVariation 22 = .ok (.invokestatic 59, 3) := by decide +kernel
theorem dX7_setVariation_25 : decode cX7_setVariation 25 = .ok (.ifCond .ne 5, 3) := by decide +kernel
theorem dX7_setVariation_28 : decode cX7_setVariation 28 = .ok (.iconst (-1), 1) := by decide +kernel
theorem dX7_setVariation_29 : decode cX7_setVariation 29 = .ok (.ireturn, 1) := by decide +kernel
theorem dX7_setVariation_30 : decode cX7_setVariation 30 = .ok (.aload_n 0, 1) := by decide +kernel
theorem dX7_setVariation_31 : decode cX7_setVariation 31 = .ok (.getfield 16, 3) := by decide +kernel
theorem dX7_setVariation_34 : decode cX7_setVariation 34 = .ok (.iload_n 1, 1) := by decide +kernel
theorem dX7_setVariation_35 : decode cX7_setVariation 35 = .ok (.iaload, 1) := by decide +kernel
theorem dX7_setVariation_36 : decode cX7_setVariation 36 = .ok (.istore_n 3, 1) := by decide +kernel
theorem dX7_setVariation_37 : decode cX7_setVariation 37 = .ok (.aload_n 0, 1) := by decide +kernel
theorem dX7_setVariation_38 : decode cX7_setVariation 38 = .ok (.getfield 16, 3) := by decide +kernel
theorem dX7_setVariation_41 : decode cX7_setVariation 41 = .ok (.iload_n 1, 1) := by decide +kernel
theorem dX7_setVariation_42 : decode cX7_setVariation 42 = .ok (.iload_n 2, 1) := by decide +kernel
theorem dX7_setVariation_43 : decode cX7_setVariation 43 = .ok (.iastore, 1) := by decide +kernel
theorem dX7_setVariation_44 : decode cX7_setVariation 44 = .ok (.iload_n 3, 1) := by decide +kernel
theorem dX7_setVariation_45 : decode cX7_setVariation 45 = .ok (.ireturn, 1) := by decide +kernel
theorem dX7_addPeriod_0 : decode cX7_addPeriod 0 = .ok (.iload_n 1, 1) := by decide +kernel
theorem dX7_addPeriod_1 : decode cX7_addPeriod 1 = .ok (.iconst 1, 1) := by decide +kernel
theorem dX7_addPeriod_2 : decode cX7_addPeriod 2 = .ok (.ldc 66, 2) := by decide +kernel
theorem dX7_addPeriod_4 : decode cX7_addPeriod 4 = .ok (.invokestatic 59, 3) := by decide +kernel
theorem dX7_addPeriod_7 : decode cX7_addPeriod 7 = .ok (.ifCond .eq 14, 3) := by decide +kernel
theorem dX7_addPeriod_10 : decode cX7_addPeriod 10 = .ok (.iload_n 2, 1) := by decide +kernel
theorem dX7_addPeriod_11 : decode cX7_addPeriod 11 = .ok (.iconst 0, 1) := by decide +kernel
theorem dX7_addPeriod_12 : decode cX7_addPeriod 12 = .ok (.sipush 9000, 3) := by decide +kernel
theorem dX7_addPeriod_15 : decode cX7_addPeriod 15 = .ok (.invokestatic 59, 3) := by decide +kernel
theorem dX7_addPeriod_18 : decode cX7_addPeriod 18 = .ok (.ifCond .ne 5, 3) := by decide +kernel
theorem dX7_addPeriod_21 : decode cX7_addPeriod 21 = .ok (.iconst (-1), 1) := by decide +kernel
theorem dX7_addPeriod_22 : decode cX7_addPeriod 22 = .ok (.ireturn, 1) := by decide +kernel
theorem dX7_addPeriod_23 : decode cX7_addPeriod 23 = .ok (.aload_n 0, 1) := by decide +kernel
theorem dX7_addPeriod_24 : decode cX7_addPeriod 24 = .ok (.getfield 67, 3) := by decide +kernel
theorem dX7_addPeriod_27 : decode cX7_addPeriod 27 = .ok (.bipush 12, 2) := by decide +kernel
theorem dX7_addPeriod_29 : decode cX7_addPeriod 29 = .ok (.if_icmp .ne 6, 3) := by decide +kernel
theorem dX7_addPeriod_32 : decode cX7_addPeriod 32 = .ok (.bipush (-3), 2) := by decide +kernel
theorem dX7_addPeriod_34 : decode cX7_addPeriod 34 = .ok (.ireturn, 1) := by decide +kernel
theorem dX7_addPeriod_35 : decode cX7_addPeriod 35 = .ok (.aload_n 0, 1) := by decide +kernel
theorem dX7_addPeriod_36 : decode cX7_addPeriod 36 = .ok (.getfield 23, 3) := by decide +kernel
theorem dX7_addPeriod_39 : decode cX7_addPeriod 39 = .ok (.aload_n 0, 1) := by decide +kernel
theorem dX7_addPeriod_40 : decode cX7_addPeriod 40 = .ok (.getfield 67, 3) := by decide +kernel
theorem dX7_addPeriod_43 : decode cX7_addPeriod 43 = .ok (.iload_n 1, 1) := by decide +kernel
theorem dX7_addPeriod_44 : decode cX7_addPeriod 44 = .ok (.aload_n 0, 1) := by decide +kernel
theorem dX7_addPeriod_45 : decode cX7_addPeriod 45 = .ok (.getfield 67, 3) := by decide +kernel
theorem dX7_addPeriod_48 : decode cX7_addPeriod 48 = .ok (.ifCond .ne 7, 3) := by decide +kernel
theorem dX7_addPeriod_51 : decode cX7_addPeriod 51 = .ok (.iconst 0, 1) := by decide +kernel
theorem dX7_addPeriod_52 : decode cX7_addPeriod 52 = .ok (.goto 14, 3) := by decide +kernel
theorem dX7_addPeriod_55 : decode cX7_addPeriod 55 = .ok (.aload_n 0, 1) := by decide +kernel
theorem dX7_addPeriod_56 : decode cX7_addPeriod 56 = .ok (.getfield 23, 3) := by decide +kernel
theorem dX7_addPeriod_59 : decode cX7_addPeriod 59 = .ok (.aload_n 0, 1) := by decide +kernel
theorem dX7_addPeriod_60 : decode cX7_addPeriod 60 = .ok (.getfield 67, 3) := by decide +kernel
theorem dX7_addPeriod_63 : decode cX7_addPeriod 63 = .ok (.iconst 1, 1) := by decide +kernel
theorem dX7_addPeriod_64 : decode cX7_addPeriod 64 = .ok (.isub, 1) := by decide +kernel
theorem dX7_addPeriod_65 : decode cX7_addPeriod 65 = .ok (.iaload, 1) := by decide +kernel
theorem dX7_addPeriod_66 : decode cX7_addPeriod 66 = .ok (.iadd, 1) := by decide +kernel
theorem dX7_addPeriod_67 : decode cX7_addPeriod 67 = .ok (.iastore, 1) := by decide +kernel
theorem dX7_addPeriod_68 : decode cX7_addPeriod 68 = .ok (.aload_n 0, 1) := by decide +kernel
theorem dX7_addPeriod_69 : decode cX7_addPeriod 69 = .ok (.getfield 26, 3) := by decide +kernel
theorem dX7_addPeriod_72 : decode cX7_addPeriod 72 = .ok (.aload_n 0, 1) := by decide +kernel
theorem dX7_addPeriod_73 : decode cX7_addPeriod 73 = .ok (.getfield 67, 3) := by decide +kernel
theorem dX7_addPeriod_76 : decode cX7_addPeriod 76 = .ok (.iload_n 2, 1) := by decide +kernel
theorem dX7_addPeriod_77 : decode cX7_addPeriod 77 = .ok (.iastore, 1) := by decide +kernel
theorem dX7_addPeriod_78 : decode cX7_addPeriod 78 = .ok (.aload_n 0, 1) := by decide +kernel
theorem dX7_addPeriod_79 : decode cX7_addPeriod 79 = .ok (.dup, 1) := by decide +kernel
theorem dX7_addPeriod_80 : decode cX7_addPeriod 80 = .ok (.getfield 67, 3) := by decide +kernel
theorem dX7_addPeriod_83 : decode cX7_addPeriod 83 = .ok (.iconst 1, 1) := by decide +kernel
theorem dX7_addPeriod_84 : decode cX7_addPeriod 84 = .ok (.iadd, 1) := by decide +kernel
theorem dX7_addPeriod_85 : decode cX7_addPeriod 85 = .ok (.putfield 67, 3) := by decide +kernel
theorem dX7_addPeriod_88 : decode cX7_addPeriod 88 = .ok (.aload_n 0, 1) := by decide +kernel
theorem dX7_addPeriod_89 : decode cX7_addPeriod 89 = .ok (.getfield 67, 3) := by decide +kernel
theorem dX7_addPeriod_92 : decode cX7_addPeriod 92 = .ok (.ireturn, 1) := by decide +kernel
theorem dX7_setBuffer_0 : decode cX7_setBuffer 0 = .ok (.iload_n 1, 1) := by decide +kernel
theorem dX7_setBuffer_1 : decode cX7_setBuffer 1 = .ok (.bipush 100, 2) := by decide +kernel
theorem dX7_setBuffer_3 : decode cX7_setBuffer 3 = .ok (.ldc 66, 2) := by decide +kernel
theorem dX7_setBuffer_5 : decode cX7_setBuffer 5 = .ok (.invokestatic 59, 3) := by decide +kernel
theorem dX7_setBuffer_8 : decode cX7_setBuffer 8 = .ok (.ifCond .eq 12, 3) := by decide +kernel
theorem dX7_setBuffer_11 : decode cX7_setBuffer 11 = .ok (.iload_n 2, 1) := by decide +kernel
theorem dX7_setBuffer_12 : decode cX7_setBuffer 12 = .ok (.iconst 1, 1) := by decide +kernel
theorem dX7_setBuffer_13 : decode cX7_setBuffer 13 = .ok (.iload_n 1, 1) := by decide +kernel
theorem dX7_setBuffer_14 : decode cX7_setBuffer 14 = .ok (.invokestatic 59, 3) := by decide +kernel
theorem dX7_setBuffer_17 : decode cX7_setBuffer 17 = .ok (.ifCond .ne 5, 3) := by decide +kernel
theorem dX7_setBuffer_20 : decode cX7_setBuffer 20 = .ok (.iconst (-1), 1) := by decide +kernel
theorem dX7_setBuffer_21 : decode cX7_setBuffer 21 = .ok (.ireturn, 1) := by decide +kernel
theorem dX7_setBuffer_22 : decode cX7_setBuffer 22 = .ok (.aload_n 0, 1) := by decide +kernel
theorem dX7_setBuffer_23 : decode cX7_setBuffer 23 = .ok (.getfield 29, 3) := by decide +kernel
theorem dX7_setBuffer_26 : decode cX7_setBuffer 26 = .ok (.iload_n 1, 1) := by decide +kernel
theorem dX7_setBuffer_27 : decode cX7_setBuffer 27 = .ok (.if_icmp .ne 15, 3) := by decide +kernel
theorem dX7_setBuffer_30 : decode cX7_setBuffer 30 = .ok (.aload_n 0, 1) := by decide +kernel
theorem dX7_setBuffer_31 : decode cX7_setBuffer 31 = .ok (.getfield 32, 3) := by decide +kernel
theorem dX7_setBuffer_34 : decode cX7_setBuffer 34 = .ok (.iload_n 2, 1) := by decide +kernel
theorem dX7_setBuffer_35 : decode cX7_setBuffer 35 = .ok (.if_icmp .ne 7, 3) := by decide +kernel
theorem dX7_setBuffer_38 : decode cX7_setBuffer 38 = .ok (.iconst 1, 1) := by decide +kernel
theorem dX7_setBuffer_39 : decode cX7_setBuffer 39 = .ok (.goto 4, 3) := by decide +kernel
theorem dX7_setBuffer_42 : decode cX7_setBuffer 42 = .ok (.iconst 0, 1) := by decide +kernel
theorem dX7_setBuffer_43 : decode cX7_setBuffer 43 = .ok (.istore_n 3, 1) := by decide +kernel
theorem dX7_setBuffer_44 : decode cX7_setBuffer 44 = .ok (.aload_n 0, 1) := by decide +kernel
theorem dX7_setBuffer_45 : decode cX7_setBuffer 45 = .ok (.iload_n 1, 1) := by decide +kernel
theorem dX7_setBuffer_46 : decode cX7_setBuffer 46 = .ok (.putfield 29, 3) := by decide +kernel
theorem dX7_setBuffer_49 : decode cX7_setBuffer 49 = .ok (.aload_n 0, 1) := by decide +kernel
theorem dX7_setBuffer_50 : decode cX7_setBuffer 50 = .ok (.iload_n 2, 1) := by decide +kernel
theorem dX7_setBuffer_51 : decode cX7_setBuffer 51 = .ok (.putfield 32, 3) := by decide +kernel
theorem dX7_setBuffer_54 : decode cX7_setBuffer 54 = .ok (.iload_n 3, 1) := by decide +kernel
theorem dX7_setBuffer_55 : decode cX7_setBuffer 55 = .ok (.ifCond .eq 7, 3) := by decide +kernel
theorem dX7_setBuffer_58 : decode cX7_setBuffer 58 = .ok (.iconst 0, 1) := by decide +kernel
theorem dX7_setBuffer_59 : decode cX7_setBuffer 59 = .ok (.goto 4, 3) := by decide +kernel
theorem dX7_setBuffer_62 : decode cX7_setBuffer 62 = .ok (.iconst 1, 1) := by decide +kernel
theorem dX7_setBuffer_63 : decode cX7_setBuffer 63 = .ok (.ireturn, 1) := by decide +kernel
theorem dX7_setPolicyNumbers_0 : decode cX7_setPolicyNumbers 0 = .ok (.iload_n 1, 1) := by decide +kernel
theorem dX7_setPolicyNumbers_1 : decode cX7_setPolicyNumbers 1 = .ok (.iconst 1, 1) := by decide +kernel
theorem dX7_setPolicyNumbers_2 : decode cX7_setPolicyNumbers 2 = .ok (.sipush 200, 3) := by decide +kernel
theorem dX7_setPolicyNumbers_5 : decode cX7_setPolicyNumbers 5 = .ok (.invokestatic 59, 3) := by decide +kernel
theorem dX7_setPolicyNumbers_8 : decode cX7_setPolicyNumbers 8 = .ok (.ifCond .eq 23, 3) := by decide +kernel
theorem dX7_setPolicyNumbers_11 : decode cX7_setPolicyNumbers 11 = .ok (.iload_n 2, 1) := by decide +kernel
theorem dX7_setPolicyNumbers_12 : decode cX7_setPolicyNumbers 12 = .ok (.iconst 0, 1) := by decide +kernel
theorem dX7_setPolicyNumbers_13 : decode cX7_setPolicyNumbers 13 = .ok (.ldc 66, 2) := by decide +kernel
theorem dX7_setPolicyNumbers_15 : decode cX7_setPolicyNumbers 15 = .ok (.invokestatic 59, 3) := by decide +kernel
theorem dX7_setPolicyNumbers_18 : decode cX7_setPolicyNumbers 18 = .ok (.ifCond .eq 13, 3) := by decide +kernel
theorem dX7_setPolicyNumbers_21 : decode cX7_setPolicyNumbers 21 = .ok (.iload_n 3, 1) := by decide +kernel
theorem dX7_setPolicyNumbers_22 : decode cX7_setPolicyNumbers 22 = .ok (.iconst 1, 1) := by decide +kernel
theorem dX7_setPolicyNumbers_23 : decode cX7_setPolicyNumbers 23 = .ok (.ldc 66, 2) := by decide +kernel
theorem dX7_setPolicyNumbers_25 : decode cX7_setPolicyNumbers 25 = .ok (.invokestatic 59, 3) := by decide +kernel
theorem dX7_setPolicyNumbers_28 : decode cX7_setPolicyNumbers 28 = .ok (.ifCond .ne 5, 3) := by decide +kernel
theorem dX7_setPolicyNumbers_31 : decode cX7_setPolicyNumbers 31 = .ok (.iconst (-1), 1) := by decide +kernel
theorem dX7_setPolicyNumbers_32 : decode cX7_setPolicyNumbers 32 = .ok (.ireturn, 1) := by decide +kernel
theorem dX7_setPolicyNumbers_33 : decode cX7_setPolicyNumbers 33 = .ok (.aload_n 0, 1) := by decide +kernel
theorem dX7_setPolicyNumbers_34 : decode cX7_setPolicyNumbers 34 = .ok (.getfield 35, 3) := by decide +kernel
theorem dX7_setPolicyNumbers_37 : decode cX7_setPolicyNumbers 37 = .ok (.iload_n 1, 1) := by decide +kernel
theorem dX7_setPolicyNumbers_38 : decode cX7_setPolicyNumbers 38 = .ok (.if_icmp .ne 23, 3) := by decide +kernel
theorem dX7_setPolicyNumbers_41 : decode cX7_setPolicyNumbers 41 = .ok (.aload_n 0, 1) := by decide +kernel
theorem dX7_setPolicyNumbers_42 : decode cX7_setPolicyNumbers 42 = .ok (.getfield 38, 3) := by decide +kernel
theorem dX7_setPolicyNumbers_45 : decode cX7_setPolicyNumbers 45 = .ok (.iload_n 2, 1) := by decide +kernel
theorem dX7_setPolicyNumbers_46 : decode cX7_setPolicyNumbers 46 = .ok (.if_icmp .ne 15, 3) := by decide +kernel
theorem dX7_setPolicyNumbers_49 : decode cX7_setPolicyNumbers 49 = .ok (.aload_n 0, 1) := by decide +kernel
theorem dX7_setPolicyNumbers_50 : decode cX7_setPolicyNumbers 50 = .ok (.getfield 41, 3) := by decide +kernel
theorem dX7_setPolicyNumbers_53 : decode cX7_setPolicyNumbers 53 = .ok (.iload_n 3, 1) := by decide +kernel
theorem dX7_setPolicyNumbers_54 : decode cX7_setPolicyNumbers 54 = .ok (.if_icmp .ne 7, 3) := by decide +kernel
theorem dX7_setPolicyNumbers_57 : decode cX7_setPolicyNumbers 57 = .ok (.iconst 1, 1) := by decide +kernel
theorem dX7_setPolicyNumbers_58 : decode cX7_setPolicyNumbers 58 = .ok (.goto 4, 3) := by decide +kernel
theorem dX7_setPolicyNumbers_61 : decode cX7_setPolicyNumbers 61 = .ok (.iconst 0, 1) := by decide +kernel
theorem dX7_setPolicyNumbers_62 : decode cX7_setPolicyNumbers 62 = .ok (.istore 4, 2) := by decide +kernel
theorem dX7_setPolicyNumbers_64 : decode cX7_setPolicyNumbers 64 = .ok (.aload_n 0, 1) := by decide +kernel
theorem dX7_setPolicyNumbers_65 : decode cX7_setPolicyNumbers 65 = .ok (.iload_n 1, 1) := by decide +kernel
theorem dX7_setPolicyNumbers_66 : decode cX7_setPolicyNumbers 66 = .ok (.putfield 35, 3) := by decide +kernel
theorem dX7_setPolicyNumbers_69 : decode cX7_setPolicyNumbers 69 = .ok (.aload_n 0, 1) := by decide +kernel
theorem dX7_setPolicyNumbers_70 : decode cX7_setPolicyNumbers 70 = .ok (.iload_n 2, 1) := by decide +kernel
theorem dX7_setPolicyNumbers_71 : decode cX7_setPolicyNumbers 71 = .ok (.putfield 38, 3) := by decide +kernel
theorem dX7_setPolicyNumbers_74 : decode cX7_setPolicyNumbers 74 = .ok (.aload_n 0, 1) := by decide +kernel
theorem dX7_setPolicyNumbers_75 : decode cX7_setPolicyNumbers 75 = .ok (.iload_n 3, 1) := by decide +kernel
theorem dX7_setPolicyNumbers_76 : decode cX7_setPolicyNumbers 76 = .ok (.putfield 41, 3) := by decide +kernel
theorem dX7_setPolicyNumbers_79 : decode cX7_setPolicyNumbers 79 = .ok (.iload 4, 2) := by decide +kernel
theorem dX7_setPolicyNumbers_81 : decode cX7_setPolicyNumbers 81 = .ok (.ifCond .eq 7, 3) := by decide +kernel
theorem dX7_setPolicyNumbers_84 : decode cX7_setPolicyNumbers 84 = .ok (.iconst 0, 1) := by decide +kernel
theorem dX7_setPolicyNumbers_85 : decode cX7_setPolicyNumbers 85 = .ok (.goto 4, 3) := by decide +kernel
theorem dX7_setPolicyNumbers_88 : decode cX7_setPolicyNumbers 88 = .ok (.iconst 1, 1) := by decide +kernel
theorem dX7_setPolicyNumbers_89 : decode cX7_setPolicyNumbers 89 = .ok (.ireturn, 1) := by decide +kernel
theorem dX7_typeKey_0 : decode cX7_typeKey 0 = .ok (.iload_n 1, 1) := by decide +kernel
theorem dX7_typeKey_1 : decode cX7_typeKey 1 = .ok (.bipush 32, 2) := by decide +kernel
theorem dX7_typeKey_3 : decode cX7_typeKey 3 = .ok (.bipush 126, 2) := by decide +kernel
theorem dX7_typeKey_5 : decode cX7_typeKey 5 = .ok (.invokestatic 59, 3) := by decide +kernel
theorem dX7_typeKey_8 : decode cX7_typeKey 8 = .ok (.ifCond .ne 5, 3) := by decide +kernel
theorem dX7_typeKey_11 : decode cX7_typeKey 11 = .ok (.iconst (-1), 1) := by decide +kernel
theorem dX7_typeKey_12 : decode cX7_typeKey 12 = .ok (.ireturn, 1) := by decide +kernel
theorem dX7_typeKey_13 : decode cX7_typeKey 13 = .ok (.aload_n 0, 1) := by decide +kernel
theorem dX7_typeKey_14 : decode cX7_typeKey 14 = .ok (.getfield 70, 3) := by decide +kernel
theorem dX7_typeKey_17 : decode cX7_typeKey 17 = .ok (.bipush 16, 2) := by decide +kernel
theorem dX7_typeKey_19 : decode cX7_typeKey 19 = .ok (.if_icmp .ne 6, 3) := by decide +kernel
theorem dX7_typeKey_22 : decode cX7_typeKey 22 = .ok (.bipush (-3), 2) := by decide +kernel
theorem dX7_typeKey_24 : decode cX7_typeKey 24 = .ok (.ireturn, 1) := by decide +kernel
theorem dX7_typeKey_25 : decode cX7_typeKey 25 = .ok (.aload_n 0, 1) := by decide +kernel
theorem dX7_typeKey_26 : decode cX7_typeKey 26 = .ok (.getfield 53, 3) := by decide +kernel
theorem dX7_typeKey_29 : decode cX7_typeKey 29 = .ok (.aload_n 0, 1) := by decide +kernel
theorem dX7_typeKey_30 : decode cX7_typeKey 30 = .ok (.getfield 70, 3) := by decide +kernel
theorem dX7_typeKey_33 : decode cX7_typeKey 33 = .ok (.iload_n 1, 1) := by decide +kernel
theorem dX7_typeKey_34 : decode cX7_typeKey 34 = .ok (.iastore, 1) := by decide +kernel
theorem dX7_typeKey_35 : decode cX7_typeKey 35 = .ok (.aload_n 0, 1) := by decide +kernel
theorem dX7_typeKey_36 : decode cX7_typeKey 36 = .ok (.dup, 1) := by decide +kernel
theorem dX7_typeKey_37 : decode cX7_typeKey 37 = .ok (.getfield 70, 3) := by decide +kernel
theorem dX7_typeKey_40 : decode cX7_typeKey 40 = .ok (.iconst 1, 1) := by decide +kernel
theorem dX7_typeKey_41 : decode cX7_typeKey 41 = .ok (.iadd, 1) := by decide +kernel
theorem dX7_typeKey_42 : decode cX7_typeKey 42 = .ok (.putfield 70, 3) := by decide +kernel
theorem dX7_typeKey_45 : decode cX7_typeKey 45 = .ok (.aload_n 0, 1) := by decide +kernel
theorem dX7_typeKey_46 : decode cX7_typeKey 46 = .ok (.getfield 70, 3) := by decide +kernel
theorem dX7_typeKey_49 : decode cX7_typeKey 49 = .ok (.ireturn, 1) := by decide +kernel
theorem dX7_has_0 : decode cX7_has 0 = .ok (.iload_n 1, 1) := by decide +kernel
theorem dX7_has_1 : decode cX7_has 1 = .ok (.iload 4, 2) := by decide +kernel
theorem dX7_has_3 : decode cX7_has 3 = .ok (.iadd, 1) := by decide +kernel
theorem dX7_has_4 : decode cX7_has 4 = .ok (.aload_n 0, 1) := by decide +kernel
theorem dX7_has_5 : decode cX7_has 5 = .ok (.getfield 73, 3) := by decide +kernel
theorem dX7_has_8 : decode cX7_has 8 = .ok (.if_icmp .le 5, 3) := by decide +kernel
theorem dX7_has_11 : decode cX7_has 11 = .ok (.iconst 0, 1) := by decide +kernel
theorem dX7_has_12 : decode cX7_has 12 = .ok (.ireturn, 1) := by decide +kernel
theorem dX7_has_13 : decode cX7_has 13 = .ok (.lload_n 2, 1) := by decide +kernel
theorem dX7_has_14 : decode cX7_has 14 = .ok (.lstore 5, 2) := by decide +kernel
theorem dX7_has_16 : decode cX7_has 16 = .ok (.iload 4, 2) := by decide +kernel
theorem dX7_has_18 : decode cX7_has 18 = .ok (.iconst 1, 1) := by decide +kernel
theorem dX7_has_19 : decode cX7_has 19 = .ok (.isub, 1) := by decide +kernel
theorem dX7_has_20 : decode cX7_has 20 = .ok (.istore 7, 2) := by decide +kernel
theorem dX7_has_22 : decode cX7_has 22 = .ok (.iload 7, 2) := by decide +kernel
theorem dX7_has_24 : decode cX7_has 24 = .ok (.ifCond .lt 57, 3) := by decide +kernel
theorem dX7_has_27 : decode cX7_has 27 = .ok (.lload 5, 2) := by decide +kernel
theorem dX7_has_29 : decode cX7_has 29 = .ok (.ldc2_w 76, 3) := by decide +kernel
theorem dX7_has_32 : decode cX7_has 32 = .ok (.lrem, 1) := by decide +kernel
theorem dX7_has_33 : decode cX7_has 33 = .ok (.l2i, 1) := by decide +kernel
theorem dX7_has_34 : decode cX7_has 34 = .ok (.istore 8, 2) := by decide +kernel
theorem dX7_has_36 : decode cX7_has 36 = .ok (.aload_n 0, 1) := by decide +kernel
theorem dX7_has_37 : decode cX7_has 37 = .ok (.getfield 53, 3) := by decide +kernel
theorem dX7_has_40 : decode cX7_has 40 = .ok (.iload_n 1, 1) := by decide +kernel
theorem dX7_has_41 : decode cX7_has 41 = .ok (.iload 7, 2) := by decide +kernel
theorem dX7_has_43 : decode cX7_has 43 = .ok (.iadd, 1) := by decide +kernel
theorem dX7_has_44 : decode cX7_has 44 = .ok (.iaload, 1) := by decide +kernel
theorem dX7_has_45 : decode cX7_has 45 = .ok (.iload 8, 2) := by decide +kernel
theorem dX7_has_47 : decode cX7_has 47 = .ok (.bipush 27, 2) := by decide +kernel
theorem dX7_has_49 : decode cX7_has 49 = .ok (.if_icmp .ne 8, 3) := by decide +kernel
theorem dX7_has_52 : decode cX7_has 52 = .ok (.bipush 32, 2) := by decide +kernel
theorem dX7_has_54 : decode cX7_has 54 = .ok (.goto 8, 3) := by decide +kernel
theorem dX7_has_57 : decode cX7_has 57 = .ok (.bipush 96, 2) := by decide +kernel
theorem dX7_has_59 : decode cX7_has 59 = .ok (.iload 8, 2) := by decide +kernel
theorem dX7_has_61 : decode cX7_has 61 = .ok (.iadd, 1) := by decide +kernel
theorem dX7_has_62 : decode cX7_has 62 = .ok (.if_icmp .eq 5, 3) := by decide +kernel
theorem dX7_has_65 : decode cX7_has 65 = .ok (.iconst 0, 1) := by decide +kernel
theorem dX7_has_66 : decode cX7_has 66 = .ok (.ireturn, 1) := by decide +kernel
theorem dX7_has_67 : decode cX7_has 67 = .ok (.lload 5, 2) := by decide +kernel
theorem dX7_has_69 : decode cX7_has 69 = .ok (.ldc2_w 76, 3) := by decide +kernel
theorem dX7_has_72 : decode cX7_has 72 = .ok (.ldiv, 1) := by decide +kernel
theorem dX7_has_73 : decode cX7_has 73 = .ok (.lstore 5, 2) := by decide +kernel
theorem dX7_has_75 : decode cX7_has 75 = .ok (.iinc 7 (-1), 3) := by decide +kernel
theorem dX7_has_78 : decode cX7_has 78 = .ok (.goto (-56), 3) := by decide +kernel
theorem dX7_has_81 : decode cX7_has 81 = .ok (.iconst 1, 1) := by decide +kernel
theorem dX7_has_82 : decode cX7_has 82 = .ok (.ireturn, 1) := by decide +kernel
theorem dX7_isDigit_0 : decode cX7_isDigit 0 = .ok (.aload_n 0, 1) := by decide +kernel
theorem dX7_isDigit_1 : decode cX7_isDigit 1 = .ok (.getfield 53, 3) := by decide +kernel
theorem dX7_isDigit_4 : decode cX7_isDigit 4 = .ok (.iload_n 1, 1) := by decide +kernel
theorem dX7_isDigit_5 : decode cX7_isDigit 5 = .ok (.iaload, 1) := by decide +kernel
theorem dX7_isDigit_6 : decode cX7_isDigit 6 = .ok (.bipush 48, 2) := by decide +kernel
theorem dX7_isDigit_8 : decode cX7_isDigit 8 = .ok (.if_icmp .lt 18, 3) := by decide +kernel
theorem dX7_isDigit_11 : decode cX7_isDigit 11 = .ok (.aload_n 0, 1) := by decide +kernel
theorem dX7_isDigit_12 : decode cX7_isDigit 12 = .ok (.getfield 53, 3) := by decide +kernel
theorem dX7_isDigit_15 : decode cX7_isDigit 15 = .ok (.iload_n 1, 1) := by decide +kernel
theorem dX7_isDigit_16 : decode cX7_isDigit 16 = .ok (.iaload, 1) := by decide +kernel
theorem dX7_isDigit_17 : decode cX7_isDigit 17 = .ok (.bipush 57, 2) := by decide +kernel
theorem dX7_isDigit_19 : decode cX7_isDigit 19 = .ok (.if_icmp .gt 7, 3) := by decide +kernel
theorem dX7_isDigit_22 : decode cX7_isDigit 22 = .ok (.iconst 1, 1) := by decide +kernel
theorem dX7_isDigit_23 : decode cX7_isDigit 23 = .ok (.goto 4, 3) := by decide +kernel
theorem dX7_isDigit_26 : decode cX7_isDigit 26 = .ok (.iconst 0, 1) := by decide +kernel
theorem dX7_isDigit_27 : decode cX7_isDigit 27 = .ok (.ireturn, 1) := by decide +kernel
theorem dX7_numberFrom_0 : decode cX7_numberFrom 0 = .ok (.aload_n 0, 1) := by decide +kernel
theorem dX7_numberFrom_1 : decode cX7_numberFrom 1 = .ok (.getfield 73, 3) := by decide +kernel
theorem dX7_numberFrom_4 : decode cX7_numberFrom 4 = .ok (.iload_n 1, 1) := by decide +kernel
theorem dX7_numberFrom_5 : decode cX7_numberFrom 5 = .ok (.isub, 1) := by decide +kernel
theorem dX7_numberFrom_6 : decode cX7_numberFrom 6 = .ok (.istore_n 2, 1) := by decide +kernel
theorem dX7_numberFrom_7 : decode cX7_numberFrom 7 = .ok (.iload_n 2, 1) := by decide +kernel
theorem dX7_numberFrom_8 : decode cX7_numberFrom 8 = .ok (.iconst 1, 1) := by decide +kernel
theorem dX7_numberFrom_9 : decode cX7_numberFrom 9 = .ok (.if_icmp .lt 29, 3) := by decide +kernel
theorem dX7_numberFrom_12 : decode cX7_numberFrom 12 = .ok (.iload_n 2, 1) := by decide +kernel
theorem dX7_numberFrom_13 : decode cX7_numberFrom 13 = .ok (.iconst 2, 1) := by decide +kernel
theorem dX7_numberFrom_14 : decode cX7_numberFrom 14 = .ok (.if_icmp .gt 24, 3) := by decide +kernel
theorem dX7_numberFrom_17 : decode cX7_numberFrom 17 = .ok (.aload_n 0, 1) := by decide +kernel
theorem dX7_numberFrom_18 : decode cX7_numberFrom 18 = .ok (.iload_n 1, 1) := by decide +kernel
theorem dX7_numberFrom_19 : decode cX7_numberFrom 19 = .ok (.invokevirtual 78, 3) := by decide +kernel
theorem dX7_numberFrom_22 : decode cX7_numberFrom 22 = .ok (.ifCond .eq 16, 3) := by decide +kernel
theorem dX7_numberFrom_25 : decode cX7_numberFrom 25 = .ok (.aload_n 0, 1) := by decide +kernel
theorem dX7_numberFrom_26 : decode cX7_numberFrom 26 = .ok (.aload_n 0, 1) := by decide +kernel
theorem dX7_numberFrom_27 : decode cX7_numberFrom 27 = .ok (.getfield 73, 3) := by decide +kernel
theorem dX7_numberFrom_30 : decode cX7_numberFrom 30 = .ok (.iconst 1, 1) := by decide +kernel
theorem dX7_numberFrom_31 : decode cX7_numberFrom 31 = .ok (.isub, 1) := by decide +kernel
theorem dX7_numberFrom_32 : decode cX7_numberFrom 32 = .ok (.invokevirtual 78, 3) := by decide +kernel
theorem dX7_numberFrom_35 : decode cX7_numberFrom 35 = .ok (.ifCond .ne 6, 3) := by decide +kernel
theorem dX7_numberFrom_38 : decode cX7_numberFrom 38 = .ok (.bipush (-6), 2) := by decide +kernel
theorem dX7_numberFrom_40 : decode cX7_numberFrom 40 = .ok (.ireturn, 1) := by decide +kernel
theorem dX7_numberFrom_41 : decode cX7_numberFrom 41 = .ok (.iload_n 2, 1) := by decide +kernel
theorem dX7_numberFrom_42 : decode cX7_numberFrom 42 = .ok (.iconst 1, 1) := by decide +kernel
theorem dX7_numberFrom_43 : decode cX7_numberFrom 43 = .ok (.if_icmp .ne 15, 3) := by decide +kernel
theorem dX7_numberFrom_46 : decode cX7_numberFrom 46 = .ok (.aload_n 0, 1) := by decide +kernel
theorem dX7_numberFrom_47 : decode cX7_numberFrom 47 = .ok (.getfield 53, 3) := by decide +kernel
theorem dX7_numberFrom_50 : decode cX7_numberFrom 50 = .ok (.iload_n 1, 1) := by decide +kernel
theorem dX7_numberFrom_51 : decode cX7_numberFrom 51 = .ok (.iaload, 1) := by decide +kernel
theorem dX7_numberFrom_52 : decode cX7_numberFrom 52 = .ok (.bipush 48, 2) := by decide +kernel
theorem dX7_numberFrom_54 : decode cX7_numberFrom 54 = .ok (.isub, 1) := by decide +kernel
theorem dX7_numberFrom_55 : decode cX7_numberFrom 55 = .ok (.goto 27, 3) := by decide +kernel
theorem dX7_numberFrom_58 : decode cX7_numberFrom 58 = .ok (.bipush 10, 2) := by decide +kernel
theorem dX7_numberFrom_60 : decode cX7_numberFrom 60 = .ok (.aload_n 0, 1) := by decide +kernel
theorem dX7_numberFrom_61 : decode cX7_numberFrom 61 = .ok (.getfield 53, 3) := by decide +kernel
theorem dX7_numberFrom_64 : decode cX7_numberFrom 64 = .ok (.iload_n 1, 1) := by decide +kernel
theorem dX7_numberFrom_65 : decode cX7_numberFrom 65 = .ok (.iaload, 1) := by decide +kernel
theorem dX7_numberFrom_66 : decode cX7_numberFrom 66 = .ok (.bipush 48, 2) := by decide +kernel
theorem dX7_numberFrom_68 : decode cX7_numberFrom 68 = .ok (.isub, 1) := by decide +kernel
theorem dX7_numberFrom_69 : decode cX7_numberFrom 69 = .ok (.imul, 1) := by decide +kernel
theorem dX7_numberFrom_70 : decode cX7_numberFrom 70 = .ok (.aload_n 0, 1) := by decide +kernel
theorem dX7_numberFrom_71 : decode cX7_numberFrom 71 = .ok (.getfield 53, 3) := by decide +kernel
theorem dX7_numberFrom_74 : decode cX7_numberFrom 74 = .ok (.iload_n 1, 1) := by decide +kernel
theorem dX7_numberFrom_75 : decode cX7_numberFrom 75 = .ok (.iconst 1, 1) := by decide +kernel
theorem dX7_numberFrom_76 : decode cX7_numberFrom 76 = .ok (.iadd, 1) := by decide +kernel
theorem dX7_numberFrom_77 : decode cX7_numberFrom 77 = .ok (.iaload, 1) := by decide +kernel
theorem dX7_numberFrom_78 : decode cX7_numberFrom 78 = .ok (.iadd, 1) := by decide +kernel
theorem dX7_numberFrom_79 : decode cX7_numberFrom 79 = .ok (.bipush 48, 2) := by decide +kernel
theorem dX7_numberFrom_81 : decode cX7_numberFrom 81 = .ok (.isub, 1) := by decide +kernel
theorem dX7_numberFrom_82 : decode cX7_numberFrom 82 = .ok (.ireturn, 1) := by decide +kernel
theorem dX7_setsPolicy_0 : decode cX7_setsPolicy 0 = .ok (.aload_n 0, 1) := by decide +kernel
theorem dX7_setsPolicy_1 : decode cX7_setsPolicy 1 = .ok (.getfield 82, 3) := by decide +kernel
theorem dX7_setsPolicy_4 : decode cX7_setsPolicy 4 = .ok (.iload_n 1, 1) := by decide +kernel
theorem dX7_setsPolicy_5 : decode cX7_setsPolicy 5 = .ok (.if_icmp .ne 7, 3) := by decide +kernel
theorem dX7_setsPolicy_8 : decode cX7_setsPolicy 8 = .ok (.iconst 0, 1) := by decide +kernel
theorem dX7_setsPolicy_9 : decode cX7_setsPolicy 9 = .ok (.goto 4, 3) := by decide +kernel
theorem dX7_setsPolicy_12 : decode cX7_setsPolicy 12 = .ok (.iconst 1, 1) := by decide +kernel
theorem dX7_setsPolicy_13 : decode cX7_setsPolicy 13 = .ok (.istore_n 2, 1) := by decide +kernel
theorem dX7_setsPolicy_14 : decode cX7_setsPolicy 14 = .ok (.aload_n 0, 1) := by decide +kernel
theorem dX7_setsPolicy_15 : decode cX7_setsPolicy 15 = .ok (.iload_n 1, 1) := by decide +kernel
theorem dX7_setsPolicy_16 : decode cX7_setsPolicy 16 = .ok (.putfield 82, 3) := by decide +kernel
theorem dX7_setsPolicy_19 : decode cX7_setsPolicy 19 = .ok (.iload_n 2, 1) := by decide +kernel
