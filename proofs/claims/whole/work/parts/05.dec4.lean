theorem dX7_setsPolicy_20 : decode cX7_setsPolicy 20 = .ok (.ireturn, 1) := by decide +kernel
theorem dX7_policyFrom_0 : decode cX7_policyFrom 0 = .ok (.aload_n 0, 1) := by decide +kernel
theorem dX7_policyFrom_1 : decode cX7_policyFrom 1 = .ok (.getfield 73, 3) := by decide +kernel
theorem dX7_policyFrom_4 : decode cX7_policyFrom 4 = .ok (.iload_n 1, 1) := by decide +kernel
theorem dX7_policyFrom_5 : decode cX7_policyFrom 5 = .ok (.isub, 1) := by decide +kernel
theorem dX7_policyFrom_6 : decode cX7_policyFrom 6 = .ok (.istore_n 2, 1) := by decide +kernel
theorem dX7_policyFrom_7 : decode cX7_policyFrom 7 = .ok (.iload_n 2, 1) := by decide +kernel
theorem dX7_policyFrom_8 : decode cX7_policyFrom 8 = .ok (.iconst 5, 1) := by decide +kernel
theorem dX7_policyFrom_9 : decode cX7_policyFrom 9 = .ok (.if_icmp .ne 21, 3) := by decide +kernel
theorem dX7_policyFrom_12 : decode cX7_policyFrom 12 = .ok (.aload_n 0, 1) := by decide +kernel
theorem dX7_policyFrom_13 : decode cX7_policyFrom 13 = .ok (.iload_n 1, 1) := by decide +kernel
theorem dX7_policyFrom_14 : decode cX7_policyFrom 14 = .ok (.ldc2_w 85, 3) := by decide +kernel
theorem dX7_policyFrom_17 : decode cX7_policyFrom 17 = .ok (.iconst 5, 1) := by decide +kernel
theorem dX7_policyFrom_18 : decode cX7_policyFrom 18 = .ok (.invokevirtual 87, 3) := by decide +kernel
theorem dX7_policyFrom_21 : decode cX7_policyFrom 21 = .ok (.ifCond .eq 9, 3) := by decide +kernel
theorem dX7_policyFrom_24 : decode cX7_policyFrom 24 = .ok (.aload_n 0, 1) := by decide +kernel
theorem dX7_policyFrom_25 : decode cX7_policyFrom 25 = .ok (.iconst 0, 1) := by decide +kernel
theorem dX7_policyFrom_26 : decode cX7_policyFrom 26 = .ok (.invokevirtual 91, 3) := by decide +kernel
theorem dX7_policyFrom_29 : decode cX7_policyFrom 29 = .ok (.ireturn, 1) := by decide +kernel
theorem dX7_policyFrom_30 : decode cX7_policyFrom 30 = .ok (.iload_n 2, 1) := by decide +kernel
theorem dX7_policyFrom_31 : decode cX7_policyFrom 31 = .ok (.iconst 4, 1) := by decide +kernel
theorem dX7_policyFrom_32 : decode cX7_policyFrom 32 = .ok (.if_icmp .ne 21, 3) := by decide +kernel
theorem dX7_policyFrom_35 : decode cX7_policyFrom 35 = .ok (.aload_n 0, 1) := by decide +kernel
theorem dX7_policyFrom_36 : decode cX7_policyFrom 36 = .ok (.iload_n 1, 1) := by decide +kernel
theorem dX7_policyFrom_37 : decode cX7_policyFrom 37 = .ok (.ldc2_w 95, 3) := by decide +kernel
theorem dX7_policyFrom_40 : decode cX7_policyFrom 40 = .ok (.iconst 4, 1) := by decide +kernel
theorem dX7_policyFrom_41 : decode cX7_policyFrom 41 = .ok (.invokevirtual 87, 3) := by decide +kernel
theorem dX7_policyFrom_44 : decode cX7_policyFrom 44 = .ok (.ifCond .eq 9, 3) := by decide +kernel
theorem dX7_policyFrom_47 : decode cX7_policyFrom 47 = .ok (.aload_n 0, 1) := by decide +kernel
theorem dX7_policyFrom_48 : decode cX7_policyFrom 48 = .ok (.iconst 1, 1) := by decide +kernel
theorem dX7_policyFrom_49 : decode cX7_policyFrom 49 = .ok (.invokevirtual 91, 3) := by decide +kernel
theorem dX7_policyFrom_52 : decode cX7_policyFrom 52 = .ok (.ireturn, 1) := by decide +kernel
theorem dX7_policyFrom_53 : decode cX7_policyFrom 53 = .ok (.iload_n 2, 1) := by decide +kernel
theorem dX7_policyFrom_54 : decode cX7_policyFrom 54 = .ok (.bipush 6, 2) := by decide +kernel
theorem dX7_policyFrom_56 : decode cX7_policyFrom 56 = .ok (.if_icmp .ne 22, 3) := by decide +kernel
theorem dX7_policyFrom_59 : decode cX7_policyFrom 59 = .ok (.aload_n 0, 1) := by decide +kernel
theorem dX7_policyFrom_60 : decode cX7_policyFrom 60 = .ok (.iload_n 1, 1) := by decide +kernel
theorem dX7_policyFrom_61 : decode cX7_policyFrom 61 = .ok (.ldc2_w 97, 3) := by decide +kernel
theorem dX7_policyFrom_64 : decode cX7_policyFrom 64 = .ok (.bipush 6, 2) := by decide +kernel
theorem dX7_policyFrom_66 : decode cX7_policyFrom 66 = .ok (.invokevirtual 87, 3) := by decide +kernel
theorem dX7_policyFrom_69 : decode cX7_policyFrom 69 = .ok (.ifCond .eq 9, 3) := by decide +kernel
theorem dX7_policyFrom_72 : decode cX7_policyFrom 72 = .ok (.aload_n 0, 1) := by decide +kernel
theorem dX7_policyFrom_73 : decode cX7_policyFrom 73 = .ok (.iconst 2, 1) := by decide +kernel
theorem dX7_policyFrom_74 : decode cX7_policyFrom 74 = .ok (.invokevirtual 91, 3) := by decide +kernel
theorem dX7_policyFrom_77 : decode cX7_policyFrom 77 = .ok (.ireturn, 1) := by decide +kernel
theorem dX7_policyFrom_78 : decode cX7_policyFrom 78 = .ok (.iload_n 2, 1) := by decide +kernel
theorem dX7_policyFrom_79 : decode cX7_policyFrom 79 = .ok (.bipush 6, 2) := by decide +kernel
theorem dX7_policyFrom_81 : decode cX7_policyFrom 81 = .ok (.if_icmp .ne 24, 3) := by decide +kernel
theorem dX7_policyFrom_84 : decode cX7_policyFrom 84 = .ok (.aload_n 0, 1) := by decide +kernel
theorem dX7_policyFrom_85 : decode cX7_policyFrom 85 = .ok (.iload_n 1, 1) := by decide +kernel
theorem dX7_policyFrom_86 : decode cX7_policyFrom 86 = .ok (.ldc2_w 99, 3) := by decide +kernel
theorem dX7_policyFrom_89 : decode cX7_policyFrom 89 = .ok (.bipush 6, 2) := by decide +kernel
theorem dX7_policyFrom_91 : decode cX7_policyFrom 91 = .ok (.invokevirtual 87, 3) := by decide +kernel
theorem dX7_policyFrom_94 : decode cX7_policyFrom 94 = .ok (.ifCond .eq 11, 3) := by decide +kernel
theorem dX7_policyFrom_97 : decode cX7_policyFrom 97 = .ok (.aload_n 0, 1) := by decide +kernel
theorem dX7_policyFrom_98 : decode cX7_policyFrom 98 = .ok (.iconst 3, 1) := by decide +kernel
theorem dX7_policyFrom_99 : decode cX7_policyFrom 99 = .ok (.invokevirtual 91, 3) := by decide +kernel
theorem dX7_policyFrom_102 : decode cX7_policyFrom 102 = .ok (.goto 5, 3) := by decide +kernel
theorem dX7_policyFrom_105 : decode cX7_policyFrom 105 = .ok (.bipush (-5), 2) := by decide +kernel
theorem dX7_policyFrom_107 : decode cX7_policyFrom 107 = .ok (.ireturn, 1) := by decide +kernel
theorem dX7_capFrom_0 : decode cX7_capFrom 0 = .ok (.aload_n 0, 1) := by decide +kernel
theorem dX7_capFrom_1 : decode cX7_capFrom 1 = .ok (.iload_n 1, 1) := by decide +kernel
theorem dX7_capFrom_2 : decode cX7_capFrom 2 = .ok (.invokevirtual 101, 3) := by decide +kernel
theorem dX7_capFrom_5 : decode cX7_capFrom 5 = .ok (.istore_n 2, 1) := by decide +kernel
theorem dX7_capFrom_6 : decode cX7_capFrom 6 = .ok (.iload_n 2, 1) := by decide +kernel
theorem dX7_capFrom_7 : decode cX7_capFrom 7 = .ok (.bipush (-6), 2) := by decide +kernel
theorem dX7_capFrom_9 : decode cX7_capFrom 9 = .ok (.if_icmp .ne 6, 3) := by decide +kernel
theorem dX7_capFrom_12 : decode cX7_capFrom 12 = .ok (.bipush (-5), 2) := by decide +kernel
theorem dX7_capFrom_14 : decode cX7_capFrom 14 = .ok (.ireturn, 1) := by decide +kernel
theorem dX7_capFrom_15 : decode cX7_capFrom 15 = .ok (.iload_n 2, 1) := by decide +kernel
theorem dX7_capFrom_16 : decode cX7_capFrom 16 = .ok (.iconst 5, 1) := by decide +kernel
theorem dX7_capFrom_17 : decode cX7_capFrom 17 = .ok (.if_icmp .lt 6, 3) := by decide +kernel
theorem dX7_capFrom_20 : decode cX7_capFrom 20 = .ok (.bipush (-2), 2) := by decide +kernel
theorem dX7_capFrom_22 : decode cX7_capFrom 22 = .ok (.ireturn, 1) := by decide +kernel
theorem dX7_capFrom_23 : decode cX7_capFrom 23 = .ok (.aload_n 0, 1) := by decide +kernel
theorem dX7_capFrom_24 : decode cX7_capFrom 24 = .ok (.getfield 44, 3) := by decide +kernel
theorem dX7_capFrom_27 : decode cX7_capFrom 27 = .ok (.iload_n 2, 1) := by decide +kernel
theorem dX7_capFrom_28 : decode cX7_capFrom 28 = .ok (.if_icmp .ne 7, 3) := by decide +kernel
theorem dX7_capFrom_31 : decode cX7_capFrom 31 = .ok (.iconst 0, 1) := by decide +kernel
theorem dX7_capFrom_32 : decode cX7_capFrom 32 = .ok (.goto 4, 3) := by decide +kernel
theorem dX7_capFrom_35 : decode cX7_capFrom 35 = .ok (.iconst 1, 1) := by decide +kernel
theorem dX7_capFrom_36 : decode cX7_capFrom 36 = .ok (.istore_n 3, 1) := by decide +kernel
theorem dX7_capFrom_37 : decode cX7_capFrom 37 = .ok (.aload_n 0, 1) := by decide +kernel
theorem dX7_capFrom_38 : decode cX7_capFrom 38 = .ok (.iload_n 2, 1) := by decide +kernel
theorem dX7_capFrom_39 : decode cX7_capFrom 39 = .ok (.putfield 44, 3) := by decide +kernel
theorem dX7_capFrom_42 : decode cX7_capFrom 42 = .ok (.iload_n 3, 1) := by decide +kernel
theorem dX7_capFrom_43 : decode cX7_capFrom 43 = .ok (.ireturn, 1) := by decide +kernel
theorem dX7_seekFrom_0 : decode cX7_seekFrom 0 = .ok (.aload_n 0, 1) := by decide +kernel
theorem dX7_seekFrom_1 : decode cX7_seekFrom 1 = .ok (.iload_n 1, 1) := by decide +kernel
theorem dX7_seekFrom_2 : decode cX7_seekFrom 2 = .ok (.invokevirtual 101, 3) := by decide +kernel
theorem dX7_seekFrom_5 : decode cX7_seekFrom 5 = .ok (.istore_n 2, 1) := by decide +kernel
theorem dX7_seekFrom_6 : decode cX7_seekFrom 6 = .ok (.iload_n 2, 1) := by decide +kernel
theorem dX7_seekFrom_7 : decode cX7_seekFrom 7 = .ok (.bipush (-6), 2) := by decide +kernel
theorem dX7_seekFrom_9 : decode cX7_seekFrom 9 = .ok (.if_icmp .ne 6, 3) := by decide +kernel
theorem dX7_seekFrom_12 : decode cX7_seekFrom 12 = .ok (.bipush (-5), 2) := by decide +kernel
theorem dX7_seekFrom_14 : decode cX7_seekFrom 14 = .ok (.ireturn, 1) := by decide +kernel
theorem dX7_seekFrom_15 : decode cX7_seekFrom 15 = .ok (.iload_n 2, 1) := by decide +kernel
theorem dX7_seekFrom_16 : decode cX7_seekFrom 16 = .ok (.aload_n 0, 1) := by decide +kernel
theorem dX7_seekFrom_17 : decode cX7_seekFrom 17 = .ok (.getfield 7, 3) := by decide +kernel
theorem dX7_seekFrom_20 : decode cX7_seekFrom 20 = .ok (.if_icmp .lt 6, 3) := by decide +kernel
theorem dX7_seekFrom_23 : decode cX7_seekFrom 23 = .ok (.bipush (-2), 2) := by decide +kernel
theorem dX7_seekFrom_25 : decode cX7_seekFrom 25 = .ok (.ireturn, 1) := by decide +kernel
theorem dX7_seekFrom_26 : decode cX7_seekFrom 26 = .ok (.aload_n 0, 1) := by decide +kernel
theorem dX7_seekFrom_27 : decode cX7_seekFrom 27 = .ok (.getfield 47, 3) := by decide +kernel
theorem dX7_seekFrom_30 : decode cX7_seekFrom 30 = .ok (.bipush 6, 2) := by decide +kernel
theorem dX7_seekFrom_32 : decode cX7_seekFrom 32 = .ok (.iconst 0, 1) := by decide +kernel
theorem dX7_seekFrom_33 : decode cX7_seekFrom 33 = .ok (.iastore, 1) := by decide +kernel
theorem dX7_seekFrom_34 : decode cX7_seekFrom 34 = .ok (.aload_n 0, 1) := by decide +kernel
theorem dX7_seekFrom_35 : decode cX7_seekFrom 35 = .ok (.getfield 47, 3) := by decide +kernel
theorem dX7_seekFrom_38 : decode cX7_seekFrom 38 = .ok (.iconst 1, 1) := by decide +kernel
theorem dX7_seekFrom_39 : decode cX7_seekFrom 39 = .ok (.iconst 0, 1) := by decide +kernel
theorem dX7_seekFrom_40 : decode cX7_seekFrom 40 = .ok (.iastore, 1) := by decide +kernel
theorem dX7_seekFrom_41 : decode cX7_seekFrom 41 = .ok (.aload_n 0, 1) := by decide +kernel
theorem dX7_seekFrom_42 : decode cX7_seekFrom 42 = .ok (.getfield 47, 3) := by decide +kernel
theorem dX7_seekFrom_45 : decode cX7_seekFrom 45 = .ok (.iconst 5, 1) := by decide +kernel
theorem dX7_seekFrom_46 : decode cX7_seekFrom 46 = .ok (.iload_n 2, 1) := by decide +kernel
theorem dX7_seekFrom_47 : decode cX7_seekFrom 47 = .ok (.iastore, 1) := by decide +kernel
theorem dX7_seekFrom_48 : decode cX7_seekFrom 48 = .ok (.aload_n 0, 1) := by decide +kernel
theorem dX7_seekFrom_49 : decode cX7_seekFrom 49 = .ok (.getfield 47, 3) := by decide +kernel
theorem dX7_seekFrom_52 : decode cX7_seekFrom 52 = .ok (.iconst 2, 1) := by decide +kernel
theorem dX7_seekFrom_53 : decode cX7_seekFrom 53 = .ok (.iload_n 2, 1) := by decide +kernel
theorem dX7_seekFrom_54 : decode cX7_seekFrom 54 = .ok (.aload_n 0, 1) := by decide +kernel
theorem dX7_seekFrom_55 : decode cX7_seekFrom 55 = .ok (.getfield 13, 3) := by decide +kernel
theorem dX7_seekFrom_58 : decode cX7_seekFrom 58 = .ok (.imul, 1) := by decide +kernel
theorem dX7_seekFrom_59 : decode cX7_seekFrom 59 = .ok (.iastore, 1) := by decide +kernel
theorem dX7_seekFrom_60 : decode cX7_seekFrom 60 = .ok (.aload_n 0, 1) := by decide +kernel
theorem dX7_seekFrom_61 : decode cX7_seekFrom 61 = .ok (.getfield 47, 3) := by decide +kernel
theorem dX7_seekFrom_64 : decode cX7_seekFrom 64 = .ok (.iconst 3, 1) := by decide +kernel
theorem dX7_seekFrom_65 : decode cX7_seekFrom 65 = .ok (.iconst 0, 1) := by decide +kernel
theorem dX7_seekFrom_66 : decode cX7_seekFrom 66 = .ok (.iastore, 1) := by decide +kernel
theorem dX7_seekFrom_67 : decode cX7_seekFrom 67 = .ok (.aload_n 0, 1) := by decide +kernel
theorem dX7_seekFrom_68 : decode cX7_seekFrom 68 = .ok (.getfield 47, 3) := by decide +kernel
theorem dX7_seekFrom_71 : decode cX7_seekFrom 71 = .ok (.bipush 11, 2) := by decide +kernel
theorem dX7_seekFrom_73 : decode cX7_seekFrom 73 = .ok (.iconst 0, 1) := by decide +kernel
theorem dX7_seekFrom_74 : decode cX7_seekFrom 74 = .ok (.iastore, 1) := by decide +kernel
theorem dX7_seekFrom_75 : decode cX7_seekFrom 75 = .ok (.iconst 1, 1) := by decide +kernel
theorem dX7_seekFrom_76 : decode cX7_seekFrom 76 = .ok (.ireturn, 1) := by decide +kernel
theorem dX7_pauses_0 : decode cX7_pauses 0 = .ok (.aload_n 0, 1) := by decide +kernel
theorem dX7_pauses_1 : decode cX7_pauses 1 = .ok (.getfield 47, 3) := by decide +kernel
theorem dX7_pauses_4 : decode cX7_pauses 4 = .ok (.iconst 4, 1) := by decide +kernel
theorem dX7_pauses_5 : decode cX7_pauses 5 = .ok (.iaload, 1) := by decide +kernel
theorem dX7_pauses_6 : decode cX7_pauses 6 = .ok (.iload_n 1, 1) := by decide +kernel
theorem dX7_pauses_7 : decode cX7_pauses 7 = .ok (.if_icmp .ne 7, 3) := by decide +kernel
theorem dX7_pauses_10 : decode cX7_pauses 10 = .ok (.iconst 0, 1) := by decide +kernel
theorem dX7_pauses_11 : decode cX7_pauses 11 = .ok (.goto 4, 3) := by decide +kernel
theorem dX7_pauses_14 : decode cX7_pauses 14 = .ok (.iconst 1, 1) := by decide +kernel
theorem dX7_pauses_15 : decode cX7_pauses 15 = .ok (.istore_n 2, 1) := by decide +kernel
theorem dX7_pauses_16 : decode cX7_pauses 16 = .ok (.aload_n 0, 1) := by decide +kernel
theorem dX7_pauses_17 : decode cX7_pauses 17 = .ok (.getfield 47, 3) := by decide +kernel
theorem dX7_pauses_20 : decode cX7_pauses 20 = .ok (.iconst 4, 1) := by decide +kernel
theorem dX7_pauses_21 : decode cX7_pauses 21 = .ok (.iload_n 1, 1) := by decide +kernel
theorem dX7_pauses_22 : decode cX7_pauses 22 = .ok (.iastore, 1) := by decide +kernel
theorem dX7_pauses_23 : decode cX7_pauses 23 = .ok (.iload_n 2, 1) := by decide +kernel
theorem dX7_pauses_24 : decode cX7_pauses 24 = .ok (.ireturn, 1) := by decide +kernel
theorem dX7_runCommand_0 : decode cX7_runCommand 0 = .ok (.aload_n 0, 1) := by decide +kernel
theorem dX7_runCommand_1 : decode cX7_runCommand 1 = .ok (.aload_n 0, 1) := by decide +kernel
theorem dX7_runCommand_2 : decode cX7_runCommand 2 = .ok (.getfield 70, 3) := by decide +kernel
theorem dX7_runCommand_5 : decode cX7_runCommand 5 = .ok (.putfield 73, 3) := by decide +kernel
theorem dX7_runCommand_8 : decode cX7_runCommand 8 = .ok (.aload_n 0, 1) := by decide +kernel
theorem dX7_runCommand_9 : decode cX7_runCommand 9 = .ok (.iconst 0, 1) := by decide +kernel
theorem dX7_runCommand_10 : decode cX7_runCommand 10 = .ok (.putfield 70, 3) := by decide +kernel
theorem dX7_runCommand_13 : decode cX7_runCommand 13 = .ok (.aload_n 0, 1) := by decide +kernel
theorem dX7_runCommand_14 : decode cX7_runCommand 14 = .ok (.iconst 0, 1) := by decide +kernel
theorem dX7_runCommand_15 : decode cX7_runCommand 15 = .ok (.ldc2_w 104, 3) := by decide +kernel
theorem dX7_runCommand_18 : decode cX7_runCommand 18 = .ok (.bipush 7, 2) := by decide +kernel
theorem dX7_runCommand_20 : decode cX7_runCommand 20 = .ok (.invokevirtual 87, 3) := by decide +kernel
theorem dX7_runCommand_23 : decode cX7_runCommand 23 = .ok (.ifCond .eq 10, 3) := by decide +kernel
theorem dX7_runCommand_26 : decode cX7_runCommand 26 = .ok (.aload_n 0, 1) := by decide +kernel
theorem dX7_runCommand_27 : decode cX7_runCommand 27 = .ok (.bipush 7, 2) := by decide +kernel
theorem dX7_runCommand_29 : decode cX7_runCommand 29 = .ok (.invokevirtual 106, 3) := by decide +kernel
theorem dX7_runCommand_32 : decode cX7_runCommand 32 = .ok (.ireturn, 1) := by decide +kernel
theorem dX7_runCommand_33 : decode cX7_runCommand 33 = .ok (.aload_n 0, 1) := by decide +kernel
theorem dX7_runCommand_34 : decode cX7_runCommand 34 = .ok (.iconst 0, 1) := by decide +kernel
theorem dX7_runCommand_35 : decode cX7_runCommand 35 = .ok (.ldc2_w 109, 3) := by decide +kernel
theorem dX7_runCommand_38 : decode cX7_runCommand 38 = .ok (.iconst 4, 1) := by decide +kernel
theorem dX7_runCommand_39 : decode cX7_runCommand 39 = .ok (.invokevirtual 87, 3) := by decide +kernel
theorem dX7_runCommand_42 : decode cX7_runCommand 42 = .ok (.ifCond .eq 9, 3) := by decide +kernel
theorem dX7_runCommand_45 : decode cX7_runCommand 45 = .ok (.aload_n 0, 1) := by decide +kernel
theorem dX7_runCommand_46 : decode cX7_runCommand 46 = .ok (.iconst 4, 1) := by decide +kernel
theorem dX7_runCommand_47 : decode cX7_runCommand 47 = .ok (.invokevirtual 111, 3) := by decide +kernel
theorem dX7_runCommand_50 : decode cX7_runCommand 50 = .ok (.ireturn, 1) := by decide +kernel
theorem dX7_runCommand_51 : decode cX7_runCommand 51 = .ok (.aload_n 0, 1) := by decide +kernel
theorem dX7_runCommand_52 : decode cX7_runCommand 52 = .ok (.iconst 0, 1) := by decide +kernel
theorem dX7_runCommand_53 : decode cX7_runCommand 53 = .ok (.ldc2_w 114, 3) := by decide +kernel
theorem dX7_runCommand_56 : decode cX7_runCommand 56 = .ok (.iconst 5, 1) := by decide +kernel
theorem dX7_runCommand_57 : decode cX7_runCommand 57 = .ok (.invokevirtual 87, 3) := by decide +kernel
theorem dX7_runCommand_60 : decode cX7_runCommand 60 = .ok (.ifCond .eq 9, 3) := by decide +kernel
theorem dX7_runCommand_63 : decode cX7_runCommand 63 = .ok (.aload_n 0, 1) := by decide +kernel
theorem dX7_runCommand_64 : decode cX7_runCommand 64 = .ok (.iconst 5, 1) := by decide +kernel
theorem dX7_runCommand_65 : decode cX7_runCommand 65 = .ok (.invokevirtual 116, 3) := by decide +kernel
theorem dX7_runCommand_68 : decode cX7_runCommand 68 = .ok (.ireturn, 1) := by decide +kernel
theorem dX7_runCommand_69 : decode cX7_runCommand 69 = .ok (.aload_n 0, 1) := by decide +kernel
theorem dX7_runCommand_70 : decode cX7_runCommand 70 = .ok (.getfield 73, 3) := by decide +kernel
theorem dX7_runCommand_73 : decode cX7_runCommand 73 = .ok (.iconst 5, 1) := by decide +kernel
theorem dX7_runCommand_74 : decode cX7_runCommand 74 = .ok (.if_icmp .ne 21, 3) := by decide +kernel
theorem dX7_runCommand_77 : decode cX7_runCommand 77 = .ok (.aload_n 0, 1) := by decide +kernel
theorem dX7_runCommand_78 : decode cX7_runCommand 78 = .ok (.iconst 0, 1) := by decide +kernel
theorem dX7_runCommand_79 : decode cX7_runCommand 79 = .ok (.ldc2_w 119, 3) := by decide +kernel
theorem dX7_runCommand_82 : decode cX7_runCommand 82 = .ok (.iconst 5, 1) := by decide +kernel
theorem dX7_runCommand_83 : decode cX7_runCommand 83 = .ok (.invokevirtual 87, 3) := by decide +kernel
theorem dX7_runCommand_86 : decode cX7_runCommand 86 = .ok (.ifCond .eq 9, 3) := by decide +kernel
theorem dX7_runCommand_89 : decode cX7_runCommand 89 = .ok (.aload_n 0, 1) := by decide +kernel
theorem dX7_runCommand_90 : decode cX7_runCommand 90 = .ok (.iconst 1, 1) := by decide +kernel
theorem dX7_runCommand_91 : decode cX7_runCommand 91 = .ok (.invokevirtual 121, 3) := by decide +kernel
theorem dX7_runCommand_94 : decode cX7_runCommand 94 = .ok (.ireturn, 1) := by decide +kernel
theorem dX7_runCommand_95 : decode cX7_runCommand 95 = .ok (.aload_n 0, 1) := by decide +kernel
theorem dX7_runCommand_96 : decode cX7_runCommand 96 = .ok (.getfield 73, 3) := by decide +kernel
theorem dX7_runCommand_99 : decode cX7_runCommand 99 = .ok (.iconst 4, 1) := by decide +kernel
theorem dX7_runCommand_100 : decode cX7_runCommand 100 = .ok (.if_icmp .ne 23, 3) := by decide +kernel
theorem dX7_runCommand_103 : decode cX7_runCommand 103 = .ok (.aload_n 0, 1) := by decide +kernel
theorem dX7_runCommand_104 : decode cX7_runCommand 104 = .ok (.iconst 0, 1) := by decide +kernel
theorem dX7_runCommand_105 : decode cX7_runCommand 105 = .ok (.ldc2_w 124, 3) := by decide +kernel
theorem dX7_runCommand_108 : decode cX7_runCommand 108 = .ok (.iconst 4, 1) := by decide +kernel
theorem dX7_runCommand_109 : decode cX7_runCommand 109 = .ok (.invokevirtual 87, 3) := by decide +kernel
theorem dX7_runCommand_112 : decode cX7_runCommand 112 = .ok (.ifCond .eq 11, 3) := by decide +kernel
theorem dX7_runCommand_115 : decode cX7_runCommand 115 = .ok (.aload_n 0, 1) := by decide +kernel
theorem dX7_runCommand_116 : decode cX7_runCommand 116 = .ok (.iconst 0, 1) := by decide +kernel
theorem dX7_runCommand_117 : decode cX7_runCommand 117 = .ok (.invokevirtual 121, 3) := by decide +kernel
theorem dX7_runCommand_120 : decode cX7_runCommand 120 = .ok (.goto 5, 3) := by decide +kernel
theorem dX7_runCommand_123 : decode cX7_runCommand 123 = .ok (.bipush (-5), 2) := by decide +kernel
theorem dX7_runCommand_125 : decode cX7_runCommand 125 = .ok (.ireturn, 1) := by decide +kernel
theorem dX7_sizeOf_0 : decode cX7_sizeOf 0 = .ok (.aload_n 0, 1) := by decide +kernel
theorem dX7_sizeOf_1 : decode cX7_sizeOf 1 = .ok (.getfield 20, 3) := by decide +kernel
theorem dX7_sizeOf_4 : decode cX7_sizeOf 4 = .ok (.iload_n 1, 1) := by decide +kernel
theorem dX7_sizeOf_5 : decode cX7_sizeOf 5 = .ok (.iaload, 1) := by decide +kernel
theorem dX7_sizeOf_6 : decode cX7_sizeOf 6 = .ok (.i2l, 1) := by decide +kernel
theorem dX7_sizeOf_7 : decode cX7_sizeOf 7 = .ok (.aload_n 0, 1) := by decide +kernel
theorem dX7_sizeOf_8 : decode cX7_sizeOf 8 = .ok (.getfield 13, 3) := by decide +kernel
theorem dX7_sizeOf_11 : decode cX7_sizeOf 11 = .ok (.i2l, 1) := by decide +kernel
theorem dX7_sizeOf_12 : decode cX7_sizeOf 12 = .ok (.lmul, 1) := by decide +kernel
theorem dX7_sizeOf_13 : decode cX7_sizeOf 13 = .ok (.aload_n 0, 1) := by decide +kernel
theorem dX7_sizeOf_14 : decode cX7_sizeOf 14 = .ok (.getfield 16, 3) := by decide +kernel
theorem dX7_sizeOf_17 : decode cX7_sizeOf 17 = .ok (.iload_n 2, 1) := by decide +kernel
theorem dX7_sizeOf_18 : decode cX7_sizeOf 18 = .ok (.iaload, 1) := by decide +kernel
theorem dX7_sizeOf_19 : decode cX7_sizeOf 19 = .ok (.i2l, 1) := by decide +kernel
theorem dX7_sizeOf_20 : decode cX7_sizeOf 20 = .ok (.lmul, 1) := by decide +kernel
theorem dX7_sizeOf_21 : decode cX7_sizeOf 21 = .ok (.ldc2_w 76, 3) := by decide +kernel
theorem dX7_sizeOf_24 : decode cX7_sizeOf 24 = .ok (.ldiv, 1) := by decide +kernel
theorem dX7_sizeOf_25 : decode cX7_sizeOf 25 = .ok (.l2i, 1) := by decide +kernel
theorem dX7_sizeOf_26 : decode cX7_sizeOf 26 = .ok (.ireturn, 1) := by decide +kernel
theorem dX7_rateAt_0 : decode cX7_rateAt 0 = .ok (.aload_n 0, 1) := by decide +kernel
theorem dX7_rateAt_1 : decode cX7_rateAt 1 = .ok (.getfield 67, 3) := by decide +kernel
theorem dX7_rateAt_4 : decode cX7_rateAt 4 = .ok (.ifCond .ne 7, 3) := by decide +kernel
theorem dX7_rateAt_7 : decode cX7_rateAt 7 = .ok (.sipush 1000, 3) := by decide +kernel
theorem dX7_rateAt_10 : decode cX7_rateAt 10 = .ok (.ireturn, 1) := by decide +kernel
theorem dX7_rateAt_11 : decode cX7_rateAt 11 = .ok (.iconst 0, 1) := by decide +kernel
theorem dX7_rateAt_12 : decode cX7_rateAt 12 = .ok (.istore_n 2, 1) := by decide +kernel
theorem dX7_rateAt_13 : decode cX7_rateAt 13 = .ok (.iload_n 2, 1) := by decide +kernel
theorem dX7_rateAt_14 : decode cX7_rateAt 14 = .ok (.aload_n 0, 1) := by decide +kernel
theorem dX7_rateAt_15 : decode cX7_rateAt 15 = .ok (.getfield 67, 3) := by decide +kernel
theorem dX7_rateAt_18 : decode cX7_rateAt 18 = .ok (.iconst 1, 1) := by decide +kernel
theorem dX7_rateAt_19 : decode cX7_rateAt 19 = .ok (.isub, 1) := by decide +kernel
theorem dX7_rateAt_20 : decode cX7_rateAt 20 = .ok (.if_icmp .ge 19, 3) := by decide +kernel
theorem dX7_rateAt_23 : decode cX7_rateAt 23 = .ok (.iload_n 1, 1) := by decide +kernel
theorem dX7_rateAt_24 : decode cX7_rateAt 24 = .ok (.aload_n 0, 1) := by decide +kernel
theorem dX7_rateAt_25 : decode cX7_rateAt 25 = .ok (.getfield 23, 3) := by decide +kernel
theorem dX7_rateAt_28 : decode cX7_rateAt 28 = .ok (.iload_n 2, 1) := by decide +kernel
theorem dX7_rateAt_29 : decode cX7_rateAt 29 = .ok (.iaload, 1) := by decide +kernel
theorem dX7_rateAt_30 : decode cX7_rateAt 30 = .ok (.if_icmp .lt 9, 3) := by decide +kernel
theorem dX7_rateAt_33 : decode cX7_rateAt 33 = .ok (.iinc 2 1, 3) := by decide +kernel
theorem dX7_rateAt_36 : decode cX7_rateAt 36 = .ok (.goto (-23), 3) := by decide +kernel
theorem dX7_rateAt_39 : decode cX7_rateAt 39 = .ok (.aload_n 0, 1) := by decide +kernel
theorem dX7_rateAt_40 : decode cX7_rateAt 40 = .ok (.getfield 26, 3) := by decide +kernel
theorem dX7_rateAt_43 : decode cX7_rateAt 43 = .ok (.iload_n 2, 1) := by decide +kernel
theorem dX7_rateAt_44 : decode cX7_rateAt 44 = .ok (.iaload, 1) := by decide +kernel
theorem dX7_rateAt_45 : decode cX7_rateAt 45 = .ok (.ireturn, 1) := by decide +kernel
theorem dX7_highest_0 : decode cX7_highest 0 = .ok (.aload_n 0, 1) := by decide +kernel
theorem dX7_highest_1 : decode cX7_highest 1 = .ok (.getfield 44, 3) := by decide +kernel
theorem dX7_highest_4 : decode cX7_highest 4 = .ok (.aload_n 0, 1) := by decide +kernel
theorem dX7_highest_5 : decode cX7_highest 5 = .ok (.getfield 63, 3) := by decide +kernel
theorem dX7_highest_8 : decode cX7_highest 8 = .ok (.iconst 1, 1) := by decide +kernel
theorem dX7_highest_9 : decode cX7_highest 9 = .ok (.isub, 1) := by decide +kernel
theorem dX7_highest_10 : decode cX7_highest 10 = .ok (.if_icmp .ge 10, 3) := by decide +kernel
theorem dX7_highest_13 : decode cX7_highest 13 = .ok (.aload_n 0, 1) := by decide +kernel
theorem dX7_highest_14 : decode cX7_highest 14 = .ok (.getfield 44, 3) := by decide +kernel
theorem dX7_highest_17 : decode cX7_highest 17 = .ok (.goto 9, 3) := by decide +kernel
theorem dX7_highest_20 : decode cX7_highest 20 = .ok (.aload_n 0, 1) := by decide +kernel
theorem dX7_highest_21 : decode cX7_highest 21 = .ok (.getfield 63, 3) := by decide +kernel
theorem dX7_highest_24 : decode cX7_highest 24 = .ok (.iconst 1, 1) := by decide +kernel
theorem dX7_highest_25 : decode cX7_highest 25 = .ok (.isub, 1) := by decide +kernel
theorem dX7_highest_26 : decode cX7_highest 26 = .ok (.ireturn, 1) := by decide +kernel
theorem dX7_estimate_0 : decode cX7_estimate 0 = .ok (.aload_n 0, 1) := by decide +kernel
theorem dX7_estimate_1 : decode cX7_estimate 1 = .ok (.getfield 47, 3) := by decide +kernel
theorem dX7_estimate_4 : decode cX7_estimate 4 = .ok (.bipush 11, 2) := by decide +kernel
theorem dX7_estimate_6 : decode cX7_estimate 6 = .ok (.iaload, 1) := by decide +kernel
theorem dX7_estimate_7 : decode cX7_estimate 7 = .ok (.ifCond .ne 6, 3) := by decide +kernel
theorem dX7_estimate_10 : decode cX7_estimate 10 = .ok (.bipush (-6), 2) := by decide +kernel
theorem dX7_estimate_12 : decode cX7_estimate 12 = .ok (.ireturn, 1) := by decide +kernel
theorem dX7_estimate_13 : decode cX7_estimate 13 = .ok (.aload_n 0, 1) := by decide +kernel
theorem dX7_estimate_14 : decode cX7_estimate 14 = .ok (.getfield 47, 3) := by decide +kernel
theorem dX7_estimate_17 : decode cX7_estimate 17 = .ok (.bipush 11, 2) := by decide +kernel
theorem dX7_estimate_19 : decode cX7_estimate 19 = .ok (.iaload, 1) := by decide +kernel
theorem dX7_estimate_20 : decode cX7_estimate 20 = .ok (.iconst 3, 1) := by decide +kernel
theorem dX7_estimate_21 : decode cX7_estimate 21 = .ok (.if_icmp .ge 13, 3) := by decide +kernel
theorem dX7_estimate_24 : decode cX7_estimate 24 = .ok (.aload_n 0, 1) := by decide +kernel
theorem dX7_estimate_25 : decode cX7_estimate 25 = .ok (.getfield 47, 3) := by decide +kernel
theorem dX7_estimate_28 : decode cX7_estimate 28 = .ok (.bipush 11, 2) := by decide +kernel
theorem dX7_estimate_30 : decode cX7_estimate 30 = .ok (.iaload, 1) := by decide +kernel
theorem dX7_estimate_31 : decode cX7_estimate 31 = .ok (.goto 4, 3) := by decide +kernel
theorem dX7_estimate_34 : decode cX7_estimate 34 = .ok (.iconst 3, 1) := by decide +kernel
theorem dX7_estimate_35 : decode cX7_estimate 35 = .ok (.istore_n 1, 1) := by decide +kernel
theorem dX7_estimate_36 : decode cX7_estimate 36 = .ok (.iconst 0, 1) := by decide +kernel
theorem dX7_estimate_37 : decode cX7_estimate 37 = .ok (.istore_n 2, 1) := by decide +kernel
theorem dX7_estimate_38 : decode cX7_estimate 38 = .ok (.iconst 0, 1) := by decide +kernel
theorem dX7_estimate_39 : decode cX7_estimate 39 = .ok (.istore_n 3, 1) := by decide +kernel
theorem dX7_estimate_40 : decode cX7_estimate 40 = .ok (.iload_n 3, 1) := by decide +kernel
theorem dX7_estimate_41 : decode cX7_estimate 41 = .ok (.iload_n 1, 1) := by decide +kernel
theorem dX7_estimate_42 : decode cX7_estimate 42 = .ok (.if_icmp .ge 21, 3) := by decide +kernel
theorem dX7_estimate_45 : decode cX7_estimate 45 = .ok (.iload_n 2, 1) := by decide +kernel
theorem dX7_estimate_46 : decode cX7_estimate 46 = .ok (.aload_n 0, 1) := by decide +kernel
theorem dX7_estimate_47 : decode cX7_estimate 47 = .ok (.getfield 47, 3) := by decide +kernel
theorem dX7_estimate_50 : decode cX7_estimate 50 = .ok (.bipush 12, 2) := by decide +kernel
theorem dX7_estimate_52 : decode cX7_estimate 52 = .ok (.iload_n 3, 1) := by decide +kernel
theorem dX7_estimate_53 : decode cX7_estimate 53 = .ok (.iadd, 1) := by decide +kernel
theorem dX7_estimate_54 : decode cX7_estimate 54 = .ok (.iaload, 1) := by decide +kernel
theorem dX7_estimate_55 : decode cX7_estimate 55 = .ok (.iadd, 1) := by decide +kernel
theorem dX7_estimate_56 : decode cX7_estimate 56 = .ok (.istore_n 2, 1) := by decide +kernel
theorem dX7_estimate_57 : decode cX7_estimate 57 = .ok (.iinc 3 1, 3) := by decide +kernel
theorem dX7_estimate_60 : decode cX7_estimate 60 = .ok (.goto (-20), 3) := by decide +kernel
theorem dX7_estimate_63 : decode cX7_estimate 63 = .ok (.iload_n 2, 1) := by decide +kernel
theorem dX7_estimate_64 : decode cX7_estimate 64 = .ok (.iload_n 1, 1) := by decide +kernel
theorem dX7_estimate_65 : decode cX7_estimate 65 = .ok (.idiv, 1) := by decide +kernel
theorem dX7_estimate_66 : decode cX7_estimate 66 = .ok (.ireturn, 1) := by decide +kernel
theorem dX7_levelByRate_0 : decode cX7_levelByRate 0 = .ok (.aload_n 0, 1) := by decide +kernel
theorem dX7_levelByRate_1 : decode cX7_levelByRate 1 = .ok (.invokevirtual 126, 3) := by decide +kernel
theorem dX7_levelByRate_4 : decode cX7_levelByRate 4 = .ok (.istore_n 1, 1) := by decide +kernel
theorem dX7_levelByRate_5 : decode cX7_levelByRate 5 = .ok (.iconst 0, 1) := by decide +kernel
theorem dX7_levelByRate_6 : decode cX7_levelByRate 6 = .ok (.istore_n 2, 1) := by decide +kernel
theorem dX7_levelByRate_7 : decode cX7_levelByRate 7 = .ok (.iconst 1, 1) := by decide +kernel
theorem dX7_levelByRate_8 : decode cX7_levelByRate 8 = .ok (.istore_n 3, 1) := by decide +kernel
theorem dX7_levelByRate_9 : decode cX7_levelByRate 9 = .ok (.iload_n 3, 1) := by decide +kernel
theorem dX7_levelByRate_10 : decode cX7_levelByRate 10 = .ok (.aload_n 0, 1) := by decide +kernel
theorem dX7_levelByRate_11 : decode cX7_levelByRate 11 = .ok (.invokevirtual 130, 3) := by decide +kernel
theorem dX7_levelByRate_14 : decode cX7_levelByRate 14 = .ok (.if_icmp .gt 44, 3) := by decide +kernel
theorem dX7_levelByRate_17 : decode cX7_levelByRate 17 = .ok (.iload_n 1, 1) := by decide +kernel
theorem dX7_levelByRate_18 : decode cX7_levelByRate 18 = .ok (.bipush (-6), 2) := by decide +kernel
theorem dX7_levelByRate_20 : decode cX7_levelByRate 20 = .ok (.if_icmp .eq 38, 3) := by decide +kernel
theorem dX7_levelByRate_23 : decode cX7_levelByRate 23 = .ok (.aload_n 0, 1) := by decide +kernel
theorem dX7_levelByRate_24 : decode cX7_levelByRate 24 = .ok (.getfield 20, 3) := by decide +kernel
theorem dX7_levelByRate_27 : decode cX7_levelByRate 27 = .ok (.iload_n 3, 1) := by decide +kernel
theorem dX7_levelByRate_28 : decode cX7_levelByRate 28 = .ok (.iaload, 1) := by decide +kernel
theorem dX7_levelByRate_29 : decode cX7_levelByRate 29 = .ok (.i2l, 1) := by decide +kernel
theorem dX7_levelByRate_30 : decode cX7_levelByRate 30 = .ok (.iload_n 1, 1) := by decide +kernel
theorem dX7_levelByRate_31 : decode cX7_levelByRate 31 = .ok (.i2l, 1) := by decide +kernel
theorem dX7_levelByRate_32 : decode cX7_levelByRate 32 = .ok (.aload_n 0, 1) := by decide +kernel
theorem dX7_levelByRate_33 : decode cX7_levelByRate 33 = .ok (.getfield 35, 3) := by decide +kernel
theorem dX7_levelByRate_36 : decode cX7_levelByRate 36 = .ok (.i2l, 1) := by decide +kernel
theorem dX7_levelByRate_37 : decode cX7_levelByRate 37 = .ok (.lmul, 1) := by decide +kernel
theorem dX7_levelByRate_38 : decode cX7_levelByRate 38 = .ok (.ldc2_w 76, 3) := by decide +kernel
theorem dX7_levelByRate_41 : decode cX7_levelByRate 41 = .ok (.ldiv, 1) := by decide +kernel
theorem dX7_levelByRate_42 : decode cX7_levelByRate 42 = .ok (.lcmp, 1) := by decide +kernel
theorem dX7_levelByRate_43 : decode cX7_levelByRate 43 = .ok (.ifCond .gt 7, 3) := by decide +kernel
theorem dX7_levelByRate_46 : decode cX7_levelByRate 46 = .ok (.iload_n 3, 1) := by decide +kernel
theorem dX7_levelByRate_47 : decode cX7_levelByRate 47 = .ok (.goto 4, 3) := by decide +kernel
theorem dX7_levelByRate_50 : decode cX7_levelByRate 50 = .ok (.iload_n 2, 1) := by decide +kernel
theorem dX7_levelByRate_51 : decode cX7_levelByRate 51 = .ok (.istore_n 2, 1) := by decide +kernel
theorem dX7_levelByRate_52 : decode cX7_levelByRate 52 = .ok (.iinc 3 1, 3) := by decide +kernel
theorem dX7_levelByRate_55 : decode cX7_levelByRate 55 = .ok (.goto (-46), 3) := by decide +kernel
theorem dX7_levelByRate_58 : decode cX7_levelByRate 58 = .ok (.iload_n 2, 1) := by decide +kernel
theorem dX7_levelByRate_59 : decode cX7_levelByRate 59 = .ok (.ireturn, 1) := by decide +kernel
theorem dX7_levelByBuffer_0 : decode cX7_levelByBuffer 0 = .ok (.aload_n 0, 1) := by decide +kernel
theorem dX7_levelByBuffer_1 : decode cX7_levelByBuffer 1 = .ok (.getfield 47, 3) := by decide +kernel
theorem dX7_levelByBuffer_4 : decode cX7_levelByBuffer 4 = .ok (.iconst 1, 1) := by decide +kernel
theorem dX7_levelByBuffer_5 : decode cX7_levelByBuffer 5 = .ok (.iaload, 1) := by decide +kernel
theorem dX7_levelByBuffer_6 : decode cX7_levelByBuffer 6 = .ok (.istore_n 1, 1) := by decide +kernel
theorem dX7_levelByBuffer_7 : decode cX7_levelByBuffer 7 = .ok (.iload_n 1, 1) := by decide +kernel
theorem dX7_levelByBuffer_8 : decode cX7_levelByBuffer 8 = .ok (.aload_n 0, 1) := by decide +kernel
theorem dX7_levelByBuffer_9 : decode cX7_levelByBuffer 9 = .ok (.getfield 38, 3) := by decide +kernel
theorem dX7_levelByBuffer_12 : decode cX7_levelByBuffer 12 = .ok (.if_icmp .gt 5, 3) := by decide +kernel
theorem dX7_levelByBuffer_15 : decode cX7_levelByBuffer 15 = .ok (.iconst 0, 1) := by decide +kernel
theorem dX7_levelByBuffer_16 : decode cX7_levelByBuffer 16 = .ok (.ireturn, 1) := by decide +kernel
theorem dX7_levelByBuffer_17 : decode cX7_levelByBuffer 17 = .ok (.iload_n 1, 1) := by decide +kernel
theorem dX7_levelByBuffer_18 : decode cX7_levelByBuffer 18 = .ok (.aload_n 0, 1) := by decide +kernel
theorem dX7_levelByBuffer_19 : decode cX7_levelByBuffer 19 = .ok (.getfield 38, 3) := by decide +kernel
theorem dX7_levelByBuffer_22 : decode cX7_levelByBuffer 22 = .ok (.aload_n 0, 1) := by decide +kernel
theorem dX7_levelByBuffer_23 : decode cX7_levelByBuffer 23 = .ok (.getfield 41, 3) := by decide +kernel
theorem dX7_levelByBuffer_26 : decode cX7_levelByBuffer 26 = .ok (.iadd, 1) := by decide +kernel
theorem dX7_levelByBuffer_27 : decode cX7_levelByBuffer 27 = .ok (.if_icmp .lt 10, 3) := by decide +kernel
theorem dX7_levelByBuffer_30 : decode cX7_levelByBuffer 30 = .ok (.aload_n 0, 1) := by decide +kernel
theorem dX7_levelByBuffer_31 : decode cX7_levelByBuffer 31 = .ok (.invokevirtual 130, 3) := by decide +kernel
theorem dX7_levelByBuffer_34 : decode cX7_levelByBuffer 34 = .ok (.goto 19, 3) := by decide +kernel
theorem dX7_levelByBuffer_37 : decode cX7_levelByBuffer 37 = .ok (.iload_n 1, 1) := by decide +kernel
theorem dX7_levelByBuffer_38 : decode cX7_levelByBuffer 38 = .ok (.aload_n 0, 1) := by decide +kernel
theorem dX7_levelByBuffer_39 : decode cX7_levelByBuffer 39 = .ok (.getfield 38, 3) := by decide +kernel
theorem dX7_levelByBuffer_42 : decode cX7_levelByBuffer 42 = .ok (.isub, 1) := by decide +kernel
theorem dX7_levelByBuffer_43 : decode cX7_levelByBuffer 43 = .ok (.aload_n 0, 1) := by decide +kernel
theorem dX7_levelByBuffer_44 : decode cX7_levelByBuffer 44 = .ok (.invokevirtual 130, 3) := by decide +kernel
theorem dX7_levelByBuffer_47 : decode cX7_levelByBuffer 47 = .ok (.imul, 1) := by decide +kernel
theorem dX7_levelByBuffer_48 : decode cX7_levelByBuffer 48 = .ok (.aload_n 0, 1) := by decide +kernel
theorem dX7_levelByBuffer_49 : decode cX7_levelByBuffer 49 = .ok (.getfield 41, 3) := by decide +kernel
theorem dX7_levelByBuffer_52 : decode cX7_levelByBuffer 52 = .ok (.idiv, 1) := by decide +kernel
theorem dX7_levelByBuffer_53 : decode cX7_levelByBuffer 53 = .ok (.ireturn, 1) := by decide +kernel
theorem dX7_levelOfBoth_0 : decode cX7_levelOfBoth 0 = .ok (.aload_n 0, 1) := by decide +kernel
theorem dX7_levelOfBoth_1 : decode cX7_levelOfBoth 1 = .ok (.invokevirtual 133, 3) := by decide +kernel
theorem dX7_levelOfBoth_4 : decode cX7_levelOfBoth 4 = .ok (.aload_n 0, 1) := by decide +kernel
theorem dX7_levelOfBoth_5 : decode cX7_levelOfBoth 5 = .ok (.invokevirtual 136, 3) := by decide +kernel
theorem dX7_levelOfBoth_8 : decode cX7_levelOfBoth 8 = .ok (.if_icmp .ge 10, 3) := by decide +kernel
theorem dX7_levelOfBoth_11 : decode cX7_levelOfBoth 11 = .ok (.aload_n 0, 1) := by decide +kernel
theorem dX7_levelOfBoth_12 : decode cX7_levelOfBoth 12 = .ok (.invokevirtual 133, 3) := by decide +kernel
theorem dX7_levelOfBoth_15 : decode cX7_levelOfBoth 15 = .ok (.goto 7, 3) := by decide +kernel
theorem dX7_levelOfBoth_18 : decode cX7_levelOfBoth 18 = .ok (.aload_n 0, 1) := by decide +kernel
theorem dX7_levelOfBoth_19 : decode cX7_levelOfBoth 19 = .ok (.invokevirtual 136, 3) := by decide +kernel
theorem dX7_levelOfBoth_22 : decode cX7_levelOfBoth 22 = .ok (.istore_n 1, 1) := by decide +kernel
theorem dX7_levelOfBoth_23 : decode cX7_levelOfBoth 23 = .ok (.aload_n 0, 1) := by decide +kernel
theorem dX7_levelOfBoth_24 : decode cX7_levelOfBoth 24 = .ok (.getfield 47, 3) := by decide +kernel
theorem dX7_levelOfBoth_27 : decode cX7_levelOfBoth 27 = .ok (.bipush 15, 2) := by decide +kernel
theorem dX7_levelOfBoth_29 : decode cX7_levelOfBoth 29 = .ok (.iaload, 1) := by decide +kernel
theorem dX7_levelOfBoth_30 : decode cX7_levelOfBoth 30 = .ok (.bipush (-6), 2) := by decide +kernel
theorem dX7_levelOfBoth_32 : decode cX7_levelOfBoth 32 = .ok (.if_icmp .eq 28, 3) := by decide +kernel
theorem dX7_levelOfBoth_35 : decode cX7_levelOfBoth 35 = .ok (.iload_n 1, 1) := by decide +kernel
theorem dX7_levelOfBoth_36 : decode cX7_levelOfBoth 36 = .ok (.aload_n 0, 1) := by decide +kernel
theorem dX7_levelOfBoth_37 : decode cX7_levelOfBoth 37 = .ok (.getfield 47, 3) := by decide +kernel
theorem dX7_levelOfBoth_40 : decode cX7_levelOfBoth 40 = .ok (.bipush 15, 2) := by decide +kernel
theorem dX7_levelOfBoth_42 : decode cX7_levelOfBoth 42 = .ok (.iaload, 1) := by decide +kernel
theorem dX7_levelOfBoth_43 : decode cX7_levelOfBoth 43 = .ok (.iconst 1, 1) := by decide +kernel
theorem dX7_levelOfBoth_44 : decode cX7_levelOfBoth 44 = .ok (.iadd, 1) := by decide +kernel
theorem dX7_levelOfBoth_45 : decode cX7_levelOfBoth 45 = .ok (.if_icmp .le 15, 3) := by decide +kernel
theorem dX7_levelOfBoth_48 : decode cX7_levelOfBoth 48 = .ok (.aload_n 0, 1) := by decide +kernel
theorem dX7_levelOfBoth_49 : decode cX7_levelOfBoth 49 = .ok (.getfield 47, 3) := by decide +kernel
theorem dX7_levelOfBoth_52 : decode cX7_levelOfBoth 52 = .ok (.bipush 15, 2) := by decide +kernel
theorem dX7_levelOfBoth_54 : decode cX7_levelOfBoth 54 = .ok (.iaload, 1) := by decide +kernel
theorem dX7_levelOfBoth_55 : decode cX7_levelOfBoth 55 = .ok (.iconst 1, 1) := by decide +kernel
theorem dX7_levelOfBoth_56 : decode cX7_levelOfBoth 56 = .ok (.iadd, 1) := by decide +kernel
theorem dX7_levelOfBoth_57 : decode cX7_levelOfBoth 57 = .ok (.goto 4, 3) := by decide +kernel
theorem dX7_levelOfBoth_60 : decode cX7_levelOfBoth 60 = .ok (.iload_n 1, 1) := by decide +kernel
theorem dX7_levelOfBoth_61 : decode cX7_levelOfBoth 61 = .ok (.ireturn, 1) := by decide +kernel
theorem dX7_chosen_0 : decode cX7_chosen 0 = .ok (.iload_n 1, 1) := by decide +kernel
theorem dX7_chosen_1 : decode cX7_chosen 1 = .ok (.ifCond .ne 10, 3) := by decide +kernel
theorem dX7_chosen_4 : decode cX7_chosen 4 = .ok (.aload_n 0, 1) := by decide +kernel
theorem dX7_chosen_5 : decode cX7_chosen 5 = .ok (.invokevirtual 130, 3) := by decide +kernel
theorem dX7_chosen_8 : decode cX7_chosen 8 = .ok (.goto 31, 3) := by decide +kernel
theorem dX7_chosen_11 : decode cX7_chosen 11 = .ok (.iload_n 1, 1) := by decide +kernel
theorem dX7_chosen_12 : decode cX7_chosen 12 = .ok (.iconst 1, 1) := by decide +kernel
theorem dX7_chosen_13 : decode cX7_chosen 13 = .ok (.if_icmp .ne 10, 3) := by decide +kernel
theorem dX7_chosen_16 : decode cX7_chosen 16 = .ok (.aload_n 0, 1) := by decide +kernel
theorem dX7_chosen_17 : decode cX7_chosen 17 = .ok (.invokevirtual 133, 3) := by decide +kernel
theorem dX7_chosen_20 : decode cX7_chosen 20 = .ok (.goto 19, 3) := by decide +kernel
theorem dX7_chosen_23 : decode cX7_chosen 23 = .ok (.iload_n 1, 1) := by decide +kernel
theorem dX7_chosen_24 : decode cX7_chosen 24 = .ok (.iconst 2, 1) := by decide +kernel
theorem dX7_chosen_25 : decode cX7_chosen 25 = .ok (.if_icmp .ne 10, 3) := by decide +kernel
theorem dX7_chosen_28 : decode cX7_chosen 28 = .ok (.aload_n 0, 1) := by decide +kernel
theorem dX7_chosen_29 : decode cX7_chosen 29 = .ok (.invokevirtual 136, 3) := by decide +kernel
theorem dX7_chosen_32 : decode cX7_chosen 32 = .ok (.goto 7, 3) := by decide +kernel
theorem dX7_chosen_35 : decode cX7_chosen 35 = .ok (.aload_n 0, 1) := by decide +kernel
theorem dX7_chosen_36 : decode cX7_chosen 36 = .ok (.invokevirtual 139, 3) := by decide +kernel
theorem dX7_chosen_39 : decode cX7_chosen 39 = .ok (.ireturn, 1) := by decide +kernel
theorem dX7_startsDownload_0 : decode cX7_startsDownload 0 = .ok (.aload_n 0, 1) := by decide +kernel
theorem dX7_startsDownload_1 : decode cX7_startsDownload 1 = .ok (.getfield 47, 3) := by decide +kernel
theorem dX7_startsDownload_4 : decode cX7_startsDownload 4 = .ok (.bipush 6, 2) := by decide +kernel
theorem dX7_startsDownload_6 : decode cX7_startsDownload 6 = .ok (.iaload, 1) := by decide +kernel
theorem dX7_startsDownload_7 : decode cX7_startsDownload 7 = .ok (.ifCond .ne 94, 3) := by decide +kernel
theorem dX7_startsDownload_10 : decode cX7_startsDownload 10 = .ok (.aload_n 0, 1) := by decide +kernel
theorem dX7_startsDownload_11 : decode cX7_startsDownload 11 = .ok (.getfield 47, 3) := by decide +kernel
theorem dX7_startsDownload_14 : decode cX7_startsDownload 14 = .ok (.iconst 5, 1) := by decide +kernel
theorem dX7_startsDownload_15 : decode cX7_startsDownload 15 = .ok (.iaload, 1) := by decide +kernel
theorem dX7_startsDownload_16 : decode cX7_startsDownload 16 = .ok (.aload_n 0, 1) := by decide +kernel
theorem dX7_startsDownload_17 : decode cX7_startsDownload 17 = .ok (.getfield 7, 3) := by decide +kernel
theorem dX7_startsDownload_20 : decode cX7_startsDownload 20 = .ok (.if_icmp .ge 81, 3) := by decide +kernel
theorem dX7_startsDownload_23 : decode cX7_startsDownload 23 = .ok (.aload_n 0, 1) := by decide +kernel
theorem dX7_startsDownload_24 : decode cX7_startsDownload 24 = .ok (.getfield 47, 3) := by decide +kernel
theorem dX7_startsDownload_27 : decode cX7_startsDownload 27 = .ok (.iconst 1, 1) := by decide +kernel
theorem dX7_startsDownload_28 : decode cX7_startsDownload 28 = .ok (.iaload, 1) := by decide +kernel
theorem dX7_startsDownload_29 : decode cX7_startsDownload 29 = .ok (.aload_n 0, 1) := by decide +kernel
theorem dX7_startsDownload_30 : decode cX7_startsDownload 30 = .ok (.getfield 13, 3) := by decide +kernel
theorem dX7_startsDownload_33 : decode cX7_startsDownload 33 = .ok (.iadd, 1) := by decide +kernel
theorem dX7_startsDownload_34 : decode cX7_startsDownload 34 = .ok (.aload_n 0, 1) := by decide +kernel
theorem dX7_startsDownload_35 : decode cX7_startsDownload 35 = .ok (.getfield 29, 3) := by decide +kernel
theorem dX7_startsDownload_38 : decode cX7_startsDownload 38 = .ok (.if_icmp .gt 63, 3) := by decide +kernel
theorem dX7_startsDownload_41 : decode cX7_startsDownload 41 = .ok (.aload_n 0, 1) := by decide +kernel
theorem dX7_startsDownload_42 : decode cX7_startsDownload 42 = .ok (.getfield 47, 3) := by decide +kernel
theorem dX7_startsDownload_45 : decode cX7_startsDownload 45 = .ok (.bipush 6, 2) := by decide +kernel
theorem dX7_startsDownload_47 : decode cX7_startsDownload 47 = .ok (.iconst 1, 1) := by decide +kernel
theorem dX7_startsDownload_48 : decode cX7_startsDownload 48 = .ok (.iastore, 1) := by decide +kernel
theorem dX7_startsDownload_49 : decode cX7_startsDownload 49 = .ok (.aload_n 0, 1) := by decide +kernel
theorem dX7_startsDownload_50 : decode cX7_startsDownload 50 = .ok (.getfield 47, 3) := by decide +kernel
theorem dX7_startsDownload_53 : decode cX7_startsDownload 53 = .ok (.bipush 7, 2) := by decide +kernel
theorem dX7_startsDownload_55 : decode cX7_startsDownload 55 = .ok (.aload_n 0, 1) := by decide +kernel
theorem dX7_startsDownload_56 : decode cX7_startsDownload 56 = .ok (.iload_n 1, 1) := by decide +kernel
theorem dX7_startsDownload_57 : decode cX7_startsDownload 57 = .ok (.invokevirtual 142, 3) := by decide +kernel
theorem dX7_startsDownload_60 : decode cX7_startsDownload 60 = .ok (.iastore, 1) := by decide +kernel
theorem dX7_startsDownload_61 : decode cX7_startsDownload 61 = .ok (.aload_n 0, 1) := by decide +kernel
theorem dX7_startsDownload_62 : decode cX7_startsDownload 62 = .ok (.getfield 47, 3) := by decide +kernel
theorem dX7_startsDownload_65 : decode cX7_startsDownload 65 = .ok (.bipush 8, 2) := by decide +kernel
theorem dX7_startsDownload_67 : decode cX7_startsDownload 67 = .ok (.aload_n 0, 1) := by decide +kernel
theorem dX7_startsDownload_68 : decode cX7_startsDownload 68 = .ok (.aload_n 0, 1) := by decide +kernel
theorem dX7_startsDownload_69 : decode cX7_startsDownload 69 = .ok (.getfield 47, 3) := by decide +kernel
theorem dX7_startsDownload_72 : decode cX7_startsDownload 72 = .ok (.bipush 7, 2) := by decide +kernel
theorem dX7_startsDownload_74 : decode cX7_startsDownload 74 = .ok (.iaload, 1) := by decide +kernel
theorem dX7_startsDownload_75 : decode cX7_startsDownload 75 = .ok (.aload_n 0, 1) := by decide +kernel
theorem dX7_startsDownload_76 : decode cX7_startsDownload 76 = .ok (.getfield 47, 3) := by decide +kernel
theorem dX7_startsDownload_79 : decode cX7_startsDownload 79 = .ok (.iconst 5, 1) := by decide +kernel
theorem dX7_startsDownload_80 : decode cX7_startsDownload 80 = .ok (.iaload, 1) := by decide +kernel
theorem dX7_startsDownload_81 : decode cX7_startsDownload 81 = .ok (.invokevirtual 145, 3) := by decide +kernel
theorem dX7_startsDownload_84 : decode cX7_startsDownload 84 = .ok (.iastore, 1) := by decide +kernel
theorem dX7_startsDownload_85 : decode cX7_startsDownload 85 = .ok (.aload_n 0, 1) := by decide +kernel
theorem dX7_startsDownload_86 : decode cX7_startsDownload 86 = .ok (.getfield 47, 3) := by decide +kernel
theorem dX7_startsDownload_89 : decode cX7_startsDownload 89 = .ok (.bipush 9, 2) := by decide +kernel
theorem dX7_startsDownload_91 : decode cX7_startsDownload 91 = .ok (.iconst 0, 1) := by decide +kernel
theorem dX7_startsDownload_92 : decode cX7_startsDownload 92 = .ok (.iastore, 1) := by decide +kernel
theorem dX7_startsDownload_93 : decode cX7_startsDownload 93 = .ok (.aload_n 0, 1) := by decide +kernel
theorem dX7_startsDownload_94 : decode cX7_startsDownload 94 = .ok (.getfield 47, 3) := by decide +kernel
theorem dX7_startsDownload_97 : decode cX7_startsDownload 97 = .ok (.bipush 10, 2) := by decide +kernel
theorem dX7_startsDownload_99 : decode cX7_startsDownload 99 = .ok (.iconst 0, 1) := by decide +kernel
theorem dX7_startsDownload_100 : decode cX7_startsDownload 100 = .ok (.iastore, 1) := by decide +kernel
theorem dX7_startsDownload_101 : decode cX7_startsDownload 101 = .ok (.return_, 1) := by decide +kernel
theorem dX7_completes_0 : decode cX7_completes 0 = .ok (.aload_n 0, 1) := by decide +kernel
theorem dX7_completes_1 : decode cX7_completes 1 = .ok (.getfield 47, 3) := by decide +kernel
theorem dX7_completes_4 : decode cX7_completes 4 = .ok (.bipush 14, 2) := by decide +kernel
theorem dX7_completes_6 : decode cX7_completes 6 = .ok (.aload_n 0, 1) := by decide +kernel
theorem dX7_completes_7 : decode cX7_completes 7 = .ok (.getfield 47, 3) := by decide +kernel
theorem dX7_completes_10 : decode cX7_completes 10 = .ok (.bipush 13, 2) := by decide +kernel
theorem dX7_completes_12 : decode cX7_completes 12 = .ok (.iaload, 1) := by decide +kernel
theorem dX7_completes_13 : decode cX7_completes 13 = .ok (.iastore, 1) := by decide +kernel
theorem dX7_completes_14 : decode cX7_completes 14 = .ok (.aload_n 0, 1) := by decide +kernel
theorem dX7_completes_15 : decode cX7_completes 15 = .ok (.getfield 47, 3) := by decide +kernel
theorem dX7_completes_18 : decode cX7_completes 18 = .ok (.bipush 13, 2) := by decide +kernel
theorem dX7_completes_20 : decode cX7_completes 20 = .ok (.aload_n 0, 1) := by decide +kernel
theorem dX7_completes_21 : decode cX7_completes 21 = .ok (.getfield 47, 3) := by decide +kernel
theorem dX7_completes_24 : decode cX7_completes 24 = .ok (.bipush 12, 2) := by decide +kernel
theorem dX7_completes_26 : decode cX7_completes 26 = .ok (.iaload, 1) := by decide +kernel
theorem dX7_completes_27 : decode cX7_completes 27 = .ok (.iastore, 1) := by decide +kernel
theorem dX7_completes_28 : decode cX7_completes 28 = .ok (.aload_n 0, 1) := by decide +kernel
theorem dX7_completes_29 : decode cX7_completes 29 = .ok (.getfield 47, 3) := by decide +kernel
theorem dX7_completes_32 : decode cX7_completes 32 = .ok (.bipush 12, 2) := by decide +kernel
theorem dX7_completes_34 : decode cX7_completes 34 = .ok (.aload_n 0, 1) := by decide +kernel
theorem dX7_completes_35 : decode cX7_completes 35 = .ok (.getfield 47, 3) := by decide +kernel
theorem dX7_completes_38 : decode cX7_completes 38 = .ok (.bipush 8, 2) := by decide +kernel
theorem dX7_completes_40 : decode cX7_completes 40 = .ok (.iaload, 1) := by decide +kernel
theorem dX7_completes_41 : decode cX7_completes 41 = .ok (.aload_n 0, 1) := by decide +kernel
theorem dX7_completes_42 : decode cX7_completes 42 = .ok (.getfield 47, 3) := by decide +kernel
theorem dX7_completes_45 : decode cX7_completes 45 = .ok (.bipush 10, 2) := by decide +kernel
theorem dX7_completes_47 : decode cX7_completes 47 = .ok (.iaload, 1) := by decide +kernel
theorem dX7_completes_48 : decode cX7_completes 48 = .ok (.idiv, 1) := by decide +kernel
theorem dX7_completes_49 : decode cX7_completes 49 = .ok (.iastore, 1) := by decide +kernel
theorem dX7_completes_50 : decode cX7_completes 50 = .ok (.aload_n 0, 1) := by decide +kernel
theorem dX7_completes_51 : decode cX7_completes 51 = .ok (.getfield 47, 3) := by decide +kernel
theorem dX7_completes_54 : decode cX7_completes 54 = .ok (.bipush 11, 2) := by decide +kernel
theorem dX7_completes_56 : decode cX7_completes 56 = .ok (.dup2, 1) := by decide +kernel
theorem dX7_completes_57 : decode cX7_completes 57 = .ok (.iaload, 1) := by decide +kernel
theorem dX7_completes_58 : decode cX7_completes 58 = .ok (.iconst 1, 1) := by decide +kernel
theorem dX7_completes_59 : decode cX7_completes 59 = .ok (.iadd, 1) := by decide +kernel
theorem dX7_completes_60 : decode cX7_completes 60 = .ok (.iastore, 1) := by decide +kernel
theorem dX7_completes_61 : decode cX7_completes 61 = .ok (.aload_n 0, 1) := by decide +kernel
theorem dX7_completes_62 : decode cX7_completes 62 = .ok (.getfield 47, 3) := by decide +kernel
theorem dX7_completes_65 : decode cX7_completes 65 = .ok (.bipush 16, 2) := by decide +kernel
theorem dX7_completes_67 : decode cX7_completes 67 = .ok (.dup2, 1) := by decide +kernel
theorem dX7_completes_68 : decode cX7_completes 68 = .ok (.iaload, 1) := by decide +kernel
theorem dX7_completes_69 : decode cX7_completes 69 = .ok (.aload_n 0, 1) := by decide +kernel
theorem dX7_completes_70 : decode cX7_completes 70 = .ok (.getfield 47, 3) := by decide +kernel
theorem dX7_completes_73 : decode cX7_completes 73 = .ok (.bipush 15, 2) := by decide +kernel
theorem dX7_completes_75 : decode cX7_completes 75 = .ok (.iaload, 1) := by decide +kernel
theorem dX7_completes_76 : decode cX7_completes 76 = .ok (.bipush (-6), 2) := by decide +kernel
theorem dX7_completes_78 : decode cX7_completes 78 = .ok (.if_icmp .eq 24, 3) := by decide +kernel
theorem dX7_completes_81 : decode cX7_completes 81 = .ok (.aload_n 0, 1) := by decide +kernel
theorem dX7_completes_82 : decode cX7_completes 82 = .ok (.getfield 47, 3) := by decide +kernel
theorem dX7_completes_85 : decode cX7_completes 85 = .ok (.bipush 15, 2) := by decide +kernel
theorem dX7_completes_87 : decode cX7_completes 87 = .ok (.iaload, 1) := by decide +kernel
theorem dX7_completes_88 : decode cX7_completes 88 = .ok (.aload_n 0, 1) := by decide +kernel
theorem dX7_completes_89 : decode cX7_completes 89 = .ok (.getfield 47, 3) := by decide +kernel
theorem dX7_completes_92 : decode cX7_completes 92 = .ok (.bipush 7, 2) := by decide +kernel
theorem dX7_completes_94 : decode cX7_completes 94 = .ok (.iaload, 1) := by decide +kernel
theorem dX7_completes_95 : decode cX7_completes 95 = .ok (.if_icmp .eq 7, 3) := by decide +kernel
theorem dX7_completes_98 : decode cX7_completes 98 = .ok (.iconst 1, 1) := by decide +kernel
theorem dX7_completes_99 : decode cX7_completes 99 = .ok (.goto 4, 3) := by decide +kernel
theorem dX7_completes_102 : decode cX7_completes 102 = .ok (.iconst 0, 1) := by decide +kernel
theorem dX7_completes_103 : decode cX7_completes 103 = .ok (.iadd, 1) := by decide +kernel
theorem dX7_completes_104 : decode cX7_completes 104 = .ok (.iastore, 1) := by decide +kernel
theorem dX7_completes_105 : decode cX7_completes 105 = .ok (.aload_n 0, 1) := by decide +kernel
theorem dX7_completes_106 : decode cX7_completes 106 = .ok (.getfield 47, 3) := by decide +kernel
theorem dX7_completes_109 : decode cX7_completes 109 = .ok (.bipush 15, 2) := by decide +kernel
theorem dX7_completes_111 : decode cX7_completes 111 = .ok (.aload_n 0, 1) := by decide +kernel
theorem dX7_completes_112 : decode cX7_completes 112 = .ok (.getfield 47, 3) := by decide +kernel
theorem dX7_completes_115 : decode cX7_completes 115 = .ok (.bipush 7, 2) := by decide +kernel
theorem dX7_completes_117 : decode cX7_completes 117 = .ok (.iaload, 1) := by decide +kernel
theorem dX7_completes_118 : decode cX7_completes 118 = .ok (.iastore, 1) := by decide +kernel
theorem dX7_completes_119 : decode cX7_completes 119 = .ok (.aload_n 0, 1) := by decide +kernel
theorem dX7_completes_120 : decode cX7_completes 120 = .ok (.getfield 47, 3) := by decide +kernel
theorem dX7_completes_123 : decode cX7_completes 123 = .ok (.bipush 22, 2) := by decide +kernel
theorem dX7_completes_125 : decode cX7_completes 125 = .ok (.aload_n 0, 1) := by decide +kernel
theorem dX7_completes_126 : decode cX7_completes 126 = .ok (.getfield 47, 3) := by decide +kernel
theorem dX7_completes_129 : decode cX7_completes 129 = .ok (.iconst 5, 1) := by decide +kernel
theorem dX7_completes_130 : decode cX7_completes 130 = .ok (.iaload, 1) := by decide +kernel
theorem dX7_completes_131 : decode cX7_completes 131 = .ok (.iadd, 1) := by decide +kernel
theorem dX7_completes_132 : decode cX7_completes 132 = .ok (.aload_n 0, 1) := by decide +kernel
theorem dX7_completes_133 : decode cX7_completes 133 = .ok (.getfield 47, 3) := by decide +kernel
theorem dX7_completes_136 : decode cX7_completes 136 = .ok (.bipush 7, 2) := by decide +kernel
theorem dX7_completes_138 : decode cX7_completes 138 = .ok (.iaload, 1) := by decide +kernel
theorem dX7_completes_139 : decode cX7_completes 139 = .ok (.iastore, 1) := by decide +kernel
theorem dX7_completes_140 : decode cX7_completes 140 = .ok (.aload_n 0, 1) := by decide +kernel
theorem dX7_completes_141 : decode cX7_completes 141 = .ok (.getfield 47, 3) := by decide +kernel
theorem dX7_completes_144 : decode cX7_completes 144 = .ok (.bipush 20, 2) := by decide +kernel
theorem dX7_completes_146 : decode cX7_completes 146 = .ok (.dup2, 1) := by decide +kernel
theorem dX7_completes_147 : decode cX7_completes 147 = .ok (.iaload, 1) := by decide +kernel
theorem dX7_completes_148 : decode cX7_completes 148 = .ok (.aload_n 0, 1) := by decide +kernel
theorem dX7_completes_149 : decode cX7_completes 149 = .ok (.getfield 20, 3) := by decide +kernel
theorem dX7_completes_152 : decode cX7_completes 152 = .ok (.aload_n 0, 1) := by decide +kernel
theorem dX7_completes_153 : decode cX7_completes 153 = .ok (.getfield 47, 3) := by decide +kernel
theorem dX7_completes_156 : decode cX7_completes 156 = .ok (.bipush 7, 2) := by decide +kernel
theorem dX7_completes_158 : decode cX7_completes 158 = .ok (.iaload, 1) := by decide +kernel
theorem dX7_completes_159 : decode cX7_completes 159 = .ok (.iaload, 1) := by decide +kernel
theorem dX7_completes_160 : decode cX7_completes 160 = .ok (.iadd, 1) := by decide +kernel
theorem dX7_completes_161 : decode cX7_completes 161 = .ok (.iastore, 1) := by decide +kernel
theorem dX7_completes_162 : decode cX7_completes 162 = .ok (.aload_n 0, 1) := by decide +kernel
theorem dX7_completes_163 : decode cX7_completes 163 = .ok (.getfield 47, 3) := by decide +kernel
theorem dX7_completes_166 : decode cX7_completes 166 = .ok (.bipush 21, 2) := by decide +kernel
theorem dX7_completes_168 : decode cX7_completes 168 = .ok (.dup2, 1) := by decide +kernel
theorem dX7_completes_169 : decode cX7_completes 169 = .ok (.iaload, 1) := by decide +kernel
theorem dX7_completes_170 : decode cX7_completes 170 = .ok (.iconst 1, 1) := by decide +kernel
theorem dX7_completes_171 : decode cX7_completes 171 = .ok (.iadd, 1) := by decide +kernel
theorem dX7_completes_172 : decode cX7_completes 172 = .ok (.iastore, 1) := by decide +kernel
theorem dX7_completes_173 : decode cX7_completes 173 = .ok (.aload_n 0, 1) := by decide +kernel
theorem dX7_completes_174 : decode cX7_completes 174 = .ok (.getfield 47, 3) := by decide +kernel
theorem dX7_completes_177 : decode cX7_completes 177 = .ok (.iconst 1, 1) := by decide +kernel
theorem dX7_completes_178 : decode cX7_completes 178 = .ok (.dup2, 1) := by decide +kernel
theorem dX7_completes_179 : decode cX7_completes 179 = .ok (.iaload, 1) := by decide +kernel
theorem dX7_completes_180 : decode cX7_completes 180 = .ok (.aload_n 0, 1) := by decide +kernel
theorem dX7_completes_181 : decode cX7_completes 181 = .ok (.getfield 13, 3) := by decide +kernel
theorem dX7_completes_184 : decode cX7_completes 184 = .ok (.iadd, 1) := by decide +kernel
theorem dX7_completes_185 : decode cX7_completes 185 = .ok (.iastore, 1) := by decide +kernel
theorem dX7_completes_186 : decode cX7_completes 186 = .ok (.aload_n 0, 1) := by decide +kernel
theorem dX7_completes_187 : decode cX7_completes 187 = .ok (.getfield 47, 3) := by decide +kernel
theorem dX7_completes_190 : decode cX7_completes 190 = .ok (.iconst 5, 1) := by decide +kernel
theorem dX7_completes_191 : decode cX7_completes 191 = .ok (.dup2, 1) := by decide +kernel
theorem dX7_completes_192 : decode cX7_completes 192 = .ok (.iaload, 1) := by decide +kernel
theorem dX7_completes_193 : decode cX7_completes 193 = .ok (.iconst 1, 1) := by decide +kernel
theorem dX7_completes_194 : decode cX7_completes 194 = .ok (.iadd, 1) := by decide +kernel
theorem dX7_completes_195 : decode cX7_completes 195 = .ok (.iastore, 1) := by decide +kernel
theorem dX7_completes_196 : decode cX7_completes 196 = .ok (.aload_n 0, 1) := by decide +kernel
theorem dX7_completes_197 : decode cX7_completes 197 = .ok (.getfield 47, 3) := by decide +kernel
theorem dX7_completes_200 : decode cX7_completes 200 = .ok (.bipush 6, 2) := by decide +kernel
theorem dX7_completes_202 : decode cX7_completes 202 = .ok (.iconst 0, 1) := by decide +kernel
theorem dX7_completes_203 : decode cX7_completes 203 = .ok (.iastore, 1) := by decide +kernel
theorem dX7_completes_204 : decode cX7_completes 204 = .ok (.return_, 1) := by decide +kernel
theorem dX7_receives_0 : decode cX7_receives 0 = .ok (.aload_n 0, 1) := by decide +kernel
theorem dX7_receives_1 : decode cX7_receives 1 = .ok (.getfield 47, 3) := by decide +kernel
theorem dX7_receives_4 : decode cX7_receives 4 = .ok (.bipush 6, 2) := by decide +kernel
theorem dX7_receives_6 : decode cX7_receives 6 = .ok (.iaload, 1) := by decide +kernel
theorem dX7_receives_7 : decode cX7_receives 7 = .ok (.iconst 1, 1) := by decide +kernel
theorem dX7_receives_8 : decode cX7_receives 8 = .ok (.if_icmp .ne 55, 3) := by decide +kernel
theorem dX7_receives_11 : decode cX7_receives 11 = .ok (.aload_n 0, 1) := by decide +kernel
theorem dX7_receives_12 : decode cX7_receives 12 = .ok (.getfield 47, 3) := by decide +kernel
theorem dX7_receives_15 : decode cX7_receives 15 = .ok (.bipush 9, 2) := by decide +kernel
theorem dX7_receives_17 : decode cX7_receives 17 = .ok (.dup2, 1) := by decide +kernel
theorem dX7_receives_18 : decode cX7_receives 18 = .ok (.iaload, 1) := by decide +kernel
theorem dX7_receives_19 : decode cX7_receives 19 = .ok (.aload_n 0, 1) := by decide +kernel
theorem dX7_receives_20 : decode cX7_receives 20 = .ok (.aload_n 0, 1) := by decide +kernel
theorem dX7_receives_21 : decode cX7_receives 21 = .ok (.getfield 47, 3) := by decide +kernel
theorem dX7_receives_24 : decode cX7_receives 24 = .ok (.iconst 0, 1) := by decide +kernel
theorem dX7_receives_25 : decode cX7_receives 25 = .ok (.iaload, 1) := by decide +kernel
theorem dX7_receives_26 : decode cX7_receives 26 = .ok (.invokevirtual 149, 3) := by decide +kernel
theorem dX7_receives_29 : decode cX7_receives 29 = .ok (.iadd, 1) := by decide +kernel
theorem dX7_receives_30 : decode cX7_receives 30 = .ok (.iastore, 1) := by decide +kernel
theorem dX7_receives_31 : decode cX7_receives 31 = .ok (.aload_n 0, 1) := by decide +kernel
theorem dX7_receives_32 : decode cX7_receives 32 = .ok (.getfield 47, 3) := by decide +kernel
theorem dX7_receives_35 : decode cX7_receives 35 = .ok (.bipush 10, 2) := by decide +kernel
theorem dX7_receives_37 : decode cX7_receives 37 = .ok (.dup2, 1) := by decide +kernel
theorem dX7_receives_38 : decode cX7_receives 38 = .ok (.iaload, 1) := by decide +kernel
theorem dX7_receives_39 : decode cX7_receives 39 = .ok (.iconst 1, 1) := by decide +kernel
theorem dX7_receives_40 : decode cX7_receives 40 = .ok (.iadd, 1) := by decide +kernel
theorem dX7_receives_41 : decode cX7_receives 41 = .ok (.iastore, 1) := by decide +kernel
theorem dX7_receives_42 : decode cX7_receives 42 = .ok (.aload_n 0, 1) := by decide +kernel
theorem dX7_receives_43 : decode cX7_receives 43 = .ok (.getfield 47, 3) := by decide +kernel
theorem dX7_receives_46 : decode cX7_receives 46 = .ok (.bipush 9, 2) := by decide +kernel
theorem dX7_receives_48 : decode cX7_receives 48 = .ok (.iaload, 1) := by decide +kernel
theorem dX7_receives_49 : decode cX7_receives 49 = .ok (.aload_n 0, 1) := by decide +kernel
theorem dX7_receives_50 : decode cX7_receives 50 = .ok (.getfield 47, 3) := by decide +kernel
theorem dX7_receives_53 : decode cX7_receives 53 = .ok (.bipush 8, 2) := by decide +kernel
theorem dX7_receives_55 : decode cX7_receives 55 = .ok (.iaload, 1) := by decide +kernel
theorem dX7_receives_56 : decode cX7_receives 56 = .ok (.if_icmp .lt 7, 3) := by decide +kernel
theorem dX7_receives_59 : decode cX7_receives 59 = .ok (.aload_n 0, 1) := by decide +kernel
theorem dX7_receives_60 : decode cX7_receives 60 = .ok (.invokevirtual 152, 3) := by decide +kernel
theorem dX7_receives_63 : decode cX7_receives 63 = .ok (.return_, 1) := by decide +kernel
theorem dX7_plays_0 : decode cX7_plays 0 = .ok (.aload_n 0, 1) := by decide +kernel
theorem dX7_plays_1 : decode cX7_plays 1 = .ok (.getfield 47, 3) := by decide +kernel
theorem dX7_plays_4 : decode cX7_plays 4 = .ok (.iconst 1, 1) := by decide +kernel
theorem dX7_plays_5 : decode cX7_plays 5 = .ok (.dup2, 1) := by decide +kernel
theorem dX7_plays_6 : decode cX7_plays 6 = .ok (.iaload, 1) := by decide +kernel
theorem dX7_plays_7 : decode cX7_plays 7 = .ok (.iconst 1, 1) := by decide +kernel
theorem dX7_plays_8 : decode cX7_plays 8 = .ok (.isub, 1) := by decide +kernel
theorem dX7_plays_9 : decode cX7_plays 9 = .ok (.iastore, 1) := by decide +kernel
theorem dX7_plays_10 : decode cX7_plays 10 = .ok (.aload_n 0, 1) := by decide +kernel
theorem dX7_plays_11 : decode cX7_plays 11 = .ok (.getfield 47, 3) := by decide +kernel
theorem dX7_plays_14 : decode cX7_plays 14 = .ok (.iconst 2, 1) := by decide +kernel
theorem dX7_plays_15 : decode cX7_plays 15 = .ok (.dup2, 1) := by decide +kernel
theorem dX7_plays_16 : decode cX7_plays 16 = .ok (.iaload, 1) := by decide +kernel
theorem dX7_plays_17 : decode cX7_plays 17 = .ok (.iconst 1, 1) := by decide +kernel
theorem dX7_plays_18 : decode cX7_plays 18 = .ok (.iadd, 1) := by decide +kernel
theorem dX7_plays_19 : decode cX7_plays 19 = .ok (.iastore, 1) := by decide +kernel
theorem dX7_plays_20 : decode cX7_plays 20 = .ok (.aload_n 0, 1) := by decide +kernel
theorem dX7_plays_21 : decode cX7_plays 21 = .ok (.getfield 47, 3) := by decide +kernel
theorem dX7_plays_24 : decode cX7_plays 24 = .ok (.iconst 1, 1) := by decide +kernel
theorem dX7_plays_25 : decode cX7_plays 25 = .ok (.iaload, 1) := by decide +kernel
theorem dX7_plays_26 : decode cX7_plays 26 = .ok (.ifCond .ne 56, 3) := by decide +kernel
theorem dX7_plays_29 : decode cX7_plays 29 = .ok (.aload_n 0, 1) := by decide +kernel
theorem dX7_plays_30 : decode cX7_plays 30 = .ok (.getfield 47, 3) := by decide +kernel
theorem dX7_plays_33 : decode cX7_plays 33 = .ok (.iconst 5, 1) := by decide +kernel
theorem dX7_plays_34 : decode cX7_plays 34 = .ok (.iaload, 1) := by decide +kernel
theorem dX7_plays_35 : decode cX7_plays 35 = .ok (.aload_n 0, 1) := by decide +kernel
theorem dX7_plays_36 : decode cX7_plays 36 = .ok (.getfield 7, 3) := by decide +kernel
theorem dX7_plays_39 : decode cX7_plays 39 = .ok (.if_icmp .lt 7, 3) := by decide +kernel
