theorem dX7_plays_42 : decode cX7_plays 42 = .ok (.iconst 1, 1) := by decide +kernel
theorem dX7_plays_43 : decode cX7_plays 43 = .ok (.goto 4, 3) := by decide +kernel
theorem dX7_plays_46 : decode cX7_plays 46 = .ok (.iconst 0, 1) := by decide +kernel
theorem dX7_plays_47 : decode cX7_plays 47 = .ok (.istore_n 1, 1) := by decide +kernel
theorem dX7_plays_48 : decode cX7_plays 48 = .ok (.aload_n 0, 1) := by decide +kernel
theorem dX7_plays_49 : decode cX7_plays 49 = .ok (.getfield 47, 3) := by decide +kernel
theorem dX7_plays_52 : decode cX7_plays 52 = .ok (.iconst 3, 1) := by decide +kernel
theorem dX7_plays_53 : decode cX7_plays 53 = .ok (.iload_n 1, 1) := by decide +kernel
theorem dX7_plays_54 : decode cX7_plays 54 = .ok (.ifCond .eq 7, 3) := by decide +kernel
theorem dX7_plays_57 : decode cX7_plays 57 = .ok (.iconst 3, 1) := by decide +kernel
theorem dX7_plays_58 : decode cX7_plays 58 = .ok (.goto 4, 3) := by decide +kernel
theorem dX7_plays_61 : decode cX7_plays 61 = .ok (.iconst 2, 1) := by decide +kernel
theorem dX7_plays_62 : decode cX7_plays 62 = .ok (.iastore, 1) := by decide +kernel
theorem dX7_plays_63 : decode cX7_plays 63 = .ok (.aload_n 0, 1) := by decide +kernel
theorem dX7_plays_64 : decode cX7_plays 64 = .ok (.getfield 47, 3) := by decide +kernel
theorem dX7_plays_67 : decode cX7_plays 67 = .ok (.bipush 17, 2) := by decide +kernel
theorem dX7_plays_69 : decode cX7_plays 69 = .ok (.dup2, 1) := by decide +kernel
theorem dX7_plays_70 : decode cX7_plays 70 = .ok (.iaload, 1) := by decide +kernel
theorem dX7_plays_71 : decode cX7_plays 71 = .ok (.iload_n 1, 1) := by decide +kernel
theorem dX7_plays_72 : decode cX7_plays 72 = .ok (.ifCond .eq 7, 3) := by decide +kernel
theorem dX7_plays_75 : decode cX7_plays 75 = .ok (.iconst 0, 1) := by decide +kernel
theorem dX7_plays_76 : decode cX7_plays 76 = .ok (.goto 4, 3) := by decide +kernel
theorem dX7_plays_79 : decode cX7_plays 79 = .ok (.iconst 1, 1) := by decide +kernel
theorem dX7_plays_80 : decode cX7_plays 80 = .ok (.iadd, 1) := by decide +kernel
theorem dX7_plays_81 : decode cX7_plays 81 = .ok (.iastore, 1) := by decide +kernel
theorem dX7_plays_82 : decode cX7_plays 82 = .ok (.return_, 1) := by decide +kernel
theorem dX7_waits_0 : decode cX7_waits 0 = .ok (.aload_n 0, 1) := by decide +kernel
theorem dX7_waits_1 : decode cX7_waits 1 = .ok (.getfield 47, 3) := by decide +kernel
theorem dX7_waits_4 : decode cX7_waits 4 = .ok (.bipush 19, 2) := by decide +kernel
theorem dX7_waits_6 : decode cX7_waits 6 = .ok (.dup2, 1) := by decide +kernel
theorem dX7_waits_7 : decode cX7_waits 7 = .ok (.iaload, 1) := by decide +kernel
theorem dX7_waits_8 : decode cX7_waits 8 = .ok (.aload_n 0, 1) := by decide +kernel
theorem dX7_waits_9 : decode cX7_waits 9 = .ok (.getfield 47, 3) := by decide +kernel
theorem dX7_waits_12 : decode cX7_waits 12 = .ok (.iconst 3, 1) := by decide +kernel
theorem dX7_waits_13 : decode cX7_waits 13 = .ok (.iaload, 1) := by decide +kernel
theorem dX7_waits_14 : decode cX7_waits 14 = .ok (.ifCond .ne 7, 3) := by decide +kernel
theorem dX7_waits_17 : decode cX7_waits 17 = .ok (.iconst 1, 1) := by decide +kernel
theorem dX7_waits_18 : decode cX7_waits 18 = .ok (.goto 4, 3) := by decide +kernel
theorem dX7_waits_21 : decode cX7_waits 21 = .ok (.iconst 0, 1) := by decide +kernel
theorem dX7_waits_22 : decode cX7_waits 22 = .ok (.iadd, 1) := by decide +kernel
theorem dX7_waits_23 : decode cX7_waits 23 = .ok (.iastore, 1) := by decide +kernel
theorem dX7_waits_24 : decode cX7_waits 24 = .ok (.aload_n 0, 1) := by decide +kernel
theorem dX7_waits_25 : decode cX7_waits 25 = .ok (.getfield 47, 3) := by decide +kernel
theorem dX7_waits_28 : decode cX7_waits 28 = .ok (.bipush 18, 2) := by decide +kernel
theorem dX7_waits_30 : decode cX7_waits 30 = .ok (.dup2, 1) := by decide +kernel
theorem dX7_waits_31 : decode cX7_waits 31 = .ok (.iaload, 1) := by decide +kernel
theorem dX7_waits_32 : decode cX7_waits 32 = .ok (.aload_n 0, 1) := by decide +kernel
theorem dX7_waits_33 : decode cX7_waits 33 = .ok (.getfield 47, 3) := by decide +kernel
theorem dX7_waits_36 : decode cX7_waits 36 = .ok (.iconst 3, 1) := by decide +kernel
theorem dX7_waits_37 : decode cX7_waits 37 = .ok (.iaload, 1) := by decide +kernel
theorem dX7_waits_38 : decode cX7_waits 38 = .ok (.iconst 2, 1) := by decide +kernel
theorem dX7_waits_39 : decode cX7_waits 39 = .ok (.if_icmp .ne 7, 3) := by decide +kernel
theorem dX7_waits_42 : decode cX7_waits 42 = .ok (.iconst 1, 1) := by decide +kernel
theorem dX7_waits_43 : decode cX7_waits 43 = .ok (.goto 4, 3) := by decide +kernel
theorem dX7_waits_46 : decode cX7_waits 46 = .ok (.iconst 0, 1) := by decide +kernel
theorem dX7_waits_47 : decode cX7_waits 47 = .ok (.iadd, 1) := by decide +kernel
theorem dX7_waits_48 : decode cX7_waits 48 = .ok (.iastore, 1) := by decide +kernel
theorem dX7_waits_49 : decode cX7_waits 49 = .ok (.aload_n 0, 1) := by decide +kernel
theorem dX7_waits_50 : decode cX7_waits 50 = .ok (.getfield 47, 3) := by decide +kernel
theorem dX7_waits_53 : decode cX7_waits 53 = .ok (.iconst 1, 1) := by decide +kernel
theorem dX7_waits_54 : decode cX7_waits 54 = .ok (.iaload, 1) := by decide +kernel
theorem dX7_waits_55 : decode cX7_waits 55 = .ok (.aload_n 0, 1) := by decide +kernel
theorem dX7_waits_56 : decode cX7_waits 56 = .ok (.getfield 32, 3) := by decide +kernel
theorem dX7_waits_59 : decode cX7_waits 59 = .ok (.if_icmp .ge 25, 3) := by decide +kernel
theorem dX7_waits_62 : decode cX7_waits 62 = .ok (.aload_n 0, 1) := by decide +kernel
theorem dX7_waits_63 : decode cX7_waits 63 = .ok (.getfield 47, 3) := by decide +kernel
theorem dX7_waits_66 : decode cX7_waits 66 = .ok (.iconst 5, 1) := by decide +kernel
theorem dX7_waits_67 : decode cX7_waits 67 = .ok (.iaload, 1) := by decide +kernel
theorem dX7_waits_68 : decode cX7_waits 68 = .ok (.aload_n 0, 1) := by decide +kernel
theorem dX7_waits_69 : decode cX7_waits 69 = .ok (.getfield 7, 3) := by decide +kernel
theorem dX7_waits_72 : decode cX7_waits 72 = .ok (.if_icmp .lt 19, 3) := by decide +kernel
theorem dX7_waits_75 : decode cX7_waits 75 = .ok (.aload_n 0, 1) := by decide +kernel
theorem dX7_waits_76 : decode cX7_waits 76 = .ok (.getfield 47, 3) := by decide +kernel
theorem dX7_waits_79 : decode cX7_waits 79 = .ok (.iconst 1, 1) := by decide +kernel
theorem dX7_waits_80 : decode cX7_waits 80 = .ok (.iaload, 1) := by decide +kernel
theorem dX7_waits_81 : decode cX7_waits 81 = .ok (.ifCond .le 10, 3) := by decide +kernel
theorem dX7_waits_84 : decode cX7_waits 84 = .ok (.aload_n 0, 1) := by decide +kernel
theorem dX7_waits_85 : decode cX7_waits 85 = .ok (.getfield 47, 3) := by decide +kernel
theorem dX7_waits_88 : decode cX7_waits 88 = .ok (.iconst 3, 1) := by decide +kernel
theorem dX7_waits_89 : decode cX7_waits 89 = .ok (.iconst 1, 1) := by decide +kernel
theorem dX7_waits_90 : decode cX7_waits 90 = .ok (.iastore, 1) := by decide +kernel
theorem dX7_waits_91 : decode cX7_waits 91 = .ok (.return_, 1) := by decide +kernel
theorem dX7_passes_0 : decode cX7_passes 0 = .ok (.aload_n 0, 1) := by decide +kernel
theorem dX7_passes_1 : decode cX7_passes 1 = .ok (.iload_n 1, 1) := by decide +kernel
theorem dX7_passes_2 : decode cX7_passes 2 = .ok (.invokevirtual 155, 3) := by decide +kernel
theorem dX7_passes_5 : decode cX7_passes 5 = .ok (.aload_n 0, 1) := by decide +kernel
theorem dX7_passes_6 : decode cX7_passes 6 = .ok (.invokevirtual 159, 3) := by decide +kernel
theorem dX7_passes_9 : decode cX7_passes 9 = .ok (.aload_n 0, 1) := by decide +kernel
theorem dX7_passes_10 : decode cX7_passes 10 = .ok (.getfield 47, 3) := by decide +kernel
theorem dX7_passes_13 : decode cX7_passes 13 = .ok (.iconst 4, 1) := by decide +kernel
theorem dX7_passes_14 : decode cX7_passes 14 = .ok (.iaload, 1) := by decide +kernel
theorem dX7_passes_15 : decode cX7_passes 15 = .ok (.ifCond .ne 34, 3) := by decide +kernel
theorem dX7_passes_18 : decode cX7_passes 18 = .ok (.aload_n 0, 1) := by decide +kernel
theorem dX7_passes_19 : decode cX7_passes 19 = .ok (.getfield 47, 3) := by decide +kernel
theorem dX7_passes_22 : decode cX7_passes 22 = .ok (.iconst 3, 1) := by decide +kernel
theorem dX7_passes_23 : decode cX7_passes 23 = .ok (.iaload, 1) := by decide +kernel
theorem dX7_passes_24 : decode cX7_passes 24 = .ok (.iconst 1, 1) := by decide +kernel
theorem dX7_passes_25 : decode cX7_passes 25 = .ok (.if_icmp .ne 10, 3) := by decide +kernel
theorem dX7_passes_28 : decode cX7_passes 28 = .ok (.aload_n 0, 1) := by decide +kernel
theorem dX7_passes_29 : decode cX7_passes 29 = .ok (.invokevirtual 162, 3) := by decide +kernel
theorem dX7_passes_32 : decode cX7_passes 32 = .ok (.goto 17, 3) := by decide +kernel
theorem dX7_passes_35 : decode cX7_passes 35 = .ok (.aload_n 0, 1) := by decide +kernel
theorem dX7_passes_36 : decode cX7_passes 36 = .ok (.getfield 47, 3) := by decide +kernel
theorem dX7_passes_39 : decode cX7_passes 39 = .ok (.iconst 3, 1) := by decide +kernel
theorem dX7_passes_40 : decode cX7_passes 40 = .ok (.iaload, 1) := by decide +kernel
theorem dX7_passes_41 : decode cX7_passes 41 = .ok (.iconst 3, 1) := by decide +kernel
theorem dX7_passes_42 : decode cX7_passes 42 = .ok (.if_icmp .eq 7, 3) := by decide +kernel
theorem dX7_passes_45 : decode cX7_passes 45 = .ok (.aload_n 0, 1) := by decide +kernel
theorem dX7_passes_46 : decode cX7_passes 46 = .ok (.invokevirtual 165, 3) := by decide +kernel
theorem dX7_passes_49 : decode cX7_passes 49 = .ok (.aload_n 0, 1) := by decide +kernel
theorem dX7_passes_50 : decode cX7_passes 50 = .ok (.getfield 47, 3) := by decide +kernel
theorem dX7_passes_53 : decode cX7_passes 53 = .ok (.iconst 0, 1) := by decide +kernel
theorem dX7_passes_54 : decode cX7_passes 54 = .ok (.dup2, 1) := by decide +kernel
theorem dX7_passes_55 : decode cX7_passes 55 = .ok (.iaload, 1) := by decide +kernel
theorem dX7_passes_56 : decode cX7_passes 56 = .ok (.iconst 1, 1) := by decide +kernel
theorem dX7_passes_57 : decode cX7_passes 57 = .ok (.iadd, 1) := by decide +kernel
theorem dX7_passes_58 : decode cX7_passes 58 = .ok (.iastore, 1) := by decide +kernel
theorem dX7_passes_59 : decode cX7_passes 59 = .ok (.return_, 1) := by decide +kernel
theorem dX7_restart_0 : decode cX7_restart 0 = .ok (.aload_n 0, 1) := by decide +kernel
theorem dX7_restart_1 : decode cX7_restart 1 = .ok (.getfield 47, 3) := by decide +kernel
theorem dX7_restart_4 : decode cX7_restart 4 = .ok (.iconst 0, 1) := by decide +kernel
theorem dX7_restart_5 : decode cX7_restart 5 = .ok (.iaload, 1) := by decide +kernel
theorem dX7_restart_6 : decode cX7_restart 6 = .ok (.istore_n 1, 1) := by decide +kernel
theorem dX7_restart_7 : decode cX7_restart 7 = .ok (.aload_n 0, 1) := by decide +kernel
theorem dX7_restart_8 : decode cX7_restart 8 = .ok (.invokevirtual 56, 3) := by decide +kernel
theorem dX7_restart_11 : decode cX7_restart 11 = .ok (.iload_n 1, 1) := by decide +kernel
theorem dX7_restart_12 : decode cX7_restart 12 = .ok (.ireturn, 1) := by decide +kernel
theorem dX7_advance_0 : decode cX7_advance 0 = .ok (.iload_n 1, 1) := by decide +kernel
theorem dX7_advance_1 : decode cX7_advance 1 = .ok (.iconst 1, 1) := by decide +kernel
theorem dX7_advance_2 : decode cX7_advance 2 = .ok (.ldc 66, 2) := by decide +kernel
theorem dX7_advance_4 : decode cX7_advance 4 = .ok (.invokestatic 59, 3) := by decide +kernel
theorem dX7_advance_7 : decode cX7_advance 7 = .ok (.ifCond .ne 5, 3) := by decide +kernel
theorem dX7_advance_10 : decode cX7_advance 10 = .ok (.iconst (-1), 1) := by decide +kernel
theorem dX7_advance_11 : decode cX7_advance 11 = .ok (.ireturn, 1) := by decide +kernel
theorem dX7_advance_12 : decode cX7_advance 12 = .ok (.aload_n 0, 1) := by decide +kernel
theorem dX7_advance_13 : decode cX7_advance 13 = .ok (.getfield 63, 3) := by decide +kernel
theorem dX7_advance_16 : decode cX7_advance 16 = .ok (.ifCond .ne 6, 3) := by decide +kernel
theorem dX7_advance_19 : decode cX7_advance 19 = .ok (.bipush (-4), 2) := by decide +kernel
theorem dX7_advance_21 : decode cX7_advance 21 = .ok (.ireturn, 1) := by decide +kernel
theorem dX7_advance_22 : decode cX7_advance 22 = .ok (.aload_n 0, 1) := by decide +kernel
theorem dX7_advance_23 : decode cX7_advance 23 = .ok (.getfield 47, 3) := by decide +kernel
theorem dX7_advance_26 : decode cX7_advance 26 = .ok (.bipush 21, 2) := by decide +kernel
theorem dX7_advance_28 : decode cX7_advance 28 = .ok (.iaload, 1) := by decide +kernel
theorem dX7_advance_29 : decode cX7_advance 29 = .ok (.istore_n 2, 1) := by decide +kernel
theorem dX7_advance_30 : decode cX7_advance 30 = .ok (.iconst 0, 1) := by decide +kernel
theorem dX7_advance_31 : decode cX7_advance 31 = .ok (.istore_n 3, 1) := by decide +kernel
theorem dX7_advance_32 : decode cX7_advance 32 = .ok (.iload_n 3, 1) := by decide +kernel
theorem dX7_advance_33 : decode cX7_advance 33 = .ok (.iload_n 1, 1) := by decide +kernel
theorem dX7_advance_34 : decode cX7_advance 34 = .ok (.if_icmp .ge 17, 3) := by decide +kernel
theorem dX7_advance_37 : decode cX7_advance 37 = .ok (.aload_n 0, 1) := by decide +kernel
theorem dX7_advance_38 : decode cX7_advance 38 = .ok (.aload_n 0, 1) := by decide +kernel
theorem dX7_advance_39 : decode cX7_advance 39 = .ok (.getfield 82, 3) := by decide +kernel
theorem dX7_advance_42 : decode cX7_advance 42 = .ok (.invokevirtual 168, 3) := by decide +kernel
theorem dX7_advance_45 : decode cX7_advance 45 = .ok (.iinc 3 1, 3) := by decide +kernel
theorem dX7_advance_48 : decode cX7_advance 48 = .ok (.goto (-16), 3) := by decide +kernel
theorem dX7_advance_51 : decode cX7_advance 51 = .ok (.aload_n 0, 1) := by decide +kernel
theorem dX7_advance_52 : decode cX7_advance 52 = .ok (.getfield 47, 3) := by decide +kernel
theorem dX7_advance_55 : decode cX7_advance 55 = .ok (.bipush 21, 2) := by decide +kernel
theorem dX7_advance_57 : decode cX7_advance 57 = .ok (.iaload, 1) := by decide +kernel
theorem dX7_advance_58 : decode cX7_advance 58 = .ok (.iload_n 2, 1) := by decide +kernel
theorem dX7_advance_59 : decode cX7_advance 59 = .ok (.isub, 1) := by decide +kernel
theorem dX7_advance_60 : decode cX7_advance 60 = .ok (.ireturn, 1) := by decide +kernel
theorem dX7_time_0 : decode cX7_time 0 = .ok (.aload_n 0, 1) := by decide +kernel
theorem dX7_time_1 : decode cX7_time 1 = .ok (.getfield 47, 3) := by decide +kernel
theorem dX7_time_4 : decode cX7_time 4 = .ok (.iconst 0, 1) := by decide +kernel
theorem dX7_time_5 : decode cX7_time 5 = .ok (.iaload, 1) := by decide +kernel
theorem dX7_time_6 : decode cX7_time 6 = .ok (.ireturn, 1) := by decide +kernel
theorem dX7_position_0 : decode cX7_position 0 = .ok (.aload_n 0, 1) := by decide +kernel
theorem dX7_position_1 : decode cX7_position 1 = .ok (.getfield 47, 3) := by decide +kernel
theorem dX7_position_4 : decode cX7_position 4 = .ok (.iconst 2, 1) := by decide +kernel
theorem dX7_position_5 : decode cX7_position 5 = .ok (.iaload, 1) := by decide +kernel
theorem dX7_position_6 : decode cX7_position 6 = .ok (.ireturn, 1) := by decide +kernel
theorem dX7_bufferLevel_0 : decode cX7_bufferLevel 0 = .ok (.aload_n 0, 1) := by decide +kernel
theorem dX7_bufferLevel_1 : decode cX7_bufferLevel 1 = .ok (.getfield 47, 3) := by decide +kernel
theorem dX7_bufferLevel_4 : decode cX7_bufferLevel 4 = .ok (.iconst 1, 1) := by decide +kernel
theorem dX7_bufferLevel_5 : decode cX7_bufferLevel 5 = .ok (.iaload, 1) := by decide +kernel
theorem dX7_bufferLevel_6 : decode cX7_bufferLevel 6 = .ok (.ireturn, 1) := by decide +kernel
theorem dX7_state_0 : decode cX7_state 0 = .ok (.aload_n 0, 1) := by decide +kernel
theorem dX7_state_1 : decode cX7_state 1 = .ok (.getfield 47, 3) := by decide +kernel
theorem dX7_state_4 : decode cX7_state 4 = .ok (.iconst 3, 1) := by decide +kernel
theorem dX7_state_5 : decode cX7_state 5 = .ok (.iaload, 1) := by decide +kernel
theorem dX7_state_6 : decode cX7_state 6 = .ok (.ireturn, 1) := by decide +kernel
theorem dX7_isPaused_0 : decode cX7_isPaused 0 = .ok (.aload_n 0, 1) := by decide +kernel
theorem dX7_isPaused_1 : decode cX7_isPaused 1 = .ok (.getfield 47, 3) := by decide +kernel
theorem dX7_isPaused_4 : decode cX7_isPaused 4 = .ok (.iconst 4, 1) := by decide +kernel
theorem dX7_isPaused_5 : decode cX7_isPaused 5 = .ok (.iaload, 1) := by decide +kernel
theorem dX7_isPaused_6 : decode cX7_isPaused 6 = .ok (.ireturn, 1) := by decide +kernel
theorem dX7_downloadingSegment_0 : decode cX7_downloadingSegment 0 = .ok (.aload_n 0, 1) := by decide +kernel
theorem dX7_downloadingSegment_1 : decode cX7_downloadingSegment 1 = .ok (.getfield 47, 3) := by decide +kernel
theorem dX7_downloadingSegment_4 : decode cX7_downloadingSegment 4 = .ok (.bipush 6, 2) := by decide +kernel
theorem dX7_downloadingSegment_6 : decode cX7_downloadingSegment 6 = .ok (.iaload, 1) := by decide +kernel
theorem dX7_downloadingSegment_7 : decode cX7_downloadingSegment 7 = .ok (.iconst 1, 1) := by decide +kernel
theorem dX7_downloadingSegment_8 : decode cX7_downloadingSegment 8 = .ok (.if_icmp .ne 12, 3) := by decide +kernel
theorem dX7_downloadingSegment_11 : decode cX7_downloadingSegment 11 = .ok (.aload_n 0, 1) := by decide +kernel
theorem dX7_downloadingSegment_12 : decode cX7_downloadingSegment 12 = .ok (.getfield 47, 3) := by decide +kernel
theorem dX7_downloadingSegment_15 : decode cX7_downloadingSegment 15 = .ok (.iconst 5, 1) := by decide +kernel
theorem dX7_downloadingSegment_16 : decode cX7_downloadingSegment 16 = .ok (.iaload, 1) := by decide +kernel
theorem dX7_downloadingSegment_17 : decode cX7_downloadingSegment 17 = .ok (.goto 5, 3) := by decide +kernel
theorem dX7_downloadingSegment_20 : decode cX7_downloadingSegment 20 = .ok (.bipush (-6), 2) := by decide +kernel
theorem dX7_downloadingSegment_22 : decode cX7_downloadingSegment 22 = .ok (.ireturn, 1) := by decide +kernel
theorem dX7_segmentLevel_0 : decode cX7_segmentLevel 0 = .ok (.iload_n 1, 1) := by decide +kernel
theorem dX7_segmentLevel_1 : decode cX7_segmentLevel 1 = .ok (.iconst 0, 1) := by decide +kernel
theorem dX7_segmentLevel_2 : decode cX7_segmentLevel 2 = .ok (.aload_n 0, 1) := by decide +kernel
theorem dX7_segmentLevel_3 : decode cX7_segmentLevel 3 = .ok (.getfield 7, 3) := by decide +kernel
theorem dX7_segmentLevel_6 : decode cX7_segmentLevel 6 = .ok (.iconst 1, 1) := by decide +kernel
theorem dX7_segmentLevel_7 : decode cX7_segmentLevel 7 = .ok (.isub, 1) := by decide +kernel
theorem dX7_segmentLevel_8 : decode cX7_segmentLevel 8 = .ok (.invokestatic 59, 3) := by decide +kernel
theorem dX7_segmentLevel_11 : decode cX7_segmentLevel 11 = .ok (.ifCond .eq 15, 3) := by decide +kernel
theorem dX7_segmentLevel_14 : decode cX7_segmentLevel 14 = .ok (.aload_n 0, 1) := by decide +kernel
theorem dX7_segmentLevel_15 : decode cX7_segmentLevel 15 = .ok (.getfield 47, 3) := by decide +kernel
theorem dX7_segmentLevel_18 : decode cX7_segmentLevel 18 = .ok (.bipush 22, 2) := by decide +kernel
theorem dX7_segmentLevel_20 : decode cX7_segmentLevel 20 = .ok (.iload_n 1, 1) := by decide +kernel
theorem dX7_segmentLevel_21 : decode cX7_segmentLevel 21 = .ok (.iadd, 1) := by decide +kernel
theorem dX7_segmentLevel_22 : decode cX7_segmentLevel 22 = .ok (.iaload, 1) := by decide +kernel
theorem dX7_segmentLevel_23 : decode cX7_segmentLevel 23 = .ok (.goto 5, 3) := by decide +kernel
theorem dX7_segmentLevel_26 : decode cX7_segmentLevel 26 = .ok (.bipush (-2), 2) := by decide +kernel
theorem dX7_segmentLevel_28 : decode cX7_segmentLevel 28 = .ok (.ireturn, 1) := by decide +kernel
theorem dX7_throughputEstimate_0 : decode cX7_throughputEstimate 0 = .ok (.aload_n 0, 1) := by decide +kernel
theorem dX7_throughputEstimate_1 : decode cX7_throughputEstimate 1 = .ok (.invokevirtual 126, 3) := by decide +kernel
theorem dX7_throughputEstimate_4 : decode cX7_throughputEstimate 4 = .ok (.ireturn, 1) := by decide +kernel
theorem dX7_switchCount_0 : decode cX7_switchCount 0 = .ok (.aload_n 0, 1) := by decide +kernel
theorem dX7_switchCount_1 : decode cX7_switchCount 1 = .ok (.getfield 47, 3) := by decide +kernel
theorem dX7_switchCount_4 : decode cX7_switchCount 4 = .ok (.bipush 16, 2) := by decide +kernel
theorem dX7_switchCount_6 : decode cX7_switchCount 6 = .ok (.iaload, 1) := by decide +kernel
theorem dX7_switchCount_7 : decode cX7_switchCount 7 = .ok (.ireturn, 1) := by decide +kernel
theorem dX7_stallCount_0 : decode cX7_stallCount 0 = .ok (.aload_n 0, 1) := by decide +kernel
theorem dX7_stallCount_1 : decode cX7_stallCount 1 = .ok (.getfield 47, 3) := by decide +kernel
theorem dX7_stallCount_4 : decode cX7_stallCount 4 = .ok (.bipush 17, 2) := by decide +kernel
theorem dX7_stallCount_6 : decode cX7_stallCount 6 = .ok (.iaload, 1) := by decide +kernel
theorem dX7_stallCount_7 : decode cX7_stallCount 7 = .ok (.ireturn, 1) := by decide +kernel
theorem dX7_stallTime_0 : decode cX7_stallTime 0 = .ok (.aload_n 0, 1) := by decide +kernel
theorem dX7_stallTime_1 : decode cX7_stallTime 1 = .ok (.getfield 47, 3) := by decide +kernel
theorem dX7_stallTime_4 : decode cX7_stallTime 4 = .ok (.bipush 18, 2) := by decide +kernel
theorem dX7_stallTime_6 : decode cX7_stallTime 6 = .ok (.iaload, 1) := by decide +kernel
theorem dX7_stallTime_7 : decode cX7_stallTime 7 = .ok (.ireturn, 1) := by decide +kernel
theorem dX7_startupTime_0 : decode cX7_startupTime 0 = .ok (.aload_n 0, 1) := by decide +kernel
theorem dX7_startupTime_1 : decode cX7_startupTime 1 = .ok (.getfield 47, 3) := by decide +kernel
theorem dX7_startupTime_4 : decode cX7_startupTime 4 = .ok (.bipush 19, 2) := by decide +kernel
theorem dX7_startupTime_6 : decode cX7_startupTime 6 = .ok (.iaload, 1) := by decide +kernel
theorem dX7_startupTime_7 : decode cX7_startupTime 7 = .ok (.ireturn, 1) := by decide +kernel
theorem dX7_bitrateSum_0 : decode cX7_bitrateSum 0 = .ok (.aload_n 0, 1) := by decide +kernel
theorem dX7_bitrateSum_1 : decode cX7_bitrateSum 1 = .ok (.getfield 47, 3) := by decide +kernel
theorem dX7_bitrateSum_4 : decode cX7_bitrateSum 4 = .ok (.bipush 20, 2) := by decide +kernel
theorem dX7_bitrateSum_6 : decode cX7_bitrateSum 6 = .ok (.iaload, 1) := by decide +kernel
theorem dX7_bitrateSum_7 : decode cX7_bitrateSum 7 = .ok (.ireturn, 1) := by decide +kernel
theorem dX7_segmentSize_0 : decode cX7_segmentSize 0 = .ok (.iload_n 1, 1) := by decide +kernel
theorem dX7_segmentSize_1 : decode cX7_segmentSize 1 = .ok (.iconst 0, 1) := by decide +kernel
theorem dX7_segmentSize_2 : decode cX7_segmentSize 2 = .ok (.aload_n 0, 1) := by decide +kernel
theorem dX7_segmentSize_3 : decode cX7_segmentSize 3 = .ok (.getfield 63, 3) := by decide +kernel
theorem dX7_segmentSize_6 : decode cX7_segmentSize 6 = .ok (.iconst 1, 1) := by decide +kernel
theorem dX7_segmentSize_7 : decode cX7_segmentSize 7 = .ok (.isub, 1) := by decide +kernel
theorem dX7_segmentSize_8 : decode cX7_segmentSize 8 = .ok (.invokestatic 59, 3) := by decide +kernel
theorem dX7_segmentSize_11 : decode cX7_segmentSize 11 = .ok (.ifCond .eq 26, 3) := by decide +kernel
theorem dX7_segmentSize_14 : decode cX7_segmentSize 14 = .ok (.iload_n 2, 1) := by decide +kernel
theorem dX7_segmentSize_15 : decode cX7_segmentSize 15 = .ok (.iconst 0, 1) := by decide +kernel
theorem dX7_segmentSize_16 : decode cX7_segmentSize 16 = .ok (.aload_n 0, 1) := by decide +kernel
theorem dX7_segmentSize_17 : decode cX7_segmentSize 17 = .ok (.getfield 7, 3) := by decide +kernel
theorem dX7_segmentSize_20 : decode cX7_segmentSize 20 = .ok (.iconst 1, 1) := by decide +kernel
theorem dX7_segmentSize_21 : decode cX7_segmentSize 21 = .ok (.isub, 1) := by decide +kernel
theorem dX7_segmentSize_22 : decode cX7_segmentSize 22 = .ok (.invokestatic 59, 3) := by decide +kernel
theorem dX7_segmentSize_25 : decode cX7_segmentSize 25 = .ok (.ifCond .eq 12, 3) := by decide +kernel
theorem dX7_segmentSize_28 : decode cX7_segmentSize 28 = .ok (.aload_n 0, 1) := by decide +kernel
theorem dX7_segmentSize_29 : decode cX7_segmentSize 29 = .ok (.iload_n 1, 1) := by decide +kernel
theorem dX7_segmentSize_30 : decode cX7_segmentSize 30 = .ok (.iload_n 2, 1) := by decide +kernel
theorem dX7_segmentSize_31 : decode cX7_segmentSize 31 = .ok (.invokevirtual 145, 3) := by decide +kernel
theorem dX7_segmentSize_34 : decode cX7_segmentSize 34 = .ok (.goto 5, 3) := by decide +kernel
theorem dX7_segmentSize_37 : decode cX7_segmentSize 37 = .ok (.bipush (-2), 2) := by decide +kernel
theorem dX7_segmentSize_39 : decode cX7_segmentSize 39 = .ok (.ireturn, 1) := by decide +kernel
theorem dX7_setsAside_0 : decode cX7_setsAside 0 = .ok (.iconst 0, 1) := by decide +kernel
theorem dX7_setsAside_1 : decode cX7_setsAside 1 = .ok (.istore_n 1, 1) := by decide +kernel
theorem dX7_setsAside_2 : decode cX7_setsAside 2 = .ok (.iload_n 1, 1) := by decide +kernel
theorem dX7_setsAside_3 : decode cX7_setsAside 3 = .ok (.bipush 52, 2) := by decide +kernel
theorem dX7_setsAside_5 : decode cX7_setsAside 5 = .ok (.if_icmp .ge 21, 3) := by decide +kernel
theorem dX7_setsAside_8 : decode cX7_setsAside 8 = .ok (.aload_n 0, 1) := by decide +kernel
theorem dX7_setsAside_9 : decode cX7_setsAside 9 = .ok (.getfield 50, 3) := by decide +kernel
theorem dX7_setsAside_12 : decode cX7_setsAside 12 = .ok (.iload_n 1, 1) := by decide +kernel
theorem dX7_setsAside_13 : decode cX7_setsAside 13 = .ok (.aload_n 0, 1) := by decide +kernel
theorem dX7_setsAside_14 : decode cX7_setsAside 14 = .ok (.getfield 47, 3) := by decide +kernel
theorem dX7_setsAside_17 : decode cX7_setsAside 17 = .ok (.iload_n 1, 1) := by decide +kernel
theorem dX7_setsAside_18 : decode cX7_setsAside 18 = .ok (.iaload, 1) := by decide +kernel
theorem dX7_setsAside_19 : decode cX7_setsAside 19 = .ok (.iastore, 1) := by decide +kernel
theorem dX7_setsAside_20 : decode cX7_setsAside 20 = .ok (.iinc 1 1, 3) := by decide +kernel
theorem dX7_setsAside_23 : decode cX7_setsAside 23 = .ok (.goto (-21), 3) := by decide +kernel
theorem dX7_setsAside_26 : decode cX7_setsAside 26 = .ok (.return_, 1) := by decide +kernel
theorem dX7_takesBack_0 : decode cX7_takesBack 0 = .ok (.iconst 0, 1) := by decide +kernel
theorem dX7_takesBack_1 : decode cX7_takesBack 1 = .ok (.istore_n 1, 1) := by decide +kernel
theorem dX7_takesBack_2 : decode cX7_takesBack 2 = .ok (.iload_n 1, 1) := by decide +kernel
theorem dX7_takesBack_3 : decode cX7_takesBack 3 = .ok (.bipush 52, 2) := by decide +kernel
theorem dX7_takesBack_5 : decode cX7_takesBack 5 = .ok (.if_icmp .ge 21, 3) := by decide +kernel
theorem dX7_takesBack_8 : decode cX7_takesBack 8 = .ok (.aload_n 0, 1) := by decide +kernel
theorem dX7_takesBack_9 : decode cX7_takesBack 9 = .ok (.getfield 47, 3) := by decide +kernel
theorem dX7_takesBack_12 : decode cX7_takesBack 12 = .ok (.iload_n 1, 1) := by decide +kernel
theorem dX7_takesBack_13 : decode cX7_takesBack 13 = .ok (.aload_n 0, 1) := by decide +kernel
theorem dX7_takesBack_14 : decode cX7_takesBack 14 = .ok (.getfield 50, 3) := by decide +kernel
theorem dX7_takesBack_17 : decode cX7_takesBack 17 = .ok (.iload_n 1, 1) := by decide +kernel
theorem dX7_takesBack_18 : decode cX7_takesBack 18 = .ok (.iaload, 1) := by decide +kernel
theorem dX7_takesBack_19 : decode cX7_takesBack 19 = .ok (.iastore, 1) := by decide +kernel
theorem dX7_takesBack_20 : decode cX7_takesBack 20 = .ok (.iinc 1 1, 3) := by decide +kernel
theorem dX7_takesBack_23 : decode cX7_takesBack 23 = .ok (.goto (-21), 3) := by decide +kernel
theorem dX7_takesBack_26 : decode cX7_takesBack 26 = .ok (.return_, 1) := by decide +kernel
theorem dX7_simulates_0 : decode cX7_simulates 0 = .ok (.aload_n 0, 1) := by decide +kernel
theorem dX7_simulates_1 : decode cX7_simulates 1 = .ok (.invokevirtual 56, 3) := by decide +kernel
theorem dX7_simulates_4 : decode cX7_simulates 4 = .ok (.aload_n 0, 1) := by decide +kernel
theorem dX7_simulates_5 : decode cX7_simulates 5 = .ok (.getfield 47, 3) := by decide +kernel
theorem dX7_simulates_8 : decode cX7_simulates 8 = .ok (.iconst 3, 1) := by decide +kernel
theorem dX7_simulates_9 : decode cX7_simulates 9 = .ok (.iaload, 1) := by decide +kernel
theorem dX7_simulates_10 : decode cX7_simulates 10 = .ok (.iconst 3, 1) := by decide +kernel
theorem dX7_simulates_11 : decode cX7_simulates 11 = .ok (.if_icmp .eq 22, 3) := by decide +kernel
theorem dX7_simulates_14 : decode cX7_simulates 14 = .ok (.aload_n 0, 1) := by decide +kernel
theorem dX7_simulates_15 : decode cX7_simulates 15 = .ok (.getfield 47, 3) := by decide +kernel
theorem dX7_simulates_18 : decode cX7_simulates 18 = .ok (.iconst 0, 1) := by decide +kernel
theorem dX7_simulates_19 : decode cX7_simulates 19 = .ok (.iaload, 1) := by decide +kernel
theorem dX7_simulates_20 : decode cX7_simulates 20 = .ok (.ldc 171, 2) := by decide +kernel
theorem dX7_simulates_22 : decode cX7_simulates 22 = .ok (.if_icmp .ge 11, 3) := by decide +kernel
theorem dX7_simulates_25 : decode cX7_simulates 25 = .ok (.aload_n 0, 1) := by decide +kernel
theorem dX7_simulates_26 : decode cX7_simulates 26 = .ok (.iload_n 1, 1) := by decide +kernel
theorem dX7_simulates_27 : decode cX7_simulates 27 = .ok (.invokevirtual 168, 3) := by decide +kernel
theorem dX7_simulates_30 : decode cX7_simulates 30 = .ok (.goto (-26), 3) := by decide +kernel
theorem dX7_simulates_33 : decode cX7_simulates 33 = .ok (.return_, 1) := by decide +kernel
theorem dX7_simulated_0 : decode cX7_simulated 0 = .ok (.iload_n 1, 1) := by decide +kernel
theorem dX7_simulated_1 : decode cX7_simulated 1 = .ok (.iconst 0, 1) := by decide +kernel
theorem dX7_simulated_2 : decode cX7_simulated 2 = .ok (.iconst 3, 1) := by decide +kernel
theorem dX7_simulated_3 : decode cX7_simulated 3 = .ok (.invokestatic 59, 3) := by decide +kernel
theorem dX7_simulated_6 : decode cX7_simulated 6 = .ok (.ifCond .ne 6, 3) := by decide +kernel
theorem dX7_simulated_9 : decode cX7_simulated 9 = .ok (.bipush (-2), 2) := by decide +kernel
theorem dX7_simulated_11 : decode cX7_simulated 11 = .ok (.ireturn, 1) := by decide +kernel
theorem dX7_simulated_12 : decode cX7_simulated 12 = .ok (.aload_n 0, 1) := by decide +kernel
theorem dX7_simulated_13 : decode cX7_simulated 13 = .ok (.getfield 63, 3) := by decide +kernel
theorem dX7_simulated_16 : decode cX7_simulated 16 = .ok (.ifCond .ne 6, 3) := by decide +kernel
theorem dX7_simulated_19 : decode cX7_simulated 19 = .ok (.bipush (-4), 2) := by decide +kernel
theorem dX7_simulated_21 : decode cX7_simulated 21 = .ok (.ireturn, 1) := by decide +kernel
theorem dX7_simulated_22 : decode cX7_simulated 22 = .ok (.aload_n 0, 1) := by decide +kernel
theorem dX7_simulated_23 : decode cX7_simulated 23 = .ok (.invokevirtual 172, 3) := by decide +kernel
theorem dX7_simulated_26 : decode cX7_simulated 26 = .ok (.aload_n 0, 1) := by decide +kernel
theorem dX7_simulated_27 : decode cX7_simulated 27 = .ok (.iload_n 1, 1) := by decide +kernel
theorem dX7_simulated_28 : decode cX7_simulated 28 = .ok (.invokevirtual 175, 3) := by decide +kernel
theorem dX7_simulated_31 : decode cX7_simulated 31 = .ok (.aload_n 0, 1) := by decide +kernel
theorem dX7_simulated_32 : decode cX7_simulated 32 = .ok (.getfield 47, 3) := by decide +kernel
theorem dX7_simulated_35 : decode cX7_simulated 35 = .ok (.iload_n 2, 1) := by decide +kernel
theorem dX7_simulated_36 : decode cX7_simulated 36 = .ok (.iaload, 1) := by decide +kernel
theorem dX7_simulated_37 : decode cX7_simulated 37 = .ok (.istore_n 3, 1) := by decide +kernel
theorem dX7_simulated_38 : decode cX7_simulated 38 = .ok (.aload_n 0, 1) := by decide +kernel
theorem dX7_simulated_39 : decode cX7_simulated 39 = .ok (.invokevirtual 178, 3) := by decide +kernel
theorem dX7_simulated_42 : decode cX7_simulated 42 = .ok (.iload_n 3, 1) := by decide +kernel
theorem dX7_simulated_43 : decode cX7_simulated 43 = .ok (.ireturn, 1) := by decide +kernel
theorem dX7_simulatedStallTime_0 : decode cX7_simulatedStallTime 0 = .ok (.aload_n 0, 1) := by decide +kernel
theorem dX7_simulatedStallTime_1 : decode cX7_simulatedStallTime 1 = .ok (.iload_n 1, 1) := by decide +kernel
theorem dX7_simulatedStallTime_2 : decode cX7_simulatedStallTime 2 = .ok (.bipush 18, 2) := by decide +kernel
theorem dX7_simulatedStallTime_4 : decode cX7_simulatedStallTime 4 = .ok (.invokevirtual 181, 3) := by decide +kernel
theorem dX7_simulatedStallTime_7 : decode cX7_simulatedStallTime 7 = .ok (.ireturn, 1) := by decide +kernel
theorem dX7_simulatedBitrateSum_0 : decode cX7_simulatedBitrateSum 0 = .ok (.aload_n 0, 1) := by decide +kernel
theorem dX7_simulatedBitrateSum_1 : decode cX7_simulatedBitrateSum 1 = .ok (.iload_n 1, 1) := by decide +kernel
theorem dX7_simulatedBitrateSum_2 : decode cX7_simulatedBitrateSum 2 = .ok (.bipush 20, 2) := by decide +kernel
theorem dX7_simulatedBitrateSum_4 : decode cX7_simulatedBitrateSum 4 = .ok (.invokevirtual 181, 3) := by decide +kernel
theorem dX7_simulatedBitrateSum_7 : decode cX7_simulatedBitrateSum 7 = .ok (.ireturn, 1) := by decide +kernel
theorem dX7_bestSmoothLevel_0 : decode cX7_bestSmoothLevel 0 = .ok (.aload_n 0, 1) := by decide +kernel
theorem dX7_bestSmoothLevel_1 : decode cX7_bestSmoothLevel 1 = .ok (.getfield 63, 3) := by decide +kernel
theorem dX7_bestSmoothLevel_4 : decode cX7_bestSmoothLevel 4 = .ok (.ifCond .ne 6, 3) := by decide +kernel
theorem dX7_bestSmoothLevel_7 : decode cX7_bestSmoothLevel 7 = .ok (.bipush (-4), 2) := by decide +kernel
theorem dX7_bestSmoothLevel_9 : decode cX7_bestSmoothLevel 9 = .ok (.ireturn, 1) := by decide +kernel
theorem dX7_bestSmoothLevel_10 : decode cX7_bestSmoothLevel 10 = .ok (.aload_n 0, 1) := by decide +kernel
theorem dX7_bestSmoothLevel_11 : decode cX7_bestSmoothLevel 11 = .ok (.getfield 44, 3) := by decide +kernel
theorem dX7_bestSmoothLevel_14 : decode cX7_bestSmoothLevel 14 = .ok (.istore_n 1, 1) := by decide +kernel
theorem dX7_bestSmoothLevel_15 : decode cX7_bestSmoothLevel 15 = .ok (.bipush (-6), 2) := by decide +kernel
theorem dX7_bestSmoothLevel_17 : decode cX7_bestSmoothLevel 17 = .ok (.istore_n 2, 1) := by decide +kernel
theorem dX7_bestSmoothLevel_18 : decode cX7_bestSmoothLevel 18 = .ok (.aload_n 0, 1) := by decide +kernel
theorem dX7_bestSmoothLevel_19 : decode cX7_bestSmoothLevel 19 = .ok (.invokevirtual 172, 3) := by decide +kernel
theorem dX7_bestSmoothLevel_22 : decode cX7_bestSmoothLevel 22 = .ok (.iconst 0, 1) := by decide +kernel
theorem dX7_bestSmoothLevel_23 : decode cX7_bestSmoothLevel 23 = .ok (.istore_n 3, 1) := by decide +kernel
theorem dX7_bestSmoothLevel_24 : decode cX7_bestSmoothLevel 24 = .ok (.iload_n 3, 1) := by decide +kernel
theorem dX7_bestSmoothLevel_25 : decode cX7_bestSmoothLevel 25 = .ok (.aload_n 0, 1) := by decide +kernel
theorem dX7_bestSmoothLevel_26 : decode cX7_bestSmoothLevel 26 = .ok (.getfield 63, 3) := by decide +kernel
theorem dX7_bestSmoothLevel_29 : decode cX7_bestSmoothLevel 29 = .ok (.if_icmp .ge 45, 3) := by decide +kernel
theorem dX7_bestSmoothLevel_32 : decode cX7_bestSmoothLevel 32 = .ok (.aload_n 0, 1) := by decide +kernel
theorem dX7_bestSmoothLevel_33 : decode cX7_bestSmoothLevel 33 = .ok (.iload_n 3, 1) := by decide +kernel
theorem dX7_bestSmoothLevel_34 : decode cX7_bestSmoothLevel 34 = .ok (.putfield 44, 3) := by decide +kernel
theorem dX7_bestSmoothLevel_37 : decode cX7_bestSmoothLevel 37 = .ok (.aload_n 0, 1) := by decide +kernel
theorem dX7_bestSmoothLevel_38 : decode cX7_bestSmoothLevel 38 = .ok (.iconst 0, 1) := by decide +kernel
theorem dX7_bestSmoothLevel_39 : decode cX7_bestSmoothLevel 39 = .ok (.invokevirtual 175, 3) := by decide +kernel
theorem dX7_bestSmoothLevel_42 : decode cX7_bestSmoothLevel 42 = .ok (.aload_n 0, 1) := by decide +kernel
theorem dX7_bestSmoothLevel_43 : decode cX7_bestSmoothLevel 43 = .ok (.getfield 47, 3) := by decide +kernel
theorem dX7_bestSmoothLevel_46 : decode cX7_bestSmoothLevel 46 = .ok (.iconst 3, 1) := by decide +kernel
theorem dX7_bestSmoothLevel_47 : decode cX7_bestSmoothLevel 47 = .ok (.iaload, 1) := by decide +kernel
theorem dX7_bestSmoothLevel_48 : decode cX7_bestSmoothLevel 48 = .ok (.iconst 3, 1) := by decide +kernel
theorem dX7_bestSmoothLevel_49 : decode cX7_bestSmoothLevel 49 = .ok (.if_icmp .ne 17, 3) := by decide +kernel
theorem dX7_bestSmoothLevel_52 : decode cX7_bestSmoothLevel 52 = .ok (.aload_n 0, 1) := by decide +kernel
theorem dX7_bestSmoothLevel_53 : decode cX7_bestSmoothLevel 53 = .ok (.getfield 47, 3) := by decide +kernel
theorem dX7_bestSmoothLevel_56 : decode cX7_bestSmoothLevel 56 = .ok (.bipush 17, 2) := by decide +kernel
theorem dX7_bestSmoothLevel_58 : decode cX7_bestSmoothLevel 58 = .ok (.iaload, 1) := by decide +kernel
theorem dX7_bestSmoothLevel_59 : decode cX7_bestSmoothLevel 59 = .ok (.ifCond .ne 7, 3) := by decide +kernel
theorem dX7_bestSmoothLevel_62 : decode cX7_bestSmoothLevel 62 = .ok (.iload_n 3, 1) := by decide +kernel
theorem dX7_bestSmoothLevel_63 : decode cX7_bestSmoothLevel 63 = .ok (.goto 4, 3) := by decide +kernel
theorem dX7_bestSmoothLevel_66 : decode cX7_bestSmoothLevel 66 = .ok (.iload_n 2, 1) := by decide +kernel
theorem dX7_bestSmoothLevel_67 : decode cX7_bestSmoothLevel 67 = .ok (.istore_n 2, 1) := by decide +kernel
theorem dX7_bestSmoothLevel_68 : decode cX7_bestSmoothLevel 68 = .ok (.iinc 3 1, 3) := by decide +kernel
theorem dX7_bestSmoothLevel_71 : decode cX7_bestSmoothLevel 71 = .ok (.goto (-47), 3) := by decide +kernel
theorem dX7_bestSmoothLevel_74 : decode cX7_bestSmoothLevel 74 = .ok (.aload_n 0, 1) := by decide +kernel
theorem dX7_bestSmoothLevel_75 : decode cX7_bestSmoothLevel 75 = .ok (.iload_n 1, 1) := by decide +kernel
theorem dX7_bestSmoothLevel_76 : decode cX7_bestSmoothLevel 76 = .ok (.putfield 44, 3) := by decide +kernel
theorem dX7_bestSmoothLevel_79 : decode cX7_bestSmoothLevel 79 = .ok (.aload_n 0, 1) := by decide +kernel
theorem dX7_bestSmoothLevel_80 : decode cX7_bestSmoothLevel 80 = .ok (.invokevirtual 178, 3) := by decide +kernel
theorem dX7_bestSmoothLevel_83 : decode cX7_bestSmoothLevel 83 = .ok (.iload_n 2, 1) := by decide +kernel
theorem dX7_bestSmoothLevel_84 : decode cX7_bestSmoothLevel 84 = .ok (.ireturn, 1) := by decide +kernel
theorem dJ5_init_d00df_0 : decode cJ5_init_d00df 0 = .ok (.aload_n 0, 1) := by decide +kernel
theorem dJ5_init_d00df_1 : decode cJ5_init_d00df 1 = .ok (.invokespecial 3, 3) := by decide +kernel
theorem dJ5_init_d00df_4 : decode cJ5_init_d00df 4 = .ok (.getstatic 18, 3) := by decide +kernel
theorem dJ5_init_d00df_7 : decode cJ5_init_d00df 7 = .ok (.ifCond .eq 18, 3) := by decide +kernel
theorem dJ5_init_d00df_10 : decode cJ5_init_d00df 10 = .ok (.aload_n 0, 1) := by decide +kernel
theorem dJ5_init_d00df_11 : decode cJ5_init_d00df 11 = .ok (.iload_n 1, 1) := by decide +kernel
theorem dJ5_init_d00df_12 : decode cJ5_init_d00df 12 = .ok (.newarray .byte, 2) := by decide +kernel
theorem dJ5_init_d00df_14 : decode cJ5_init_d00df 14 = .ok (.putfield 15, 3) := by decide +kernel
theorem dJ5_init_d00df_17 : decode cJ5_init_d00df 17 = .ok (.aload_n 0, 1) := by decide +kernel
theorem dJ5_init_d00df_18 : decode cJ5_init_d00df 18 = .ok (.iconst 0, 1) := by decide +kernel
theorem dJ5_init_d00df_19 : decode cJ5_init_d00df 19 = .ok (.putfield 22, 3) := by decide +kernel
theorem dJ5_init_d00df_22 : decode cJ5_init_d00df 22 = .ok (.goto 16, 3) := by decide +kernel
theorem dJ5_init_d00df_25 : decode cJ5_init_d00df 25 = .ok (.aload_n 0, 1) := by decide +kernel
theorem dJ5_init_d00df_26 : decode cJ5_init_d00df 26 = .ok (.iload_n 1, 1) := by decide +kernel
theorem dJ5_init_d00df_27 : decode cJ5_init_d00df 27 = .ok (.invokestatic 26, 3) := by decide +kernel
theorem dJ5_init_d00df_30 : decode cJ5_init_d00df 30 = .ok (.putfield 15, 3) := by decide +kernel
theorem dJ5_init_d00df_33 : decode cJ5_init_d00df 33 = .ok (.aload_n 0, 1) := by decide +kernel
theorem dJ5_init_d00df_34 : decode cJ5_init_d00df 34 = .ok (.iconst 1, 1) := by decide +kernel
theorem dJ5_init_d00df_35 : decode cJ5_init_d00df 35 = .ok (.putfield 22, 3) := by decide +kernel
theorem dJ5_init_d00df_38 : decode cJ5_init_d00df 38 = .ok (.return_, 1) := by decide +kernel
theorem dJ5_length_8abf5_0 : decode cJ5_length_8abf5 0 = .ok (.aload_n 0, 1) := by decide +kernel
theorem dJ5_length_8abf5_1 : decode cJ5_length_8abf5 1 = .ok (.getfield 79, 3) := by decide +kernel
theorem dJ5_length_8abf5_4 : decode cJ5_length_8abf5 4 = .ok (.ireturn, 1) := by decide +kernel
theorem dJ5_ensureCapacityInternal_d00df_0 : decode cJ5_ensureCapacityInternal_d00df 0 = .ok (.aload_n 0, 1) := by decide +kernel
theorem dJ5_ensureCapacityInternal_d00df_1 : decode cJ5_ensureCapacityInternal_d00df 1 = .ok (.getfield 15, 3) := by decide +kernel
theorem dJ5_ensureCapacityInternal_d00df_4 : decode cJ5_ensureCapacityInternal_d00df 4 = .ok (.arraylength, 1) := by decide +kernel
theorem dJ5_ensureCapacityInternal_d00df_5 : decode cJ5_ensureCapacityInternal_d00df 5 = .ok (.aload_n 0, 1) := by decide +kernel
theorem dJ5_ensureCapacityInternal_d00df_6 : decode cJ5_ensureCapacityInternal_d00df 6 = .ok (.getfield 22, 3) := by decide +kernel
theorem dJ5_ensureCapacityInternal_d00df_9 : decode cJ5_ensureCapacityInternal_d00df 9 = .ok (.ishr, 1) := by decide +kernel
theorem dJ5_ensureCapacityInternal_d00df_10 : decode cJ5_ensureCapacityInternal_d00df 10 = .ok (.istore_n 2, 1) := by decide +kernel
theorem dJ5_ensureCapacityInternal_d00df_11 : decode cJ5_ensureCapacityInternal_d00df 11 = .ok (.iload_n 1, 1) := by decide +kernel
theorem dJ5_ensureCapacityInternal_d00df_12 : decode cJ5_ensureCapacityInternal_d00df 12 = .ok (.iload_n 2, 1) := by decide +kernel
theorem dJ5_ensureCapacityInternal_d00df_13 : decode cJ5_ensureCapacityInternal_d00df 13 = .ok (.isub, 1) := by decide +kernel
theorem dJ5_ensureCapacityInternal_d00df_14 : decode cJ5_ensureCapacityInternal_d00df 14 = .ok (.ifCond .le 24, 3) := by decide +kernel
theorem dJ5_ensureCapacityInternal_d00df_17 : decode cJ5_ensureCapacityInternal_d00df 17 = .ok (.aload_n 0, 1) := by decide +kernel
theorem dJ5_ensureCapacityInternal_d00df_18 : decode cJ5_ensureCapacityInternal_d00df 18 = .ok (.aload_n 0, 1) := by decide +kernel
theorem dJ5_ensureCapacityInternal_d00df_19 : decode cJ5_ensureCapacityInternal_d00df 19 = .ok (.getfield 15, 3) := by decide +kernel
theorem dJ5_ensureCapacityInternal_d00df_22 : decode cJ5_ensureCapacityInternal_d00df 22 = .ok (.aload_n 0, 1) := by decide +kernel
theorem dJ5_ensureCapacityInternal_d00df_23 : decode cJ5_ensureCapacityInternal_d00df 23 = .ok (.iload_n 1, 1) := by decide +kernel
theorem dJ5_ensureCapacityInternal_d00df_24 : decode cJ5_ensureCapacityInternal_d00df 24 = .ok (.invokevirtual 104, 3) := by decide +kernel
theorem dJ5_ensureCapacityInternal_d00df_27 : decode cJ5_ensureCapacityInternal_d00df 27 = .ok (.aload_n 0, 1) := by decide +kernel
theorem dJ5_ensureCapacityInternal_d00df_28 : decode cJ5_ensureCapacityInternal_d00df 28 = .ok (.getfield 22, 3) := by decide +kernel
theorem dJ5_ensureCapacityInternal_d00df_31 : decode cJ5_ensureCapacityInternal_d00df 31 = .ok (.ishl, 1) := by decide +kernel
theorem dJ5_ensureCapacityInternal_d00df_32 : decode cJ5_ensureCapacityInternal_d00df 32 = .ok (.invokestatic 108, 3) := by decide +kernel
theorem dJ5_ensureCapacityInternal_d00df_35 : decode cJ5_ensureCapacityInternal_d00df 35 = .ok (.putfield 15, 3) := by decide +kernel
theorem dJ5_ensureCapacityInternal_d00df_38 : decode cJ5_ensureCapacityInternal_d00df 38 = .ok (.return_, 1) := by decide +kernel
theorem dJ5_setLength_d00df_0 : decode cJ5_setLength_d00df 0 = .ok (.iload_n 1, 1) := by decide +kernel
theorem dJ5_setLength_d00df_1 : decode cJ5_setLength_d00df 1 = .ok (.ifCond .ge 12, 3) := by decide +kernel
theorem dJ5_setLength_d00df_4 : decode cJ5_setLength_d00df 4 = .ok (.new 129, 3) := by decide +kernel
theorem dJ5_setLength_d00df_7 : decode cJ5_setLength_d00df 7 = .ok (.dup, 1) := by decide +kernel
theorem dJ5_setLength_d00df_8 : decode cJ5_setLength_d00df 8 = .ok (.iload_n 1, 1) := by decide +kernel
theorem dJ5_setLength_d00df_9 : decode cJ5_setLength_d00df 9 = .ok (.invokespecial 131, 3) := by decide +kernel
theorem dJ5_setLength_d00df_12 : decode cJ5_setLength_d00df 12 = .ok (.athrow, 1) := by decide +kernel
theorem dJ5_setLength_d00df_13 : decode cJ5_setLength_d00df 13 = .ok (.aload_n 0, 1) := by decide +kernel
theorem dJ5_setLength_d00df_14 : decode cJ5_setLength_d00df 14 = .ok (.iload_n 1, 1) := by decide +kernel
theorem dJ5_setLength_d00df_15 : decode cJ5_setLength_d00df 15 = .ok (.invokevirtual 100, 3) := by decide +kernel
theorem dJ5_setLength_d00df_18 : decode cJ5_setLength_d00df 18 = .ok (.aload_n 0, 1) := by decide +kernel
theorem dJ5_setLength_d00df_19 : decode cJ5_setLength_d00df 19 = .ok (.getfield 79, 3) := by decide +kernel
theorem dJ5_setLength_d00df_22 : decode cJ5_setLength_d00df 22 = .ok (.iload_n 1, 1) := by decide +kernel
theorem dJ5_setLength_d00df_23 : decode cJ5_setLength_d00df 23 = .ok (.if_icmp .ge 40, 3) := by decide +kernel
theorem dJ5_setLength_d00df_26 : decode cJ5_setLength_d00df 26 = .ok (.aload_n 0, 1) := by decide +kernel
theorem dJ5_setLength_d00df_27 : decode cJ5_setLength_d00df 27 = .ok (.invokevirtual 83, 3) := by decide +kernel
theorem dJ5_setLength_d00df_30 : decode cJ5_setLength_d00df 30 = .ok (.ifCond .eq 18, 3) := by decide +kernel
theorem dJ5_setLength_d00df_33 : decode cJ5_setLength_d00df 33 = .ok (.aload_n 0, 1) := by decide +kernel
theorem dJ5_setLength_d00df_34 : decode cJ5_setLength_d00df 34 = .ok (.getfield 15, 3) := by decide +kernel
theorem dJ5_setLength_d00df_37 : decode cJ5_setLength_d00df 37 = .ok (.aload_n 0, 1) := by decide +kernel
theorem dJ5_setLength_d00df_38 : decode cJ5_setLength_d00df 38 = .ok (.getfield 79, 3) := by decide +kernel
theorem dJ5_setLength_d00df_41 : decode cJ5_setLength_d00df 41 = .ok (.iload_n 1, 1) := by decide +kernel
theorem dJ5_setLength_d00df_42 : decode cJ5_setLength_d00df 42 = .ok (.invokestatic 133, 3) := by decide +kernel
theorem dJ5_setLength_d00df_45 : decode cJ5_setLength_d00df 45 = .ok (.goto 31, 3) := by decide +kernel
theorem dJ5_setLength_d00df_48 : decode cJ5_setLength_d00df 48 = .ok (.aload_n 0, 1) := by decide +kernel
theorem dJ5_setLength_d00df_49 : decode cJ5_setLength_d00df 49 = .ok (.getfield 15, 3) := by decide +kernel
theorem dJ5_setLength_d00df_52 : decode cJ5_setLength_d00df 52 = .ok (.aload_n 0, 1) := by decide +kernel
theorem dJ5_setLength_d00df_53 : decode cJ5_setLength_d00df 53 = .ok (.getfield 79, 3) := by decide +kernel
theorem dJ5_setLength_d00df_56 : decode cJ5_setLength_d00df 56 = .ok (.iload_n 1, 1) := by decide +kernel
theorem dJ5_setLength_d00df_57 : decode cJ5_setLength_d00df 57 = .ok (.invokestatic 137, 3) := by decide +kernel
theorem dJ5_setLength_d00df_60 : decode cJ5_setLength_d00df 60 = .ok (.goto 16, 3) := by decide +kernel
theorem dJ5_setLength_d00df_63 : decode cJ5_setLength_d00df 63 = .ok (.aload_n 0, 1) := by decide +kernel
theorem dJ5_setLength_d00df_64 : decode cJ5_setLength_d00df 64 = .ok (.getfield 79, 3) := by decide +kernel
theorem dJ5_setLength_d00df_67 : decode cJ5_setLength_d00df 67 = .ok (.iload_n 1, 1) := by decide +kernel
theorem dJ5_setLength_d00df_68 : decode cJ5_setLength_d00df 68 = .ok (.if_icmp .le 8, 3) := by decide +kernel
theorem dJ5_setLength_d00df_71 : decode cJ5_setLength_d00df 71 = .ok (.aload_n 0, 1) := by decide +kernel
theorem dJ5_setLength_d00df_72 : decode cJ5_setLength_d00df 72 = .ok (.iconst 1, 1) := by decide +kernel
theorem dJ5_setLength_d00df_73 : decode cJ5_setLength_d00df 73 = .ok (.putfield 73, 3) := by decide +kernel
theorem dJ5_setLength_d00df_76 : decode cJ5_setLength_d00df 76 = .ok (.aload_n 0, 1) := by decide +kernel
theorem dJ5_setLength_d00df_77 : decode cJ5_setLength_d00df 77 = .ok (.iload_n 1, 1) := by decide +kernel
theorem dJ5_setLength_d00df_78 : decode cJ5_setLength_d00df 78 = .ok (.putfield 79, 3) := by decide +kernel
theorem dJ5_setLength_d00df_81 : decode cJ5_setLength_d00df 81 = .ok (.return_, 1) := by decide +kernel
theorem dJ5_append_3fe6f_0 : decode cJ5_append_3fe6f 0 = .ok (.aload_n 0, 1) := by decide +kernel
theorem dJ5_append_3fe6f_1 : decode cJ5_append_3fe6f 1 = .ok (.aload_n 0, 1) := by decide +kernel
theorem dJ5_append_3fe6f_2 : decode cJ5_append_3fe6f 2 = .ok (.getfield 79, 3) := by decide +kernel
theorem dJ5_append_3fe6f_5 : decode cJ5_append_3fe6f 5 = .ok (.iconst 1, 1) := by decide +kernel
theorem dJ5_append_3fe6f_6 : decode cJ5_append_3fe6f 6 = .ok (.iadd, 1) := by decide +kernel
theorem dJ5_append_3fe6f_7 : decode cJ5_append_3fe6f 7 = .ok (.invokevirtual 100, 3) := by decide +kernel
theorem dJ5_append_3fe6f_10 : decode cJ5_append_3fe6f 10 = .ok (.aload_n 0, 1) := by decide +kernel
theorem dJ5_append_3fe6f_11 : decode cJ5_append_3fe6f 11 = .ok (.invokevirtual 83, 3) := by decide +kernel
theorem dJ5_append_3fe6f_14 : decode cJ5_append_3fe6f 14 = .ok (.ifCond .eq 31, 3) := by decide +kernel
theorem dJ5_append_3fe6f_17 : decode cJ5_append_3fe6f 17 = .ok (.iload_n 1, 1) := by decide +kernel
theorem dJ5_append_3fe6f_18 : decode cJ5_append_3fe6f 18 = .ok (.invokestatic 191, 3) := by decide +kernel
theorem dJ5_append_3fe6f_21 : decode cJ5_append_3fe6f 21 = .ok (.ifCond .eq 24, 3) := by decide +kernel
theorem dJ5_append_3fe6f_24 : decode cJ5_append_3fe6f 24 = .ok (.aload_n 0, 1) := by decide +kernel
theorem dJ5_append_3fe6f_25 : decode cJ5_append_3fe6f 25 = .ok (.getfield 15, 3) := by decide +kernel
theorem dJ5_append_3fe6f_28 : decode cJ5_append_3fe6f 28 = .ok (.aload_n 0, 1) := by decide +kernel
theorem dJ5_append_3fe6f_29 : decode cJ5_append_3fe6f 29 = .ok (.dup, 1) := by decide +kernel
theorem dJ5_append_3fe6f_30 : decode cJ5_append_3fe6f 30 = .ok (.getfield 79, 3) := by decide +kernel
theorem dJ5_append_3fe6f_33 : decode cJ5_append_3fe6f 33 = .ok (.dup_x1, 1) := by decide +kernel
theorem dJ5_append_3fe6f_34 : decode cJ5_append_3fe6f 34 = .ok (.iconst 1, 1) := by decide +kernel
theorem dJ5_append_3fe6f_35 : decode cJ5_append_3fe6f 35 = .ok (.iadd, 1) := by decide +kernel
theorem dJ5_append_3fe6f_36 : decode cJ5_append_3fe6f 36 = .ok (.putfield 79, 3) := by decide +kernel
theorem dJ5_append_3fe6f_39 : decode cJ5_append_3fe6f 39 = .ok (.iload_n 1, 1) := by decide +kernel
theorem dJ5_append_3fe6f_40 : decode cJ5_append_3fe6f 40 = .ok (.i2b, 1) := by decide +kernel
theorem dJ5_append_3fe6f_41 : decode cJ5_append_3fe6f 41 = .ok (.bastore, 1) := by decide +kernel
theorem dJ5_append_3fe6f_42 : decode cJ5_append_3fe6f 42 = .ok (.goto 33, 3) := by decide +kernel
theorem dJ5_append_3fe6f_45 : decode cJ5_append_3fe6f 45 = .ok (.aload_n 0, 1) := by decide +kernel
theorem dJ5_append_3fe6f_46 : decode cJ5_append_3fe6f 46 = .ok (.invokevirtual 83, 3) := by decide +kernel
theorem dJ5_append_3fe6f_49 : decode cJ5_append_3fe6f 49 = .ok (.ifCond .eq 7, 3) := by decide +kernel
theorem dJ5_append_3fe6f_52 : decode cJ5_append_3fe6f 52 = .ok (.aload_n 0, 1) := by decide +kernel
theorem dJ5_append_3fe6f_53 : decode cJ5_append_3fe6f 53 = .ok (.invokevirtual 195, 3) := by decide +kernel
theorem dJ5_append_3fe6f_56 : decode cJ5_append_3fe6f 56 = .ok (.aload_n 0, 1) := by decide +kernel
theorem dJ5_append_3fe6f_57 : decode cJ5_append_3fe6f 57 = .ok (.getfield 15, 3) := by decide +kernel
theorem dJ5_append_3fe6f_60 : decode cJ5_append_3fe6f 60 = .ok (.aload_n 0, 1) := by decide +kernel
theorem dJ5_append_3fe6f_61 : decode cJ5_append_3fe6f 61 = .ok (.dup, 1) := by decide +kernel
theorem dJ5_append_3fe6f_62 : decode cJ5_append_3fe6f 62 = .ok (.getfield 79, 3) := by decide +kernel
theorem dJ5_append_3fe6f_65 : decode cJ5_append_3fe6f 65 = .ok (.dup_x1, 1) := by decide +kernel
theorem dJ5_append_3fe6f_66 : decode cJ5_append_3fe6f 66 = .ok (.iconst 1, 1) := by decide +kernel
theorem dJ5_append_3fe6f_67 : decode cJ5_append_3fe6f 67 = .ok (.iadd, 1) := by decide +kernel
theorem dJ5_append_3fe6f_68 : decode cJ5_append_3fe6f 68 = .ok (.putfield 79, 3) := by decide +kernel
theorem dJ5_append_3fe6f_71 : decode cJ5_append_3fe6f 71 = .ok (.iload_n 1, 1) := by decide +kernel
theorem dJ5_append_3fe6f_72 : decode cJ5_append_3fe6f 72 = .ok (.invokestatic 197, 3) := by decide +kernel
theorem dJ5_append_3fe6f_75 : decode cJ5_append_3fe6f 75 = .ok (.aload_n 0, 1) := by decide +kernel
theorem dJ5_append_3fe6f_76 : decode cJ5_append_3fe6f 76 = .ok (.areturn, 1) := by decide +kernel
theorem dJ5_getValue_6d5f1_0 : decode cJ5_getValue_6d5f1 0 = .ok (.aload_n 0, 1) := by decide +kernel
theorem dJ5_getValue_6d5f1_1 : decode cJ5_getValue_6d5f1 1 = .ok (.getfield 15, 3) := by decide +kernel
theorem dJ5_getValue_6d5f1_4 : decode cJ5_getValue_6d5f1 4 = .ok (.areturn, 1) := by decide +kernel
theorem dJ5_isLatin1_aae02_0 : decode cJ5_isLatin1_aae02 0 = .ok (.getstatic 18, 3) := by decide +kernel
theorem dJ5_isLatin1_aae02_3 : decode cJ5_isLatin1_aae02 3 = .ok (.ifCond .eq 14, 3) := by decide +kernel
theorem dJ5_isLatin1_aae02_6 : decode cJ5_isLatin1_aae02 6 = .ok (.aload_n 0, 1) := by decide +kernel
theorem dJ5_isLatin1_aae02_7 : decode cJ5_isLatin1_aae02 7 = .ok (.getfield 22, 3) := by decide +kernel
theorem dJ5_isLatin1_aae02_10 : decode cJ5_isLatin1_aae02 10 = .ok (.ifCond .ne 7, 3) := by decide +kernel
theorem dJ5_isLatin1_aae02_13 : decode cJ5_isLatin1_aae02 13 = .ok (.iconst 1, 1) := by decide +kernel
theorem dJ5_isLatin1_aae02_14 : decode cJ5_isLatin1_aae02 14 = .ok (.goto 4, 3) := by decide +kernel
theorem dJ5_isLatin1_aae02_17 : decode cJ5_isLatin1_aae02 17 = .ok (.iconst 0, 1) := by decide +kernel
theorem dJ5_isLatin1_aae02_18 : decode cJ5_isLatin1_aae02 18 = .ok (.ireturn, 1) := by decide +kernel
theorem dJ0_init_81219_0 : decode cJ0_init_81219 0 = .ok (.aload_n 0, 1) := by decide +kernel
theorem dJ0_init_81219_1 : decode cJ0_init_81219 1 = .ok (.aload_n 1, 1) := by decide +kernel
theorem dJ0_init_81219_2 : decode cJ0_init_81219 2 = .ok (.aconst_null, 1) := by decide +kernel
theorem dJ0_init_81219_3 : decode cJ0_init_81219 3 = .ok (.invokespecial 489, 3) := by decide +kernel
theorem dJ0_init_81219_6 : decode cJ0_init_81219 6 = .ok (.return_, 1) := by decide +kernel
theorem dJ0_length_8abf5_0 : decode cJ0_length_8abf5 0 = .ok (.aload_n 0, 1) := by decide +kernel
theorem dJ0_length_8abf5_1 : decode cJ0_length_8abf5 1 = .ok (.getfield 9, 3) := by decide +kernel
theorem dJ0_length_8abf5_4 : decode cJ0_length_8abf5 4 = .ok (.arraylength, 1) := by decide +kernel
theorem dJ0_length_8abf5_5 : decode cJ0_length_8abf5 5 = .ok (.aload_n 0, 1) := by decide +kernel
theorem dJ0_length_8abf5_6 : decode cJ0_length_8abf5 6 = .ok (.invokevirtual 335, 3) := by decide +kernel
theorem dJ0_length_8abf5_9 : decode cJ0_length_8abf5 9 = .ok (.ishr, 1) := by decide +kernel
theorem dJ0_length_8abf5_10 : decode cJ0_length_8abf5 10 = .ok (.ireturn, 1) := by decide +kernel
theorem dJ0_charAt_5068e_0 : decode cJ0_charAt_5068e 0 = .ok (.aload_n 0, 1) := by decide +kernel
theorem dJ0_charAt_5068e_1 : decode cJ0_charAt_5068e 1 = .ok (.invokevirtual 492, 3) := by decide +kernel
theorem dJ0_charAt_5068e_4 : decode cJ0_charAt_5068e 4 = .ok (.ifCond .eq 12, 3) := by decide +kernel
theorem dJ0_charAt_5068e_7 : decode cJ0_charAt_5068e 7 = .ok (.aload_n 0, 1) := by decide +kernel
theorem dJ0_charAt_5068e_8 : decode cJ0_charAt_5068e 8 = .ok (.getfield 9, 3) := by decide +kernel
theorem dJ0_charAt_5068e_11 : decode cJ0_charAt_5068e 11 = .ok (.iload_n 1, 1) := by decide +kernel
theorem dJ0_charAt_5068e_12 : decode cJ0_charAt_5068e 12 = .ok (.invokestatic 495, 3) := by decide +kernel
theorem dJ0_charAt_5068e_15 : decode cJ0_charAt_5068e 15 = .ok (.ireturn, 1) := by decide +kernel
theorem dJ0_charAt_5068e_16 : decode cJ0_charAt_5068e 16 = .ok (.aload_n 0, 1) := by decide +kernel
theorem dJ0_charAt_5068e_17 : decode cJ0_charAt_5068e 17 = .ok (.getfield 9, 3) := by decide +kernel
theorem dJ0_charAt_5068e_20 : decode cJ0_charAt_5068e 20 = .ok (.iload_n 1, 1) := by decide +kernel
theorem dJ0_charAt_5068e_21 : decode cJ0_charAt_5068e 21 = .ok (.invokestatic 498, 3) := by decide +kernel
theorem dJ0_charAt_5068e_24 : decode cJ0_charAt_5068e 24 = .ok (.ireturn, 1) := by decide +kernel
theorem dJ0_equals_9ea2d_0 : decode cJ0_equals_9ea2d 0 = .ok (.aload_n 0, 1) := by decide +kernel
theorem dJ0_equals_9ea2d_1 : decode cJ0_equals_9ea2d 1 = .ok (.aload_n 1, 1) := by decide +kernel
theorem dJ0_equals_9ea2d_2 : decode cJ0_equals_9ea2d 2 = .ok (.if_acmp .ne 5, 3) := by decide +kernel
theorem dJ0_equals_9ea2d_5 : decode cJ0_equals_9ea2d 5 = .ok (.iconst 1, 1) := by decide +kernel
theorem dJ0_equals_9ea2d_6 : decode cJ0_equals_9ea2d 6 = .ok (.ireturn, 1) := by decide +kernel
theorem dJ0_equals_9ea2d_7 : decode cJ0_equals_9ea2d 7 = .ok (.aload_n 1, 1) := by decide +kernel
theorem dJ0_equals_9ea2d_8 : decode cJ0_equals_9ea2d 8 = .ok (.instanceof 10, 3) := by decide +kernel
theorem dJ0_equals_9ea2d_11 : decode cJ0_equals_9ea2d 11 = .ok (.ifCond .eq 43, 3) := by decide +kernel
theorem dJ0_equals_9ea2d_14 : decode cJ0_equals_9ea2d 14 = .ok (.aload_n 1, 1) := by decide +kernel
theorem dJ0_equals_9ea2d_15 : decode cJ0_equals_9ea2d 15 = .ok (.checkcast 10, 3) := by decide +kernel
theorem dJ0_equals_9ea2d_18 : decode cJ0_equals_9ea2d 18 = .ok (.astore_n 2, 1) := by decide +kernel
theorem dJ0_equals_9ea2d_19 : decode cJ0_equals_9ea2d 19 = .ok (.getstatic 38, 3) := by decide +kernel
theorem dJ0_equals_9ea2d_22 : decode cJ0_equals_9ea2d 22 = .ok (.ifCond .eq 14, 3) := by decide +kernel
theorem dJ0_equals_9ea2d_25 : decode cJ0_equals_9ea2d 25 = .ok (.aload_n 0, 1) := by decide +kernel
theorem dJ0_equals_9ea2d_26 : decode cJ0_equals_9ea2d 26 = .ok (.getfield 15, 3) := by decide +kernel
theorem dJ0_equals_9ea2d_29 : decode cJ0_equals_9ea2d 29 = .ok (.aload_n 2, 1) := by decide +kernel
theorem dJ0_equals_9ea2d_30 : decode cJ0_equals_9ea2d 30 = .ok (.getfield 15, 3) := by decide +kernel
theorem dJ0_equals_9ea2d_33 : decode cJ0_equals_9ea2d 33 = .ok (.if_icmp .ne 21, 3) := by decide +kernel
theorem dJ0_equals_9ea2d_36 : decode cJ0_equals_9ea2d 36 = .ok (.aload_n 0, 1) := by decide +kernel
theorem dJ0_equals_9ea2d_37 : decode cJ0_equals_9ea2d 37 = .ok (.getfield 9, 3) := by decide +kernel
theorem dJ0_equals_9ea2d_40 : decode cJ0_equals_9ea2d 40 = .ok (.aload_n 2, 1) := by decide +kernel
theorem dJ0_equals_9ea2d_41 : decode cJ0_equals_9ea2d 41 = .ok (.getfield 9, 3) := by decide +kernel
theorem dJ0_equals_9ea2d_44 : decode cJ0_equals_9ea2d 44 = .ok (.invokestatic 541, 3) := by decide +kernel
theorem dJ0_equals_9ea2d_47 : decode cJ0_equals_9ea2d 47 = .ok (.ifCond .eq 7, 3) := by decide +kernel
theorem dJ0_equals_9ea2d_50 : decode cJ0_equals_9ea2d 50 = .ok (.iconst 1, 1) := by decide +kernel
theorem dJ0_equals_9ea2d_51 : decode cJ0_equals_9ea2d 51 = .ok (.goto 4, 3) := by decide +kernel
theorem dJ0_equals_9ea2d_54 : decode cJ0_equals_9ea2d 54 = .ok (.iconst 0, 1) := by decide +kernel
theorem dJ0_equals_9ea2d_55 : decode cJ0_equals_9ea2d 55 = .ok (.ireturn, 1) := by decide +kernel
theorem dJ0_indexOf_0f7a4_0 : decode cJ0_indexOf_0f7a4 0 = .ok (.aload_n 0, 1) := by decide +kernel
theorem dJ0_indexOf_0f7a4_1 : decode cJ0_indexOf_0f7a4 1 = .ok (.iload_n 1, 1) := by decide +kernel
theorem dJ0_indexOf_0f7a4_2 : decode cJ0_indexOf_0f7a4 2 = .ok (.iconst 0, 1) := by decide +kernel
theorem dJ0_indexOf_0f7a4_3 : decode cJ0_indexOf_0f7a4 3 = .ok (.invokevirtual 633, 3) := by decide +kernel
theorem dJ0_indexOf_0f7a4_6 : decode cJ0_indexOf_0f7a4 6 = .ok (.ireturn, 1) := by decide +kernel
theorem dJ0_indexOf_7cf53_0 : decode cJ0_indexOf_7cf53 0 = .ok (.aload_n 0, 1) := by decide +kernel
theorem dJ0_indexOf_7cf53_1 : decode cJ0_indexOf_7cf53 1 = .ok (.invokevirtual 492, 3) := by decide +kernel
theorem dJ0_indexOf_7cf53_4 : decode cJ0_indexOf_7cf53 4 = .ok (.ifCond .eq 19, 3) := by decide +kernel
theorem dJ0_indexOf_7cf53_7 : decode cJ0_indexOf_7cf53 7 = .ok (.aload_n 0, 1) := by decide +kernel
theorem dJ0_indexOf_7cf53_8 : decode cJ0_indexOf_7cf53 8 = .ok (.getfield 9, 3) := by decide +kernel
theorem dJ0_indexOf_7cf53_11 : decode cJ0_indexOf_7cf53 11 = .ok (.iload_n 1, 1) := by decide +kernel
theorem dJ0_indexOf_7cf53_12 : decode cJ0_indexOf_7cf53 12 = .ok (.iload_n 2, 1) := by decide +kernel
theorem dJ0_indexOf_7cf53_13 : decode cJ0_indexOf_7cf53 13 = .ok (.aload_n 0, 1) := by decide +kernel
theorem dJ0_indexOf_7cf53_14 : decode cJ0_indexOf_7cf53 14 = .ok (.invokevirtual 505, 3) := by decide +kernel
theorem dJ0_indexOf_7cf53_17 : decode cJ0_indexOf_7cf53 17 = .ok (.invokestatic 637, 3) := by decide +kernel
theorem dJ0_indexOf_7cf53_20 : decode cJ0_indexOf_7cf53 20 = .ok (.goto 16, 3) := by decide +kernel
theorem dJ0_indexOf_7cf53_23 : decode cJ0_indexOf_7cf53 23 = .ok (.aload_n 0, 1) := by decide +kernel
theorem dJ0_indexOf_7cf53_24 : decode cJ0_indexOf_7cf53 24 = .ok (.getfield 9, 3) := by decide +kernel
theorem dJ0_indexOf_7cf53_27 : decode cJ0_indexOf_7cf53 27 = .ok (.iload_n 1, 1) := by decide +kernel
theorem dJ0_indexOf_7cf53_28 : decode cJ0_indexOf_7cf53 28 = .ok (.iload_n 2, 1) := by decide +kernel
theorem dJ0_indexOf_7cf53_29 : decode cJ0_indexOf_7cf53 29 = .ok (.aload_n 0, 1) := by decide +kernel
theorem dJ0_indexOf_7cf53_30 : decode cJ0_indexOf_7cf53 30 = .ok (.invokevirtual 505, 3) := by decide +kernel
theorem dJ0_indexOf_7cf53_33 : decode cJ0_indexOf_7cf53 33 = .ok (.invokestatic 640, 3) := by decide +kernel
theorem dJ0_indexOf_7cf53_36 : decode cJ0_indexOf_7cf53 36 = .ok (.ireturn, 1) := by decide +kernel
theorem dJ0_substring_b52d3_0 : decode cJ0_substring_b52d3 0 = .ok (.aload_n 0, 1) := by decide +kernel
theorem dJ0_substring_b52d3_1 : decode cJ0_substring_b52d3 1 = .ok (.iload_n 1, 1) := by decide +kernel
theorem dJ0_substring_b52d3_2 : decode cJ0_substring_b52d3 2 = .ok (.aload_n 0, 1) := by decide +kernel
theorem dJ0_substring_b52d3_3 : decode cJ0_substring_b52d3 3 = .ok (.invokevirtual 505, 3) := by decide +kernel
theorem dJ0_substring_b52d3_6 : decode cJ0_substring_b52d3 6 = .ok (.invokevirtual 681, 3) := by decide +kernel
theorem dJ0_substring_b52d3_9 : decode cJ0_substring_b52d3 9 = .ok (.areturn, 1) := by decide +kernel
theorem dJ0_substring_37a41_0 : decode cJ0_substring_37a41 0 = .ok (.aload_n 0, 1) := by decide +kernel
theorem dJ0_substring_37a41_1 : decode cJ0_substring_37a41 1 = .ok (.invokevirtual 505, 3) := by decide +kernel
theorem dJ0_substring_37a41_4 : decode cJ0_substring_37a41 4 = .ok (.istore_n 3, 1) := by decide +kernel
theorem dJ0_substring_37a41_5 : decode cJ0_substring_37a41 5 = .ok (.iload_n 1, 1) := by decide +kernel
theorem dJ0_substring_37a41_6 : decode cJ0_substring_37a41 6 = .ok (.iload_n 2, 1) := by decide +kernel
theorem dJ0_substring_37a41_7 : decode cJ0_substring_37a41 7 = .ok (.iload_n 3, 1) := by decide +kernel
theorem dJ0_substring_37a41_8 : decode cJ0_substring_37a41 8 = .ok (.invokestatic 521, 3) := by decide +kernel
theorem dJ0_substring_37a41_11 : decode cJ0_substring_37a41 11 = .ok (.iload_n 1, 1) := by decide +kernel
theorem dJ0_substring_37a41_12 : decode cJ0_substring_37a41 12 = .ok (.ifCond .ne 10, 3) := by decide +kernel
theorem dJ0_substring_37a41_15 : decode cJ0_substring_37a41 15 = .ok (.iload_n 2, 1) := by decide +kernel
theorem dJ0_substring_37a41_16 : decode cJ0_substring_37a41 16 = .ok (.iload_n 3, 1) := by decide +kernel
theorem dJ0_substring_37a41_17 : decode cJ0_substring_37a41 17 = .ok (.if_icmp .ne 5, 3) := by decide +kernel
theorem dJ0_substring_37a41_20 : decode cJ0_substring_37a41 20 = .ok (.aload_n 0, 1) := by decide +kernel
theorem dJ0_substring_37a41_21 : decode cJ0_substring_37a41 21 = .ok (.areturn, 1) := by decide +kernel
theorem dJ0_substring_37a41_22 : decode cJ0_substring_37a41 22 = .ok (.iload_n 2, 1) := by decide +kernel
theorem dJ0_substring_37a41_23 : decode cJ0_substring_37a41 23 = .ok (.iload_n 1, 1) := by decide +kernel
theorem dJ0_substring_37a41_24 : decode cJ0_substring_37a41 24 = .ok (.isub, 1) := by decide +kernel
theorem dJ0_substring_37a41_25 : decode cJ0_substring_37a41 25 = .ok (.istore 4, 2) := by decide +kernel
theorem dJ0_substring_37a41_27 : decode cJ0_substring_37a41 27 = .ok (.aload_n 0, 1) := by decide +kernel
theorem dJ0_substring_37a41_28 : decode cJ0_substring_37a41 28 = .ok (.invokevirtual 492, 3) := by decide +kernel
theorem dJ0_substring_37a41_31 : decode cJ0_substring_37a41 31 = .ok (.ifCond .eq 16, 3) := by decide +kernel
theorem dJ0_substring_37a41_34 : decode cJ0_substring_37a41 34 = .ok (.aload_n 0, 1) := by decide +kernel
theorem dJ0_substring_37a41_35 : decode cJ0_substring_37a41 35 = .ok (.getfield 9, 3) := by decide +kernel
theorem dJ0_substring_37a41_38 : decode cJ0_substring_37a41 38 = .ok (.iload_n 1, 1) := by decide +kernel
theorem dJ0_substring_37a41_39 : decode cJ0_substring_37a41 39 = .ok (.iload 4, 2) := by decide +kernel
theorem dJ0_substring_37a41_41 : decode cJ0_substring_37a41 41 = .ok (.invokestatic 685, 3) := by decide +kernel
theorem dJ0_substring_37a41_44 : decode cJ0_substring_37a41 44 = .ok (.goto 13, 3) := by decide +kernel
theorem dJ0_substring_37a41_47 : decode cJ0_substring_37a41 47 = .ok (.aload_n 0, 1) := by decide +kernel
theorem dJ0_substring_37a41_48 : decode cJ0_substring_37a41 48 = .ok (.getfield 9, 3) := by decide +kernel
theorem dJ0_substring_37a41_51 : decode cJ0_substring_37a41 51 = .ok (.iload_n 1, 1) := by decide +kernel
theorem dJ0_substring_37a41_52 : decode cJ0_substring_37a41 52 = .ok (.iload 4, 2) := by decide +kernel
theorem dJ0_substring_37a41_54 : decode cJ0_substring_37a41 54 = .ok (.invokestatic 689, 3) := by decide +kernel
theorem dJ0_substring_37a41_57 : decode cJ0_substring_37a41 57 = .ok (.areturn, 1) := by decide +kernel
theorem dJ0_init_db425_0 : decode cJ0_init_db425 0 = .ok (.aload_n 0, 1) := by decide +kernel
theorem dJ0_init_db425_1 : decode cJ0_init_db425 1 = .ok (.invokespecial 1, 3) := by decide +kernel
theorem dJ0_init_db425_4 : decode cJ0_init_db425 4 = .ok (.aload_n 1, 1) := by decide +kernel
theorem dJ0_init_db425_5 : decode cJ0_init_db425 5 = .ok (.invokevirtual 552, 3) := by decide +kernel
theorem dJ0_init_db425_8 : decode cJ0_init_db425 8 = .ok (.astore_n 3, 1) := by decide +kernel
theorem dJ0_init_db425_9 : decode cJ0_init_db425 9 = .ok (.aload_n 1, 1) := by decide +kernel
theorem dJ0_init_db425_10 : decode cJ0_init_db425 10 = .ok (.invokevirtual 549, 3) := by decide +kernel
theorem dJ0_init_db425_13 : decode cJ0_init_db425 13 = .ok (.istore 4, 2) := by decide +kernel
theorem dJ0_init_db425_15 : decode cJ0_init_db425 15 = .ok (.aload_n 1, 1) := by decide +kernel
theorem dJ0_init_db425_16 : decode cJ0_init_db425 16 = .ok (.invokevirtual 1047, 3) := by decide +kernel
theorem dJ0_init_db425_19 : decode cJ0_init_db425 19 = .ok (.ifCond .eq 22, 3) := by decide +kernel
theorem dJ0_init_db425_22 : decode cJ0_init_db425 22 = .ok (.aload_n 0, 1) := by decide +kernel
theorem dJ0_init_db425_23 : decode cJ0_init_db425 23 = .ok (.iconst 0, 1) := by decide +kernel
theorem dJ0_init_db425_24 : decode cJ0_init_db425 24 = .ok (.putfield 15, 3) := by decide +kernel
theorem dJ0_init_db425_27 : decode cJ0_init_db425 27 = .ok (.aload_n 0, 1) := by decide +kernel
theorem dJ0_init_db425_28 : decode cJ0_init_db425 28 = .ok (.aload_n 3, 1) := by decide +kernel
theorem dJ0_init_db425_29 : decode cJ0_init_db425 29 = .ok (.iconst 0, 1) := by decide +kernel
theorem dJ0_init_db425_30 : decode cJ0_init_db425 30 = .ok (.iload 4, 2) := by decide +kernel
theorem dJ0_init_db425_32 : decode cJ0_init_db425 32 = .ok (.invokestatic 54, 3) := by decide +kernel
theorem dJ0_init_db425_35 : decode cJ0_init_db425 35 = .ok (.putfield 9, 3) := by decide +kernel
theorem dJ0_init_db425_38 : decode cJ0_init_db425 38 = .ok (.goto 59, 3) := by decide +kernel
theorem dJ0_init_db425_41 : decode cJ0_init_db425 41 = .ok (.getstatic 38, 3) := by decide +kernel
theorem dJ0_init_db425_44 : decode cJ0_init_db425 44 = .ok (.ifCond .eq 35, 3) := by decide +kernel
theorem dJ0_init_db425_47 : decode cJ0_init_db425 47 = .ok (.aload_n 1, 1) := by decide +kernel
theorem dJ0_init_db425_48 : decode cJ0_init_db425 48 = .ok (.getfield 1048, 3) := by decide +kernel
theorem dJ0_init_db425_51 : decode cJ0_init_db425 51 = .ok (.ifCond .eq 28, 3) := by decide +kernel
theorem dJ0_init_db425_54 : decode cJ0_init_db425 54 = .ok (.aload_n 0, 1) := by decide +kernel
theorem dJ0_init_db425_55 : decode cJ0_init_db425 55 = .ok (.aload_n 3, 1) := by decide +kernel
theorem dJ0_init_db425_56 : decode cJ0_init_db425 56 = .ok (.iconst 0, 1) := by decide +kernel
theorem dJ0_init_db425_57 : decode cJ0_init_db425 57 = .ok (.iload 4, 2) := by decide +kernel
theorem dJ0_init_db425_59 : decode cJ0_init_db425 59 = .ok (.invokestatic 1051, 3) := by decide +kernel
theorem dJ0_init_db425_62 : decode cJ0_init_db425 62 = .ok (.putfield 9, 3) := by decide +kernel
theorem dJ0_init_db425_65 : decode cJ0_init_db425 65 = .ok (.aload_n 0, 1) := by decide +kernel
theorem dJ0_init_db425_66 : decode cJ0_init_db425 66 = .ok (.aload_n 0, 1) := by decide +kernel
theorem dJ0_init_db425_67 : decode cJ0_init_db425 67 = .ok (.getfield 9, 3) := by decide +kernel
theorem dJ0_init_db425_70 : decode cJ0_init_db425 70 = .ok (.iload 4, 2) := by decide +kernel
theorem dJ0_init_db425_72 : decode cJ0_init_db425 72 = .ok (.invokestatic 47, 3) := by decide +kernel
theorem dJ0_init_db425_75 : decode cJ0_init_db425 75 = .ok (.putfield 15, 3) := by decide +kernel
