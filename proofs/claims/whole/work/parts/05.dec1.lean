theorem dX0_init_0 : decode cX0_init 0 = .ok (.aload_n 0, 1) := by decide +kernel
theorem dX0_init_1 : decode cX0_init 1 = .ok (.invokespecial 3, 3) := by decide +kernel
theorem dX0_init_4 : decode cX0_init 4 = .ok (.aload_n 0, 1) := by decide +kernel
theorem dX0_init_5 : decode cX0_init 5 = .ok (.bipush 12, 2) := by decide +kernel
theorem dX0_init_7 : decode cX0_init 7 = .ok (.newarray .int, 2) := by decide +kernel
theorem dX0_init_9 : decode cX0_init 9 = .ok (.putfield 9, 3) := by decide +kernel
theorem dX0_init_12 : decode cX0_init 12 = .ok (.aload_n 0, 1) := by decide +kernel
theorem dX0_init_13 : decode cX0_init 13 = .ok (.bipush 12, 2) := by decide +kernel
theorem dX0_init_15 : decode cX0_init 15 = .ok (.newarray .int, 2) := by decide +kernel
theorem dX0_init_17 : decode cX0_init 17 = .ok (.putfield 15, 3) := by decide +kernel
theorem dX0_init_20 : decode cX0_init 20 = .ok (.return_, 1) := by decide +kernel
theorem dX0_appendPeriod_0 : decode cX0_appendPeriod 0 = .ok (.aload_n 0, 1) := by decide +kernel
theorem dX0_appendPeriod_1 : decode cX0_appendPeriod 1 = .ok (.getfield 18, 3) := by decide +kernel
theorem dX0_appendPeriod_4 : decode cX0_appendPeriod 4 = .ok (.aload_n 0, 1) := by decide +kernel
theorem dX0_appendPeriod_5 : decode cX0_appendPeriod 5 = .ok (.getfield 9, 3) := by decide +kernel
theorem dX0_appendPeriod_8 : decode cX0_appendPeriod 8 = .ok (.arraylength, 1) := by decide +kernel
theorem dX0_appendPeriod_9 : decode cX0_appendPeriod 9 = .ok (.if_icmp .ge 70, 3) := by decide +kernel
theorem dX0_appendPeriod_12 : decode cX0_appendPeriod 12 = .ok (.aload_n 0, 1) := by decide +kernel
theorem dX0_appendPeriod_13 : decode cX0_appendPeriod 13 = .ok (.getfield 18, 3) := by decide +kernel
theorem dX0_appendPeriod_16 : decode cX0_appendPeriod 16 = .ok (.aload_n 0, 1) := by decide +kernel
theorem dX0_appendPeriod_17 : decode cX0_appendPeriod 17 = .ok (.getfield 15, 3) := by decide +kernel
theorem dX0_appendPeriod_20 : decode cX0_appendPeriod 20 = .ok (.arraylength, 1) := by decide +kernel
theorem dX0_appendPeriod_21 : decode cX0_appendPeriod 21 = .ok (.if_icmp .ge 58, 3) := by decide +kernel
theorem dX0_appendPeriod_24 : decode cX0_appendPeriod 24 = .ok (.aload_n 0, 1) := by decide +kernel
theorem dX0_appendPeriod_25 : decode cX0_appendPeriod 25 = .ok (.getfield 18, 3) := by decide +kernel
theorem dX0_appendPeriod_28 : decode cX0_appendPeriod 28 = .ok (.ifCond .le 17, 3) := by decide +kernel
theorem dX0_appendPeriod_31 : decode cX0_appendPeriod 31 = .ok (.aload_n 0, 1) := by decide +kernel
theorem dX0_appendPeriod_32 : decode cX0_appendPeriod 32 = .ok (.getfield 9, 3) := by decide +kernel
theorem dX0_appendPeriod_35 : decode cX0_appendPeriod 35 = .ok (.aload_n 0, 1) := by decide +kernel
theorem dX0_appendPeriod_36 : decode cX0_appendPeriod 36 = .ok (.getfield 18, 3) := by decide +kernel
theorem dX0_appendPeriod_39 : decode cX0_appendPeriod 39 = .ok (.iconst 1, 1) := by decide +kernel
theorem dX0_appendPeriod_40 : decode cX0_appendPeriod 40 = .ok (.isub, 1) := by decide +kernel
theorem dX0_appendPeriod_41 : decode cX0_appendPeriod 41 = .ok (.iaload, 1) := by decide +kernel
theorem dX0_appendPeriod_42 : decode cX0_appendPeriod 42 = .ok (.goto 4, 3) := by decide +kernel
theorem dX0_appendPeriod_45 : decode cX0_appendPeriod 45 = .ok (.iconst 0, 1) := by decide +kernel
theorem dX0_appendPeriod_46 : decode cX0_appendPeriod 46 = .ok (.istore_n 3, 1) := by decide +kernel
theorem dX0_appendPeriod_47 : decode cX0_appendPeriod 47 = .ok (.aload_n 0, 1) := by decide +kernel
theorem dX0_appendPeriod_48 : decode cX0_appendPeriod 48 = .ok (.getfield 9, 3) := by decide +kernel
theorem dX0_appendPeriod_51 : decode cX0_appendPeriod 51 = .ok (.aload_n 0, 1) := by decide +kernel
theorem dX0_appendPeriod_52 : decode cX0_appendPeriod 52 = .ok (.getfield 18, 3) := by decide +kernel
theorem dX0_appendPeriod_55 : decode cX0_appendPeriod 55 = .ok (.iload_n 3, 1) := by decide +kernel
theorem dX0_appendPeriod_56 : decode cX0_appendPeriod 56 = .ok (.iload_n 1, 1) := by decide +kernel
theorem dX0_appendPeriod_57 : decode cX0_appendPeriod 57 = .ok (.iadd, 1) := by decide +kernel
theorem dX0_appendPeriod_58 : decode cX0_appendPeriod 58 = .ok (.iastore, 1) := by decide +kernel
theorem dX0_appendPeriod_59 : decode cX0_appendPeriod 59 = .ok (.aload_n 0, 1) := by decide +kernel
theorem dX0_appendPeriod_60 : decode cX0_appendPeriod 60 = .ok (.getfield 15, 3) := by decide +kernel
theorem dX0_appendPeriod_63 : decode cX0_appendPeriod 63 = .ok (.aload_n 0, 1) := by decide +kernel
theorem dX0_appendPeriod_64 : decode cX0_appendPeriod 64 = .ok (.getfield 18, 3) := by decide +kernel
theorem dX0_appendPeriod_67 : decode cX0_appendPeriod 67 = .ok (.iload_n 2, 1) := by decide +kernel
theorem dX0_appendPeriod_68 : decode cX0_appendPeriod 68 = .ok (.iastore, 1) := by decide +kernel
theorem dX0_appendPeriod_69 : decode cX0_appendPeriod 69 = .ok (.aload_n 0, 1) := by decide +kernel
theorem dX0_appendPeriod_70 : decode cX0_appendPeriod 70 = .ok (.dup, 1) := by decide +kernel
theorem dX0_appendPeriod_71 : decode cX0_appendPeriod 71 = .ok (.getfield 18, 3) := by decide +kernel
theorem dX0_appendPeriod_74 : decode cX0_appendPeriod 74 = .ok (.iconst 1, 1) := by decide +kernel
theorem dX0_appendPeriod_75 : decode cX0_appendPeriod 75 = .ok (.iadd, 1) := by decide +kernel
theorem dX0_appendPeriod_76 : decode cX0_appendPeriod 76 = .ok (.putfield 18, 3) := by decide +kernel
theorem dX0_appendPeriod_79 : decode cX0_appendPeriod 79 = .ok (.return_, 1) := by decide +kernel
theorem dX0_rateAt_0 : decode cX0_rateAt 0 = .ok (.sipush 1000, 3) := by decide +kernel
theorem dX0_rateAt_3 : decode cX0_rateAt 3 = .ok (.istore_n 2, 1) := by decide +kernel
theorem dX0_rateAt_4 : decode cX0_rateAt 4 = .ok (.aload_n 0, 1) := by decide +kernel
theorem dX0_rateAt_5 : decode cX0_rateAt 5 = .ok (.getfield 18, 3) := by decide +kernel
theorem dX0_rateAt_8 : decode cX0_rateAt 8 = .ok (.aload_n 0, 1) := by decide +kernel
theorem dX0_rateAt_9 : decode cX0_rateAt 9 = .ok (.getfield 9, 3) := by decide +kernel
theorem dX0_rateAt_12 : decode cX0_rateAt 12 = .ok (.arraylength, 1) := by decide +kernel
theorem dX0_rateAt_13 : decode cX0_rateAt 13 = .ok (.aload_n 0, 1) := by decide +kernel
theorem dX0_rateAt_14 : decode cX0_rateAt 14 = .ok (.getfield 15, 3) := by decide +kernel
theorem dX0_rateAt_17 : decode cX0_rateAt 17 = .ok (.arraylength, 1) := by decide +kernel
theorem dX0_rateAt_18 : decode cX0_rateAt 18 = .ok (.invokestatic 22, 3) := by decide +kernel
theorem dX0_rateAt_21 : decode cX0_rateAt 21 = .ok (.invokestatic 22, 3) := by decide +kernel
theorem dX0_rateAt_24 : decode cX0_rateAt 24 = .ok (.istore_n 3, 1) := by decide +kernel
theorem dX0_rateAt_25 : decode cX0_rateAt 25 = .ok (.iconst 0, 1) := by decide +kernel
theorem dX0_rateAt_26 : decode cX0_rateAt 26 = .ok (.istore 4, 2) := by decide +kernel
theorem dX0_rateAt_28 : decode cX0_rateAt 28 = .ok (.iload 4, 2) := by decide +kernel
theorem dX0_rateAt_30 : decode cX0_rateAt 30 = .ok (.iload_n 3, 1) := by decide +kernel
theorem dX0_rateAt_31 : decode cX0_rateAt 31 = .ok (.if_icmp .ge 30, 3) := by decide +kernel
theorem dX0_rateAt_34 : decode cX0_rateAt 34 = .ok (.aload_n 0, 1) := by decide +kernel
theorem dX0_rateAt_35 : decode cX0_rateAt 35 = .ok (.getfield 15, 3) := by decide +kernel
theorem dX0_rateAt_38 : decode cX0_rateAt 38 = .ok (.iload 4, 2) := by decide +kernel
theorem dX0_rateAt_40 : decode cX0_rateAt 40 = .ok (.iaload, 1) := by decide +kernel
theorem dX0_rateAt_41 : decode cX0_rateAt 41 = .ok (.istore_n 2, 1) := by decide +kernel
theorem dX0_rateAt_42 : decode cX0_rateAt 42 = .ok (.iload_n 1, 1) := by decide +kernel
theorem dX0_rateAt_43 : decode cX0_rateAt 43 = .ok (.aload_n 0, 1) := by decide +kernel
theorem dX0_rateAt_44 : decode cX0_rateAt 44 = .ok (.getfield 9, 3) := by decide +kernel
theorem dX0_rateAt_47 : decode cX0_rateAt 47 = .ok (.iload 4, 2) := by decide +kernel
theorem dX0_rateAt_49 : decode cX0_rateAt 49 = .ok (.iaload, 1) := by decide +kernel
theorem dX0_rateAt_50 : decode cX0_rateAt 50 = .ok (.if_icmp .ge 5, 3) := by decide +kernel
theorem dX0_rateAt_53 : decode cX0_rateAt 53 = .ok (.iload_n 2, 1) := by decide +kernel
theorem dX0_rateAt_54 : decode cX0_rateAt 54 = .ok (.ireturn, 1) := by decide +kernel
theorem dX0_rateAt_55 : decode cX0_rateAt 55 = .ok (.iinc 4 1, 3) := by decide +kernel
theorem dX0_rateAt_58 : decode cX0_rateAt 58 = .ok (.goto (-30), 3) := by decide +kernel
theorem dX0_rateAt_61 : decode cX0_rateAt 61 = .ok (.iload_n 2, 1) := by decide +kernel
theorem dX0_rateAt_62 : decode cX0_rateAt 62 = .ok (.ireturn, 1) := by decide +kernel
theorem dX1_init_0 : decode cX1_init 0 = .ok (.aload_n 0, 1) := by decide +kernel
theorem dX1_init_1 : decode cX1_init 1 = .ok (.invokespecial 1, 3) := by decide +kernel
theorem dX1_init_4 : decode cX1_init 4 = .ok (.return_, 1) := by decide +kernel
theorem dX1_start_0 : decode cX1_start 0 = .ok (.aload_n 0, 1) := by decide +kernel
theorem dX1_start_1 : decode cX1_start 1 = .ok (.iconst 1, 1) := by decide +kernel
theorem dX1_start_2 : decode cX1_start 2 = .ok (.putfield 7, 3) := by decide +kernel
theorem dX1_start_5 : decode cX1_start 5 = .ok (.aload_n 0, 1) := by decide +kernel
theorem dX1_start_6 : decode cX1_start 6 = .ok (.iload_n 1, 1) := by decide +kernel
theorem dX1_start_7 : decode cX1_start 7 = .ok (.putfield 13, 3) := by decide +kernel
theorem dX1_start_10 : decode cX1_start 10 = .ok (.aload_n 0, 1) := by decide +kernel
theorem dX1_start_11 : decode cX1_start 11 = .ok (.iload_n 2, 1) := by decide +kernel
theorem dX1_start_12 : decode cX1_start 12 = .ok (.putfield 17, 3) := by decide +kernel
theorem dX1_start_15 : decode cX1_start 15 = .ok (.aload_n 0, 1) := by decide +kernel
theorem dX1_start_16 : decode cX1_start 16 = .ok (.iconst 0, 1) := by decide +kernel
theorem dX1_start_17 : decode cX1_start 17 = .ok (.putfield 20, 3) := by decide +kernel
theorem dX1_start_20 : decode cX1_start 20 = .ok (.aload_n 0, 1) := by decide +kernel
theorem dX1_start_21 : decode cX1_start 21 = .ok (.iconst 0, 1) := by decide +kernel
theorem dX1_start_22 : decode cX1_start 22 = .ok (.putfield 23, 3) := by decide +kernel
theorem dX1_start_25 : decode cX1_start 25 = .ok (.return_, 1) := by decide +kernel
theorem dX1_stop_0 : decode cX1_stop 0 = .ok (.aload_n 0, 1) := by decide +kernel
theorem dX1_stop_1 : decode cX1_stop 1 = .ok (.iconst 0, 1) := by decide +kernel
theorem dX1_stop_2 : decode cX1_stop 2 = .ok (.putfield 7, 3) := by decide +kernel
theorem dX1_stop_5 : decode cX1_stop 5 = .ok (.return_, 1) := by decide +kernel
theorem dX1_receive_0 : decode cX1_receive 0 = .ok (.aload_n 0, 1) := by decide +kernel
theorem dX1_receive_1 : decode cX1_receive 1 = .ok (.dup, 1) := by decide +kernel
theorem dX1_receive_2 : decode cX1_receive 2 = .ok (.getfield 20, 3) := by decide +kernel
theorem dX1_receive_5 : decode cX1_receive 5 = .ok (.iload_n 1, 1) := by decide +kernel
theorem dX1_receive_6 : decode cX1_receive 6 = .ok (.iadd, 1) := by decide +kernel
theorem dX1_receive_7 : decode cX1_receive 7 = .ok (.putfield 20, 3) := by decide +kernel
theorem dX1_receive_10 : decode cX1_receive 10 = .ok (.aload_n 0, 1) := by decide +kernel
theorem dX1_receive_11 : decode cX1_receive 11 = .ok (.dup, 1) := by decide +kernel
theorem dX1_receive_12 : decode cX1_receive 12 = .ok (.getfield 23, 3) := by decide +kernel
theorem dX1_receive_15 : decode cX1_receive 15 = .ok (.iconst 1, 1) := by decide +kernel
theorem dX1_receive_16 : decode cX1_receive 16 = .ok (.iadd, 1) := by decide +kernel
theorem dX1_receive_17 : decode cX1_receive 17 = .ok (.putfield 23, 3) := by decide +kernel
theorem dX1_receive_20 : decode cX1_receive 20 = .ok (.return_, 1) := by decide +kernel
theorem dX1_isComplete_0 : decode cX1_isComplete 0 = .ok (.aload_n 0, 1) := by decide +kernel
theorem dX1_isComplete_1 : decode cX1_isComplete 1 = .ok (.getfield 20, 3) := by decide +kernel
theorem dX1_isComplete_4 : decode cX1_isComplete 4 = .ok (.aload_n 0, 1) := by decide +kernel
theorem dX1_isComplete_5 : decode cX1_isComplete 5 = .ok (.getfield 17, 3) := by decide +kernel
theorem dX1_isComplete_8 : decode cX1_isComplete 8 = .ok (.if_icmp .lt 7, 3) := by decide +kernel
theorem dX1_isComplete_11 : decode cX1_isComplete 11 = .ok (.iconst 1, 1) := by decide +kernel
theorem dX1_isComplete_12 : decode cX1_isComplete 12 = .ok (.goto 4, 3) := by decide +kernel
theorem dX1_isComplete_15 : decode cX1_isComplete 15 = .ok (.iconst 0, 1) := by decide +kernel
theorem dX1_isComplete_16 : decode cX1_isComplete 16 = .ok (.ireturn, 1) := by decide +kernel
theorem dX1_throughput_0 : decode cX1_throughput 0 = .ok (.aload_n 0, 1) := by decide +kernel
theorem dX1_throughput_1 : decode cX1_throughput 1 = .ok (.getfield 23, 3) := by decide +kernel
theorem dX1_throughput_4 : decode cX1_throughput 4 = .ok (.ifCond .le 15, 3) := by decide +kernel
theorem dX1_throughput_7 : decode cX1_throughput 7 = .ok (.aload_n 0, 1) := by decide +kernel
theorem dX1_throughput_8 : decode cX1_throughput 8 = .ok (.getfield 17, 3) := by decide +kernel
theorem dX1_throughput_11 : decode cX1_throughput 11 = .ok (.aload_n 0, 1) := by decide +kernel
theorem dX1_throughput_12 : decode cX1_throughput 12 = .ok (.getfield 23, 3) := by decide +kernel
theorem dX1_throughput_15 : decode cX1_throughput 15 = .ok (.idiv, 1) := by decide +kernel
theorem dX1_throughput_16 : decode cX1_throughput 16 = .ok (.goto 4, 3) := by decide +kernel
theorem dX1_throughput_19 : decode cX1_throughput 19 = .ok (.iconst 0, 1) := by decide +kernel
theorem dX1_throughput_20 : decode cX1_throughput 20 = .ok (.ireturn, 1) := by decide +kernel
theorem dX2_init_0 : decode cX2_init 0 = .ok (.aload_n 0, 1) := by decide +kernel
theorem dX2_init_1 : decode cX2_init 1 = .ok (.invokespecial 3, 3) := by decide +kernel
theorem dX2_init_4 : decode cX2_init 4 = .ok (.aload_n 0, 1) := by decide +kernel
theorem dX2_init_5 : decode cX2_init 5 = .ok (.bipush 30, 2) := by decide +kernel
theorem dX2_init_7 : decode cX2_init 7 = .ok (.newarray .int, 2) := by decide +kernel
theorem dX2_init_9 : decode cX2_init 9 = .ok (.putfield 9, 3) := by decide +kernel
theorem dX2_init_12 : decode cX2_init 12 = .ok (.aload_n 0, 1) := by decide +kernel
theorem dX2_init_13 : decode cX2_init 13 = .ok (.new 15, 3) := by decide +kernel
theorem dX2_init_16 : decode cX2_init 16 = .ok (.dup, 1) := by decide +kernel
theorem dX2_init_17 : decode cX2_init 17 = .ok (.invokespecial 17, 3) := by decide +kernel
theorem dX2_init_20 : decode cX2_init 20 = .ok (.putfield 18, 3) := by decide +kernel
theorem dX2_init_23 : decode cX2_init 23 = .ok (.aload_n 0, 1) := by decide +kernel
theorem dX2_init_24 : decode cX2_init 24 = .ok (.new 22, 3) := by decide +kernel
theorem dX2_init_27 : decode cX2_init 27 = .ok (.dup, 1) := by decide +kernel
theorem dX2_init_28 : decode cX2_init 28 = .ok (.invokespecial 24, 3) := by decide +kernel
theorem dX2_init_31 : decode cX2_init 31 = .ok (.putfield 25, 3) := by decide +kernel
theorem dX2_init_34 : decode cX2_init 34 = .ok (.aload_n 0, 1) := by decide +kernel
theorem dX2_init_35 : decode cX2_init 35 = .ok (.aload_n 1, 1) := by decide +kernel
theorem dX2_init_36 : decode cX2_init 36 = .ok (.putfield 29, 3) := by decide +kernel
theorem dX2_init_39 : decode cX2_init 39 = .ok (.aload_n 0, 1) := by decide +kernel
theorem dX2_init_40 : decode cX2_init 40 = .ok (.aload_n 2, 1) := by decide +kernel
theorem dX2_init_41 : decode cX2_init 41 = .ok (.putfield 33, 3) := by decide +kernel
theorem dX2_init_44 : decode cX2_init 44 = .ok (.aload_n 0, 1) := by decide +kernel
theorem dX2_init_45 : decode cX2_init 45 = .ok (.aload_n 3, 1) := by decide +kernel
theorem dX2_init_46 : decode cX2_init 46 = .ok (.putfield 37, 3) := by decide +kernel
theorem dX2_init_49 : decode cX2_init 49 = .ok (.aload_n 0, 1) := by decide +kernel
theorem dX2_init_50 : decode cX2_init 50 = .ok (.invokevirtual 41, 3) := by decide +kernel
theorem dX2_init_53 : decode cX2_init 53 = .ok (.return_, 1) := by decide +kernel
theorem dX2_begin_0 : decode cX2_begin 0 = .ok (.aload_n 0, 1) := by decide +kernel
theorem dX2_begin_1 : decode cX2_begin 1 = .ok (.iconst 0, 1) := by decide +kernel
theorem dX2_begin_2 : decode cX2_begin 2 = .ok (.invokevirtual 44, 3) := by decide +kernel
theorem dX2_begin_5 : decode cX2_begin 5 = .ok (.aload_n 0, 1) := by decide +kernel
theorem dX2_begin_6 : decode cX2_begin 6 = .ok (.iconst 0, 1) := by decide +kernel
theorem dX2_begin_7 : decode cX2_begin 7 = .ok (.putfield 48, 3) := by decide +kernel
theorem dX2_begin_10 : decode cX2_begin 10 = .ok (.aload_n 0, 1) := by decide +kernel
theorem dX2_begin_11 : decode cX2_begin 11 = .ok (.iconst 0, 1) := by decide +kernel
theorem dX2_begin_12 : decode cX2_begin 12 = .ok (.putfield 52, 3) := by decide +kernel
theorem dX2_begin_15 : decode cX2_begin 15 = .ok (.aload_n 0, 1) := by decide +kernel
theorem dX2_begin_16 : decode cX2_begin 16 = .ok (.iconst 0, 1) := by decide +kernel
theorem dX2_begin_17 : decode cX2_begin 17 = .ok (.putfield 56, 3) := by decide +kernel
theorem dX2_begin_20 : decode cX2_begin 20 = .ok (.aload_n 0, 1) := by decide +kernel
theorem dX2_begin_21 : decode cX2_begin 21 = .ok (.iconst 0, 1) := by decide +kernel
theorem dX2_begin_22 : decode cX2_begin 22 = .ok (.putfield 59, 3) := by decide +kernel
theorem dX2_begin_25 : decode cX2_begin 25 = .ok (.aload_n 0, 1) := by decide +kernel
theorem dX2_begin_26 : decode cX2_begin 26 = .ok (.iconst 0, 1) := by decide +kernel
theorem dX2_begin_27 : decode cX2_begin 27 = .ok (.putfield 62, 3) := by decide +kernel
theorem dX2_begin_30 : decode cX2_begin 30 = .ok (.aload_n 0, 1) := by decide +kernel
theorem dX2_begin_31 : decode cX2_begin 31 = .ok (.iconst 0, 1) := by decide +kernel
theorem dX2_begin_32 : decode cX2_begin 32 = .ok (.putfield 65, 3) := by decide +kernel
theorem dX2_begin_35 : decode cX2_begin 35 = .ok (.aload_n 0, 1) := by decide +kernel
theorem dX2_begin_36 : decode cX2_begin 36 = .ok (.iconst 0, 1) := by decide +kernel
theorem dX2_begin_37 : decode cX2_begin 37 = .ok (.putfield 68, 3) := by decide +kernel
theorem dX2_begin_40 : decode cX2_begin 40 = .ok (.aload_n 0, 1) := by decide +kernel
theorem dX2_begin_41 : decode cX2_begin 41 = .ok (.bipush (-6), 2) := by decide +kernel
theorem dX2_begin_43 : decode cX2_begin 43 = .ok (.putfield 71, 3) := by decide +kernel
theorem dX2_begin_46 : decode cX2_begin 46 = .ok (.iconst 0, 1) := by decide +kernel
theorem dX2_begin_47 : decode cX2_begin 47 = .ok (.istore_n 1, 1) := by decide +kernel
theorem dX2_begin_48 : decode cX2_begin 48 = .ok (.iload_n 1, 1) := by decide +kernel
theorem dX2_begin_49 : decode cX2_begin 49 = .ok (.aload_n 0, 1) := by decide +kernel
theorem dX2_begin_50 : decode cX2_begin 50 = .ok (.getfield 9, 3) := by decide +kernel
theorem dX2_begin_53 : decode cX2_begin 53 = .ok (.arraylength, 1) := by decide +kernel
theorem dX2_begin_54 : decode cX2_begin 54 = .ok (.if_icmp .ge 17, 3) := by decide +kernel
theorem dX2_begin_57 : decode cX2_begin 57 = .ok (.aload_n 0, 1) := by decide +kernel
theorem dX2_begin_58 : decode cX2_begin 58 = .ok (.getfield 9, 3) := by decide +kernel
theorem dX2_begin_61 : decode cX2_begin 61 = .ok (.iload_n 1, 1) := by decide +kernel
theorem dX2_begin_62 : decode cX2_begin 62 = .ok (.bipush (-6), 2) := by decide +kernel
theorem dX2_begin_64 : decode cX2_begin 64 = .ok (.iastore, 1) := by decide +kernel
theorem dX2_begin_65 : decode cX2_begin 65 = .ok (.iinc 1 1, 3) := by decide +kernel
theorem dX2_begin_68 : decode cX2_begin 68 = .ok (.goto (-20), 3) := by decide +kernel
theorem dX2_begin_71 : decode cX2_begin 71 = .ok (.return_, 1) := by decide +kernel
theorem dX2_moveTo_0 : decode cX2_moveTo 0 = .ok (.aload_n 0, 1) := by decide +kernel
theorem dX2_moveTo_1 : decode cX2_moveTo 1 = .ok (.getfield 25, 3) := by decide +kernel
theorem dX2_moveTo_4 : decode cX2_moveTo 4 = .ok (.invokevirtual 74, 3) := by decide +kernel
theorem dX2_moveTo_7 : decode cX2_moveTo 7 = .ok (.aload_n 0, 1) := by decide +kernel
theorem dX2_moveTo_8 : decode cX2_moveTo 8 = .ok (.getfield 18, 3) := by decide +kernel
theorem dX2_moveTo_11 : decode cX2_moveTo 11 = .ok (.invokevirtual 77, 3) := by decide +kernel
theorem dX2_moveTo_14 : decode cX2_moveTo 14 = .ok (.aload_n 0, 1) := by decide +kernel
theorem dX2_moveTo_15 : decode cX2_moveTo 15 = .ok (.iconst 0, 1) := by decide +kernel
theorem dX2_moveTo_16 : decode cX2_moveTo 16 = .ok (.putfield 80, 3) := by decide +kernel
theorem dX2_moveTo_19 : decode cX2_moveTo 19 = .ok (.aload_n 0, 1) := by decide +kernel
theorem dX2_moveTo_20 : decode cX2_moveTo 20 = .ok (.iload_n 1, 1) := by decide +kernel
theorem dX2_moveTo_21 : decode cX2_moveTo 21 = .ok (.putfield 83, 3) := by decide +kernel
theorem dX2_moveTo_24 : decode cX2_moveTo 24 = .ok (.aload_n 0, 1) := by decide +kernel
theorem dX2_moveTo_25 : decode cX2_moveTo 25 = .ok (.iload_n 1, 1) := by decide +kernel
theorem dX2_moveTo_26 : decode cX2_moveTo 26 = .ok (.aload_n 0, 1) := by decide +kernel
theorem dX2_moveTo_27 : decode cX2_moveTo 27 = .ok (.getfield 29, 3) := by decide +kernel
theorem dX2_moveTo_30 : decode cX2_moveTo 30 = .ok (.getfield 86, 3) := by decide +kernel
theorem dX2_moveTo_33 : decode cX2_moveTo 33 = .ok (.imul, 1) := by decide +kernel
theorem dX2_moveTo_34 : decode cX2_moveTo 34 = .ok (.putfield 91, 3) := by decide +kernel
theorem dX2_moveTo_37 : decode cX2_moveTo 37 = .ok (.aload_n 0, 1) := by decide +kernel
theorem dX2_moveTo_38 : decode cX2_moveTo 38 = .ok (.iconst 0, 1) := by decide +kernel
theorem dX2_moveTo_39 : decode cX2_moveTo 39 = .ok (.putfield 94, 3) := by decide +kernel
theorem dX2_moveTo_42 : decode cX2_moveTo 42 = .ok (.return_, 1) := by decide +kernel
theorem dX2_playWhole_0 : decode cX2_playWhole 0 = .ok (.aload_n 0, 1) := by decide +kernel
theorem dX2_playWhole_1 : decode cX2_playWhole 1 = .ok (.invokevirtual 41, 3) := by decide +kernel
theorem dX2_playWhole_4 : decode cX2_playWhole 4 = .ok (.iconst 0, 1) := by decide +kernel
theorem dX2_playWhole_5 : decode cX2_playWhole 5 = .ok (.istore_n 3, 1) := by decide +kernel
theorem dX2_playWhole_6 : decode cX2_playWhole 6 = .ok (.iload_n 3, 1) := by decide +kernel
theorem dX2_playWhole_7 : decode cX2_playWhole 7 = .ok (.ldc 97, 2) := by decide +kernel
theorem dX2_playWhole_9 : decode cX2_playWhole 9 = .ok (.if_icmp .ge 24, 3) := by decide +kernel
theorem dX2_playWhole_12 : decode cX2_playWhole 12 = .ok (.aload_n 0, 1) := by decide +kernel
theorem dX2_playWhole_13 : decode cX2_playWhole 13 = .ok (.getfield 94, 3) := by decide +kernel
theorem dX2_playWhole_16 : decode cX2_playWhole 16 = .ok (.iconst 3, 1) := by decide +kernel
theorem dX2_playWhole_17 : decode cX2_playWhole 17 = .ok (.if_icmp .eq 16, 3) := by decide +kernel
theorem dX2_playWhole_20 : decode cX2_playWhole 20 = .ok (.aload_n 0, 1) := by decide +kernel
theorem dX2_playWhole_21 : decode cX2_playWhole 21 = .ok (.iload_n 1, 1) := by decide +kernel
theorem dX2_playWhole_22 : decode cX2_playWhole 22 = .ok (.iload_n 2, 1) := by decide +kernel
theorem dX2_playWhole_23 : decode cX2_playWhole 23 = .ok (.invokevirtual 98, 3) := by decide +kernel
theorem dX2_playWhole_26 : decode cX2_playWhole 26 = .ok (.pop, 1) := by decide +kernel
theorem dX2_playWhole_27 : decode cX2_playWhole 27 = .ok (.iinc 3 1, 3) := by decide +kernel
theorem dX2_playWhole_30 : decode cX2_playWhole 30 = .ok (.goto (-24), 3) := by decide +kernel
theorem dX2_playWhole_33 : decode cX2_playWhole 33 = .ok (.return_, 1) := by decide +kernel
theorem dX2_passMillisecond_0 : decode cX2_passMillisecond 0 = .ok (.aload_n 0, 1) := by decide +kernel
theorem dX2_passMillisecond_1 : decode cX2_passMillisecond 1 = .ok (.invokevirtual 102, 3) := by decide +kernel
theorem dX2_passMillisecond_4 : decode cX2_passMillisecond 4 = .ok (.ifCond .eq 30, 3) := by decide +kernel
theorem dX2_passMillisecond_7 : decode cX2_passMillisecond 7 = .ok (.aload_n 0, 1) := by decide +kernel
theorem dX2_passMillisecond_8 : decode cX2_passMillisecond 8 = .ok (.iload_n 1, 1) := by decide +kernel
theorem dX2_passMillisecond_9 : decode cX2_passMillisecond 9 = .ok (.iload_n 2, 1) := by decide +kernel
theorem dX2_passMillisecond_10 : decode cX2_passMillisecond 10 = .ok (.invokevirtual 106, 3) := by decide +kernel
theorem dX2_passMillisecond_13 : decode cX2_passMillisecond 13 = .ok (.istore_n 3, 1) := by decide +kernel
theorem dX2_passMillisecond_14 : decode cX2_passMillisecond 14 = .ok (.aload_n 0, 1) := by decide +kernel
theorem dX2_passMillisecond_15 : decode cX2_passMillisecond 15 = .ok (.getfield 25, 3) := by decide +kernel
theorem dX2_passMillisecond_18 : decode cX2_passMillisecond 18 = .ok (.iload_n 3, 1) := by decide +kernel
theorem dX2_passMillisecond_19 : decode cX2_passMillisecond 19 = .ok (.aload_n 0, 1) := by decide +kernel
theorem dX2_passMillisecond_20 : decode cX2_passMillisecond 20 = .ok (.getfield 29, 3) := by decide +kernel
theorem dX2_passMillisecond_23 : decode cX2_passMillisecond 23 = .ok (.iload_n 3, 1) := by decide +kernel
theorem dX2_passMillisecond_24 : decode cX2_passMillisecond 24 = .ok (.aload_n 0, 1) := by decide +kernel
theorem dX2_passMillisecond_25 : decode cX2_passMillisecond 25 = .ok (.getfield 83, 3) := by decide +kernel
theorem dX2_passMillisecond_28 : decode cX2_passMillisecond 28 = .ok (.invokevirtual 110, 3) := by decide +kernel
theorem dX2_passMillisecond_31 : decode cX2_passMillisecond 31 = .ok (.invokevirtual 113, 3) := by decide +kernel
theorem dX2_passMillisecond_34 : decode cX2_passMillisecond 34 = .ok (.iconst 0, 1) := by decide +kernel
theorem dX2_passMillisecond_35 : decode cX2_passMillisecond 35 = .ok (.istore_n 3, 1) := by decide +kernel
theorem dX2_passMillisecond_36 : decode cX2_passMillisecond 36 = .ok (.aload_n 0, 1) := by decide +kernel
theorem dX2_passMillisecond_37 : decode cX2_passMillisecond 37 = .ok (.getfield 25, 3) := by decide +kernel
theorem dX2_passMillisecond_40 : decode cX2_passMillisecond 40 = .ok (.getfield 117, 3) := by decide +kernel
theorem dX2_passMillisecond_43 : decode cX2_passMillisecond 43 = .ok (.ifCond .eq 29, 3) := by decide +kernel
theorem dX2_passMillisecond_46 : decode cX2_passMillisecond 46 = .ok (.aload_n 0, 1) := by decide +kernel
theorem dX2_passMillisecond_47 : decode cX2_passMillisecond 47 = .ok (.getfield 25, 3) := by decide +kernel
theorem dX2_passMillisecond_50 : decode cX2_passMillisecond 50 = .ok (.aload_n 0, 1) := by decide +kernel
theorem dX2_passMillisecond_51 : decode cX2_passMillisecond 51 = .ok (.getfield 33, 3) := by decide +kernel
theorem dX2_passMillisecond_54 : decode cX2_passMillisecond 54 = .ok (.aload_n 0, 1) := by decide +kernel
theorem dX2_passMillisecond_55 : decode cX2_passMillisecond 55 = .ok (.getfield 52, 3) := by decide +kernel
theorem dX2_passMillisecond_58 : decode cX2_passMillisecond 58 = .ok (.invokevirtual 120, 3) := by decide +kernel
theorem dX2_passMillisecond_61 : decode cX2_passMillisecond 61 = .ok (.invokevirtual 126, 3) := by decide +kernel
theorem dX2_passMillisecond_64 : decode cX2_passMillisecond 64 = .ok (.aload_n 0, 1) := by decide +kernel
theorem dX2_passMillisecond_65 : decode cX2_passMillisecond 65 = .ok (.getfield 25, 3) := by decide +kernel
theorem dX2_passMillisecond_68 : decode cX2_passMillisecond 68 = .ok (.invokevirtual 129, 3) := by decide +kernel
theorem dX2_passMillisecond_71 : decode cX2_passMillisecond 71 = .ok (.istore_n 3, 1) := by decide +kernel
theorem dX2_passMillisecond_72 : decode cX2_passMillisecond 72 = .ok (.iload_n 3, 1) := by decide +kernel
theorem dX2_passMillisecond_73 : decode cX2_passMillisecond 73 = .ok (.ifCond .eq 7, 3) := by decide +kernel
theorem dX2_passMillisecond_76 : decode cX2_passMillisecond 76 = .ok (.aload_n 0, 1) := by decide +kernel
theorem dX2_passMillisecond_77 : decode cX2_passMillisecond 77 = .ok (.invokevirtual 132, 3) := by decide +kernel
theorem dX2_passMillisecond_80 : decode cX2_passMillisecond 80 = .ok (.aload_n 0, 1) := by decide +kernel
theorem dX2_passMillisecond_81 : decode cX2_passMillisecond 81 = .ok (.getfield 48, 3) := by decide +kernel
theorem dX2_passMillisecond_84 : decode cX2_passMillisecond 84 = .ok (.ifCond .ne 7, 3) := by decide +kernel
theorem dX2_passMillisecond_87 : decode cX2_passMillisecond 87 = .ok (.aload_n 0, 1) := by decide +kernel
theorem dX2_passMillisecond_88 : decode cX2_passMillisecond 88 = .ok (.invokevirtual 135, 3) := by decide +kernel
theorem dX2_passMillisecond_91 : decode cX2_passMillisecond 91 = .ok (.aload_n 0, 1) := by decide +kernel
theorem dX2_passMillisecond_92 : decode cX2_passMillisecond 92 = .ok (.dup, 1) := by decide +kernel
theorem dX2_passMillisecond_93 : decode cX2_passMillisecond 93 = .ok (.getfield 52, 3) := by decide +kernel
theorem dX2_passMillisecond_96 : decode cX2_passMillisecond 96 = .ok (.iconst 1, 1) := by decide +kernel
theorem dX2_passMillisecond_97 : decode cX2_passMillisecond 97 = .ok (.iadd, 1) := by decide +kernel
theorem dX2_passMillisecond_98 : decode cX2_passMillisecond 98 = .ok (.putfield 52, 3) := by decide +kernel
theorem dX2_passMillisecond_101 : decode cX2_passMillisecond 101 = .ok (.iload_n 3, 1) := by decide +kernel
theorem dX2_passMillisecond_102 : decode cX2_passMillisecond 102 = .ok (.ireturn, 1) := by decide +kernel
theorem dX2_completedLevelOf_0 : decode cX2_completedLevelOf 0 = .ok (.iload_n 1, 1) := by decide +kernel
theorem dX2_completedLevelOf_1 : decode cX2_completedLevelOf 1 = .ok (.ifCond .lt 21, 3) := by decide +kernel
theorem dX2_completedLevelOf_4 : decode cX2_completedLevelOf 4 = .ok (.iload_n 1, 1) := by decide +kernel
theorem dX2_completedLevelOf_5 : decode cX2_completedLevelOf 5 = .ok (.aload_n 0, 1) := by decide +kernel
theorem dX2_completedLevelOf_6 : decode cX2_completedLevelOf 6 = .ok (.getfield 9, 3) := by decide +kernel
theorem dX2_completedLevelOf_9 : decode cX2_completedLevelOf 9 = .ok (.arraylength, 1) := by decide +kernel
theorem dX2_completedLevelOf_10 : decode cX2_completedLevelOf 10 = .ok (.if_icmp .ge 12, 3) := by decide +kernel
theorem dX2_completedLevelOf_13 : decode cX2_completedLevelOf 13 = .ok (.aload_n 0, 1) := by decide +kernel
theorem dX2_completedLevelOf_14 : decode cX2_completedLevelOf 14 = .ok (.getfield 9, 3) := by decide +kernel
theorem dX2_completedLevelOf_17 : decode cX2_completedLevelOf 17 = .ok (.iload_n 1, 1) := by decide +kernel
theorem dX2_completedLevelOf_18 : decode cX2_completedLevelOf 18 = .ok (.iaload, 1) := by decide +kernel
theorem dX2_completedLevelOf_19 : decode cX2_completedLevelOf 19 = .ok (.goto 5, 3) := by decide +kernel
theorem dX2_completedLevelOf_22 : decode cX2_completedLevelOf 22 = .ok (.bipush (-6), 2) := by decide +kernel
theorem dX2_completedLevelOf_24 : decode cX2_completedLevelOf 24 = .ok (.ireturn, 1) := by decide +kernel
theorem dX2_hasNextSegment_0 : decode cX2_hasNextSegment 0 = .ok (.aload_n 0, 1) := by decide +kernel
theorem dX2_hasNextSegment_1 : decode cX2_hasNextSegment 1 = .ok (.getfield 83, 3) := by decide +kernel
theorem dX2_hasNextSegment_4 : decode cX2_hasNextSegment 4 = .ok (.aload_n 0, 1) := by decide +kernel
theorem dX2_hasNextSegment_5 : decode cX2_hasNextSegment 5 = .ok (.getfield 29, 3) := by decide +kernel
theorem dX2_hasNextSegment_8 : decode cX2_hasNextSegment 8 = .ok (.getfield 138, 3) := by decide +kernel
theorem dX2_hasNextSegment_11 : decode cX2_hasNextSegment 11 = .ok (.if_icmp .ge 7, 3) := by decide +kernel
theorem dX2_hasNextSegment_14 : decode cX2_hasNextSegment 14 = .ok (.iconst 1, 1) := by decide +kernel
theorem dX2_hasNextSegment_15 : decode cX2_hasNextSegment 15 = .ok (.goto 4, 3) := by decide +kernel
theorem dX2_hasNextSegment_18 : decode cX2_hasNextSegment 18 = .ok (.iconst 0, 1) := by decide +kernel
theorem dX2_hasNextSegment_19 : decode cX2_hasNextSegment 19 = .ok (.ireturn, 1) := by decide +kernel
theorem dX2_canStartDownload_0 : decode cX2_canStartDownload 0 = .ok (.aload_n 0, 1) := by decide +kernel
theorem dX2_canStartDownload_1 : decode cX2_canStartDownload 1 = .ok (.getfield 25, 3) := by decide +kernel
theorem dX2_canStartDownload_4 : decode cX2_canStartDownload 4 = .ok (.getfield 117, 3) := by decide +kernel
theorem dX2_canStartDownload_7 : decode cX2_canStartDownload 7 = .ok (.ifCond .ne 36, 3) := by decide +kernel
theorem dX2_canStartDownload_10 : decode cX2_canStartDownload 10 = .ok (.aload_n 0, 1) := by decide +kernel
theorem dX2_canStartDownload_11 : decode cX2_canStartDownload 11 = .ok (.invokevirtual 141, 3) := by decide +kernel
theorem dX2_canStartDownload_14 : decode cX2_canStartDownload 14 = .ok (.ifCond .eq 29, 3) := by decide +kernel
theorem dX2_canStartDownload_17 : decode cX2_canStartDownload 17 = .ok (.aload_n 0, 1) := by decide +kernel
theorem dX2_canStartDownload_18 : decode cX2_canStartDownload 18 = .ok (.getfield 80, 3) := by decide +kernel
theorem dX2_canStartDownload_21 : decode cX2_canStartDownload 21 = .ok (.aload_n 0, 1) := by decide +kernel
theorem dX2_canStartDownload_22 : decode cX2_canStartDownload 22 = .ok (.getfield 29, 3) := by decide +kernel
theorem dX2_canStartDownload_25 : decode cX2_canStartDownload 25 = .ok (.getfield 86, 3) := by decide +kernel
theorem dX2_canStartDownload_28 : decode cX2_canStartDownload 28 = .ok (.iadd, 1) := by decide +kernel
theorem dX2_canStartDownload_29 : decode cX2_canStartDownload 29 = .ok (.aload_n 0, 1) := by decide +kernel
theorem dX2_canStartDownload_30 : decode cX2_canStartDownload 30 = .ok (.getfield 37, 3) := by decide +kernel
theorem dX2_canStartDownload_33 : decode cX2_canStartDownload 33 = .ok (.getfield 144, 3) := by decide +kernel
theorem dX2_canStartDownload_36 : decode cX2_canStartDownload 36 = .ok (.if_icmp .gt 7, 3) := by decide +kernel
theorem dX2_canStartDownload_39 : decode cX2_canStartDownload 39 = .ok (.iconst 1, 1) := by decide +kernel
theorem dX2_canStartDownload_40 : decode cX2_canStartDownload 40 = .ok (.goto 4, 3) := by decide +kernel
theorem dX2_canStartDownload_43 : decode cX2_canStartDownload 43 = .ok (.iconst 0, 1) := by decide +kernel
theorem dX2_canStartDownload_44 : decode cX2_canStartDownload 44 = .ok (.ireturn, 1) := by decide +kernel
theorem dX2_completeSegment_0 : decode cX2_completeSegment 0 = .ok (.aload_n 0, 1) := by decide +kernel
theorem dX2_completeSegment_1 : decode cX2_completeSegment 1 = .ok (.getfield 25, 3) := by decide +kernel
theorem dX2_completeSegment_4 : decode cX2_completeSegment 4 = .ok (.getfield 149, 3) := by decide +kernel
theorem dX2_completeSegment_7 : decode cX2_completeSegment 7 = .ok (.istore_n 1, 1) := by decide +kernel
theorem dX2_completeSegment_8 : decode cX2_completeSegment 8 = .ok (.aload_n 0, 1) := by decide +kernel
theorem dX2_completeSegment_9 : decode cX2_completeSegment 9 = .ok (.getfield 25, 3) := by decide +kernel
theorem dX2_completeSegment_12 : decode cX2_completeSegment 12 = .ok (.invokevirtual 74, 3) := by decide +kernel
theorem dX2_completeSegment_15 : decode cX2_completeSegment 15 = .ok (.aload_n 0, 1) := by decide +kernel
theorem dX2_completeSegment_16 : decode cX2_completeSegment 16 = .ok (.getfield 18, 3) := by decide +kernel
theorem dX2_completeSegment_19 : decode cX2_completeSegment 19 = .ok (.aload_n 0, 1) := by decide +kernel
theorem dX2_completeSegment_20 : decode cX2_completeSegment 20 = .ok (.getfield 25, 3) := by decide +kernel
theorem dX2_completeSegment_23 : decode cX2_completeSegment 23 = .ok (.invokevirtual 152, 3) := by decide +kernel
theorem dX2_completeSegment_26 : decode cX2_completeSegment 26 = .ok (.invokevirtual 156, 3) := by decide +kernel
theorem dX2_completeSegment_29 : decode cX2_completeSegment 29 = .ok (.aload_n 0, 1) := by decide +kernel
theorem dX2_completeSegment_30 : decode cX2_completeSegment 30 = .ok (.dup, 1) := by decide +kernel
theorem dX2_completeSegment_31 : decode cX2_completeSegment 31 = .ok (.getfield 80, 3) := by decide +kernel
theorem dX2_completeSegment_34 : decode cX2_completeSegment 34 = .ok (.aload_n 0, 1) := by decide +kernel
theorem dX2_completeSegment_35 : decode cX2_completeSegment 35 = .ok (.getfield 29, 3) := by decide +kernel
theorem dX2_completeSegment_38 : decode cX2_completeSegment 38 = .ok (.getfield 86, 3) := by decide +kernel
theorem dX2_completeSegment_41 : decode cX2_completeSegment 41 = .ok (.iadd, 1) := by decide +kernel
theorem dX2_completeSegment_42 : decode cX2_completeSegment 42 = .ok (.putfield 80, 3) := by decide +kernel
theorem dX2_completeSegment_45 : decode cX2_completeSegment 45 = .ok (.aload_n 0, 1) := by decide +kernel
theorem dX2_completeSegment_46 : decode cX2_completeSegment 46 = .ok (.dup, 1) := by decide +kernel
theorem dX2_completeSegment_47 : decode cX2_completeSegment 47 = .ok (.getfield 68, 3) := by decide +kernel
theorem dX2_completeSegment_50 : decode cX2_completeSegment 50 = .ok (.aload_n 0, 1) := by decide +kernel
theorem dX2_completeSegment_51 : decode cX2_completeSegment 51 = .ok (.getfield 29, 3) := by decide +kernel
theorem dX2_completeSegment_54 : decode cX2_completeSegment 54 = .ok (.iload_n 1, 1) := by decide +kernel
theorem dX2_completeSegment_55 : decode cX2_completeSegment 55 = .ok (.invokevirtual 159, 3) := by decide +kernel
theorem dX2_completeSegment_58 : decode cX2_completeSegment 58 = .ok (.iadd, 1) := by decide +kernel
theorem dX2_completeSegment_59 : decode cX2_completeSegment 59 = .ok (.putfield 68, 3) := by decide +kernel
theorem dX2_completeSegment_62 : decode cX2_completeSegment 62 = .ok (.aload_n 0, 1) := by decide +kernel
theorem dX2_completeSegment_63 : decode cX2_completeSegment 63 = .ok (.getfield 71, 3) := by decide +kernel
theorem dX2_completeSegment_66 : decode cX2_completeSegment 66 = .ok (.bipush (-6), 2) := by decide +kernel
theorem dX2_completeSegment_68 : decode cX2_completeSegment 68 = .ok (.if_icmp .eq 21, 3) := by decide +kernel
theorem dX2_completeSegment_71 : decode cX2_completeSegment 71 = .ok (.aload_n 0, 1) := by decide +kernel
theorem dX2_completeSegment_72 : decode cX2_completeSegment 72 = .ok (.getfield 71, 3) := by decide +kernel
theorem dX2_completeSegment_75 : decode cX2_completeSegment 75 = .ok (.iload_n 1, 1) := by decide +kernel
theorem dX2_completeSegment_76 : decode cX2_completeSegment 76 = .ok (.if_icmp .eq 13, 3) := by decide +kernel
theorem dX2_completeSegment_79 : decode cX2_completeSegment 79 = .ok (.aload_n 0, 1) := by decide +kernel
theorem dX2_completeSegment_80 : decode cX2_completeSegment 80 = .ok (.dup, 1) := by decide +kernel
theorem dX2_completeSegment_81 : decode cX2_completeSegment 81 = .ok (.getfield 56, 3) := by decide +kernel
theorem dX2_completeSegment_84 : decode cX2_completeSegment 84 = .ok (.iconst 1, 1) := by decide +kernel
theorem dX2_completeSegment_85 : decode cX2_completeSegment 85 = .ok (.iadd, 1) := by decide +kernel
theorem dX2_completeSegment_86 : decode cX2_completeSegment 86 = .ok (.putfield 56, 3) := by decide +kernel
theorem dX2_completeSegment_89 : decode cX2_completeSegment 89 = .ok (.aload_n 0, 1) := by decide +kernel
theorem dX2_completeSegment_90 : decode cX2_completeSegment 90 = .ok (.iload_n 1, 1) := by decide +kernel
theorem dX2_completeSegment_91 : decode cX2_completeSegment 91 = .ok (.putfield 71, 3) := by decide +kernel
theorem dX2_completeSegment_94 : decode cX2_completeSegment 94 = .ok (.aload_n 0, 1) := by decide +kernel
theorem dX2_completeSegment_95 : decode cX2_completeSegment 95 = .ok (.getfield 83, 3) := by decide +kernel
theorem dX2_completeSegment_98 : decode cX2_completeSegment 98 = .ok (.ifCond .lt 25, 3) := by decide +kernel
theorem dX2_completeSegment_101 : decode cX2_completeSegment 101 = .ok (.aload_n 0, 1) := by decide +kernel
theorem dX2_completeSegment_102 : decode cX2_completeSegment 102 = .ok (.getfield 83, 3) := by decide +kernel
theorem dX2_completeSegment_105 : decode cX2_completeSegment 105 = .ok (.aload_n 0, 1) := by decide +kernel
theorem dX2_completeSegment_106 : decode cX2_completeSegment 106 = .ok (.getfield 9, 3) := by decide +kernel
theorem dX2_completeSegment_109 : decode cX2_completeSegment 109 = .ok (.arraylength, 1) := by decide +kernel
theorem dX2_completeSegment_110 : decode cX2_completeSegment 110 = .ok (.if_icmp .ge 13, 3) := by decide +kernel
theorem dX2_completeSegment_113 : decode cX2_completeSegment 113 = .ok (.aload_n 0, 1) := by decide +kernel
theorem dX2_completeSegment_114 : decode cX2_completeSegment 114 = .ok (.getfield 9, 3) := by decide +kernel
theorem dX2_completeSegment_117 : decode cX2_completeSegment 117 = .ok (.aload_n 0, 1) := by decide +kernel
theorem dX2_completeSegment_118 : decode cX2_completeSegment 118 = .ok (.getfield 83, 3) := by decide +kernel
theorem dX2_completeSegment_121 : decode cX2_completeSegment 121 = .ok (.iload_n 1, 1) := by decide +kernel
theorem dX2_completeSegment_122 : decode cX2_completeSegment 122 = .ok (.iastore, 1) := by decide +kernel
theorem dX2_completeSegment_123 : decode cX2_completeSegment 123 = .ok (.aload_n 0, 1) := by decide +kernel
theorem dX2_completeSegment_124 : decode cX2_completeSegment 124 = .ok (.dup, 1) := by decide +kernel
theorem dX2_completeSegment_125 : decode cX2_completeSegment 125 = .ok (.getfield 83, 3) := by decide +kernel
theorem dX2_completeSegment_128 : decode cX2_completeSegment 128 = .ok (.iconst 1, 1) := by decide +kernel
theorem dX2_completeSegment_129 : decode cX2_completeSegment 129 = .ok (.iadd, 1) := by decide +kernel
theorem dX2_completeSegment_130 : decode cX2_completeSegment 130 = .ok (.putfield 83, 3) := by decide +kernel
theorem dX2_completeSegment_133 : decode cX2_completeSegment 133 = .ok (.return_, 1) := by decide +kernel
theorem dX2_play_0 : decode cX2_play 0 = .ok (.aload_n 0, 1) := by decide +kernel
theorem dX2_play_1 : decode cX2_play 1 = .ok (.getfield 94, 3) := by decide +kernel
theorem dX2_play_4 : decode cX2_play 4 = .ok (.tableswitch 69 0 2 #[28, 62, 45], 28) := by decide +kernel
theorem dX2_play_32 : decode cX2_play 32 = .ok (.aload_n 0, 1) := by decide +kernel
theorem dX2_play_33 : decode cX2_play 33 = .ok (.dup, 1) := by decide +kernel
theorem dX2_play_34 : decode cX2_play 34 = .ok (.getfield 65, 3) := by decide +kernel
theorem dX2_play_37 : decode cX2_play 37 = .ok (.iconst 1, 1) := by decide +kernel
theorem dX2_play_38 : decode cX2_play 38 = .ok (.iadd, 1) := by decide +kernel
theorem dX2_play_39 : decode cX2_play 39 = .ok (.putfield 65, 3) := by decide +kernel
theorem dX2_play_42 : decode cX2_play 42 = .ok (.aload_n 0, 1) := by decide +kernel
theorem dX2_play_43 : decode cX2_play 43 = .ok (.invokevirtual 162, 3) := by decide +kernel
theorem dX2_play_46 : decode cX2_play 46 = .ok (.goto 27, 3) := by decide +kernel
theorem dX2_play_49 : decode cX2_play 49 = .ok (.aload_n 0, 1) := by decide +kernel
theorem dX2_play_50 : decode cX2_play 50 = .ok (.dup, 1) := by decide +kernel
theorem dX2_play_51 : decode cX2_play 51 = .ok (.getfield 62, 3) := by decide +kernel
theorem dX2_play_54 : decode cX2_play 54 = .ok (.iconst 1, 1) := by decide +kernel
theorem dX2_play_55 : decode cX2_play 55 = .ok (.iadd, 1) := by decide +kernel
theorem dX2_play_56 : decode cX2_play 56 = .ok (.putfield 62, 3) := by decide +kernel
theorem dX2_play_59 : decode cX2_play 59 = .ok (.aload_n 0, 1) := by decide +kernel
theorem dX2_play_60 : decode cX2_play 60 = .ok (.invokevirtual 162, 3) := by decide +kernel
theorem dX2_play_63 : decode cX2_play 63 = .ok (.goto 10, 3) := by decide +kernel
theorem dX2_play_66 : decode cX2_play 66 = .ok (.aload_n 0, 1) := by decide +kernel
theorem dX2_play_67 : decode cX2_play 67 = .ok (.invokevirtual 165, 3) := by decide +kernel
theorem dX2_play_70 : decode cX2_play 70 = .ok (.goto 3, 3) := by decide +kernel
theorem dX2_play_73 : decode cX2_play 73 = .ok (.return_, 1) := by decide +kernel
theorem dX2_playIfReady_0 : decode cX2_playIfReady 0 = .ok (.aload_n 0, 1) := by decide +kernel
theorem dX2_playIfReady_1 : decode cX2_playIfReady 1 = .ok (.getfield 80, 3) := by decide +kernel
theorem dX2_playIfReady_4 : decode cX2_playIfReady 4 = .ok (.aload_n 0, 1) := by decide +kernel
theorem dX2_playIfReady_5 : decode cX2_playIfReady 5 = .ok (.getfield 37, 3) := by decide +kernel
theorem dX2_playIfReady_8 : decode cX2_playIfReady 8 = .ok (.getfield 168, 3) := by decide +kernel
theorem dX2_playIfReady_11 : decode cX2_playIfReady 11 = .ok (.if_icmp .ge 17, 3) := by decide +kernel
theorem dX2_playIfReady_14 : decode cX2_playIfReady 14 = .ok (.aload_n 0, 1) := by decide +kernel
theorem dX2_playIfReady_15 : decode cX2_playIfReady 15 = .ok (.invokevirtual 141, 3) := by decide +kernel
theorem dX2_playIfReady_18 : decode cX2_playIfReady 18 = .ok (.ifCond .ne 15, 3) := by decide +kernel
theorem dX2_playIfReady_21 : decode cX2_playIfReady 21 = .ok (.aload_n 0, 1) := by decide +kernel
theorem dX2_playIfReady_22 : decode cX2_playIfReady 22 = .ok (.getfield 80, 3) := by decide +kernel
theorem dX2_playIfReady_25 : decode cX2_playIfReady 25 = .ok (.ifCond .le 8, 3) := by decide +kernel
theorem dX2_playIfReady_28 : decode cX2_playIfReady 28 = .ok (.aload_n 0, 1) := by decide +kernel
theorem dX2_playIfReady_29 : decode cX2_playIfReady 29 = .ok (.iconst 1, 1) := by decide +kernel
theorem dX2_playIfReady_30 : decode cX2_playIfReady 30 = .ok (.putfield 94, 3) := by decide +kernel
theorem dX2_playIfReady_33 : decode cX2_playIfReady 33 = .ok (.return_, 1) := by decide +kernel
theorem dX2_playMillisecond_0 : decode cX2_playMillisecond 0 = .ok (.aload_n 0, 1) := by decide +kernel
theorem dX2_playMillisecond_1 : decode cX2_playMillisecond 1 = .ok (.dup, 1) := by decide +kernel
theorem dX2_playMillisecond_2 : decode cX2_playMillisecond 2 = .ok (.getfield 80, 3) := by decide +kernel
theorem dX2_playMillisecond_5 : decode cX2_playMillisecond 5 = .ok (.iconst 1, 1) := by decide +kernel
theorem dX2_playMillisecond_6 : decode cX2_playMillisecond 6 = .ok (.isub, 1) := by decide +kernel
theorem dX2_playMillisecond_7 : decode cX2_playMillisecond 7 = .ok (.putfield 80, 3) := by decide +kernel
theorem dX2_playMillisecond_10 : decode cX2_playMillisecond 10 = .ok (.aload_n 0, 1) := by decide +kernel
theorem dX2_playMillisecond_11 : decode cX2_playMillisecond 11 = .ok (.dup, 1) := by decide +kernel
theorem dX2_playMillisecond_12 : decode cX2_playMillisecond 12 = .ok (.getfield 91, 3) := by decide +kernel
theorem dX2_playMillisecond_15 : decode cX2_playMillisecond 15 = .ok (.iconst 1, 1) := by decide +kernel
theorem dX2_playMillisecond_16 : decode cX2_playMillisecond 16 = .ok (.iadd, 1) := by decide +kernel
theorem dX2_playMillisecond_17 : decode cX2_playMillisecond 17 = .ok (.putfield 91, 3) := by decide +kernel
theorem dX2_playMillisecond_20 : decode cX2_playMillisecond 20 = .ok (.aload_n 0, 1) := by decide +kernel
theorem dX2_playMillisecond_21 : decode cX2_playMillisecond 21 = .ok (.getfield 80, 3) := by decide +kernel
theorem dX2_playMillisecond_24 : decode cX2_playMillisecond 24 = .ok (.ifCond .le 4, 3) := by decide +kernel
theorem dX2_playMillisecond_27 : decode cX2_playMillisecond 27 = .ok (.return_, 1) := by decide +kernel
theorem dX2_playMillisecond_28 : decode cX2_playMillisecond 28 = .ok (.aload_n 0, 1) := by decide +kernel
theorem dX2_playMillisecond_29 : decode cX2_playMillisecond 29 = .ok (.invokevirtual 141, 3) := by decide +kernel
theorem dX2_playMillisecond_32 : decode cX2_playMillisecond 32 = .ok (.ifCond .eq 21, 3) := by decide +kernel
theorem dX2_playMillisecond_35 : decode cX2_playMillisecond 35 = .ok (.aload_n 0, 1) := by decide +kernel
theorem dX2_playMillisecond_36 : decode cX2_playMillisecond 36 = .ok (.iconst 2, 1) := by decide +kernel
theorem dX2_playMillisecond_37 : decode cX2_playMillisecond 37 = .ok (.putfield 94, 3) := by decide +kernel
theorem dX2_playMillisecond_40 : decode cX2_playMillisecond 40 = .ok (.aload_n 0, 1) := by decide +kernel
theorem dX2_playMillisecond_41 : decode cX2_playMillisecond 41 = .ok (.dup, 1) := by decide +kernel
theorem dX2_playMillisecond_42 : decode cX2_playMillisecond 42 = .ok (.getfield 59, 3) := by decide +kernel
theorem dX2_playMillisecond_45 : decode cX2_playMillisecond 45 = .ok (.iconst 1, 1) := by decide +kernel
theorem dX2_playMillisecond_46 : decode cX2_playMillisecond 46 = .ok (.iadd, 1) := by decide +kernel
theorem dX2_playMillisecond_47 : decode cX2_playMillisecond 47 = .ok (.putfield 59, 3) := by decide +kernel
theorem dX2_playMillisecond_50 : decode cX2_playMillisecond 50 = .ok (.goto 8, 3) := by decide +kernel
theorem dX2_playMillisecond_53 : decode cX2_playMillisecond 53 = .ok (.aload_n 0, 1) := by decide +kernel
theorem dX2_playMillisecond_54 : decode cX2_playMillisecond 54 = .ok (.iconst 3, 1) := by decide +kernel
theorem dX2_playMillisecond_55 : decode cX2_playMillisecond 55 = .ok (.putfield 94, 3) := by decide +kernel
theorem dX2_playMillisecond_58 : decode cX2_playMillisecond 58 = .ok (.return_, 1) := by decide +kernel
theorem dX2_chooseLevel_0 : decode cX2_chooseLevel 0 = .ok (.iload_n 2, 1) := by decide +kernel
theorem dX2_chooseLevel_1 : decode cX2_chooseLevel 1 = .ok (.aload_n 0, 1) := by decide +kernel
theorem dX2_chooseLevel_2 : decode cX2_chooseLevel 2 = .ok (.getfield 29, 3) := by decide +kernel
theorem dX2_chooseLevel_5 : decode cX2_chooseLevel 5 = .ok (.getfield 171, 3) := by decide +kernel
theorem dX2_chooseLevel_8 : decode cX2_chooseLevel 8 = .ok (.iconst 1, 1) := by decide +kernel
theorem dX2_chooseLevel_9 : decode cX2_chooseLevel 9 = .ok (.isub, 1) := by decide +kernel
theorem dX2_chooseLevel_10 : decode cX2_chooseLevel 10 = .ok (.invokestatic 174, 3) := by decide +kernel
theorem dX2_chooseLevel_13 : decode cX2_chooseLevel 13 = .ok (.istore_n 3, 1) := by decide +kernel
theorem dX2_chooseLevel_14 : decode cX2_chooseLevel 14 = .ok (.iload_n 1, 1) := by decide +kernel
theorem dX2_chooseLevel_15 : decode cX2_chooseLevel 15 = .ok (.tableswitch 43 1 3 #[25, 31, 37], 25) := by decide +kernel
theorem dX2_chooseLevel_40 : decode cX2_chooseLevel 40 = .ok (.aload_n 0, 1) := by decide +kernel
theorem dX2_chooseLevel_41 : decode cX2_chooseLevel 41 = .ok (.iload_n 3, 1) := by decide +kernel
theorem dX2_chooseLevel_42 : decode cX2_chooseLevel 42 = .ok (.invokevirtual 179, 3) := by decide +kernel
theorem dX2_chooseLevel_45 : decode cX2_chooseLevel 45 = .ok (.ireturn, 1) := by decide +kernel
theorem dX2_chooseLevel_46 : decode cX2_chooseLevel 46 = .ok (.aload_n 0, 1) := by decide +kernel
theorem dX2_chooseLevel_47 : decode cX2_chooseLevel 47 = .ok (.iload_n 3, 1) := by decide +kernel
theorem dX2_chooseLevel_48 : decode cX2_chooseLevel 48 = .ok (.invokevirtual 182, 3) := by decide +kernel
theorem dX2_chooseLevel_51 : decode cX2_chooseLevel 51 = .ok (.ireturn, 1) := by decide +kernel
theorem dX2_chooseLevel_52 : decode cX2_chooseLevel 52 = .ok (.aload_n 0, 1) := by decide +kernel
theorem dX2_chooseLevel_53 : decode cX2_chooseLevel 53 = .ok (.iload_n 3, 1) := by decide +kernel
theorem dX2_chooseLevel_54 : decode cX2_chooseLevel 54 = .ok (.invokevirtual 185, 3) := by decide +kernel
theorem dX2_chooseLevel_57 : decode cX2_chooseLevel 57 = .ok (.ireturn, 1) := by decide +kernel
theorem dX2_chooseLevel_58 : decode cX2_chooseLevel 58 = .ok (.iload_n 3, 1) := by decide +kernel
theorem dX2_chooseLevel_59 : decode cX2_chooseLevel 59 = .ok (.ireturn, 1) := by decide +kernel
theorem dX2_levelByRate_0 : decode cX2_levelByRate 0 = .ok (.aload_n 0, 1) := by decide +kernel
theorem dX2_levelByRate_1 : decode cX2_levelByRate 1 = .ok (.getfield 18, 3) := by decide +kernel
theorem dX2_levelByRate_4 : decode cX2_levelByRate 4 = .ok (.invokevirtual 188, 3) := by decide +kernel
theorem dX2_levelByRate_7 : decode cX2_levelByRate 7 = .ok (.istore_n 2, 1) := by decide +kernel
theorem dX2_levelByRate_8 : decode cX2_levelByRate 8 = .ok (.iload_n 2, 1) := by decide +kernel
theorem dX2_levelByRate_9 : decode cX2_levelByRate 9 = .ok (.bipush (-6), 2) := by decide +kernel
theorem dX2_levelByRate_11 : decode cX2_levelByRate 11 = .ok (.if_icmp .ne 5, 3) := by decide +kernel
theorem dX2_levelByRate_14 : decode cX2_levelByRate 14 = .ok (.iconst 0, 1) := by decide +kernel
theorem dX2_levelByRate_15 : decode cX2_levelByRate 15 = .ok (.ireturn, 1) := by decide +kernel
theorem dX2_levelByRate_16 : decode cX2_levelByRate 16 = .ok (.aload_n 0, 1) := by decide +kernel
theorem dX2_levelByRate_17 : decode cX2_levelByRate 17 = .ok (.getfield 29, 3) := by decide +kernel
theorem dX2_levelByRate_20 : decode cX2_levelByRate 20 = .ok (.iload_n 2, 1) := by decide +kernel
theorem dX2_levelByRate_21 : decode cX2_levelByRate 21 = .ok (.aload_n 0, 1) := by decide +kernel
theorem dX2_levelByRate_22 : decode cX2_levelByRate 22 = .ok (.getfield 37, 3) := by decide +kernel
theorem dX2_levelByRate_25 : decode cX2_levelByRate 25 = .ok (.getfield 191, 3) := by decide +kernel
theorem dX2_levelByRate_28 : decode cX2_levelByRate 28 = .ok (.imul, 1) := by decide +kernel
theorem dX2_levelByRate_29 : decode cX2_levelByRate 29 = .ok (.bipush 100, 2) := by decide +kernel
theorem dX2_levelByRate_31 : decode cX2_levelByRate 31 = .ok (.idiv, 1) := by decide +kernel
theorem dX2_levelByRate_32 : decode cX2_levelByRate 32 = .ok (.iload_n 1, 1) := by decide +kernel
theorem dX2_levelByRate_33 : decode cX2_levelByRate 33 = .ok (.invokevirtual 194, 3) := by decide +kernel
theorem dX2_levelByRate_36 : decode cX2_levelByRate 36 = .ok (.ireturn, 1) := by decide +kernel
theorem dX2_levelByBuffer_0 : decode cX2_levelByBuffer 0 = .ok (.aload_n 0, 1) := by decide +kernel
theorem dX2_levelByBuffer_1 : decode cX2_levelByBuffer 1 = .ok (.getfield 80, 3) := by decide +kernel
theorem dX2_levelByBuffer_4 : decode cX2_levelByBuffer 4 = .ok (.aload_n 0, 1) := by decide +kernel
theorem dX2_levelByBuffer_5 : decode cX2_levelByBuffer 5 = .ok (.getfield 37, 3) := by decide +kernel
theorem dX2_levelByBuffer_8 : decode cX2_levelByBuffer 8 = .ok (.getfield 197, 3) := by decide +kernel
theorem dX2_levelByBuffer_11 : decode cX2_levelByBuffer 11 = .ok (.isub, 1) := by decide +kernel
theorem dX2_levelByBuffer_12 : decode cX2_levelByBuffer 12 = .ok (.istore_n 2, 1) := by decide +kernel
theorem dX2_levelByBuffer_13 : decode cX2_levelByBuffer 13 = .ok (.iload_n 2, 1) := by decide +kernel
theorem dX2_levelByBuffer_14 : decode cX2_levelByBuffer 14 = .ok (.ifCond .gt 5, 3) := by decide +kernel
theorem dX2_levelByBuffer_17 : decode cX2_levelByBuffer 17 = .ok (.iconst 0, 1) := by decide +kernel
theorem dX2_levelByBuffer_18 : decode cX2_levelByBuffer 18 = .ok (.ireturn, 1) := by decide +kernel
theorem dX2_levelByBuffer_19 : decode cX2_levelByBuffer 19 = .ok (.iload_n 2, 1) := by decide +kernel
theorem dX2_levelByBuffer_20 : decode cX2_levelByBuffer 20 = .ok (.aload_n 0, 1) := by decide +kernel
theorem dX2_levelByBuffer_21 : decode cX2_levelByBuffer 21 = .ok (.getfield 37, 3) := by decide +kernel
theorem dX2_levelByBuffer_24 : decode cX2_levelByBuffer 24 = .ok (.getfield 200, 3) := by decide +kernel
theorem dX2_levelByBuffer_27 : decode cX2_levelByBuffer 27 = .ok (.if_icmp .lt 5, 3) := by decide +kernel
theorem dX2_levelByBuffer_30 : decode cX2_levelByBuffer 30 = .ok (.iload_n 1, 1) := by decide +kernel
theorem dX2_levelByBuffer_31 : decode cX2_levelByBuffer 31 = .ok (.ireturn, 1) := by decide +kernel
theorem dX2_levelByBuffer_32 : decode cX2_levelByBuffer 32 = .ok (.iload_n 2, 1) := by decide +kernel
theorem dX2_levelByBuffer_33 : decode cX2_levelByBuffer 33 = .ok (.iload_n 1, 1) := by decide +kernel
theorem dX2_levelByBuffer_34 : decode cX2_levelByBuffer 34 = .ok (.imul, 1) := by decide +kernel
theorem dX2_levelByBuffer_35 : decode cX2_levelByBuffer 35 = .ok (.aload_n 0, 1) := by decide +kernel
theorem dX2_levelByBuffer_36 : decode cX2_levelByBuffer 36 = .ok (.getfield 37, 3) := by decide +kernel
theorem dX2_levelByBuffer_39 : decode cX2_levelByBuffer 39 = .ok (.getfield 200, 3) := by decide +kernel
theorem dX2_levelByBuffer_42 : decode cX2_levelByBuffer 42 = .ok (.idiv, 1) := by decide +kernel
theorem dX2_levelByBuffer_43 : decode cX2_levelByBuffer 43 = .ok (.ireturn, 1) := by decide +kernel
theorem dX2_levelByBoth_0 : decode cX2_levelByBoth 0 = .ok (.aload_n 0, 1) := by decide +kernel
theorem dX2_levelByBoth_1 : decode cX2_levelByBoth 1 = .ok (.iload_n 1, 1) := by decide +kernel
theorem dX2_levelByBoth_2 : decode cX2_levelByBoth 2 = .ok (.invokevirtual 179, 3) := by decide +kernel
theorem dX2_levelByBoth_5 : decode cX2_levelByBoth 5 = .ok (.aload_n 0, 1) := by decide +kernel
theorem dX2_levelByBoth_6 : decode cX2_levelByBoth 6 = .ok (.iload_n 1, 1) := by decide +kernel
theorem dX2_levelByBoth_7 : decode cX2_levelByBoth 7 = .ok (.invokevirtual 182, 3) := by decide +kernel
theorem dX2_levelByBoth_10 : decode cX2_levelByBoth 10 = .ok (.invokestatic 174, 3) := by decide +kernel
theorem dX2_levelByBoth_13 : decode cX2_levelByBoth 13 = .ok (.istore_n 2, 1) := by decide +kernel
theorem dX2_levelByBoth_14 : decode cX2_levelByBoth 14 = .ok (.aload_n 0, 1) := by decide +kernel
theorem dX2_levelByBoth_15 : decode cX2_levelByBoth 15 = .ok (.getfield 71, 3) := by decide +kernel
theorem dX2_levelByBoth_18 : decode cX2_levelByBoth 18 = .ok (.bipush (-6), 2) := by decide +kernel
theorem dX2_levelByBoth_20 : decode cX2_levelByBoth 20 = .ok (.if_icmp .ne 7, 3) := by decide +kernel
theorem dX2_levelByBoth_23 : decode cX2_levelByBoth 23 = .ok (.iload_n 2, 1) := by decide +kernel
theorem dX2_levelByBoth_24 : decode cX2_levelByBoth 24 = .ok (.goto 13, 3) := by decide +kernel
theorem dX2_levelByBoth_27 : decode cX2_levelByBoth 27 = .ok (.iload_n 2, 1) := by decide +kernel
theorem dX2_levelByBoth_28 : decode cX2_levelByBoth 28 = .ok (.aload_n 0, 1) := by decide +kernel
theorem dX2_levelByBoth_29 : decode cX2_levelByBoth 29 = .ok (.getfield 71, 3) := by decide +kernel
theorem dX2_levelByBoth_32 : decode cX2_levelByBoth 32 = .ok (.iconst 1, 1) := by decide +kernel
theorem dX2_levelByBoth_33 : decode cX2_levelByBoth 33 = .ok (.iadd, 1) := by decide +kernel
theorem dX2_levelByBoth_34 : decode cX2_levelByBoth 34 = .ok (.invokestatic 174, 3) := by decide +kernel
theorem dX2_levelByBoth_37 : decode cX2_levelByBoth 37 = .ok (.ireturn, 1) := by decide +kernel
theorem dX3_init_0 : decode cX3_init 0 = .ok (.aload_n 0, 1) := by decide +kernel
theorem dX3_init_1 : decode cX3_init 1 = .ok (.invokespecial 1, 3) := by decide +kernel
theorem dX3_init_4 : decode cX3_init 4 = .ok (.aload_n 0, 1) := by decide +kernel
theorem dX3_init_5 : decode cX3_init 5 = .ok (.sipush 20000, 3) := by decide +kernel
theorem dX3_init_8 : decode cX3_init 8 = .ok (.putfield 7, 3) := by decide +kernel
theorem dX3_init_11 : decode cX3_init 11 = .ok (.aload_n 0, 1) := by decide +kernel
theorem dX3_init_12 : decode cX3_init 12 = .ok (.sipush 2000, 3) := by decide +kernel
theorem dX3_init_15 : decode cX3_init 15 = .ok (.putfield 13, 3) := by decide +kernel
theorem dX3_init_18 : decode cX3_init 18 = .ok (.aload_n 0, 1) := by decide +kernel
theorem dX3_init_19 : decode cX3_init 19 = .ok (.bipush 80, 2) := by decide +kernel
theorem dX3_init_21 : decode cX3_init 21 = .ok (.putfield 16, 3) := by decide +kernel
theorem dX3_init_24 : decode cX3_init 24 = .ok (.aload_n 0, 1) := by decide +kernel
theorem dX3_init_25 : decode cX3_init 25 = .ok (.sipush 4000, 3) := by decide +kernel
theorem dX3_init_28 : decode cX3_init 28 = .ok (.putfield 19, 3) := by decide +kernel
theorem dX3_init_31 : decode cX3_init 31 = .ok (.aload_n 0, 1) := by decide +kernel
theorem dX3_init_32 : decode cX3_init 32 = .ok (.sipush 8000, 3) := by decide +kernel
theorem dX3_init_35 : decode cX3_init 35 = .ok (.putfield 22, 3) := by decide +kernel
theorem dX3_init_38 : decode cX3_init 38 = .ok (.return_, 1) := by decide +kernel
theorem dX3_changeBuffer_0 : decode cX3_changeBuffer 0 = .ok (.aload_n 0, 1) := by decide +kernel
theorem dX3_changeBuffer_1 : decode cX3_changeBuffer 1 = .ok (.getfield 7, 3) := by decide +kernel
theorem dX3_changeBuffer_4 : decode cX3_changeBuffer 4 = .ok (.iload_n 1, 1) := by decide +kernel
theorem dX3_changeBuffer_5 : decode cX3_changeBuffer 5 = .ok (.if_icmp .ne 11, 3) := by decide +kernel
theorem dX3_changeBuffer_8 : decode cX3_changeBuffer 8 = .ok (.aload_n 0, 1) := by decide +kernel
theorem dX3_changeBuffer_9 : decode cX3_changeBuffer 9 = .ok (.getfield 13, 3) := by decide +kernel
theorem dX3_changeBuffer_12 : decode cX3_changeBuffer 12 = .ok (.iload_n 2, 1) := by decide +kernel
theorem dX3_changeBuffer_13 : decode cX3_changeBuffer 13 = .ok (.if_icmp .eq 7, 3) := by decide +kernel
theorem dX3_changeBuffer_16 : decode cX3_changeBuffer 16 = .ok (.iconst 1, 1) := by decide +kernel
theorem dX3_changeBuffer_17 : decode cX3_changeBuffer 17 = .ok (.goto 4, 3) := by decide +kernel
theorem dX3_changeBuffer_20 : decode cX3_changeBuffer 20 = .ok (.iconst 0, 1) := by decide +kernel
theorem dX3_changeBuffer_21 : decode cX3_changeBuffer 21 = .ok (.istore_n 3, 1) := by decide +kernel
theorem dX3_changeBuffer_22 : decode cX3_changeBuffer 22 = .ok (.aload_n 0, 1) := by decide +kernel
theorem dX3_changeBuffer_23 : decode cX3_changeBuffer 23 = .ok (.iload_n 1, 1) := by decide +kernel
theorem dX3_changeBuffer_24 : decode cX3_changeBuffer 24 = .ok (.putfield 7, 3) := by decide +kernel
theorem dX3_changeBuffer_27 : decode cX3_changeBuffer 27 = .ok (.aload_n 0, 1) := by decide +kernel
theorem dX3_changeBuffer_28 : decode cX3_changeBuffer 28 = .ok (.iload_n 2, 1) := by decide +kernel
theorem dX3_changeBuffer_29 : decode cX3_changeBuffer 29 = .ok (.putfield 13, 3) := by decide +kernel
theorem dX3_changeBuffer_32 : decode cX3_changeBuffer 32 = .ok (.iload_n 3, 1) := by decide +kernel
theorem dX3_changeBuffer_33 : decode cX3_changeBuffer 33 = .ok (.ireturn, 1) := by decide +kernel
theorem dX3_changePolicyNumbers_0 : decode cX3_changePolicyNumbers 0 = .ok (.aload_n 0, 1) := by decide +kernel
theorem dX3_changePolicyNumbers_1 : decode cX3_changePolicyNumbers 1 = .ok (.getfield 16, 3) := by decide +kernel
theorem dX3_changePolicyNumbers_4 : decode cX3_changePolicyNumbers 4 = .ok (.iload_n 1, 1) := by decide +kernel
theorem dX3_changePolicyNumbers_5 : decode cX3_changePolicyNumbers 5 = .ok (.if_icmp .ne 19, 3) := by decide +kernel
theorem dX3_changePolicyNumbers_8 : decode cX3_changePolicyNumbers 8 = .ok (.aload_n 0, 1) := by decide +kernel
theorem dX3_changePolicyNumbers_9 : decode cX3_changePolicyNumbers 9 = .ok (.getfield 19, 3) := by decide +kernel
theorem dX3_changePolicyNumbers_12 : decode cX3_changePolicyNumbers 12 = .ok (.iload_n 2, 1) := by decide +kernel
theorem dX3_changePolicyNumbers_13 : decode cX3_changePolicyNumbers 13 = .ok (.if_icmp .ne 11, 3) := by decide +kernel
theorem dX3_changePolicyNumbers_16 : decode cX3_changePolicyNumbers 16 = .ok (.aload_n 0, 1) := by decide +kernel
theorem dX3_changePolicyNumbers_17 : decode cX3_changePolicyNumbers 17 = .ok (.getfield 22, 3) := by decide +kernel
theorem dX3_changePolicyNumbers_20 : decode cX3_changePolicyNumbers 20 = .ok (.iload_n 3, 1) := by decide +kernel
theorem dX3_changePolicyNumbers_21 : decode cX3_changePolicyNumbers 21 = .ok (.if_icmp .eq 7, 3) := by decide +kernel
theorem dX3_changePolicyNumbers_24 : decode cX3_changePolicyNumbers 24 = .ok (.iconst 1, 1) := by decide +kernel
theorem dX3_changePolicyNumbers_25 : decode cX3_changePolicyNumbers 25 = .ok (.goto 4, 3) := by decide +kernel
theorem dX3_changePolicyNumbers_28 : decode cX3_changePolicyNumbers 28 = .ok (.iconst 0, 1) := by decide +kernel
theorem dX3_changePolicyNumbers_29 : decode cX3_changePolicyNumbers 29 = .ok (.istore 4, 2) := by decide +kernel
theorem dX3_changePolicyNumbers_31 : decode cX3_changePolicyNumbers 31 = .ok (.aload_n 0, 1) := by decide +kernel
theorem dX3_changePolicyNumbers_32 : decode cX3_changePolicyNumbers 32 = .ok (.iload_n 1, 1) := by decide +kernel
theorem dX3_changePolicyNumbers_33 : decode cX3_changePolicyNumbers 33 = .ok (.putfield 16, 3) := by decide +kernel
theorem dX3_changePolicyNumbers_36 : decode cX3_changePolicyNumbers 36 = .ok (.aload_n 0, 1) := by decide +kernel
theorem dX3_changePolicyNumbers_37 : decode cX3_changePolicyNumbers 37 = .ok (.iload_n 2, 1) := by decide +kernel
theorem dX3_changePolicyNumbers_38 : decode cX3_changePolicyNumbers 38 = .ok (.putfield 19, 3) := by decide +kernel
theorem dX3_changePolicyNumbers_41 : decode cX3_changePolicyNumbers 41 = .ok (.aload_n 0, 1) := by decide +kernel
theorem dX3_changePolicyNumbers_42 : decode cX3_changePolicyNumbers 42 = .ok (.iload_n 3, 1) := by decide +kernel
theorem dX3_changePolicyNumbers_43 : decode cX3_changePolicyNumbers 43 = .ok (.putfield 22, 3) := by decide +kernel
theorem dX3_changePolicyNumbers_46 : decode cX3_changePolicyNumbers 46 = .ok (.iload 4, 2) := by decide +kernel
theorem dX3_changePolicyNumbers_48 : decode cX3_changePolicyNumbers 48 = .ok (.ireturn, 1) := by decide +kernel
theorem dX4_init_0 : decode cX4_init 0 = .ok (.aload_n 0, 1) := by decide +kernel
theorem dX4_init_1 : decode cX4_init 1 = .ok (.invokespecial 3, 3) := by decide +kernel
theorem dX4_init_4 : decode cX4_init 4 = .ok (.aload_n 0, 1) := by decide +kernel
theorem dX4_init_5 : decode cX4_init 5 = .ok (.iconst 3, 1) := by decide +kernel
theorem dX4_init_6 : decode cX4_init 6 = .ok (.newarray .int, 2) := by decide +kernel
theorem dX4_init_8 : decode cX4_init 8 = .ok (.putfield 9, 3) := by decide +kernel
theorem dX4_init_11 : decode cX4_init 11 = .ok (.return_, 1) := by decide +kernel
theorem dX4_forget_0 : decode cX4_forget 0 = .ok (.aload_n 0, 1) := by decide +kernel
theorem dX4_forget_1 : decode cX4_forget 1 = .ok (.iconst 0, 1) := by decide +kernel
theorem dX4_forget_2 : decode cX4_forget 2 = .ok (.putfield 15, 3) := by decide +kernel
theorem dX4_forget_5 : decode cX4_forget 5 = .ok (.return_, 1) := by decide +kernel
theorem dX4_add_0 : decode cX4_add 0 = .ok (.aload_n 0, 1) := by decide +kernel
theorem dX4_add_1 : decode cX4_add 1 = .ok (.getfield 9, 3) := by decide +kernel
theorem dX4_add_4 : decode cX4_add 4 = .ok (.arraylength, 1) := by decide +kernel
theorem dX4_add_5 : decode cX4_add 5 = .ok (.iconst 1, 1) := by decide +kernel
theorem dX4_add_6 : decode cX4_add 6 = .ok (.isub, 1) := by decide +kernel
theorem dX4_add_7 : decode cX4_add 7 = .ok (.istore_n 2, 1) := by decide +kernel
theorem dX4_add_8 : decode cX4_add 8 = .ok (.iload_n 2, 1) := by decide +kernel
theorem dX4_add_9 : decode cX4_add 9 = .ok (.ifCond .le 23, 3) := by decide +kernel
theorem dX4_add_12 : decode cX4_add 12 = .ok (.aload_n 0, 1) := by decide +kernel
theorem dX4_add_13 : decode cX4_add 13 = .ok (.getfield 9, 3) := by decide +kernel
theorem dX4_add_16 : decode cX4_add 16 = .ok (.iload_n 2, 1) := by decide +kernel
theorem dX4_add_17 : decode cX4_add 17 = .ok (.aload_n 0, 1) := by decide +kernel
theorem dX4_add_18 : decode cX4_add 18 = .ok (.getfield 9, 3) := by decide +kernel
theorem dX4_add_21 : decode cX4_add 21 = .ok (.iload_n 2, 1) := by decide +kernel
theorem dX4_add_22 : decode cX4_add 22 = .ok (.iconst 1, 1) := by decide +kernel
theorem dX4_add_23 : decode cX4_add 23 = .ok (.isub, 1) := by decide +kernel
theorem dX4_add_24 : decode cX4_add 24 = .ok (.iaload, 1) := by decide +kernel
theorem dX4_add_25 : decode cX4_add 25 = .ok (.iastore, 1) := by decide +kernel
theorem dX4_add_26 : decode cX4_add 26 = .ok (.iinc 2 (-1), 3) := by decide +kernel
theorem dX4_add_29 : decode cX4_add 29 = .ok (.goto (-21), 3) := by decide +kernel
theorem dX4_add_32 : decode cX4_add 32 = .ok (.aload_n 0, 1) := by decide +kernel
theorem dX4_add_33 : decode cX4_add 33 = .ok (.getfield 9, 3) := by decide +kernel
theorem dX4_add_36 : decode cX4_add 36 = .ok (.iconst 0, 1) := by decide +kernel
theorem dX4_add_37 : decode cX4_add 37 = .ok (.iload_n 1, 1) := by decide +kernel
theorem dX4_add_38 : decode cX4_add 38 = .ok (.iastore, 1) := by decide +kernel
theorem dX4_add_39 : decode cX4_add 39 = .ok (.aload_n 0, 1) := by decide +kernel
theorem dX4_add_40 : decode cX4_add 40 = .ok (.getfield 15, 3) := by decide +kernel
theorem dX4_add_43 : decode cX4_add 43 = .ok (.aload_n 0, 1) := by decide +kernel
theorem dX4_add_44 : decode cX4_add 44 = .ok (.getfield 9, 3) := by decide +kernel
theorem dX4_add_47 : decode cX4_add 47 = .ok (.arraylength, 1) := by decide +kernel
theorem dX4_add_48 : decode cX4_add 48 = .ok (.if_icmp .ge 13, 3) := by decide +kernel
