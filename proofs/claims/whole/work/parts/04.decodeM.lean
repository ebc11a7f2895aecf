theorem d_M_init_0 : decode b_M_init 0 = .ok (.aload_n 0, 1) := by decide +kernel
theorem d_M_init_1 : decode b_M_init 1 = .ok (.invokespecial 1, 3) := by decide +kernel
theorem d_M_init_4 : decode b_M_init 4 = .ok (.aload_n 0, 1) := by decide +kernel
theorem d_M_init_5 : decode b_M_init 5 = .ok (.bipush 12, 2) := by decide +kernel
theorem d_M_init_7 : decode b_M_init 7 = .ok (.newarray .int, 2) := by decide +kernel
theorem d_M_init_9 : decode b_M_init 9 = .ok (.putfield 7, 3) := by decide +kernel
theorem d_M_init_12 : decode b_M_init 12 = .ok (.aload_n 0, 1) := by decide +kernel
theorem d_M_init_13 : decode b_M_init 13 = .ok (.bipush 40, 2) := by decide +kernel
theorem d_M_init_15 : decode b_M_init 15 = .ok (.newarray .int, 2) := by decide +kernel
theorem d_M_init_17 : decode b_M_init 17 = .ok (.putfield 13, 3) := by decide +kernel
theorem d_M_init_20 : decode b_M_init 20 = .ok (.aload_n 0, 1) := by decide +kernel
theorem d_M_init_21 : decode b_M_init 21 = .ok (.bipush 40, 2) := by decide +kernel
theorem d_M_init_23 : decode b_M_init 23 = .ok (.newarray .int, 2) := by decide +kernel
theorem d_M_init_25 : decode b_M_init 25 = .ok (.putfield 16, 3) := by decide +kernel
theorem d_M_init_28 : decode b_M_init 28 = .ok (.aload_n 0, 1) := by decide +kernel
theorem d_M_init_29 : decode b_M_init 29 = .ok (.bipush 40, 2) := by decide +kernel
theorem d_M_init_31 : decode b_M_init 31 = .ok (.newarray .int, 2) := by decide +kernel
theorem d_M_init_33 : decode b_M_init 33 = .ok (.putfield 19, 3) := by decide +kernel
theorem d_M_init_36 : decode b_M_init 36 = .ok (.aload_n 0, 1) := by decide +kernel
theorem d_M_init_37 : decode b_M_init 37 = .ok (.bipush 40, 2) := by decide +kernel
theorem d_M_init_39 : decode b_M_init 39 = .ok (.newarray .int, 2) := by decide +kernel
theorem d_M_init_41 : decode b_M_init 41 = .ok (.putfield 22, 3) := by decide +kernel
theorem d_M_init_44 : decode b_M_init 44 = .ok (.aload_n 0, 1) := by decide +kernel
theorem d_M_init_45 : decode b_M_init 45 = .ok (.bipush 40, 2) := by decide +kernel
theorem d_M_init_47 : decode b_M_init 47 = .ok (.newarray .int, 2) := by decide +kernel
theorem d_M_init_49 : decode b_M_init 49 = .ok (.putfield 25, 3) := by decide +kernel
theorem d_M_init_52 : decode b_M_init 52 = .ok (.aload_n 0, 1) := by decide +kernel
theorem d_M_init_53 : decode b_M_init 53 = .ok (.sipush 280, 3) := by decide +kernel
theorem d_M_init_56 : decode b_M_init 56 = .ok (.newarray .int, 2) := by decide +kernel
theorem d_M_init_58 : decode b_M_init 58 = .ok (.putfield 28, 3) := by decide +kernel
theorem d_M_init_61 : decode b_M_init 61 = .ok (.aload_n 0, 1) := by decide +kernel
theorem d_M_init_62 : decode b_M_init 62 = .ok (.bipush 30, 2) := by decide +kernel
theorem d_M_init_64 : decode b_M_init 64 = .ok (.newarray .int, 2) := by decide +kernel
theorem d_M_init_66 : decode b_M_init 66 = .ok (.putfield 31, 3) := by decide +kernel
theorem d_M_init_69 : decode b_M_init 69 = .ok (.aload_n 0, 1) := by decide +kernel
theorem d_M_init_70 : decode b_M_init 70 = .ok (.bipush 30, 2) := by decide +kernel
theorem d_M_init_72 : decode b_M_init 72 = .ok (.newarray .int, 2) := by decide +kernel
theorem d_M_init_74 : decode b_M_init 74 = .ok (.putfield 34, 3) := by decide +kernel
theorem d_M_init_77 : decode b_M_init 77 = .ok (.aload_n 0, 1) := by decide +kernel
theorem d_M_init_78 : decode b_M_init 78 = .ok (.bipush 30, 2) := by decide +kernel
theorem d_M_init_80 : decode b_M_init 80 = .ok (.newarray .int, 2) := by decide +kernel
theorem d_M_init_82 : decode b_M_init 82 = .ok (.putfield 37, 3) := by decide +kernel
theorem d_M_init_85 : decode b_M_init 85 = .ok (.aload_n 0, 1) := by decide +kernel
theorem d_M_init_86 : decode b_M_init 86 = .ok (.sipush 601, 3) := by decide +kernel
theorem d_M_init_89 : decode b_M_init 89 = .ok (.newarray .int, 2) := by decide +kernel
theorem d_M_init_91 : decode b_M_init 91 = .ok (.putfield 40, 3) := by decide +kernel
theorem d_M_init_94 : decode b_M_init 94 = .ok (.aload_n 0, 1) := by decide +kernel
theorem d_M_init_95 : decode b_M_init 95 = .ok (.sipush 601, 3) := by decide +kernel
theorem d_M_init_98 : decode b_M_init 98 = .ok (.newarray .int, 2) := by decide +kernel
theorem d_M_init_100 : decode b_M_init 100 = .ok (.putfield 43, 3) := by decide +kernel
theorem d_M_init_103 : decode b_M_init 103 = .ok (.aload_n 0, 1) := by decide +kernel
theorem d_M_init_104 : decode b_M_init 104 = .ok (.sipush 320, 3) := by decide +kernel
theorem d_M_init_107 : decode b_M_init 107 = .ok (.newarray .int, 2) := by decide +kernel
theorem d_M_init_109 : decode b_M_init 109 = .ok (.putfield 46, 3) := by decide +kernel
theorem d_M_init_112 : decode b_M_init 112 = .ok (.aload_n 0, 1) := by decide +kernel
theorem d_M_init_113 : decode b_M_init 113 = .ok (.bipush 12, 2) := by decide +kernel
theorem d_M_init_115 : decode b_M_init 115 = .ok (.newarray .int, 2) := by decide +kernel
theorem d_M_init_117 : decode b_M_init 117 = .ok (.putfield 49, 3) := by decide +kernel
theorem d_M_init_120 : decode b_M_init 120 = .ok (.aload_n 0, 1) := by decide +kernel
theorem d_M_init_121 : decode b_M_init 121 = .ok (.bipush 12, 2) := by decide +kernel
theorem d_M_init_123 : decode b_M_init 123 = .ok (.newarray .int, 2) := by decide +kernel
theorem d_M_init_125 : decode b_M_init 125 = .ok (.putfield 52, 3) := by decide +kernel
theorem d_M_init_128 : decode b_M_init 128 = .ok (.aload_n 0, 1) := by decide +kernel
theorem d_M_init_129 : decode b_M_init 129 = .ok (.bipush 12, 2) := by decide +kernel
theorem d_M_init_131 : decode b_M_init 131 = .ok (.newarray .int, 2) := by decide +kernel
theorem d_M_init_133 : decode b_M_init 133 = .ok (.putfield 55, 3) := by decide +kernel
theorem d_M_init_136 : decode b_M_init 136 = .ok (.aload_n 0, 1) := by decide +kernel
theorem d_M_init_137 : decode b_M_init 137 = .ok (.iconst 0, 1) := by decide +kernel
theorem d_M_init_138 : decode b_M_init 138 = .ok (.putfield 58, 3) := by decide +kernel
theorem d_M_init_141 : decode b_M_init 141 = .ok (.return_, 1) := by decide +kernel
theorem d_M_clear_0 : decode b_M_clear 0 = .ok (.aload_n 0, 1) := by decide +kernel
theorem d_M_clear_1 : decode b_M_clear 1 = .ok (.getfield 62, 3) := by decide +kernel
theorem d_M_clear_4 : decode b_M_clear 4 = .ok (.istore_n 1, 1) := by decide +kernel
theorem d_M_clear_5 : decode b_M_clear 5 = .ok (.aload_n 0, 1) := by decide +kernel
theorem d_M_clear_6 : decode b_M_clear 6 = .ok (.iconst 0, 1) := by decide +kernel
theorem d_M_clear_7 : decode b_M_clear 7 = .ok (.putfield 58, 3) := by decide +kernel
theorem d_M_clear_10 : decode b_M_clear 10 = .ok (.aload_n 0, 1) := by decide +kernel
theorem d_M_clear_11 : decode b_M_clear 11 = .ok (.iconst 0, 1) := by decide +kernel
theorem d_M_clear_12 : decode b_M_clear 12 = .ok (.putfield 62, 3) := by decide +kernel
theorem d_M_clear_15 : decode b_M_clear 15 = .ok (.aload_n 0, 1) := by decide +kernel
theorem d_M_clear_16 : decode b_M_clear 16 = .ok (.iconst 0, 1) := by decide +kernel
theorem d_M_clear_17 : decode b_M_clear 17 = .ok (.putfield 65, 3) := by decide +kernel
theorem d_M_clear_20 : decode b_M_clear 20 = .ok (.aload_n 0, 1) := by decide +kernel
theorem d_M_clear_21 : decode b_M_clear 21 = .ok (.iconst 0, 1) := by decide +kernel
theorem d_M_clear_22 : decode b_M_clear 22 = .ok (.putfield 68, 3) := by decide +kernel
theorem d_M_clear_25 : decode b_M_clear 25 = .ok (.aload_n 0, 1) := by decide +kernel
theorem d_M_clear_26 : decode b_M_clear 26 = .ok (.iconst 0, 1) := by decide +kernel
theorem d_M_clear_27 : decode b_M_clear 27 = .ok (.putfield 71, 3) := by decide +kernel
theorem d_M_clear_30 : decode b_M_clear 30 = .ok (.iload_n 1, 1) := by decide +kernel
theorem d_M_clear_31 : decode b_M_clear 31 = .ok (.ireturn, 1) := by decide +kernel
theorem d_M_isIn_0 : decode b_M_isIn 0 = .ok (.iload_n 0, 1) := by decide +kernel
theorem d_M_isIn_1 : decode b_M_isIn 1 = .ok (.iload_n 1, 1) := by decide +kernel
theorem d_M_isIn_2 : decode b_M_isIn 2 = .ok (.if_icmp .lt 12, 3) := by decide +kernel
theorem d_M_isIn_5 : decode b_M_isIn 5 = .ok (.iload_n 0, 1) := by decide +kernel
theorem d_M_isIn_6 : decode b_M_isIn 6 = .ok (.iload_n 2, 1) := by decide +kernel
theorem d_M_isIn_7 : decode b_M_isIn 7 = .ok (.if_icmp .gt 7, 3) := by decide +kernel
theorem d_M_isIn_10 : decode b_M_isIn 10 = .ok (.iconst 1, 1) := by decide +kernel
theorem d_M_isIn_11 : decode b_M_isIn 11 = .ok (.goto 4, 3) := by decide +kernel
theorem d_M_isIn_14 : decode b_M_isIn 14 = .ok (.iconst 0, 1) := by decide +kernel
theorem d_M_isIn_15 : decode b_M_isIn 15 = .ok (.ireturn, 1) := by decide +kernel
theorem d_M_isStop_0 : decode b_M_isStop 0 = .ok (.iload_n 1, 1) := by decide +kernel
theorem d_M_isStop_1 : decode b_M_isStop 1 = .ok (.iconst 0, 1) := by decide +kernel
theorem d_M_isStop_2 : decode b_M_isStop 2 = .ok (.aload_n 0, 1) := by decide +kernel
theorem d_M_isStop_3 : decode b_M_isStop 3 = .ok (.getfield 58, 3) := by decide +kernel
theorem d_M_isStop_6 : decode b_M_isStop 6 = .ok (.iconst 1, 1) := by decide +kernel
theorem d_M_isStop_7 : decode b_M_isStop 7 = .ok (.isub, 1) := by decide +kernel
theorem d_M_isStop_8 : decode b_M_isStop 8 = .ok (.invokestatic 74, 3) := by decide +kernel
theorem d_M_isStop_11 : decode b_M_isStop 11 = .ok (.ireturn, 1) := by decide +kernel
theorem d_M_isRide_0 : decode b_M_isRide 0 = .ok (.iload_n 1, 1) := by decide +kernel
theorem d_M_isRide_1 : decode b_M_isRide 1 = .ok (.iconst 0, 1) := by decide +kernel
theorem d_M_isRide_2 : decode b_M_isRide 2 = .ok (.aload_n 0, 1) := by decide +kernel
theorem d_M_isRide_3 : decode b_M_isRide 3 = .ok (.getfield 62, 3) := by decide +kernel
theorem d_M_isRide_6 : decode b_M_isRide 6 = .ok (.iconst 1, 1) := by decide +kernel
theorem d_M_isRide_7 : decode b_M_isRide 7 = .ok (.isub, 1) := by decide +kernel
theorem d_M_isRide_8 : decode b_M_isRide 8 = .ok (.invokestatic 74, 3) := by decide +kernel
theorem d_M_isRide_11 : decode b_M_isRide 11 = .ok (.ireturn, 1) := by decide +kernel
theorem d_M_stop_0 : decode b_M_stop 0 = .ok (.iload_n 1, 1) := by decide +kernel
theorem d_M_stop_1 : decode b_M_stop 1 = .ok (.iconst 0, 1) := by decide +kernel
theorem d_M_stop_2 : decode b_M_stop 2 = .ok (.bipush 60, 2) := by decide +kernel
theorem d_M_stop_4 : decode b_M_stop 4 = .ok (.invokestatic 74, 3) := by decide +kernel
theorem d_M_stop_7 : decode b_M_stop 7 = .ok (.ifCond .ne 6, 3) := by decide +kernel
theorem d_M_stop_10 : decode b_M_stop 10 = .ok (.bipush (-2), 2) := by decide +kernel
theorem d_M_stop_12 : decode b_M_stop 12 = .ok (.ireturn, 1) := by decide +kernel
theorem d_M_stop_13 : decode b_M_stop 13 = .ok (.aload_n 0, 1) := by decide +kernel
theorem d_M_stop_14 : decode b_M_stop 14 = .ok (.getfield 58, 3) := by decide +kernel
theorem d_M_stop_17 : decode b_M_stop 17 = .ok (.bipush 12, 2) := by decide +kernel
theorem d_M_stop_19 : decode b_M_stop 19 = .ok (.if_icmp .ne 6, 3) := by decide +kernel
theorem d_M_stop_22 : decode b_M_stop 22 = .ok (.bipush (-3), 2) := by decide +kernel
theorem d_M_stop_24 : decode b_M_stop 24 = .ok (.ireturn, 1) := by decide +kernel
theorem d_M_stop_25 : decode b_M_stop 25 = .ok (.aload_n 0, 1) := by decide +kernel
theorem d_M_stop_26 : decode b_M_stop 26 = .ok (.getfield 7, 3) := by decide +kernel
theorem d_M_stop_29 : decode b_M_stop 29 = .ok (.aload_n 0, 1) := by decide +kernel
theorem d_M_stop_30 : decode b_M_stop 30 = .ok (.getfield 58, 3) := by decide +kernel
theorem d_M_stop_33 : decode b_M_stop 33 = .ok (.iload_n 1, 1) := by decide +kernel
theorem d_M_stop_34 : decode b_M_stop 34 = .ok (.iastore, 1) := by decide +kernel
theorem d_M_stop_35 : decode b_M_stop 35 = .ok (.aload_n 0, 1) := by decide +kernel
theorem d_M_stop_36 : decode b_M_stop 36 = .ok (.dup, 1) := by decide +kernel
theorem d_M_stop_37 : decode b_M_stop 37 = .ok (.getfield 58, 3) := by decide +kernel
theorem d_M_stop_40 : decode b_M_stop 40 = .ok (.iconst 1, 1) := by decide +kernel
theorem d_M_stop_41 : decode b_M_stop 41 = .ok (.iadd, 1) := by decide +kernel
theorem d_M_stop_42 : decode b_M_stop 42 = .ok (.putfield 58, 3) := by decide +kernel
theorem d_M_stop_45 : decode b_M_stop 45 = .ok (.aload_n 0, 1) := by decide +kernel
theorem d_M_stop_46 : decode b_M_stop 46 = .ok (.getfield 58, 3) := by decide +kernel
theorem d_M_stop_49 : decode b_M_stop 49 = .ok (.iconst 1, 1) := by decide +kernel
theorem d_M_stop_50 : decode b_M_stop 50 = .ok (.isub, 1) := by decide +kernel
theorem d_M_stop_51 : decode b_M_stop 51 = .ok (.ireturn, 1) := by decide +kernel
theorem d_M_change_0 : decode b_M_change 0 = .ok (.aload_n 0, 1) := by decide +kernel
theorem d_M_change_1 : decode b_M_change 1 = .ok (.iload_n 1, 1) := by decide +kernel
theorem d_M_change_2 : decode b_M_change 2 = .ok (.invokevirtual 78, 3) := by decide +kernel
theorem d_M_change_5 : decode b_M_change 5 = .ok (.ifCond .eq 13, 3) := by decide +kernel
theorem d_M_change_8 : decode b_M_change 8 = .ok (.iload_n 2, 1) := by decide +kernel
theorem d_M_change_9 : decode b_M_change 9 = .ok (.iconst 0, 1) := by decide +kernel
theorem d_M_change_10 : decode b_M_change 10 = .ok (.bipush 60, 2) := by decide +kernel
theorem d_M_change_12 : decode b_M_change 12 = .ok (.invokestatic 74, 3) := by decide +kernel
theorem d_M_change_15 : decode b_M_change 15 = .ok (.ifCond .ne 6, 3) := by decide +kernel
theorem d_M_change_18 : decode b_M_change 18 = .ok (.bipush (-2), 2) := by decide +kernel
theorem d_M_change_20 : decode b_M_change 20 = .ok (.ireturn, 1) := by decide +kernel
theorem d_M_change_21 : decode b_M_change 21 = .ok (.aload_n 0, 1) := by decide +kernel
theorem d_M_change_22 : decode b_M_change 22 = .ok (.getfield 7, 3) := by decide +kernel
theorem d_M_change_25 : decode b_M_change 25 = .ok (.iload_n 1, 1) := by decide +kernel
theorem d_M_change_26 : decode b_M_change 26 = .ok (.iaload, 1) := by decide +kernel
theorem d_M_change_27 : decode b_M_change 27 = .ok (.istore_n 3, 1) := by decide +kernel
theorem d_M_change_28 : decode b_M_change 28 = .ok (.aload_n 0, 1) := by decide +kernel
theorem d_M_change_29 : decode b_M_change 29 = .ok (.getfield 7, 3) := by decide +kernel
theorem d_M_change_32 : decode b_M_change 32 = .ok (.iload_n 1, 1) := by decide +kernel
theorem d_M_change_33 : decode b_M_change 33 = .ok (.iload_n 2, 1) := by decide +kernel
theorem d_M_change_34 : decode b_M_change 34 = .ok (.iastore, 1) := by decide +kernel
theorem d_M_change_35 : decode b_M_change 35 = .ok (.iload_n 3, 1) := by decide +kernel
theorem d_M_change_36 : decode b_M_change 36 = .ok (.ireturn, 1) := by decide +kernel
theorem d_M_areTwo_0 : decode b_M_areTwo 0 = .ok (.aload_n 0, 1) := by decide +kernel
theorem d_M_areTwo_1 : decode b_M_areTwo 1 = .ok (.iload_n 1, 1) := by decide +kernel
theorem d_M_areTwo_2 : decode b_M_areTwo 2 = .ok (.invokevirtual 78, 3) := by decide +kernel
theorem d_M_areTwo_5 : decode b_M_areTwo 5 = .ok (.ifCond .eq 20, 3) := by decide +kernel
theorem d_M_areTwo_8 : decode b_M_areTwo 8 = .ok (.aload_n 0, 1) := by decide +kernel
theorem d_M_areTwo_9 : decode b_M_areTwo 9 = .ok (.iload_n 2, 1) := by decide +kernel
theorem d_M_areTwo_10 : decode b_M_areTwo 10 = .ok (.invokevirtual 78, 3) := by decide +kernel
theorem d_M_areTwo_13 : decode b_M_areTwo 13 = .ok (.ifCond .eq 12, 3) := by decide +kernel
theorem d_M_areTwo_16 : decode b_M_areTwo 16 = .ok (.iload_n 1, 1) := by decide +kernel
theorem d_M_areTwo_17 : decode b_M_areTwo 17 = .ok (.iload_n 2, 1) := by decide +kernel
theorem d_M_areTwo_18 : decode b_M_areTwo 18 = .ok (.if_icmp .eq 7, 3) := by decide +kernel
theorem d_M_areTwo_21 : decode b_M_areTwo 21 = .ok (.iconst 1, 1) := by decide +kernel
theorem d_M_areTwo_22 : decode b_M_areTwo 22 = .ok (.goto 4, 3) := by decide +kernel
theorem d_M_areTwo_25 : decode b_M_areTwo 25 = .ok (.iconst 0, 1) := by decide +kernel
theorem d_M_areTwo_26 : decode b_M_areTwo 26 = .ok (.ireturn, 1) := by decide +kernel
theorem d_M_ride_0 : decode b_M_ride 0 = .ok (.aload_n 0, 1) := by decide +kernel
theorem d_M_ride_1 : decode b_M_ride 1 = .ok (.iload_n 1, 1) := by decide +kernel
theorem d_M_ride_2 : decode b_M_ride 2 = .ok (.iload_n 2, 1) := by decide +kernel
theorem d_M_ride_3 : decode b_M_ride 3 = .ok (.invokevirtual 82, 3) := by decide +kernel
theorem d_M_ride_6 : decode b_M_ride 6 = .ok (.ifCond .eq 37, 3) := by decide +kernel
theorem d_M_ride_9 : decode b_M_ride 9 = .ok (.iload_n 3, 1) := by decide +kernel
theorem d_M_ride_10 : decode b_M_ride 10 = .ok (.iconst 0, 1) := by decide +kernel
theorem d_M_ride_11 : decode b_M_ride 11 = .ok (.sipush 1439, 3) := by decide +kernel
theorem d_M_ride_14 : decode b_M_ride 14 = .ok (.invokestatic 74, 3) := by decide +kernel
theorem d_M_ride_17 : decode b_M_ride 17 = .ok (.ifCond .eq 26, 3) := by decide +kernel
theorem d_M_ride_20 : decode b_M_ride 20 = .ok (.iload 4, 2) := by decide +kernel
theorem d_M_ride_22 : decode b_M_ride 22 = .ok (.iconst 1, 1) := by decide +kernel
theorem d_M_ride_23 : decode b_M_ride 23 = .ok (.sipush 1440, 3) := by decide +kernel
theorem d_M_ride_26 : decode b_M_ride 26 = .ok (.invokestatic 74, 3) := by decide +kernel
theorem d_M_ride_29 : decode b_M_ride 29 = .ok (.ifCond .eq 14, 3) := by decide +kernel
theorem d_M_ride_32 : decode b_M_ride 32 = .ok (.iload 5, 2) := by decide +kernel
theorem d_M_ride_34 : decode b_M_ride 34 = .ok (.iconst 1, 1) := by decide +kernel
theorem d_M_ride_35 : decode b_M_ride 35 = .ok (.bipush 127, 2) := by decide +kernel
theorem d_M_ride_37 : decode b_M_ride 37 = .ok (.invokestatic 74, 3) := by decide +kernel
theorem d_M_ride_40 : decode b_M_ride 40 = .ok (.ifCond .ne 6, 3) := by decide +kernel
theorem d_M_ride_43 : decode b_M_ride 43 = .ok (.bipush (-2), 2) := by decide +kernel
theorem d_M_ride_45 : decode b_M_ride 45 = .ok (.ireturn, 1) := by decide +kernel
theorem d_M_ride_46 : decode b_M_ride 46 = .ok (.aload_n 0, 1) := by decide +kernel
theorem d_M_ride_47 : decode b_M_ride 47 = .ok (.getfield 62, 3) := by decide +kernel
theorem d_M_ride_50 : decode b_M_ride 50 = .ok (.bipush 40, 2) := by decide +kernel
theorem d_M_ride_52 : decode b_M_ride 52 = .ok (.if_icmp .ne 6, 3) := by decide +kernel
theorem d_M_ride_55 : decode b_M_ride 55 = .ok (.bipush (-3), 2) := by decide +kernel
theorem d_M_ride_57 : decode b_M_ride 57 = .ok (.ireturn, 1) := by decide +kernel
theorem d_M_ride_58 : decode b_M_ride 58 = .ok (.aload_n 0, 1) := by decide +kernel
theorem d_M_ride_59 : decode b_M_ride 59 = .ok (.getfield 13, 3) := by decide +kernel
theorem d_M_ride_62 : decode b_M_ride 62 = .ok (.aload_n 0, 1) := by decide +kernel
theorem d_M_ride_63 : decode b_M_ride 63 = .ok (.getfield 62, 3) := by decide +kernel
theorem d_M_ride_66 : decode b_M_ride 66 = .ok (.iload_n 1, 1) := by decide +kernel
theorem d_M_ride_67 : decode b_M_ride 67 = .ok (.iastore, 1) := by decide +kernel
theorem d_M_ride_68 : decode b_M_ride 68 = .ok (.aload_n 0, 1) := by decide +kernel
theorem d_M_ride_69 : decode b_M_ride 69 = .ok (.getfield 16, 3) := by decide +kernel
theorem d_M_ride_72 : decode b_M_ride 72 = .ok (.aload_n 0, 1) := by decide +kernel
theorem d_M_ride_73 : decode b_M_ride 73 = .ok (.getfield 62, 3) := by decide +kernel
theorem d_M_ride_76 : decode b_M_ride 76 = .ok (.iload_n 2, 1) := by decide +kernel
theorem d_M_ride_77 : decode b_M_ride 77 = .ok (.iastore, 1) := by decide +kernel
theorem d_M_ride_78 : decode b_M_ride 78 = .ok (.aload_n 0, 1) := by decide +kernel
theorem d_M_ride_79 : decode b_M_ride 79 = .ok (.getfield 19, 3) := by decide +kernel
theorem d_M_ride_82 : decode b_M_ride 82 = .ok (.aload_n 0, 1) := by decide +kernel
theorem d_M_ride_83 : decode b_M_ride 83 = .ok (.getfield 62, 3) := by decide +kernel
theorem d_M_ride_86 : decode b_M_ride 86 = .ok (.iload_n 3, 1) := by decide +kernel
theorem d_M_ride_87 : decode b_M_ride 87 = .ok (.iastore, 1) := by decide +kernel
theorem d_M_ride_88 : decode b_M_ride 88 = .ok (.aload_n 0, 1) := by decide +kernel
theorem d_M_ride_89 : decode b_M_ride 89 = .ok (.getfield 22, 3) := by decide +kernel
theorem d_M_ride_92 : decode b_M_ride 92 = .ok (.aload_n 0, 1) := by decide +kernel
theorem d_M_ride_93 : decode b_M_ride 93 = .ok (.getfield 62, 3) := by decide +kernel
theorem d_M_ride_96 : decode b_M_ride 96 = .ok (.iload 4, 2) := by decide +kernel
theorem d_M_ride_98 : decode b_M_ride 98 = .ok (.iastore, 1) := by decide +kernel
theorem d_M_ride_99 : decode b_M_ride 99 = .ok (.aload_n 0, 1) := by decide +kernel
theorem d_M_ride_100 : decode b_M_ride 100 = .ok (.getfield 25, 3) := by decide +kernel
theorem d_M_ride_103 : decode b_M_ride 103 = .ok (.aload_n 0, 1) := by decide +kernel
theorem d_M_ride_104 : decode b_M_ride 104 = .ok (.getfield 62, 3) := by decide +kernel
theorem d_M_ride_107 : decode b_M_ride 107 = .ok (.iload 5, 2) := by decide +kernel
theorem d_M_ride_109 : decode b_M_ride 109 = .ok (.iastore, 1) := by decide +kernel
theorem d_M_ride_110 : decode b_M_ride 110 = .ok (.iconst 0, 1) := by decide +kernel
theorem d_M_ride_111 : decode b_M_ride 111 = .ok (.istore 6, 2) := by decide +kernel
theorem d_M_ride_113 : decode b_M_ride 113 = .ok (.iload 6, 2) := by decide +kernel
theorem d_M_ride_115 : decode b_M_ride 115 = .ok (.bipush 7, 2) := by decide +kernel
theorem d_M_ride_117 : decode b_M_ride 117 = .ok (.if_icmp .ge 25, 3) := by decide +kernel
theorem d_M_ride_120 : decode b_M_ride 120 = .ok (.aload_n 0, 1) := by decide +kernel
theorem d_M_ride_121 : decode b_M_ride 121 = .ok (.getfield 28, 3) := by decide +kernel
theorem d_M_ride_124 : decode b_M_ride 124 = .ok (.bipush 7, 2) := by decide +kernel
theorem d_M_ride_126 : decode b_M_ride 126 = .ok (.aload_n 0, 1) := by decide +kernel
theorem d_M_ride_127 : decode b_M_ride 127 = .ok (.getfield 62, 3) := by decide +kernel
theorem d_M_ride_130 : decode b_M_ride 130 = .ok (.imul, 1) := by decide +kernel
theorem d_M_ride_131 : decode b_M_ride 131 = .ok (.iload 6, 2) := by decide +kernel
theorem d_M_ride_133 : decode b_M_ride 133 = .ok (.iadd, 1) := by decide +kernel
theorem d_M_ride_134 : decode b_M_ride 134 = .ok (.iconst 0, 1) := by decide +kernel
theorem d_M_ride_135 : decode b_M_ride 135 = .ok (.iastore, 1) := by decide +kernel
theorem d_M_ride_136 : decode b_M_ride 136 = .ok (.iinc 6 1, 3) := by decide +kernel
theorem d_M_ride_139 : decode b_M_ride 139 = .ok (.goto (-26), 3) := by decide +kernel
theorem d_M_ride_142 : decode b_M_ride 142 = .ok (.aload_n 0, 1) := by decide +kernel
theorem d_M_ride_143 : decode b_M_ride 143 = .ok (.dup, 1) := by decide +kernel
theorem d_M_ride_144 : decode b_M_ride 144 = .ok (.getfield 62, 3) := by decide +kernel
theorem d_M_ride_147 : decode b_M_ride 147 = .ok (.iconst 1, 1) := by decide +kernel
theorem d_M_ride_148 : decode b_M_ride 148 = .ok (.iadd, 1) := by decide +kernel
theorem d_M_ride_149 : decode b_M_ride 149 = .ok (.putfield 62, 3) := by decide +kernel
theorem d_M_ride_152 : decode b_M_ride 152 = .ok (.aload_n 0, 1) := by decide +kernel
theorem d_M_ride_153 : decode b_M_ride 153 = .ok (.getfield 62, 3) := by decide +kernel
theorem d_M_ride_156 : decode b_M_ride 156 = .ok (.iconst 1, 1) := by decide +kernel
theorem d_M_ride_157 : decode b_M_ride 157 = .ok (.isub, 1) := by decide +kernel
theorem d_M_ride_158 : decode b_M_ride 158 = .ok (.ireturn, 1) := by decide +kernel
theorem d_M_walk_0 : decode b_M_walk 0 = .ok (.aload_n 0, 1) := by decide +kernel
theorem d_M_walk_1 : decode b_M_walk 1 = .ok (.iload_n 1, 1) := by decide +kernel
theorem d_M_walk_2 : decode b_M_walk 2 = .ok (.iload_n 2, 1) := by decide +kernel
theorem d_M_walk_3 : decode b_M_walk 3 = .ok (.invokevirtual 82, 3) := by decide +kernel
theorem d_M_walk_6 : decode b_M_walk 6 = .ok (.ifCond .eq 14, 3) := by decide +kernel
theorem d_M_walk_9 : decode b_M_walk 9 = .ok (.iload_n 3, 1) := by decide +kernel
theorem d_M_walk_10 : decode b_M_walk 10 = .ok (.iconst 1, 1) := by decide +kernel
theorem d_M_walk_11 : decode b_M_walk 11 = .ok (.sipush 600, 3) := by decide +kernel
theorem d_M_walk_14 : decode b_M_walk 14 = .ok (.invokestatic 74, 3) := by decide +kernel
theorem d_M_walk_17 : decode b_M_walk 17 = .ok (.ifCond .ne 6, 3) := by decide +kernel
theorem d_M_walk_20 : decode b_M_walk 20 = .ok (.bipush (-2), 2) := by decide +kernel
theorem d_M_walk_22 : decode b_M_walk 22 = .ok (.ireturn, 1) := by decide +kernel
theorem d_M_walk_23 : decode b_M_walk 23 = .ok (.aload_n 0, 1) := by decide +kernel
theorem d_M_walk_24 : decode b_M_walk 24 = .ok (.getfield 65, 3) := by decide +kernel
theorem d_M_walk_27 : decode b_M_walk 27 = .ok (.bipush 30, 2) := by decide +kernel
theorem d_M_walk_29 : decode b_M_walk 29 = .ok (.if_icmp .ne 6, 3) := by decide +kernel
theorem d_M_walk_32 : decode b_M_walk 32 = .ok (.bipush (-3), 2) := by decide +kernel
theorem d_M_walk_34 : decode b_M_walk 34 = .ok (.ireturn, 1) := by decide +kernel
theorem d_M_walk_35 : decode b_M_walk 35 = .ok (.aload_n 0, 1) := by decide +kernel
theorem d_M_walk_36 : decode b_M_walk 36 = .ok (.getfield 31, 3) := by decide +kernel
theorem d_M_walk_39 : decode b_M_walk 39 = .ok (.aload_n 0, 1) := by decide +kernel
theorem d_M_walk_40 : decode b_M_walk 40 = .ok (.getfield 65, 3) := by decide +kernel
theorem d_M_walk_43 : decode b_M_walk 43 = .ok (.iload_n 1, 1) := by decide +kernel
theorem d_M_walk_44 : decode b_M_walk 44 = .ok (.iastore, 1) := by decide +kernel
theorem d_M_walk_45 : decode b_M_walk 45 = .ok (.aload_n 0, 1) := by decide +kernel
theorem d_M_walk_46 : decode b_M_walk 46 = .ok (.getfield 34, 3) := by decide +kernel
theorem d_M_walk_49 : decode b_M_walk 49 = .ok (.aload_n 0, 1) := by decide +kernel
theorem d_M_walk_50 : decode b_M_walk 50 = .ok (.getfield 65, 3) := by decide +kernel
theorem d_M_walk_53 : decode b_M_walk 53 = .ok (.iload_n 2, 1) := by decide +kernel
theorem d_M_walk_54 : decode b_M_walk 54 = .ok (.iastore, 1) := by decide +kernel
theorem d_M_walk_55 : decode b_M_walk 55 = .ok (.aload_n 0, 1) := by decide +kernel
theorem d_M_walk_56 : decode b_M_walk 56 = .ok (.getfield 37, 3) := by decide +kernel
theorem d_M_walk_59 : decode b_M_walk 59 = .ok (.aload_n 0, 1) := by decide +kernel
theorem d_M_walk_60 : decode b_M_walk 60 = .ok (.getfield 65, 3) := by decide +kernel
theorem d_M_walk_63 : decode b_M_walk 63 = .ok (.iload_n 3, 1) := by decide +kernel
theorem d_M_walk_64 : decode b_M_walk 64 = .ok (.iastore, 1) := by decide +kernel
theorem d_M_walk_65 : decode b_M_walk 65 = .ok (.aload_n 0, 1) := by decide +kernel
theorem d_M_walk_66 : decode b_M_walk 66 = .ok (.dup, 1) := by decide +kernel
theorem d_M_walk_67 : decode b_M_walk 67 = .ok (.getfield 65, 3) := by decide +kernel
theorem d_M_walk_70 : decode b_M_walk 70 = .ok (.iconst 1, 1) := by decide +kernel
theorem d_M_walk_71 : decode b_M_walk 71 = .ok (.iadd, 1) := by decide +kernel
theorem d_M_walk_72 : decode b_M_walk 72 = .ok (.putfield 65, 3) := by decide +kernel
theorem d_M_walk_75 : decode b_M_walk 75 = .ok (.aload_n 0, 1) := by decide +kernel
theorem d_M_walk_76 : decode b_M_walk 76 = .ok (.getfield 65, 3) := by decide +kernel
theorem d_M_walk_79 : decode b_M_walk 79 = .ok (.iconst 1, 1) := by decide +kernel
theorem d_M_walk_80 : decode b_M_walk 80 = .ok (.isub, 1) := by decide +kernel
theorem d_M_walk_81 : decode b_M_walk 81 = .ok (.ireturn, 1) := by decide +kernel
theorem d_M_isOn_0 : decode b_M_isOn 0 = .ok (.aload_n 0, 1) := by decide +kernel
theorem d_M_isOn_1 : decode b_M_isOn 1 = .ok (.getfield 25, 3) := by decide +kernel
theorem d_M_isOn_4 : decode b_M_isOn 4 = .ok (.iload_n 1, 1) := by decide +kernel
theorem d_M_isOn_5 : decode b_M_isOn 5 = .ok (.iaload, 1) := by decide +kernel
theorem d_M_isOn_6 : decode b_M_isOn 6 = .ok (.iload_n 2, 1) := by decide +kernel
theorem d_M_isOn_7 : decode b_M_isOn 7 = .ok (.ishr, 1) := by decide +kernel
theorem d_M_isOn_8 : decode b_M_isOn 8 = .ok (.iconst 1, 1) := by decide +kernel
theorem d_M_isOn_9 : decode b_M_isOn 9 = .ok (.iand, 1) := by decide +kernel
theorem d_M_isOn_10 : decode b_M_isOn 10 = .ok (.iconst 1, 1) := by decide +kernel
theorem d_M_isOn_11 : decode b_M_isOn 11 = .ok (.if_icmp .ne 7, 3) := by decide +kernel
theorem d_M_isOn_14 : decode b_M_isOn 14 = .ok (.iconst 1, 1) := by decide +kernel
theorem d_M_isOn_15 : decode b_M_isOn 15 = .ok (.goto 4, 3) := by decide +kernel
theorem d_M_isOn_18 : decode b_M_isOn 18 = .ok (.iconst 0, 1) := by decide +kernel
theorem d_M_isOn_19 : decode b_M_isOn 19 = .ok (.ireturn, 1) := by decide +kernel
theorem d_M_late_0 : decode b_M_late 0 = .ok (.aload_n 0, 1) := by decide +kernel
theorem d_M_late_1 : decode b_M_late 1 = .ok (.iload_n 1, 1) := by decide +kernel
theorem d_M_late_2 : decode b_M_late 2 = .ok (.invokevirtual 86, 3) := by decide +kernel
theorem d_M_late_5 : decode b_M_late 5 = .ok (.ifCond .eq 33, 3) := by decide +kernel
theorem d_M_late_8 : decode b_M_late 8 = .ok (.iload_n 2, 1) := by decide +kernel
theorem d_M_late_9 : decode b_M_late 9 = .ok (.iconst 0, 1) := by decide +kernel
theorem d_M_late_10 : decode b_M_late 10 = .ok (.bipush 6, 2) := by decide +kernel
theorem d_M_late_12 : decode b_M_late 12 = .ok (.invokestatic 74, 3) := by decide +kernel
theorem d_M_late_15 : decode b_M_late 15 = .ok (.ifCond .eq 23, 3) := by decide +kernel
theorem d_M_late_18 : decode b_M_late 18 = .ok (.aload_n 0, 1) := by decide +kernel
theorem d_M_late_19 : decode b_M_late 19 = .ok (.iload_n 1, 1) := by decide +kernel
theorem d_M_late_20 : decode b_M_late 20 = .ok (.iload_n 2, 1) := by decide +kernel
theorem d_M_late_21 : decode b_M_late 21 = .ok (.invokevirtual 89, 3) := by decide +kernel
theorem d_M_late_24 : decode b_M_late 24 = .ok (.ifCond .eq 14, 3) := by decide +kernel
theorem d_M_late_27 : decode b_M_late 27 = .ok (.iload_n 3, 1) := by decide +kernel
theorem d_M_late_28 : decode b_M_late 28 = .ok (.iconst (-1), 1) := by decide +kernel
theorem d_M_late_29 : decode b_M_late 29 = .ok (.sipush 300, 3) := by decide +kernel
theorem d_M_late_32 : decode b_M_late 32 = .ok (.invokestatic 74, 3) := by decide +kernel
theorem d_M_late_35 : decode b_M_late 35 = .ok (.ifCond .ne 6, 3) := by decide +kernel
theorem d_M_late_38 : decode b_M_late 38 = .ok (.bipush (-2), 2) := by decide +kernel
theorem d_M_late_40 : decode b_M_late 40 = .ok (.ireturn, 1) := by decide +kernel
theorem d_M_late_41 : decode b_M_late 41 = .ok (.aload_n 0, 1) := by decide +kernel
theorem d_M_late_42 : decode b_M_late 42 = .ok (.getfield 28, 3) := by decide +kernel
theorem d_M_late_45 : decode b_M_late 45 = .ok (.bipush 7, 2) := by decide +kernel
theorem d_M_late_47 : decode b_M_late 47 = .ok (.iload_n 1, 1) := by decide +kernel
theorem d_M_late_48 : decode b_M_late 48 = .ok (.imul, 1) := by decide +kernel
theorem d_M_late_49 : decode b_M_late 49 = .ok (.iload_n 2, 1) := by decide +kernel
theorem d_M_late_50 : decode b_M_late 50 = .ok (.iadd, 1) := by decide +kernel
theorem d_M_late_51 : decode b_M_late 51 = .ok (.iaload, 1) := by decide +kernel
theorem d_M_late_52 : decode b_M_late 52 = .ok (.istore 4, 2) := by decide +kernel
theorem d_M_late_54 : decode b_M_late 54 = .ok (.aload_n 0, 1) := by decide +kernel
theorem d_M_late_55 : decode b_M_late 55 = .ok (.getfield 28, 3) := by decide +kernel
theorem d_M_late_58 : decode b_M_late 58 = .ok (.bipush 7, 2) := by decide +kernel
theorem d_M_late_60 : decode b_M_late 60 = .ok (.iload_n 1, 1) := by decide +kernel
theorem d_M_late_61 : decode b_M_late 61 = .ok (.imul, 1) := by decide +kernel
theorem d_M_late_62 : decode b_M_late 62 = .ok (.iload_n 2, 1) := by decide +kernel
theorem d_M_late_63 : decode b_M_late 63 = .ok (.iadd, 1) := by decide +kernel
theorem d_M_late_64 : decode b_M_late 64 = .ok (.iload_n 3, 1) := by decide +kernel
theorem d_M_late_65 : decode b_M_late 65 = .ok (.iastore, 1) := by decide +kernel
theorem d_M_late_66 : decode b_M_late 66 = .ok (.iload 4, 2) := by decide +kernel
theorem d_M_late_68 : decode b_M_late 68 = .ok (.ireturn, 1) := by decide +kernel
theorem d_M_goes_0 : decode b_M_goes 0 = .ok (.aload_n 0, 1) := by decide +kernel
theorem d_M_goes_1 : decode b_M_goes 1 = .ok (.iload_n 1, 1) := by decide +kernel
theorem d_M_goes_2 : decode b_M_goes 2 = .ok (.iload_n 2, 1) := by decide +kernel
theorem d_M_goes_3 : decode b_M_goes 3 = .ok (.invokevirtual 89, 3) := by decide +kernel
theorem d_M_goes_6 : decode b_M_goes 6 = .ok (.ifCond .eq 22, 3) := by decide +kernel
theorem d_M_goes_9 : decode b_M_goes 9 = .ok (.aload_n 0, 1) := by decide +kernel
theorem d_M_goes_10 : decode b_M_goes 10 = .ok (.getfield 28, 3) := by decide +kernel
theorem d_M_goes_13 : decode b_M_goes 13 = .ok (.bipush 7, 2) := by decide +kernel
theorem d_M_goes_15 : decode b_M_goes 15 = .ok (.iload_n 1, 1) := by decide +kernel
theorem d_M_goes_16 : decode b_M_goes 16 = .ok (.imul, 1) := by decide +kernel
theorem d_M_goes_17 : decode b_M_goes 17 = .ok (.iload_n 2, 1) := by decide +kernel
theorem d_M_goes_18 : decode b_M_goes 18 = .ok (.iadd, 1) := by decide +kernel
theorem d_M_goes_19 : decode b_M_goes 19 = .ok (.iaload, 1) := by decide +kernel
theorem d_M_goes_20 : decode b_M_goes 20 = .ok (.iconst (-1), 1) := by decide +kernel
theorem d_M_goes_21 : decode b_M_goes 21 = .ok (.if_icmp .eq 7, 3) := by decide +kernel
theorem d_M_goes_24 : decode b_M_goes 24 = .ok (.iconst 1, 1) := by decide +kernel
theorem d_M_goes_25 : decode b_M_goes 25 = .ok (.goto 4, 3) := by decide +kernel
theorem d_M_goes_28 : decode b_M_goes 28 = .ok (.iconst 0, 1) := by decide +kernel
theorem d_M_goes_29 : decode b_M_goes 29 = .ok (.ireturn, 1) := by decide +kernel
theorem d_M_leaves_0 : decode b_M_leaves 0 = .ok (.sipush 1440, 3) := by decide +kernel
theorem d_M_leaves_3 : decode b_M_leaves 3 = .ok (.iload_n 2, 1) := by decide +kernel
theorem d_M_leaves_4 : decode b_M_leaves 4 = .ok (.imul, 1) := by decide +kernel
theorem d_M_leaves_5 : decode b_M_leaves 5 = .ok (.aload_n 0, 1) := by decide +kernel
theorem d_M_leaves_6 : decode b_M_leaves 6 = .ok (.getfield 19, 3) := by decide +kernel
theorem d_M_leaves_9 : decode b_M_leaves 9 = .ok (.iload_n 1, 1) := by decide +kernel
theorem d_M_leaves_10 : decode b_M_leaves 10 = .ok (.iaload, 1) := by decide +kernel
theorem d_M_leaves_11 : decode b_M_leaves 11 = .ok (.iadd, 1) := by decide +kernel
theorem d_M_leaves_12 : decode b_M_leaves 12 = .ok (.aload_n 0, 1) := by decide +kernel
theorem d_M_leaves_13 : decode b_M_leaves 13 = .ok (.getfield 28, 3) := by decide +kernel
theorem d_M_leaves_16 : decode b_M_leaves 16 = .ok (.bipush 7, 2) := by decide +kernel
theorem d_M_leaves_18 : decode b_M_leaves 18 = .ok (.iload_n 1, 1) := by decide +kernel
theorem d_M_leaves_19 : decode b_M_leaves 19 = .ok (.imul, 1) := by decide +kernel
theorem d_M_leaves_20 : decode b_M_leaves 20 = .ok (.iload_n 2, 1) := by decide +kernel
theorem d_M_leaves_21 : decode b_M_leaves 21 = .ok (.iadd, 1) := by decide +kernel
theorem d_M_leaves_22 : decode b_M_leaves 22 = .ok (.iaload, 1) := by decide +kernel
theorem d_M_leaves_23 : decode b_M_leaves 23 = .ok (.iadd, 1) := by decide +kernel
theorem d_M_leaves_24 : decode b_M_leaves 24 = .ok (.ireturn, 1) := by decide +kernel
theorem d_M_arrives_0 : decode b_M_arrives 0 = .ok (.aload_n 0, 1) := by decide +kernel
theorem d_M_arrives_1 : decode b_M_arrives 1 = .ok (.iload_n 1, 1) := by decide +kernel
theorem d_M_arrives_2 : decode b_M_arrives 2 = .ok (.iload_n 2, 1) := by decide +kernel
theorem d_M_arrives_3 : decode b_M_arrives 3 = .ok (.invokevirtual 92, 3) := by decide +kernel
theorem d_M_arrives_6 : decode b_M_arrives 6 = .ok (.aload_n 0, 1) := by decide +kernel
theorem d_M_arrives_7 : decode b_M_arrives 7 = .ok (.getfield 22, 3) := by decide +kernel
theorem d_M_arrives_10 : decode b_M_arrives 10 = .ok (.iload_n 1, 1) := by decide +kernel
theorem d_M_arrives_11 : decode b_M_arrives 11 = .ok (.iaload, 1) := by decide +kernel
theorem d_M_arrives_12 : decode b_M_arrives 12 = .ok (.iadd, 1) := by decide +kernel
theorem d_M_arrives_13 : decode b_M_arrives 13 = .ok (.ireturn, 1) := by decide +kernel
theorem d_M_arrival_0 : decode b_M_arrival 0 = .ok (.aload_n 0, 1) := by decide +kernel
theorem d_M_arrival_1 : decode b_M_arrival 1 = .ok (.getfield 49, 3) := by decide +kernel
theorem d_M_arrival_4 : decode b_M_arrival 4 = .ok (.iload_n 1, 1) := by decide +kernel
theorem d_M_arrival_5 : decode b_M_arrival 5 = .ok (.iaload, 1) := by decide +kernel
theorem d_M_arrival_6 : decode b_M_arrival 6 = .ok (.aload_n 0, 1) := by decide +kernel
theorem d_M_arrival_7 : decode b_M_arrival 7 = .ok (.getfield 52, 3) := by decide +kernel
theorem d_M_arrival_10 : decode b_M_arrival 10 = .ok (.iload_n 1, 1) := by decide +kernel
theorem d_M_arrival_11 : decode b_M_arrival 11 = .ok (.iaload, 1) := by decide +kernel
theorem d_M_arrival_12 : decode b_M_arrival 12 = .ok (.if_icmp .ge 12, 3) := by decide +kernel
theorem d_M_arrival_15 : decode b_M_arrival 15 = .ok (.aload_n 0, 1) := by decide +kernel
theorem d_M_arrival_16 : decode b_M_arrival 16 = .ok (.getfield 49, 3) := by decide +kernel
theorem d_M_arrival_19 : decode b_M_arrival 19 = .ok (.iload_n 1, 1) := by decide +kernel
theorem d_M_arrival_20 : decode b_M_arrival 20 = .ok (.iaload, 1) := by decide +kernel
theorem d_M_arrival_21 : decode b_M_arrival 21 = .ok (.goto 9, 3) := by decide +kernel
theorem d_M_arrival_24 : decode b_M_arrival 24 = .ok (.aload_n 0, 1) := by decide +kernel
theorem d_M_arrival_25 : decode b_M_arrival 25 = .ok (.getfield 52, 3) := by decide +kernel
theorem d_M_arrival_28 : decode b_M_arrival 28 = .ok (.iload_n 1, 1) := by decide +kernel
theorem d_M_arrival_29 : decode b_M_arrival 29 = .ok (.iaload, 1) := by decide +kernel
theorem d_M_arrival_30 : decode b_M_arrival 30 = .ok (.ireturn, 1) := by decide +kernel
theorem d_M_mayTake_0 : decode b_M_mayTake 0 = .ok (.aload_n 0, 1) := by decide +kernel
theorem d_M_mayTake_1 : decode b_M_mayTake 1 = .ok (.getfield 13, 3) := by decide +kernel
theorem d_M_mayTake_4 : decode b_M_mayTake 4 = .ok (.iload_n 1, 1) := by decide +kernel
theorem d_M_mayTake_5 : decode b_M_mayTake 5 = .ok (.iaload, 1) := by decide +kernel
theorem d_M_mayTake_6 : decode b_M_mayTake 6 = .ok (.istore_n 3, 1) := by decide +kernel
theorem d_M_mayTake_7 : decode b_M_mayTake 7 = .ok (.aload_n 0, 1) := by decide +kernel
theorem d_M_mayTake_8 : decode b_M_mayTake 8 = .ok (.iload_n 1, 1) := by decide +kernel
theorem d_M_mayTake_9 : decode b_M_mayTake 9 = .ok (.iload_n 2, 1) := by decide +kernel
theorem d_M_mayTake_10 : decode b_M_mayTake 10 = .ok (.invokevirtual 96, 3) := by decide +kernel
theorem d_M_mayTake_13 : decode b_M_mayTake 13 = .ok (.ifCond .eq 44, 3) := by decide +kernel
theorem d_M_mayTake_16 : decode b_M_mayTake 16 = .ok (.aload_n 0, 1) := by decide +kernel
theorem d_M_mayTake_17 : decode b_M_mayTake 17 = .ok (.iload_n 1, 1) := by decide +kernel
theorem d_M_mayTake_18 : decode b_M_mayTake 18 = .ok (.iload_n 2, 1) := by decide +kernel
theorem d_M_mayTake_19 : decode b_M_mayTake 19 = .ok (.invokevirtual 92, 3) := by decide +kernel
theorem d_M_mayTake_22 : decode b_M_mayTake 22 = .ok (.aload_n 0, 1) := by decide +kernel
theorem d_M_mayTake_23 : decode b_M_mayTake 23 = .ok (.getfield 52, 3) := by decide +kernel
theorem d_M_mayTake_26 : decode b_M_mayTake 26 = .ok (.iload_n 3, 1) := by decide +kernel
theorem d_M_mayTake_27 : decode b_M_mayTake 27 = .ok (.iaload, 1) := by decide +kernel
theorem d_M_mayTake_28 : decode b_M_mayTake 28 = .ok (.if_icmp .ge 25, 3) := by decide +kernel
theorem d_M_mayTake_31 : decode b_M_mayTake 31 = .ok (.aload_n 0, 1) := by decide +kernel
theorem d_M_mayTake_32 : decode b_M_mayTake 32 = .ok (.iload_n 1, 1) := by decide +kernel
theorem d_M_mayTake_33 : decode b_M_mayTake 33 = .ok (.iload_n 2, 1) := by decide +kernel
theorem d_M_mayTake_34 : decode b_M_mayTake 34 = .ok (.invokevirtual 92, 3) := by decide +kernel
theorem d_M_mayTake_37 : decode b_M_mayTake 37 = .ok (.aload_n 0, 1) := by decide +kernel
theorem d_M_mayTake_38 : decode b_M_mayTake 38 = .ok (.getfield 49, 3) := by decide +kernel
theorem d_M_mayTake_41 : decode b_M_mayTake 41 = .ok (.iload_n 3, 1) := by decide +kernel
theorem d_M_mayTake_42 : decode b_M_mayTake 42 = .ok (.iaload, 1) := by decide +kernel
theorem d_M_mayTake_43 : decode b_M_mayTake 43 = .ok (.aload_n 0, 1) := by decide +kernel
theorem d_M_mayTake_44 : decode b_M_mayTake 44 = .ok (.getfield 7, 3) := by decide +kernel
theorem d_M_mayTake_47 : decode b_M_mayTake 47 = .ok (.iload_n 3, 1) := by decide +kernel
theorem d_M_mayTake_48 : decode b_M_mayTake 48 = .ok (.iaload, 1) := by decide +kernel
theorem d_M_mayTake_49 : decode b_M_mayTake 49 = .ok (.iadd, 1) := by decide +kernel
theorem d_M_mayTake_50 : decode b_M_mayTake 50 = .ok (.if_icmp .lt 7, 3) := by decide +kernel
theorem d_M_mayTake_53 : decode b_M_mayTake 53 = .ok (.iconst 1, 1) := by decide +kernel
theorem d_M_mayTake_54 : decode b_M_mayTake 54 = .ok (.goto 4, 3) := by decide +kernel
theorem d_M_mayTake_57 : decode b_M_mayTake 57 = .ok (.iconst 0, 1) := by decide +kernel
theorem d_M_mayTake_58 : decode b_M_mayTake 58 = .ok (.ireturn, 1) := by decide +kernel
theorem d_M_begin_0 : decode b_M_begin 0 = .ok (.iconst 0, 1) := by decide +kernel
theorem d_M_begin_1 : decode b_M_begin 1 = .ok (.istore_n 3, 1) := by decide +kernel
theorem d_M_begin_2 : decode b_M_begin 2 = .ok (.iload_n 3, 1) := by decide +kernel
theorem d_M_begin_3 : decode b_M_begin 3 = .ok (.bipush 12, 2) := by decide +kernel
theorem d_M_begin_5 : decode b_M_begin 5 = .ok (.if_icmp .ge 34, 3) := by decide +kernel
theorem d_M_begin_8 : decode b_M_begin 8 = .ok (.aload_n 0, 1) := by decide +kernel
theorem d_M_begin_9 : decode b_M_begin 9 = .ok (.getfield 49, 3) := by decide +kernel
theorem d_M_begin_12 : decode b_M_begin 12 = .ok (.iload_n 3, 1) := by decide +kernel
theorem d_M_begin_13 : decode b_M_begin 13 = .ok (.ldc 99, 2) := by decide +kernel
theorem d_M_begin_15 : decode b_M_begin 15 = .ok (.iastore, 1) := by decide +kernel
theorem d_M_begin_16 : decode b_M_begin 16 = .ok (.aload_n 0, 1) := by decide +kernel
theorem d_M_begin_17 : decode b_M_begin 17 = .ok (.getfield 52, 3) := by decide +kernel
theorem d_M_begin_20 : decode b_M_begin 20 = .ok (.iload_n 3, 1) := by decide +kernel
theorem d_M_begin_21 : decode b_M_begin 21 = .ok (.iload_n 3, 1) := by decide +kernel
theorem d_M_begin_22 : decode b_M_begin 22 = .ok (.iload_n 1, 1) := by decide +kernel
theorem d_M_begin_23 : decode b_M_begin 23 = .ok (.if_icmp .ne 7, 3) := by decide +kernel
theorem d_M_begin_26 : decode b_M_begin 26 = .ok (.iload_n 2, 1) := by decide +kernel
theorem d_M_begin_27 : decode b_M_begin 27 = .ok (.goto 5, 3) := by decide +kernel
theorem d_M_begin_30 : decode b_M_begin 30 = .ok (.ldc 99, 2) := by decide +kernel
theorem d_M_begin_32 : decode b_M_begin 32 = .ok (.iastore, 1) := by decide +kernel
theorem d_M_begin_33 : decode b_M_begin 33 = .ok (.iinc 3 1, 3) := by decide +kernel
theorem d_M_begin_36 : decode b_M_begin 36 = .ok (.goto (-34), 3) := by decide +kernel
theorem d_M_begin_39 : decode b_M_begin 39 = .ok (.return_, 1) := by decide +kernel
theorem d_M_goWalks_0 : decode b_M_goWalks 0 = .ok (.iconst 1, 1) := by decide +kernel
theorem d_M_goWalks_1 : decode b_M_goWalks 1 = .ok (.istore_n 1, 1) := by decide +kernel
theorem d_M_goWalks_2 : decode b_M_goWalks 2 = .ok (.iload_n 1, 1) := by decide +kernel
theorem d_M_goWalks_3 : decode b_M_goWalks 3 = .ok (.ifCond .eq 91, 3) := by decide +kernel
theorem d_M_goWalks_6 : decode b_M_goWalks 6 = .ok (.iconst 0, 1) := by decide +kernel
theorem d_M_goWalks_7 : decode b_M_goWalks 7 = .ok (.istore_n 1, 1) := by decide +kernel
theorem d_M_goWalks_8 : decode b_M_goWalks 8 = .ok (.iconst 0, 1) := by decide +kernel
theorem d_M_goWalks_9 : decode b_M_goWalks 9 = .ok (.istore_n 2, 1) := by decide +kernel
theorem d_M_goWalks_10 : decode b_M_goWalks 10 = .ok (.iload_n 2, 1) := by decide +kernel
theorem d_M_goWalks_11 : decode b_M_goWalks 11 = .ok (.aload_n 0, 1) := by decide +kernel
theorem d_M_goWalks_12 : decode b_M_goWalks 12 = .ok (.getfield 65, 3) := by decide +kernel
theorem d_M_goWalks_15 : decode b_M_goWalks 15 = .ok (.if_icmp .ge 76, 3) := by decide +kernel
theorem d_M_goWalks_18 : decode b_M_goWalks 18 = .ok (.aload_n 0, 1) := by decide +kernel
theorem d_M_goWalks_19 : decode b_M_goWalks 19 = .ok (.aload_n 0, 1) := by decide +kernel
theorem d_M_goWalks_20 : decode b_M_goWalks 20 = .ok (.getfield 31, 3) := by decide +kernel
theorem d_M_goWalks_23 : decode b_M_goWalks 23 = .ok (.iload_n 2, 1) := by decide +kernel
theorem d_M_goWalks_24 : decode b_M_goWalks 24 = .ok (.iaload, 1) := by decide +kernel
theorem d_M_goWalks_25 : decode b_M_goWalks 25 = .ok (.invokevirtual 100, 3) := by decide +kernel
theorem d_M_goWalks_28 : decode b_M_goWalks 28 = .ok (.aload_n 0, 1) := by decide +kernel
theorem d_M_goWalks_29 : decode b_M_goWalks 29 = .ok (.getfield 37, 3) := by decide +kernel
theorem d_M_goWalks_32 : decode b_M_goWalks 32 = .ok (.iload_n 2, 1) := by decide +kernel
theorem d_M_goWalks_33 : decode b_M_goWalks 33 = .ok (.iaload, 1) := by decide +kernel
theorem d_M_goWalks_34 : decode b_M_goWalks 34 = .ok (.iadd, 1) := by decide +kernel
theorem d_M_goWalks_35 : decode b_M_goWalks 35 = .ok (.istore_n 3, 1) := by decide +kernel
theorem d_M_goWalks_36 : decode b_M_goWalks 36 = .ok (.aload_n 0, 1) := by decide +kernel
theorem d_M_goWalks_37 : decode b_M_goWalks 37 = .ok (.aload_n 0, 1) := by decide +kernel
theorem d_M_goWalks_38 : decode b_M_goWalks 38 = .ok (.getfield 31, 3) := by decide +kernel
theorem d_M_goWalks_41 : decode b_M_goWalks 41 = .ok (.iload_n 2, 1) := by decide +kernel
theorem d_M_goWalks_42 : decode b_M_goWalks 42 = .ok (.iaload, 1) := by decide +kernel
theorem d_M_goWalks_43 : decode b_M_goWalks 43 = .ok (.invokevirtual 100, 3) := by decide +kernel
theorem d_M_goWalks_46 : decode b_M_goWalks 46 = .ok (.ldc 99, 2) := by decide +kernel
theorem d_M_goWalks_48 : decode b_M_goWalks 48 = .ok (.if_icmp .ge 37, 3) := by decide +kernel
theorem d_M_goWalks_51 : decode b_M_goWalks 51 = .ok (.iload_n 3, 1) := by decide +kernel
theorem d_M_goWalks_52 : decode b_M_goWalks 52 = .ok (.aload_n 0, 1) := by decide +kernel
theorem d_M_goWalks_53 : decode b_M_goWalks 53 = .ok (.getfield 52, 3) := by decide +kernel
theorem d_M_goWalks_56 : decode b_M_goWalks 56 = .ok (.aload_n 0, 1) := by decide +kernel
theorem d_M_goWalks_57 : decode b_M_goWalks 57 = .ok (.getfield 34, 3) := by decide +kernel
theorem d_M_goWalks_60 : decode b_M_goWalks 60 = .ok (.iload_n 2, 1) := by decide +kernel
theorem d_M_goWalks_61 : decode b_M_goWalks 61 = .ok (.iaload, 1) := by decide +kernel
theorem d_M_goWalks_62 : decode b_M_goWalks 62 = .ok (.iaload, 1) := by decide +kernel
theorem d_M_goWalks_63 : decode b_M_goWalks 63 = .ok (.if_icmp .ge 22, 3) := by decide +kernel
theorem d_M_goWalks_66 : decode b_M_goWalks 66 = .ok (.aload_n 0, 1) := by decide +kernel
theorem d_M_goWalks_67 : decode b_M_goWalks 67 = .ok (.getfield 52, 3) := by decide +kernel
theorem d_M_goWalks_70 : decode b_M_goWalks 70 = .ok (.aload_n 0, 1) := by decide +kernel
theorem d_M_goWalks_71 : decode b_M_goWalks 71 = .ok (.getfield 34, 3) := by decide +kernel
theorem d_M_goWalks_74 : decode b_M_goWalks 74 = .ok (.iload_n 2, 1) := by decide +kernel
theorem d_M_goWalks_75 : decode b_M_goWalks 75 = .ok (.iaload, 1) := by decide +kernel
theorem d_M_goWalks_76 : decode b_M_goWalks 76 = .ok (.iload_n 3, 1) := by decide +kernel
theorem d_M_goWalks_77 : decode b_M_goWalks 77 = .ok (.iastore, 1) := by decide +kernel
theorem d_M_goWalks_78 : decode b_M_goWalks 78 = .ok (.iconst 1, 1) := by decide +kernel
theorem d_M_goWalks_79 : decode b_M_goWalks 79 = .ok (.istore_n 1, 1) := by decide +kernel
theorem d_M_goWalks_80 : decode b_M_goWalks 80 = .ok (.aload_n 0, 1) := by decide +kernel
theorem d_M_goWalks_81 : decode b_M_goWalks 81 = .ok (.iconst 1, 1) := by decide +kernel
theorem d_M_goWalks_82 : decode b_M_goWalks 82 = .ok (.putfield 104, 3) := by decide +kernel
theorem d_M_goWalks_85 : decode b_M_goWalks 85 = .ok (.iinc 2 1, 3) := by decide +kernel
theorem d_M_goWalks_88 : decode b_M_goWalks 88 = .ok (.goto (-78), 3) := by decide +kernel
theorem d_M_goWalks_91 : decode b_M_goWalks 91 = .ok (.goto (-89), 3) := by decide +kernel
theorem d_M_goWalks_94 : decode b_M_goWalks 94 = .ok (.return_, 1) := by decide +kernel
theorem d_M_goRides_0 : decode b_M_goRides 0 = .ok (.aload_n 0, 1) := by decide +kernel
theorem d_M_goRides_1 : decode b_M_goRides 1 = .ok (.iconst 0, 1) := by decide +kernel
theorem d_M_goRides_2 : decode b_M_goRides 2 = .ok (.putfield 104, 3) := by decide +kernel
theorem d_M_goRides_5 : decode b_M_goRides 5 = .ok (.iconst 0, 1) := by decide +kernel
theorem d_M_goRides_6 : decode b_M_goRides 6 = .ok (.istore_n 1, 1) := by decide +kernel
theorem d_M_goRides_7 : decode b_M_goRides 7 = .ok (.iload_n 1, 1) := by decide +kernel
theorem d_M_goRides_8 : decode b_M_goRides 8 = .ok (.bipush 12, 2) := by decide +kernel
theorem d_M_goRides_10 : decode b_M_goRides 10 = .ok (.if_icmp .ge 21, 3) := by decide +kernel
theorem d_M_goRides_13 : decode b_M_goRides 13 = .ok (.aload_n 0, 1) := by decide +kernel
theorem d_M_goRides_14 : decode b_M_goRides 14 = .ok (.getfield 55, 3) := by decide +kernel
theorem d_M_goRides_17 : decode b_M_goRides 17 = .ok (.iload_n 1, 1) := by decide +kernel
theorem d_M_goRides_18 : decode b_M_goRides 18 = .ok (.aload_n 0, 1) := by decide +kernel
theorem d_M_goRides_19 : decode b_M_goRides 19 = .ok (.getfield 49, 3) := by decide +kernel
theorem d_M_goRides_22 : decode b_M_goRides 22 = .ok (.iload_n 1, 1) := by decide +kernel
theorem d_M_goRides_23 : decode b_M_goRides 23 = .ok (.iaload, 1) := by decide +kernel
theorem d_M_goRides_24 : decode b_M_goRides 24 = .ok (.iastore, 1) := by decide +kernel
theorem d_M_goRides_25 : decode b_M_goRides 25 = .ok (.iinc 1 1, 3) := by decide +kernel
theorem d_M_goRides_28 : decode b_M_goRides 28 = .ok (.goto (-21), 3) := by decide +kernel
theorem d_M_goRides_31 : decode b_M_goRides 31 = .ok (.iconst 0, 1) := by decide +kernel
theorem d_M_goRides_32 : decode b_M_goRides 32 = .ok (.istore_n 1, 1) := by decide +kernel
theorem d_M_goRides_33 : decode b_M_goRides 33 = .ok (.iload_n 1, 1) := by decide +kernel
theorem d_M_goRides_34 : decode b_M_goRides 34 = .ok (.aload_n 0, 1) := by decide +kernel
theorem d_M_goRides_35 : decode b_M_goRides 35 = .ok (.getfield 62, 3) := by decide +kernel
theorem d_M_goRides_38 : decode b_M_goRides 38 = .ok (.if_icmp .ge 74, 3) := by decide +kernel
theorem d_M_goRides_41 : decode b_M_goRides 41 = .ok (.iconst 0, 1) := by decide +kernel
theorem d_M_goRides_42 : decode b_M_goRides 42 = .ok (.istore_n 2, 1) := by decide +kernel
theorem d_M_goRides_43 : decode b_M_goRides 43 = .ok (.iload_n 2, 1) := by decide +kernel
theorem d_M_goRides_44 : decode b_M_goRides 44 = .ok (.bipush 7, 2) := by decide +kernel
theorem d_M_goRides_46 : decode b_M_goRides 46 = .ok (.if_icmp .ge 60, 3) := by decide +kernel
theorem d_M_goRides_49 : decode b_M_goRides 49 = .ok (.aload_n 0, 1) := by decide +kernel
theorem d_M_goRides_50 : decode b_M_goRides 50 = .ok (.iload_n 1, 1) := by decide +kernel
theorem d_M_goRides_51 : decode b_M_goRides 51 = .ok (.iload_n 2, 1) := by decide +kernel
theorem d_M_goRides_52 : decode b_M_goRides 52 = .ok (.invokevirtual 108, 3) := by decide +kernel
theorem d_M_goRides_55 : decode b_M_goRides 55 = .ok (.ifCond .eq 45, 3) := by decide +kernel
theorem d_M_goRides_58 : decode b_M_goRides 58 = .ok (.aload_n 0, 1) := by decide +kernel
theorem d_M_goRides_59 : decode b_M_goRides 59 = .ok (.iload_n 1, 1) := by decide +kernel
theorem d_M_goRides_60 : decode b_M_goRides 60 = .ok (.iload_n 2, 1) := by decide +kernel
theorem d_M_goRides_61 : decode b_M_goRides 61 = .ok (.invokevirtual 111, 3) := by decide +kernel
theorem d_M_goRides_64 : decode b_M_goRides 64 = .ok (.aload_n 0, 1) := by decide +kernel
theorem d_M_goRides_65 : decode b_M_goRides 65 = .ok (.getfield 55, 3) := by decide +kernel
theorem d_M_goRides_68 : decode b_M_goRides 68 = .ok (.aload_n 0, 1) := by decide +kernel
theorem d_M_goRides_69 : decode b_M_goRides 69 = .ok (.getfield 16, 3) := by decide +kernel
theorem d_M_goRides_72 : decode b_M_goRides 72 = .ok (.iload_n 1, 1) := by decide +kernel
theorem d_M_goRides_73 : decode b_M_goRides 73 = .ok (.iaload, 1) := by decide +kernel
theorem d_M_goRides_74 : decode b_M_goRides 74 = .ok (.iaload, 1) := by decide +kernel
theorem d_M_goRides_75 : decode b_M_goRides 75 = .ok (.if_icmp .ge 25, 3) := by decide +kernel
theorem d_M_goRides_78 : decode b_M_goRides 78 = .ok (.aload_n 0, 1) := by decide +kernel
theorem d_M_goRides_79 : decode b_M_goRides 79 = .ok (.getfield 55, 3) := by decide +kernel
theorem d_M_goRides_82 : decode b_M_goRides 82 = .ok (.aload_n 0, 1) := by decide +kernel
theorem d_M_goRides_83 : decode b_M_goRides 83 = .ok (.getfield 16, 3) := by decide +kernel
theorem d_M_goRides_86 : decode b_M_goRides 86 = .ok (.iload_n 1, 1) := by decide +kernel
theorem d_M_goRides_87 : decode b_M_goRides 87 = .ok (.iaload, 1) := by decide +kernel
theorem d_M_goRides_88 : decode b_M_goRides 88 = .ok (.aload_n 0, 1) := by decide +kernel
theorem d_M_goRides_89 : decode b_M_goRides 89 = .ok (.iload_n 1, 1) := by decide +kernel
theorem d_M_goRides_90 : decode b_M_goRides 90 = .ok (.iload_n 2, 1) := by decide +kernel
theorem d_M_goRides_91 : decode b_M_goRides 91 = .ok (.invokevirtual 111, 3) := by decide +kernel
theorem d_M_goRides_94 : decode b_M_goRides 94 = .ok (.iastore, 1) := by decide +kernel
theorem d_M_goRides_95 : decode b_M_goRides 95 = .ok (.aload_n 0, 1) := by decide +kernel
theorem d_M_goRides_96 : decode b_M_goRides 96 = .ok (.iconst 1, 1) := by decide +kernel
theorem d_M_goRides_97 : decode b_M_goRides 97 = .ok (.putfield 104, 3) := by decide +kernel
theorem d_M_goRides_100 : decode b_M_goRides 100 = .ok (.iinc 2 1, 3) := by decide +kernel
theorem d_M_goRides_103 : decode b_M_goRides 103 = .ok (.goto (-60), 3) := by decide +kernel
theorem d_M_goRides_106 : decode b_M_goRides 106 = .ok (.iinc 1 1, 3) := by decide +kernel
theorem d_M_goRides_109 : decode b_M_goRides 109 = .ok (.goto (-76), 3) := by decide +kernel
theorem d_M_goRides_112 : decode b_M_goRides 112 = .ok (.iconst 0, 1) := by decide +kernel
theorem d_M_goRides_113 : decode b_M_goRides 113 = .ok (.istore_n 1, 1) := by decide +kernel
theorem d_M_goRides_114 : decode b_M_goRides 114 = .ok (.iload_n 1, 1) := by decide +kernel
theorem d_M_goRides_115 : decode b_M_goRides 115 = .ok (.bipush 12, 2) := by decide +kernel
theorem d_M_goRides_117 : decode b_M_goRides 117 = .ok (.if_icmp .ge 21, 3) := by decide +kernel
theorem d_M_goRides_120 : decode b_M_goRides 120 = .ok (.aload_n 0, 1) := by decide +kernel
theorem d_M_goRides_121 : decode b_M_goRides 121 = .ok (.getfield 49, 3) := by decide +kernel
theorem d_M_goRides_124 : decode b_M_goRides 124 = .ok (.iload_n 1, 1) := by decide +kernel
theorem d_M_goRides_125 : decode b_M_goRides 125 = .ok (.aload_n 0, 1) := by decide +kernel
theorem d_M_goRides_126 : decode b_M_goRides 126 = .ok (.getfield 55, 3) := by decide +kernel
theorem d_M_goRides_129 : decode b_M_goRides 129 = .ok (.iload_n 1, 1) := by decide +kernel
theorem d_M_goRides_130 : decode b_M_goRides 130 = .ok (.iaload, 1) := by decide +kernel
theorem d_M_goRides_131 : decode b_M_goRides 131 = .ok (.iastore, 1) := by decide +kernel
theorem d_M_goRides_132 : decode b_M_goRides 132 = .ok (.iinc 1 1, 3) := by decide +kernel
theorem d_M_goRides_135 : decode b_M_goRides 135 = .ok (.goto (-21), 3) := by decide +kernel
theorem d_M_goRides_138 : decode b_M_goRides 138 = .ok (.aload_n 0, 1) := by decide +kernel
theorem d_M_goRides_139 : decode b_M_goRides 139 = .ok (.invokevirtual 114, 3) := by decide +kernel
theorem d_M_goRides_142 : decode b_M_goRides 142 = .ok (.return_, 1) := by decide +kernel
theorem d_M_find_0 : decode b_M_find 0 = .ok (.aload_n 0, 1) := by decide +kernel
theorem d_M_find_1 : decode b_M_find 1 = .ok (.iload_n 1, 1) := by decide +kernel
theorem d_M_find_2 : decode b_M_find 2 = .ok (.iload_n 2, 1) := by decide +kernel
theorem d_M_find_3 : decode b_M_find 3 = .ok (.invokevirtual 117, 3) := by decide +kernel
theorem d_M_find_6 : decode b_M_find 6 = .ok (.aload_n 0, 1) := by decide +kernel
theorem d_M_find_7 : decode b_M_find 7 = .ok (.invokevirtual 114, 3) := by decide +kernel
theorem d_M_find_10 : decode b_M_find 10 = .ok (.aload_n 0, 1) := by decide +kernel
theorem d_M_find_11 : decode b_M_find 11 = .ok (.iconst 1, 1) := by decide +kernel
theorem d_M_find_12 : decode b_M_find 12 = .ok (.putfield 104, 3) := by decide +kernel
theorem d_M_find_15 : decode b_M_find 15 = .ok (.aload_n 0, 1) := by decide +kernel
theorem d_M_find_16 : decode b_M_find 16 = .ok (.getfield 104, 3) := by decide +kernel
theorem d_M_find_19 : decode b_M_find 19 = .ok (.ifCond .eq 10, 3) := by decide +kernel
theorem d_M_find_22 : decode b_M_find 22 = .ok (.aload_n 0, 1) := by decide +kernel
theorem d_M_find_23 : decode b_M_find 23 = .ok (.invokevirtual 121, 3) := by decide +kernel
theorem d_M_find_26 : decode b_M_find 26 = .ok (.goto (-11), 3) := by decide +kernel
theorem d_M_find_29 : decode b_M_find 29 = .ok (.return_, 1) := by decide +kernel
theorem d_M_found_0 : decode b_M_found 0 = .ok (.aload_n 0, 1) := by decide +kernel
theorem d_M_found_1 : decode b_M_found 1 = .ok (.iload_n 1, 1) := by decide +kernel
theorem d_M_found_2 : decode b_M_found 2 = .ok (.iload_n 3, 1) := by decide +kernel
theorem d_M_found_3 : decode b_M_found 3 = .ok (.invokevirtual 124, 3) := by decide +kernel
theorem d_M_found_6 : decode b_M_found 6 = .ok (.aload_n 0, 1) := by decide +kernel
theorem d_M_found_7 : decode b_M_found 7 = .ok (.iload_n 2, 1) := by decide +kernel
theorem d_M_found_8 : decode b_M_found 8 = .ok (.invokevirtual 100, 3) := by decide +kernel
theorem d_M_found_11 : decode b_M_found 11 = .ok (.ldc 99, 2) := by decide +kernel
theorem d_M_found_13 : decode b_M_found 13 = .ok (.if_icmp .ge 11, 3) := by decide +kernel
theorem d_M_found_16 : decode b_M_found 16 = .ok (.aload_n 0, 1) := by decide +kernel
theorem d_M_found_17 : decode b_M_found 17 = .ok (.iload_n 2, 1) := by decide +kernel
theorem d_M_found_18 : decode b_M_found 18 = .ok (.invokevirtual 100, 3) := by decide +kernel
theorem d_M_found_21 : decode b_M_found 21 = .ok (.goto 4, 3) := by decide +kernel
theorem d_M_found_24 : decode b_M_found 24 = .ok (.iconst (-1), 1) := by decide +kernel
theorem d_M_found_25 : decode b_M_found 25 = .ok (.ireturn, 1) := by decide +kernel
theorem d_M_isAsked_0 : decode b_M_isAsked 0 = .ok (.aload_n 0, 1) := by decide +kernel
theorem d_M_isAsked_1 : decode b_M_isAsked 1 = .ok (.iload_n 1, 1) := by decide +kernel
theorem d_M_isAsked_2 : decode b_M_isAsked 2 = .ok (.invokevirtual 78, 3) := by decide +kernel
theorem d_M_isAsked_5 : decode b_M_isAsked 5 = .ok (.ifCond .eq 26, 3) := by decide +kernel
theorem d_M_isAsked_8 : decode b_M_isAsked 8 = .ok (.aload_n 0, 1) := by decide +kernel
theorem d_M_isAsked_9 : decode b_M_isAsked 9 = .ok (.iload_n 2, 1) := by decide +kernel
theorem d_M_isAsked_10 : decode b_M_isAsked 10 = .ok (.invokevirtual 78, 3) := by decide +kernel
theorem d_M_isAsked_13 : decode b_M_isAsked 13 = .ok (.ifCond .eq 18, 3) := by decide +kernel
theorem d_M_isAsked_16 : decode b_M_isAsked 16 = .ok (.iload_n 3, 1) := by decide +kernel
theorem d_M_isAsked_17 : decode b_M_isAsked 17 = .ok (.iconst 0, 1) := by decide +kernel
theorem d_M_isAsked_18 : decode b_M_isAsked 18 = .ok (.sipush 10079, 3) := by decide +kernel
theorem d_M_isAsked_21 : decode b_M_isAsked 21 = .ok (.invokestatic 74, 3) := by decide +kernel
theorem d_M_isAsked_24 : decode b_M_isAsked 24 = .ok (.ifCond .eq 7, 3) := by decide +kernel
theorem d_M_isAsked_27 : decode b_M_isAsked 27 = .ok (.iconst 1, 1) := by decide +kernel
theorem d_M_isAsked_28 : decode b_M_isAsked 28 = .ok (.goto 4, 3) := by decide +kernel
theorem d_M_isAsked_31 : decode b_M_isAsked 31 = .ok (.iconst 0, 1) := by decide +kernel
theorem d_M_isAsked_32 : decode b_M_isAsked 32 = .ok (.ireturn, 1) := by decide +kernel
theorem d_M_earliest_0 : decode b_M_earliest 0 = .ok (.aload_n 0, 1) := by decide +kernel
theorem d_M_earliest_1 : decode b_M_earliest 1 = .ok (.iload_n 1, 1) := by decide +kernel
theorem d_M_earliest_2 : decode b_M_earliest 2 = .ok (.iload_n 2, 1) := by decide +kernel
theorem d_M_earliest_3 : decode b_M_earliest 3 = .ok (.iload_n 3, 1) := by decide +kernel
theorem d_M_earliest_4 : decode b_M_earliest 4 = .ok (.invokevirtual 127, 3) := by decide +kernel
theorem d_M_earliest_7 : decode b_M_earliest 7 = .ok (.ifCond .eq 13, 3) := by decide +kernel
theorem d_M_earliest_10 : decode b_M_earliest 10 = .ok (.aload_n 0, 1) := by decide +kernel
theorem d_M_earliest_11 : decode b_M_earliest 11 = .ok (.iload_n 1, 1) := by decide +kernel
theorem d_M_earliest_12 : decode b_M_earliest 12 = .ok (.iload_n 2, 1) := by decide +kernel
theorem d_M_earliest_13 : decode b_M_earliest 13 = .ok (.iload_n 3, 1) := by decide +kernel
theorem d_M_earliest_14 : decode b_M_earliest 14 = .ok (.invokevirtual 130, 3) := by decide +kernel
theorem d_M_earliest_17 : decode b_M_earliest 17 = .ok (.goto 5, 3) := by decide +kernel
theorem d_M_earliest_20 : decode b_M_earliest 20 = .ok (.bipush (-2), 2) := by decide +kernel
theorem d_M_earliest_22 : decode b_M_earliest 22 = .ok (.ireturn, 1) := by decide +kernel
theorem d_M_isBy_0 : decode b_M_isBy 0 = .ok (.aload_n 0, 1) := by decide +kernel
theorem d_M_isBy_1 : decode b_M_isBy 1 = .ok (.iload_n 1, 1) := by decide +kernel
theorem d_M_isBy_2 : decode b_M_isBy 2 = .ok (.iload_n 3, 1) := by decide +kernel
theorem d_M_isBy_3 : decode b_M_isBy 3 = .ok (.invokevirtual 124, 3) := by decide +kernel
theorem d_M_isBy_6 : decode b_M_isBy 6 = .ok (.aload_n 0, 1) := by decide +kernel
theorem d_M_isBy_7 : decode b_M_isBy 7 = .ok (.iload_n 2, 1) := by decide +kernel
theorem d_M_isBy_8 : decode b_M_isBy 8 = .ok (.invokevirtual 100, 3) := by decide +kernel
theorem d_M_isBy_11 : decode b_M_isBy 11 = .ok (.iload 4, 2) := by decide +kernel
theorem d_M_isBy_13 : decode b_M_isBy 13 = .ok (.if_icmp .gt 7, 3) := by decide +kernel
theorem d_M_isBy_16 : decode b_M_isBy 16 = .ok (.iconst 1, 1) := by decide +kernel
theorem d_M_isBy_17 : decode b_M_isBy 17 = .ok (.goto 4, 3) := by decide +kernel
theorem d_M_isBy_20 : decode b_M_isBy 20 = .ok (.iconst 0, 1) := by decide +kernel
theorem d_M_isBy_21 : decode b_M_isBy 21 = .ok (.ireturn, 1) := by decide +kernel
theorem d_M_latest_0 : decode b_M_latest 0 = .ok (.aload_n 0, 1) := by decide +kernel
theorem d_M_latest_1 : decode b_M_latest 1 = .ok (.iload_n 1, 1) := by decide +kernel
theorem d_M_latest_2 : decode b_M_latest 2 = .ok (.invokevirtual 78, 3) := by decide +kernel
theorem d_M_latest_5 : decode b_M_latest 5 = .ok (.ifCond .eq 22, 3) := by decide +kernel
theorem d_M_latest_8 : decode b_M_latest 8 = .ok (.aload_n 0, 1) := by decide +kernel
theorem d_M_latest_9 : decode b_M_latest 9 = .ok (.iload_n 2, 1) := by decide +kernel
theorem d_M_latest_10 : decode b_M_latest 10 = .ok (.invokevirtual 78, 3) := by decide +kernel
theorem d_M_latest_13 : decode b_M_latest 13 = .ok (.ifCond .eq 14, 3) := by decide +kernel
theorem d_M_latest_16 : decode b_M_latest 16 = .ok (.iload_n 3, 1) := by decide +kernel
theorem d_M_latest_17 : decode b_M_latest 17 = .ok (.iconst 0, 1) := by decide +kernel
theorem d_M_latest_18 : decode b_M_latest 18 = .ok (.sipush 20000, 3) := by decide +kernel
theorem d_M_latest_21 : decode b_M_latest 21 = .ok (.invokestatic 74, 3) := by decide +kernel
theorem d_M_latest_24 : decode b_M_latest 24 = .ok (.ifCond .ne 6, 3) := by decide +kernel
theorem d_M_latest_27 : decode b_M_latest 27 = .ok (.bipush (-2), 2) := by decide +kernel
theorem d_M_latest_29 : decode b_M_latest 29 = .ok (.ireturn, 1) := by decide +kernel
theorem d_M_latest_30 : decode b_M_latest 30 = .ok (.iconst (-1), 1) := by decide +kernel
theorem d_M_latest_31 : decode b_M_latest 31 = .ok (.istore 4, 2) := by decide +kernel
theorem d_M_latest_33 : decode b_M_latest 33 = .ok (.sipush 10079, 3) := by decide +kernel
theorem d_M_latest_36 : decode b_M_latest 36 = .ok (.istore 5, 2) := by decide +kernel
theorem d_M_latest_38 : decode b_M_latest 38 = .ok (.iload 4, 2) := by decide +kernel
theorem d_M_latest_40 : decode b_M_latest 40 = .ok (.iload 5, 2) := by decide +kernel
theorem d_M_latest_42 : decode b_M_latest 42 = .ok (.if_icmp .ge 42, 3) := by decide +kernel
theorem d_M_latest_45 : decode b_M_latest 45 = .ok (.iload 4, 2) := by decide +kernel
theorem d_M_latest_47 : decode b_M_latest 47 = .ok (.iload 5, 2) := by decide +kernel
theorem d_M_latest_49 : decode b_M_latest 49 = .ok (.iadd, 1) := by decide +kernel
theorem d_M_latest_50 : decode b_M_latest 50 = .ok (.iconst 1, 1) := by decide +kernel
theorem d_M_latest_51 : decode b_M_latest 51 = .ok (.iadd, 1) := by decide +kernel
theorem d_M_latest_52 : decode b_M_latest 52 = .ok (.iconst 2, 1) := by decide +kernel
theorem d_M_latest_53 : decode b_M_latest 53 = .ok (.idiv, 1) := by decide +kernel
theorem d_M_latest_54 : decode b_M_latest 54 = .ok (.istore 6, 2) := by decide +kernel
theorem d_M_latest_56 : decode b_M_latest 56 = .ok (.aload_n 0, 1) := by decide +kernel
theorem d_M_latest_57 : decode b_M_latest 57 = .ok (.iload_n 1, 1) := by decide +kernel
theorem d_M_latest_58 : decode b_M_latest 58 = .ok (.iload_n 2, 1) := by decide +kernel
theorem d_M_latest_59 : decode b_M_latest 59 = .ok (.iload 6, 2) := by decide +kernel
theorem d_M_latest_61 : decode b_M_latest 61 = .ok (.iload_n 3, 1) := by decide +kernel
theorem d_M_latest_62 : decode b_M_latest 62 = .ok (.invokevirtual 134, 3) := by decide +kernel
theorem d_M_latest_65 : decode b_M_latest 65 = .ok (.ifCond .eq 10, 3) := by decide +kernel
theorem d_M_latest_68 : decode b_M_latest 68 = .ok (.iload 6, 2) := by decide +kernel
theorem d_M_latest_70 : decode b_M_latest 70 = .ok (.istore 4, 2) := by decide +kernel
theorem d_M_latest_72 : decode b_M_latest 72 = .ok (.goto 9, 3) := by decide +kernel
theorem d_M_latest_75 : decode b_M_latest 75 = .ok (.iload 6, 2) := by decide +kernel
theorem d_M_latest_77 : decode b_M_latest 77 = .ok (.iconst 1, 1) := by decide +kernel
theorem d_M_latest_78 : decode b_M_latest 78 = .ok (.isub, 1) := by decide +kernel
theorem d_M_latest_79 : decode b_M_latest 79 = .ok (.istore 5, 2) := by decide +kernel
theorem d_M_latest_81 : decode b_M_latest 81 = .ok (.goto (-43), 3) := by decide +kernel
theorem d_M_latest_84 : decode b_M_latest 84 = .ok (.iload 4, 2) := by decide +kernel
theorem d_M_latest_86 : decode b_M_latest 86 = .ok (.ireturn, 1) := by decide +kernel
theorem d_M_fewest_0 : decode b_M_fewest 0 = .ok (.aload_n 0, 1) := by decide +kernel
theorem d_M_fewest_1 : decode b_M_fewest 1 = .ok (.iload_n 1, 1) := by decide +kernel
theorem d_M_fewest_2 : decode b_M_fewest 2 = .ok (.iload_n 2, 1) := by decide +kernel
theorem d_M_fewest_3 : decode b_M_fewest 3 = .ok (.iload_n 3, 1) := by decide +kernel
theorem d_M_fewest_4 : decode b_M_fewest 4 = .ok (.invokevirtual 127, 3) := by decide +kernel
theorem d_M_fewest_7 : decode b_M_fewest 7 = .ok (.ifCond .eq 15, 3) := by decide +kernel
theorem d_M_fewest_10 : decode b_M_fewest 10 = .ok (.iload 4, 2) := by decide +kernel
theorem d_M_fewest_12 : decode b_M_fewest 12 = .ok (.iconst 0, 1) := by decide +kernel
theorem d_M_fewest_13 : decode b_M_fewest 13 = .ok (.sipush 20000, 3) := by decide +kernel
theorem d_M_fewest_16 : decode b_M_fewest 16 = .ok (.invokestatic 74, 3) := by decide +kernel
theorem d_M_fewest_19 : decode b_M_fewest 19 = .ok (.ifCond .ne 6, 3) := by decide +kernel
theorem d_M_fewest_22 : decode b_M_fewest 22 = .ok (.bipush (-2), 2) := by decide +kernel
theorem d_M_fewest_24 : decode b_M_fewest 24 = .ok (.ireturn, 1) := by decide +kernel
theorem d_M_fewest_25 : decode b_M_fewest 25 = .ok (.aload_n 0, 1) := by decide +kernel
theorem d_M_fewest_26 : decode b_M_fewest 26 = .ok (.iload_n 1, 1) := by decide +kernel
theorem d_M_fewest_27 : decode b_M_fewest 27 = .ok (.iload_n 3, 1) := by decide +kernel
theorem d_M_fewest_28 : decode b_M_fewest 28 = .ok (.invokevirtual 117, 3) := by decide +kernel
theorem d_M_fewest_31 : decode b_M_fewest 31 = .ok (.aload_n 0, 1) := by decide +kernel
theorem d_M_fewest_32 : decode b_M_fewest 32 = .ok (.invokevirtual 114, 3) := by decide +kernel
theorem d_M_fewest_35 : decode b_M_fewest 35 = .ok (.iconst 0, 1) := by decide +kernel
theorem d_M_fewest_36 : decode b_M_fewest 36 = .ok (.istore 5, 2) := by decide +kernel
theorem d_M_fewest_38 : decode b_M_fewest 38 = .ok (.aload_n 0, 1) := by decide +kernel
theorem d_M_fewest_39 : decode b_M_fewest 39 = .ok (.iconst 1, 1) := by decide +kernel
theorem d_M_fewest_40 : decode b_M_fewest 40 = .ok (.putfield 104, 3) := by decide +kernel
theorem d_M_fewest_43 : decode b_M_fewest 43 = .ok (.aload_n 0, 1) := by decide +kernel
theorem d_M_fewest_44 : decode b_M_fewest 44 = .ok (.getfield 104, 3) := by decide +kernel
theorem d_M_fewest_47 : decode b_M_fewest 47 = .ok (.ifCond .eq 23, 3) := by decide +kernel
theorem d_M_fewest_50 : decode b_M_fewest 50 = .ok (.aload_n 0, 1) := by decide +kernel
theorem d_M_fewest_51 : decode b_M_fewest 51 = .ok (.iload_n 2, 1) := by decide +kernel
theorem d_M_fewest_52 : decode b_M_fewest 52 = .ok (.invokevirtual 100, 3) := by decide +kernel
theorem d_M_fewest_55 : decode b_M_fewest 55 = .ok (.iload 4, 2) := by decide +kernel
theorem d_M_fewest_57 : decode b_M_fewest 57 = .ok (.if_icmp .le 13, 3) := by decide +kernel
theorem d_M_fewest_60 : decode b_M_fewest 60 = .ok (.aload_n 0, 1) := by decide +kernel
theorem d_M_fewest_61 : decode b_M_fewest 61 = .ok (.invokevirtual 121, 3) := by decide +kernel
theorem d_M_fewest_64 : decode b_M_fewest 64 = .ok (.iinc 5 1, 3) := by decide +kernel
theorem d_M_fewest_67 : decode b_M_fewest 67 = .ok (.goto (-24), 3) := by decide +kernel
theorem d_M_fewest_70 : decode b_M_fewest 70 = .ok (.aload_n 0, 1) := by decide +kernel
theorem d_M_fewest_71 : decode b_M_fewest 71 = .ok (.iload_n 2, 1) := by decide +kernel
theorem d_M_fewest_72 : decode b_M_fewest 72 = .ok (.invokevirtual 100, 3) := by decide +kernel
theorem d_M_fewest_75 : decode b_M_fewest 75 = .ok (.iload 4, 2) := by decide +kernel
theorem d_M_fewest_77 : decode b_M_fewest 77 = .ok (.if_icmp .gt 8, 3) := by decide +kernel
theorem d_M_fewest_80 : decode b_M_fewest 80 = .ok (.iload 5, 2) := by decide +kernel
theorem d_M_fewest_82 : decode b_M_fewest 82 = .ok (.goto 4, 3) := by decide +kernel
theorem d_M_fewest_85 : decode b_M_fewest 85 = .ok (.iconst (-1), 1) := by decide +kernel
theorem d_M_fewest_86 : decode b_M_fewest 86 = .ok (.ireturn, 1) := by decide +kernel
theorem d_M_isSpan_0 : decode b_M_isSpan 0 = .ok (.aload_n 0, 1) := by decide +kernel
theorem d_M_isSpan_1 : decode b_M_isSpan 1 = .ok (.iload_n 1, 1) := by decide +kernel
theorem d_M_isSpan_2 : decode b_M_isSpan 2 = .ok (.iload_n 2, 1) := by decide +kernel
theorem d_M_isSpan_3 : decode b_M_isSpan 3 = .ok (.iload_n 3, 1) := by decide +kernel
theorem d_M_isSpan_4 : decode b_M_isSpan 4 = .ok (.invokevirtual 127, 3) := by decide +kernel
theorem d_M_isSpan_7 : decode b_M_isSpan 7 = .ok (.ifCond .eq 29, 3) := by decide +kernel
theorem d_M_isSpan_10 : decode b_M_isSpan 10 = .ok (.iload 4, 2) := by decide +kernel
theorem d_M_isSpan_12 : decode b_M_isSpan 12 = .ok (.iload_n 3, 1) := by decide +kernel
theorem d_M_isSpan_13 : decode b_M_isSpan 13 = .ok (.sipush 10079, 3) := by decide +kernel
theorem d_M_isSpan_16 : decode b_M_isSpan 16 = .ok (.invokestatic 74, 3) := by decide +kernel
theorem d_M_isSpan_19 : decode b_M_isSpan 19 = .ok (.ifCond .eq 17, 3) := by decide +kernel
theorem d_M_isSpan_22 : decode b_M_isSpan 22 = .ok (.iload 4, 2) := by decide +kernel
theorem d_M_isSpan_24 : decode b_M_isSpan 24 = .ok (.iload_n 3, 1) := by decide +kernel
theorem d_M_isSpan_25 : decode b_M_isSpan 25 = .ok (.isub, 1) := by decide +kernel
theorem d_M_isSpan_26 : decode b_M_isSpan 26 = .ok (.sipush 600, 3) := by decide +kernel
theorem d_M_isSpan_29 : decode b_M_isSpan 29 = .ok (.if_icmp .gt 7, 3) := by decide +kernel
theorem d_M_isSpan_32 : decode b_M_isSpan 32 = .ok (.iconst 1, 1) := by decide +kernel
theorem d_M_isSpan_33 : decode b_M_isSpan 33 = .ok (.goto 4, 3) := by decide +kernel
theorem d_M_isSpan_36 : decode b_M_isSpan 36 = .ok (.iconst 0, 1) := by decide +kernel
theorem d_M_isSpan_37 : decode b_M_isSpan 37 = .ok (.ireturn, 1) := by decide +kernel
theorem d_M_fastest_0 : decode b_M_fastest 0 = .ok (.aload_n 0, 1) := by decide +kernel
theorem d_M_fastest_1 : decode b_M_fastest 1 = .ok (.iload_n 1, 1) := by decide +kernel
theorem d_M_fastest_2 : decode b_M_fastest 2 = .ok (.iload_n 2, 1) := by decide +kernel
theorem d_M_fastest_3 : decode b_M_fastest 3 = .ok (.iload_n 3, 1) := by decide +kernel
theorem d_M_fastest_4 : decode b_M_fastest 4 = .ok (.iload 4, 2) := by decide +kernel
theorem d_M_fastest_6 : decode b_M_fastest 6 = .ok (.invokevirtual 138, 3) := by decide +kernel
theorem d_M_fastest_9 : decode b_M_fastest 9 = .ok (.ifCond .ne 6, 3) := by decide +kernel
theorem d_M_fastest_12 : decode b_M_fastest 12 = .ok (.bipush (-2), 2) := by decide +kernel
theorem d_M_fastest_14 : decode b_M_fastest 14 = .ok (.ireturn, 1) := by decide +kernel
theorem d_M_fastest_15 : decode b_M_fastest 15 = .ok (.iconst (-1), 1) := by decide +kernel
theorem d_M_fastest_16 : decode b_M_fastest 16 = .ok (.istore 5, 2) := by decide +kernel
theorem d_M_fastest_18 : decode b_M_fastest 18 = .ok (.iload_n 3, 1) := by decide +kernel
theorem d_M_fastest_19 : decode b_M_fastest 19 = .ok (.istore 6, 2) := by decide +kernel
theorem d_M_fastest_21 : decode b_M_fastest 21 = .ok (.iload 6, 2) := by decide +kernel
theorem d_M_fastest_23 : decode b_M_fastest 23 = .ok (.iload 4, 2) := by decide +kernel
theorem d_M_fastest_25 : decode b_M_fastest 25 = .ok (.if_icmp .gt 53, 3) := by decide +kernel
theorem d_M_fastest_28 : decode b_M_fastest 28 = .ok (.aload_n 0, 1) := by decide +kernel
theorem d_M_fastest_29 : decode b_M_fastest 29 = .ok (.iload_n 1, 1) := by decide +kernel
theorem d_M_fastest_30 : decode b_M_fastest 30 = .ok (.iload_n 2, 1) := by decide +kernel
theorem d_M_fastest_31 : decode b_M_fastest 31 = .ok (.iload 6, 2) := by decide +kernel
theorem d_M_fastest_33 : decode b_M_fastest 33 = .ok (.invokevirtual 130, 3) := by decide +kernel
theorem d_M_fastest_36 : decode b_M_fastest 36 = .ok (.istore 7, 2) := by decide +kernel
theorem d_M_fastest_38 : decode b_M_fastest 38 = .ok (.iload 7, 2) := by decide +kernel
theorem d_M_fastest_40 : decode b_M_fastest 40 = .ok (.iconst (-1), 1) := by decide +kernel
theorem d_M_fastest_41 : decode b_M_fastest 41 = .ok (.if_icmp .eq 27, 3) := by decide +kernel
theorem d_M_fastest_44 : decode b_M_fastest 44 = .ok (.iload 5, 2) := by decide +kernel
theorem d_M_fastest_46 : decode b_M_fastest 46 = .ok (.iconst (-1), 1) := by decide +kernel
theorem d_M_fastest_47 : decode b_M_fastest 47 = .ok (.if_icmp .eq 13, 3) := by decide +kernel
theorem d_M_fastest_50 : decode b_M_fastest 50 = .ok (.iload 7, 2) := by decide +kernel
theorem d_M_fastest_52 : decode b_M_fastest 52 = .ok (.iload 6, 2) := by decide +kernel
theorem d_M_fastest_54 : decode b_M_fastest 54 = .ok (.isub, 1) := by decide +kernel
theorem d_M_fastest_55 : decode b_M_fastest 55 = .ok (.iload 5, 2) := by decide +kernel
theorem d_M_fastest_57 : decode b_M_fastest 57 = .ok (.if_icmp .ge 11, 3) := by decide +kernel
theorem d_M_fastest_60 : decode b_M_fastest 60 = .ok (.iload 7, 2) := by decide +kernel
theorem d_M_fastest_62 : decode b_M_fastest 62 = .ok (.iload 6, 2) := by decide +kernel
theorem d_M_fastest_64 : decode b_M_fastest 64 = .ok (.isub, 1) := by decide +kernel
theorem d_M_fastest_65 : decode b_M_fastest 65 = .ok (.goto 5, 3) := by decide +kernel
theorem d_M_fastest_68 : decode b_M_fastest 68 = .ok (.iload 5, 2) := by decide +kernel
theorem d_M_fastest_70 : decode b_M_fastest 70 = .ok (.istore 5, 2) := by decide +kernel
theorem d_M_fastest_72 : decode b_M_fastest 72 = .ok (.iinc 6 1, 3) := by decide +kernel
theorem d_M_fastest_75 : decode b_M_fastest 75 = .ok (.goto (-54), 3) := by decide +kernel
theorem d_M_fastest_78 : decode b_M_fastest 78 = .ok (.iload 5, 2) := by decide +kernel
theorem d_M_fastest_80 : decode b_M_fastest 80 = .ok (.ireturn, 1) := by decide +kernel
theorem d_M_profile_0 : decode b_M_profile 0 = .ok (.aload_n 0, 1) := by decide +kernel
theorem d_M_profile_1 : decode b_M_profile 1 = .ok (.iload_n 1, 1) := by decide +kernel
theorem d_M_profile_2 : decode b_M_profile 2 = .ok (.iload_n 2, 1) := by decide +kernel
theorem d_M_profile_3 : decode b_M_profile 3 = .ok (.iload_n 3, 1) := by decide +kernel
theorem d_M_profile_4 : decode b_M_profile 4 = .ok (.iload 4, 2) := by decide +kernel
theorem d_M_profile_6 : decode b_M_profile 6 = .ok (.invokevirtual 138, 3) := by decide +kernel
theorem d_M_profile_9 : decode b_M_profile 9 = .ok (.ifCond .ne 6, 3) := by decide +kernel
theorem d_M_profile_12 : decode b_M_profile 12 = .ok (.bipush (-2), 2) := by decide +kernel
theorem d_M_profile_14 : decode b_M_profile 14 = .ok (.ireturn, 1) := by decide +kernel
theorem d_M_profile_15 : decode b_M_profile 15 = .ok (.aload_n 0, 1) := by decide +kernel
theorem d_M_profile_16 : decode b_M_profile 16 = .ok (.iconst 0, 1) := by decide +kernel
theorem d_M_profile_17 : decode b_M_profile 17 = .ok (.putfield 68, 3) := by decide +kernel
theorem d_M_profile_20 : decode b_M_profile 20 = .ok (.iload_n 3, 1) := by decide +kernel
theorem d_M_profile_21 : decode b_M_profile 21 = .ok (.istore 5, 2) := by decide +kernel
theorem d_M_profile_23 : decode b_M_profile 23 = .ok (.iload 5, 2) := by decide +kernel
theorem d_M_profile_25 : decode b_M_profile 25 = .ok (.iload 4, 2) := by decide +kernel
theorem d_M_profile_27 : decode b_M_profile 27 = .ok (.if_icmp .gt 74, 3) := by decide +kernel
theorem d_M_profile_30 : decode b_M_profile 30 = .ok (.aload_n 0, 1) := by decide +kernel
theorem d_M_profile_31 : decode b_M_profile 31 = .ok (.iload_n 1, 1) := by decide +kernel
theorem d_M_profile_32 : decode b_M_profile 32 = .ok (.iload_n 2, 1) := by decide +kernel
theorem d_M_profile_33 : decode b_M_profile 33 = .ok (.iload 5, 2) := by decide +kernel
theorem d_M_profile_35 : decode b_M_profile 35 = .ok (.invokevirtual 130, 3) := by decide +kernel
theorem d_M_profile_38 : decode b_M_profile 38 = .ok (.istore 6, 2) := by decide +kernel
theorem d_M_profile_40 : decode b_M_profile 40 = .ok (.aload_n 0, 1) := by decide +kernel
theorem d_M_profile_41 : decode b_M_profile 41 = .ok (.getfield 68, 3) := by decide +kernel
theorem d_M_profile_44 : decode b_M_profile 44 = .ok (.ifCond .eq 19, 3) := by decide +kernel
theorem d_M_profile_47 : decode b_M_profile 47 = .ok (.aload_n 0, 1) := by decide +kernel
theorem d_M_profile_48 : decode b_M_profile 48 = .ok (.getfield 43, 3) := by decide +kernel
theorem d_M_profile_51 : decode b_M_profile 51 = .ok (.aload_n 0, 1) := by decide +kernel
theorem d_M_profile_52 : decode b_M_profile 52 = .ok (.getfield 68, 3) := by decide +kernel
theorem d_M_profile_55 : decode b_M_profile 55 = .ok (.iconst 1, 1) := by decide +kernel
theorem d_M_profile_56 : decode b_M_profile 56 = .ok (.isub, 1) := by decide +kernel
theorem d_M_profile_57 : decode b_M_profile 57 = .ok (.iaload, 1) := by decide +kernel
theorem d_M_profile_58 : decode b_M_profile 58 = .ok (.iload 6, 2) := by decide +kernel
theorem d_M_profile_60 : decode b_M_profile 60 = .ok (.if_icmp .eq 35, 3) := by decide +kernel
theorem d_M_profile_63 : decode b_M_profile 63 = .ok (.aload_n 0, 1) := by decide +kernel
theorem d_M_profile_64 : decode b_M_profile 64 = .ok (.getfield 40, 3) := by decide +kernel
theorem d_M_profile_67 : decode b_M_profile 67 = .ok (.aload_n 0, 1) := by decide +kernel
theorem d_M_profile_68 : decode b_M_profile 68 = .ok (.getfield 68, 3) := by decide +kernel
theorem d_M_profile_71 : decode b_M_profile 71 = .ok (.iload 5, 2) := by decide +kernel
theorem d_M_profile_73 : decode b_M_profile 73 = .ok (.iastore, 1) := by decide +kernel
theorem d_M_profile_74 : decode b_M_profile 74 = .ok (.aload_n 0, 1) := by decide +kernel
theorem d_M_profile_75 : decode b_M_profile 75 = .ok (.getfield 43, 3) := by decide +kernel
theorem d_M_profile_78 : decode b_M_profile 78 = .ok (.aload_n 0, 1) := by decide +kernel
theorem d_M_profile_79 : decode b_M_profile 79 = .ok (.getfield 68, 3) := by decide +kernel
theorem d_M_profile_82 : decode b_M_profile 82 = .ok (.iload 6, 2) := by decide +kernel
theorem d_M_profile_84 : decode b_M_profile 84 = .ok (.iastore, 1) := by decide +kernel
theorem d_M_profile_85 : decode b_M_profile 85 = .ok (.aload_n 0, 1) := by decide +kernel
theorem d_M_profile_86 : decode b_M_profile 86 = .ok (.dup, 1) := by decide +kernel
theorem d_M_profile_87 : decode b_M_profile 87 = .ok (.getfield 68, 3) := by decide +kernel
theorem d_M_profile_90 : decode b_M_profile 90 = .ok (.iconst 1, 1) := by decide +kernel
theorem d_M_profile_91 : decode b_M_profile 91 = .ok (.iadd, 1) := by decide +kernel
theorem d_M_profile_92 : decode b_M_profile 92 = .ok (.putfield 68, 3) := by decide +kernel
theorem d_M_profile_95 : decode b_M_profile 95 = .ok (.iinc 5 1, 3) := by decide +kernel
theorem d_M_profile_98 : decode b_M_profile 98 = .ok (.goto (-75), 3) := by decide +kernel
theorem d_M_profile_101 : decode b_M_profile 101 = .ok (.aload_n 0, 1) := by decide +kernel
theorem d_M_profile_102 : decode b_M_profile 102 = .ok (.getfield 68, 3) := by decide +kernel
theorem d_M_profile_105 : decode b_M_profile 105 = .ok (.ireturn, 1) := by decide +kernel
theorem d_M_step_0 : decode b_M_step 0 = .ok (.iload_n 1, 1) := by decide +kernel
theorem d_M_step_1 : decode b_M_step 1 = .ok (.iconst 0, 1) := by decide +kernel
theorem d_M_step_2 : decode b_M_step 2 = .ok (.aload_n 0, 1) := by decide +kernel
theorem d_M_step_3 : decode b_M_step 3 = .ok (.getfield 68, 3) := by decide +kernel
theorem d_M_step_6 : decode b_M_step 6 = .ok (.iconst 1, 1) := by decide +kernel
theorem d_M_step_7 : decode b_M_step 7 = .ok (.isub, 1) := by decide +kernel
theorem d_M_step_8 : decode b_M_step 8 = .ok (.invokestatic 74, 3) := by decide +kernel
theorem d_M_step_11 : decode b_M_step 11 = .ok (.ifCond .eq 12, 3) := by decide +kernel
theorem d_M_step_14 : decode b_M_step 14 = .ok (.iload_n 2, 1) := by decide +kernel
theorem d_M_step_15 : decode b_M_step 15 = .ok (.iconst 0, 1) := by decide +kernel
theorem d_M_step_16 : decode b_M_step 16 = .ok (.iconst 1, 1) := by decide +kernel
theorem d_M_step_17 : decode b_M_step 17 = .ok (.invokestatic 74, 3) := by decide +kernel
theorem d_M_step_20 : decode b_M_step 20 = .ok (.ifCond .ne 6, 3) := by decide +kernel
theorem d_M_step_23 : decode b_M_step 23 = .ok (.bipush (-2), 2) := by decide +kernel
theorem d_M_step_25 : decode b_M_step 25 = .ok (.ireturn, 1) := by decide +kernel
theorem d_M_step_26 : decode b_M_step 26 = .ok (.iload_n 2, 1) := by decide +kernel
theorem d_M_step_27 : decode b_M_step 27 = .ok (.ifCond .ne 12, 3) := by decide +kernel
theorem d_M_step_30 : decode b_M_step 30 = .ok (.aload_n 0, 1) := by decide +kernel
theorem d_M_step_31 : decode b_M_step 31 = .ok (.getfield 40, 3) := by decide +kernel
theorem d_M_step_34 : decode b_M_step 34 = .ok (.iload_n 1, 1) := by decide +kernel
theorem d_M_step_35 : decode b_M_step 35 = .ok (.iaload, 1) := by decide +kernel
theorem d_M_step_36 : decode b_M_step 36 = .ok (.goto 9, 3) := by decide +kernel
theorem d_M_step_39 : decode b_M_step 39 = .ok (.aload_n 0, 1) := by decide +kernel
theorem d_M_step_40 : decode b_M_step 40 = .ok (.getfield 43, 3) := by decide +kernel
theorem d_M_step_43 : decode b_M_step 43 = .ok (.iload_n 1, 1) := by decide +kernel
theorem d_M_step_44 : decode b_M_step 44 = .ok (.iaload, 1) := by decide +kernel
theorem d_M_step_45 : decode b_M_step 45 = .ok (.ireturn, 1) := by decide +kernel
theorem d_M_reach_0 : decode b_M_reach 0 = .ok (.aload_n 0, 1) := by decide +kernel
theorem d_M_reach_1 : decode b_M_reach 1 = .ok (.iload_n 1, 1) := by decide +kernel
theorem d_M_reach_2 : decode b_M_reach 2 = .ok (.invokevirtual 78, 3) := by decide +kernel
theorem d_M_reach_5 : decode b_M_reach 5 = .ok (.ifCond .eq 25, 3) := by decide +kernel
theorem d_M_reach_8 : decode b_M_reach 8 = .ok (.iload_n 2, 1) := by decide +kernel
theorem d_M_reach_9 : decode b_M_reach 9 = .ok (.iconst 0, 1) := by decide +kernel
theorem d_M_reach_10 : decode b_M_reach 10 = .ok (.sipush 10079, 3) := by decide +kernel
theorem d_M_reach_13 : decode b_M_reach 13 = .ok (.invokestatic 74, 3) := by decide +kernel
theorem d_M_reach_16 : decode b_M_reach 16 = .ok (.ifCond .eq 14, 3) := by decide +kernel
theorem d_M_reach_19 : decode b_M_reach 19 = .ok (.iload_n 3, 1) := by decide +kernel
theorem d_M_reach_20 : decode b_M_reach 20 = .ok (.iconst 0, 1) := by decide +kernel
theorem d_M_reach_21 : decode b_M_reach 21 = .ok (.sipush 20000, 3) := by decide +kernel
theorem d_M_reach_24 : decode b_M_reach 24 = .ok (.invokestatic 74, 3) := by decide +kernel
theorem d_M_reach_27 : decode b_M_reach 27 = .ok (.ifCond .ne 6, 3) := by decide +kernel
theorem d_M_reach_30 : decode b_M_reach 30 = .ok (.bipush (-2), 2) := by decide +kernel
theorem d_M_reach_32 : decode b_M_reach 32 = .ok (.ireturn, 1) := by decide +kernel
theorem d_M_reach_33 : decode b_M_reach 33 = .ok (.aload_n 0, 1) := by decide +kernel
theorem d_M_reach_34 : decode b_M_reach 34 = .ok (.iload_n 1, 1) := by decide +kernel
theorem d_M_reach_35 : decode b_M_reach 35 = .ok (.iload_n 2, 1) := by decide +kernel
theorem d_M_reach_36 : decode b_M_reach 36 = .ok (.invokevirtual 124, 3) := by decide +kernel
theorem d_M_reach_39 : decode b_M_reach 39 = .ok (.iconst 0, 1) := by decide +kernel
theorem d_M_reach_40 : decode b_M_reach 40 = .ok (.istore 4, 2) := by decide +kernel
theorem d_M_reach_42 : decode b_M_reach 42 = .ok (.iconst 0, 1) := by decide +kernel
theorem d_M_reach_43 : decode b_M_reach 43 = .ok (.istore 5, 2) := by decide +kernel
theorem d_M_reach_45 : decode b_M_reach 45 = .ok (.iload 5, 2) := by decide +kernel
theorem d_M_reach_47 : decode b_M_reach 47 = .ok (.aload_n 0, 1) := by decide +kernel
theorem d_M_reach_48 : decode b_M_reach 48 = .ok (.getfield 58, 3) := by decide +kernel
theorem d_M_reach_51 : decode b_M_reach 51 = .ok (.if_icmp .ge 32, 3) := by decide +kernel
theorem d_M_reach_54 : decode b_M_reach 54 = .ok (.iload 4, 2) := by decide +kernel
theorem d_M_reach_56 : decode b_M_reach 56 = .ok (.aload_n 0, 1) := by decide +kernel
theorem d_M_reach_57 : decode b_M_reach 57 = .ok (.iload 5, 2) := by decide +kernel
theorem d_M_reach_59 : decode b_M_reach 59 = .ok (.invokevirtual 100, 3) := by decide +kernel
theorem d_M_reach_62 : decode b_M_reach 62 = .ok (.iload_n 3, 1) := by decide +kernel
theorem d_M_reach_63 : decode b_M_reach 63 = .ok (.if_icmp .gt 10, 3) := by decide +kernel
theorem d_M_reach_66 : decode b_M_reach 66 = .ok (.iconst 1, 1) := by decide +kernel
theorem d_M_reach_67 : decode b_M_reach 67 = .ok (.iload 5, 2) := by decide +kernel
theorem d_M_reach_69 : decode b_M_reach 69 = .ok (.ishl, 1) := by decide +kernel
theorem d_M_reach_70 : decode b_M_reach 70 = .ok (.goto 4, 3) := by decide +kernel
theorem d_M_reach_73 : decode b_M_reach 73 = .ok (.iconst 0, 1) := by decide +kernel
theorem d_M_reach_74 : decode b_M_reach 74 = .ok (.ior, 1) := by decide +kernel
theorem d_M_reach_75 : decode b_M_reach 75 = .ok (.istore 4, 2) := by decide +kernel
theorem d_M_reach_77 : decode b_M_reach 77 = .ok (.iinc 5 1, 3) := by decide +kernel
theorem d_M_reach_80 : decode b_M_reach 80 = .ok (.goto (-35), 3) := by decide +kernel
theorem d_M_reach_83 : decode b_M_reach 83 = .ok (.iload 4, 2) := by decide +kernel
theorem d_M_reach_85 : decode b_M_reach 85 = .ok (.ireturn, 1) := by decide +kernel
theorem d_M_put_0 : decode b_M_put 0 = .ok (.aload_n 0, 1) := by decide +kernel
theorem d_M_put_1 : decode b_M_put 1 = .ok (.getfield 46, 3) := by decide +kernel
theorem d_M_put_4 : decode b_M_put 4 = .ok (.iconst 5, 1) := by decide +kernel
theorem d_M_put_5 : decode b_M_put 5 = .ok (.aload_n 0, 1) := by decide +kernel
theorem d_M_put_6 : decode b_M_put 6 = .ok (.getfield 71, 3) := by decide +kernel
theorem d_M_put_9 : decode b_M_put 9 = .ok (.imul, 1) := by decide +kernel
theorem d_M_put_10 : decode b_M_put 10 = .ok (.iload_n 1, 1) := by decide +kernel
theorem d_M_put_11 : decode b_M_put 11 = .ok (.iastore, 1) := by decide +kernel
theorem d_M_put_12 : decode b_M_put 12 = .ok (.aload_n 0, 1) := by decide +kernel
theorem d_M_put_13 : decode b_M_put 13 = .ok (.getfield 46, 3) := by decide +kernel
theorem d_M_put_16 : decode b_M_put 16 = .ok (.iconst 5, 1) := by decide +kernel
theorem d_M_put_17 : decode b_M_put 17 = .ok (.aload_n 0, 1) := by decide +kernel
theorem d_M_put_18 : decode b_M_put 18 = .ok (.getfield 71, 3) := by decide +kernel
theorem d_M_put_21 : decode b_M_put 21 = .ok (.imul, 1) := by decide +kernel
theorem d_M_put_22 : decode b_M_put 22 = .ok (.iconst 1, 1) := by decide +kernel
theorem d_M_put_23 : decode b_M_put 23 = .ok (.iadd, 1) := by decide +kernel
theorem d_M_put_24 : decode b_M_put 24 = .ok (.iload_n 2, 1) := by decide +kernel
theorem d_M_put_25 : decode b_M_put 25 = .ok (.iastore, 1) := by decide +kernel
theorem d_M_put_26 : decode b_M_put 26 = .ok (.aload_n 0, 1) := by decide +kernel
theorem d_M_put_27 : decode b_M_put 27 = .ok (.getfield 46, 3) := by decide +kernel
theorem d_M_put_30 : decode b_M_put 30 = .ok (.iconst 5, 1) := by decide +kernel
theorem d_M_put_31 : decode b_M_put 31 = .ok (.aload_n 0, 1) := by decide +kernel
theorem d_M_put_32 : decode b_M_put 32 = .ok (.getfield 71, 3) := by decide +kernel
theorem d_M_put_35 : decode b_M_put 35 = .ok (.imul, 1) := by decide +kernel
theorem d_M_put_36 : decode b_M_put 36 = .ok (.iconst 2, 1) := by decide +kernel
theorem d_M_put_37 : decode b_M_put 37 = .ok (.iadd, 1) := by decide +kernel
theorem d_M_put_38 : decode b_M_put 38 = .ok (.iload_n 3, 1) := by decide +kernel
theorem d_M_put_39 : decode b_M_put 39 = .ok (.iastore, 1) := by decide +kernel
theorem d_M_put_40 : decode b_M_put 40 = .ok (.aload_n 0, 1) := by decide +kernel
theorem d_M_put_41 : decode b_M_put 41 = .ok (.getfield 46, 3) := by decide +kernel
theorem d_M_put_44 : decode b_M_put 44 = .ok (.iconst 5, 1) := by decide +kernel
theorem d_M_put_45 : decode b_M_put 45 = .ok (.aload_n 0, 1) := by decide +kernel
theorem d_M_put_46 : decode b_M_put 46 = .ok (.getfield 71, 3) := by decide +kernel
theorem d_M_put_49 : decode b_M_put 49 = .ok (.imul, 1) := by decide +kernel
theorem d_M_put_50 : decode b_M_put 50 = .ok (.iconst 3, 1) := by decide +kernel
theorem d_M_put_51 : decode b_M_put 51 = .ok (.iadd, 1) := by decide +kernel
theorem d_M_put_52 : decode b_M_put 52 = .ok (.iload 4, 2) := by decide +kernel
theorem d_M_put_54 : decode b_M_put 54 = .ok (.iastore, 1) := by decide +kernel
theorem d_M_put_55 : decode b_M_put 55 = .ok (.aload_n 0, 1) := by decide +kernel
theorem d_M_put_56 : decode b_M_put 56 = .ok (.getfield 46, 3) := by decide +kernel
theorem d_M_put_59 : decode b_M_put 59 = .ok (.iconst 5, 1) := by decide +kernel
theorem d_M_put_60 : decode b_M_put 60 = .ok (.aload_n 0, 1) := by decide +kernel
theorem d_M_put_61 : decode b_M_put 61 = .ok (.getfield 71, 3) := by decide +kernel
theorem d_M_put_64 : decode b_M_put 64 = .ok (.imul, 1) := by decide +kernel
theorem d_M_put_65 : decode b_M_put 65 = .ok (.iconst 4, 1) := by decide +kernel
theorem d_M_put_66 : decode b_M_put 66 = .ok (.iadd, 1) := by decide +kernel
theorem d_M_put_67 : decode b_M_put 67 = .ok (.iload 5, 2) := by decide +kernel
theorem d_M_put_69 : decode b_M_put 69 = .ok (.iastore, 1) := by decide +kernel
theorem d_M_put_70 : decode b_M_put 70 = .ok (.aload_n 0, 1) := by decide +kernel
theorem d_M_put_71 : decode b_M_put 71 = .ok (.dup, 1) := by decide +kernel
theorem d_M_put_72 : decode b_M_put 72 = .ok (.getfield 71, 3) := by decide +kernel
theorem d_M_put_75 : decode b_M_put 75 = .ok (.iconst 1, 1) := by decide +kernel
theorem d_M_put_76 : decode b_M_put 76 = .ok (.iadd, 1) := by decide +kernel
theorem d_M_put_77 : decode b_M_put 77 = .ok (.putfield 71, 3) := by decide +kernel
theorem d_M_put_80 : decode b_M_put 80 = .ok (.return_, 1) := by decide +kernel
theorem d_M_walkBefore_0 : decode b_M_walkBefore 0 = .ok (.iconst 0, 1) := by decide +kernel
theorem d_M_walkBefore_1 : decode b_M_walkBefore 1 = .ok (.istore_n 2, 1) := by decide +kernel
theorem d_M_walkBefore_2 : decode b_M_walkBefore 2 = .ok (.aload_n 0, 1) := by decide +kernel
theorem d_M_walkBefore_3 : decode b_M_walkBefore 3 = .ok (.getfield 34, 3) := by decide +kernel
theorem d_M_walkBefore_6 : decode b_M_walkBefore 6 = .ok (.iload_n 2, 1) := by decide +kernel
theorem d_M_walkBefore_7 : decode b_M_walkBefore 7 = .ok (.iaload, 1) := by decide +kernel
theorem d_M_walkBefore_8 : decode b_M_walkBefore 8 = .ok (.iload_n 1, 1) := by decide +kernel
theorem d_M_walkBefore_9 : decode b_M_walkBefore 9 = .ok (.if_icmp .ne 29, 3) := by decide +kernel
theorem d_M_walkBefore_12 : decode b_M_walkBefore 12 = .ok (.aload_n 0, 1) := by decide +kernel
theorem d_M_walkBefore_13 : decode b_M_walkBefore 13 = .ok (.aload_n 0, 1) := by decide +kernel
theorem d_M_walkBefore_14 : decode b_M_walkBefore 14 = .ok (.getfield 31, 3) := by decide +kernel
theorem d_M_walkBefore_17 : decode b_M_walkBefore 17 = .ok (.iload_n 2, 1) := by decide +kernel
theorem d_M_walkBefore_18 : decode b_M_walkBefore 18 = .ok (.iaload, 1) := by decide +kernel
theorem d_M_walkBefore_19 : decode b_M_walkBefore 19 = .ok (.invokevirtual 100, 3) := by decide +kernel
theorem d_M_walkBefore_22 : decode b_M_walkBefore 22 = .ok (.aload_n 0, 1) := by decide +kernel
theorem d_M_walkBefore_23 : decode b_M_walkBefore 23 = .ok (.getfield 37, 3) := by decide +kernel
theorem d_M_walkBefore_26 : decode b_M_walkBefore 26 = .ok (.iload_n 2, 1) := by decide +kernel
theorem d_M_walkBefore_27 : decode b_M_walkBefore 27 = .ok (.iaload, 1) := by decide +kernel
theorem d_M_walkBefore_28 : decode b_M_walkBefore 28 = .ok (.iadd, 1) := by decide +kernel
theorem d_M_walkBefore_29 : decode b_M_walkBefore 29 = .ok (.aload_n 0, 1) := by decide +kernel
theorem d_M_walkBefore_30 : decode b_M_walkBefore 30 = .ok (.getfield 52, 3) := by decide +kernel
theorem d_M_walkBefore_33 : decode b_M_walkBefore 33 = .ok (.iload_n 1, 1) := by decide +kernel
theorem d_M_walkBefore_34 : decode b_M_walkBefore 34 = .ok (.iaload, 1) := by decide +kernel
theorem d_M_walkBefore_35 : decode b_M_walkBefore 35 = .ok (.if_icmp .eq 9, 3) := by decide +kernel
theorem d_M_walkBefore_38 : decode b_M_walkBefore 38 = .ok (.iinc 2 1, 3) := by decide +kernel
theorem d_M_walkBefore_41 : decode b_M_walkBefore 41 = .ok (.goto (-39), 3) := by decide +kernel
theorem d_M_walkBefore_44 : decode b_M_walkBefore 44 = .ok (.iload_n 2, 1) := by decide +kernel
theorem d_M_walkBefore_45 : decode b_M_walkBefore 45 = .ok (.ireturn, 1) := by decide +kernel
theorem d_M_departureBefore_0 : decode b_M_departureBefore 0 = .ok (.iconst 0, 1) := by decide +kernel
theorem d_M_departureBefore_1 : decode b_M_departureBefore 1 = .ok (.istore_n 2, 1) := by decide +kernel
theorem d_M_departureBefore_2 : decode b_M_departureBefore 2 = .ok (.aload_n 0, 1) := by decide +kernel
theorem d_M_departureBefore_3 : decode b_M_departureBefore 3 = .ok (.getfield 16, 3) := by decide +kernel
theorem d_M_departureBefore_6 : decode b_M_departureBefore 6 = .ok (.iload_n 2, 1) := by decide +kernel
theorem d_M_departureBefore_7 : decode b_M_departureBefore 7 = .ok (.bipush 7, 2) := by decide +kernel
theorem d_M_departureBefore_9 : decode b_M_departureBefore 9 = .ok (.idiv, 1) := by decide +kernel
theorem d_M_departureBefore_10 : decode b_M_departureBefore 10 = .ok (.iaload, 1) := by decide +kernel
theorem d_M_departureBefore_11 : decode b_M_departureBefore 11 = .ok (.iload_n 1, 1) := by decide +kernel
theorem d_M_departureBefore_12 : decode b_M_departureBefore 12 = .ok (.if_icmp .ne 39, 3) := by decide +kernel
theorem d_M_departureBefore_15 : decode b_M_departureBefore 15 = .ok (.aload_n 0, 1) := by decide +kernel
theorem d_M_departureBefore_16 : decode b_M_departureBefore 16 = .ok (.iload_n 2, 1) := by decide +kernel
theorem d_M_departureBefore_17 : decode b_M_departureBefore 17 = .ok (.bipush 7, 2) := by decide +kernel
theorem d_M_departureBefore_19 : decode b_M_departureBefore 19 = .ok (.idiv, 1) := by decide +kernel
theorem d_M_departureBefore_20 : decode b_M_departureBefore 20 = .ok (.iload_n 2, 1) := by decide +kernel
theorem d_M_departureBefore_21 : decode b_M_departureBefore 21 = .ok (.bipush 7, 2) := by decide +kernel
theorem d_M_departureBefore_23 : decode b_M_departureBefore 23 = .ok (.irem, 1) := by decide +kernel
theorem d_M_departureBefore_24 : decode b_M_departureBefore 24 = .ok (.invokevirtual 108, 3) := by decide +kernel
theorem d_M_departureBefore_27 : decode b_M_departureBefore 27 = .ok (.ifCond .eq 24, 3) := by decide +kernel
theorem d_M_departureBefore_30 : decode b_M_departureBefore 30 = .ok (.aload_n 0, 1) := by decide +kernel
theorem d_M_departureBefore_31 : decode b_M_departureBefore 31 = .ok (.iload_n 2, 1) := by decide +kernel
theorem d_M_departureBefore_32 : decode b_M_departureBefore 32 = .ok (.bipush 7, 2) := by decide +kernel
theorem d_M_departureBefore_34 : decode b_M_departureBefore 34 = .ok (.idiv, 1) := by decide +kernel
theorem d_M_departureBefore_35 : decode b_M_departureBefore 35 = .ok (.iload_n 2, 1) := by decide +kernel
theorem d_M_departureBefore_36 : decode b_M_departureBefore 36 = .ok (.bipush 7, 2) := by decide +kernel
theorem d_M_departureBefore_38 : decode b_M_departureBefore 38 = .ok (.irem, 1) := by decide +kernel
theorem d_M_departureBefore_39 : decode b_M_departureBefore 39 = .ok (.invokevirtual 111, 3) := by decide +kernel
theorem d_M_departureBefore_42 : decode b_M_departureBefore 42 = .ok (.aload_n 0, 1) := by decide +kernel
theorem d_M_departureBefore_43 : decode b_M_departureBefore 43 = .ok (.getfield 49, 3) := by decide +kernel
theorem d_M_departureBefore_46 : decode b_M_departureBefore 46 = .ok (.iload_n 1, 1) := by decide +kernel
theorem d_M_departureBefore_47 : decode b_M_departureBefore 47 = .ok (.iaload, 1) := by decide +kernel
theorem d_M_departureBefore_48 : decode b_M_departureBefore 48 = .ok (.if_icmp .eq 9, 3) := by decide +kernel
theorem d_M_departureBefore_51 : decode b_M_departureBefore 51 = .ok (.iinc 2 1, 3) := by decide +kernel
theorem d_M_departureBefore_54 : decode b_M_departureBefore 54 = .ok (.goto (-52), 3) := by decide +kernel
theorem d_M_departureBefore_57 : decode b_M_departureBefore 57 = .ok (.iload_n 2, 1) := by decide +kernel
theorem d_M_departureBefore_58 : decode b_M_departureBefore 58 = .ok (.ireturn, 1) := by decide +kernel
theorem d_M_way_0 : decode b_M_way 0 = .ok (.aload_n 0, 1) := by decide +kernel
theorem d_M_way_1 : decode b_M_way 1 = .ok (.iload_n 1, 1) := by decide +kernel
theorem d_M_way_2 : decode b_M_way 2 = .ok (.iload_n 2, 1) := by decide +kernel
theorem d_M_way_3 : decode b_M_way 3 = .ok (.iload_n 3, 1) := by decide +kernel
theorem d_M_way_4 : decode b_M_way 4 = .ok (.invokevirtual 127, 3) := by decide +kernel
theorem d_M_way_7 : decode b_M_way 7 = .ok (.ifCond .ne 6, 3) := by decide +kernel
theorem d_M_way_10 : decode b_M_way 10 = .ok (.bipush (-2), 2) := by decide +kernel
theorem d_M_way_12 : decode b_M_way 12 = .ok (.ireturn, 1) := by decide +kernel
theorem d_M_way_13 : decode b_M_way 13 = .ok (.aload_n 0, 1) := by decide +kernel
theorem d_M_way_14 : decode b_M_way 14 = .ok (.iload_n 1, 1) := by decide +kernel
theorem d_M_way_15 : decode b_M_way 15 = .ok (.iload_n 2, 1) := by decide +kernel
theorem d_M_way_16 : decode b_M_way 16 = .ok (.iload_n 3, 1) := by decide +kernel
theorem d_M_way_17 : decode b_M_way 17 = .ok (.invokevirtual 130, 3) := by decide +kernel
theorem d_M_way_20 : decode b_M_way 20 = .ok (.iconst (-1), 1) := by decide +kernel
theorem d_M_way_21 : decode b_M_way 21 = .ok (.if_icmp .ne 5, 3) := by decide +kernel
theorem d_M_way_24 : decode b_M_way 24 = .ok (.iconst (-1), 1) := by decide +kernel
theorem d_M_way_25 : decode b_M_way 25 = .ok (.ireturn, 1) := by decide +kernel
theorem d_M_way_26 : decode b_M_way 26 = .ok (.aload_n 0, 1) := by decide +kernel
theorem d_M_way_27 : decode b_M_way 27 = .ok (.iconst 0, 1) := by decide +kernel
theorem d_M_way_28 : decode b_M_way 28 = .ok (.putfield 71, 3) := by decide +kernel
theorem d_M_way_31 : decode b_M_way 31 = .ok (.iload_n 2, 1) := by decide +kernel
theorem d_M_way_32 : decode b_M_way 32 = .ok (.istore 4, 2) := by decide +kernel
theorem d_M_way_34 : decode b_M_way 34 = .ok (.aload_n 0, 1) := by decide +kernel
theorem d_M_way_35 : decode b_M_way 35 = .ok (.getfield 52, 3) := by decide +kernel
theorem d_M_way_38 : decode b_M_way 38 = .ok (.iload 4, 2) := by decide +kernel
theorem d_M_way_40 : decode b_M_way 40 = .ok (.iaload, 1) := by decide +kernel
theorem d_M_way_41 : decode b_M_way 41 = .ok (.aload_n 0, 1) := by decide +kernel
theorem d_M_way_42 : decode b_M_way 42 = .ok (.getfield 49, 3) := by decide +kernel
theorem d_M_way_45 : decode b_M_way 45 = .ok (.iload 4, 2) := by decide +kernel
theorem d_M_way_47 : decode b_M_way 47 = .ok (.iaload, 1) := by decide +kernel
theorem d_M_way_48 : decode b_M_way 48 = .ok (.if_icmp .gt 7, 3) := by decide +kernel
theorem d_M_way_51 : decode b_M_way 51 = .ok (.iconst 1, 1) := by decide +kernel
theorem d_M_way_52 : decode b_M_way 52 = .ok (.goto 4, 3) := by decide +kernel
theorem d_M_way_55 : decode b_M_way 55 = .ok (.iconst 0, 1) := by decide +kernel
theorem d_M_way_56 : decode b_M_way 56 = .ok (.istore 5, 2) := by decide +kernel
theorem d_M_way_58 : decode b_M_way 58 = .ok (.iload 5, 2) := by decide +kernel
theorem d_M_way_60 : decode b_M_way 60 = .ok (.ifCond .eq 20, 3) := by decide +kernel
theorem d_M_way_63 : decode b_M_way 63 = .ok (.iload 4, 2) := by decide +kernel
theorem d_M_way_65 : decode b_M_way 65 = .ok (.iload_n 1, 1) := by decide +kernel
theorem d_M_way_66 : decode b_M_way 66 = .ok (.if_icmp .ne 14, 3) := by decide +kernel
theorem d_M_way_69 : decode b_M_way 69 = .ok (.aload_n 0, 1) := by decide +kernel
theorem d_M_way_70 : decode b_M_way 70 = .ok (.getfield 52, 3) := by decide +kernel
theorem d_M_way_73 : decode b_M_way 73 = .ok (.iload 4, 2) := by decide +kernel
theorem d_M_way_75 : decode b_M_way 75 = .ok (.iaload, 1) := by decide +kernel
theorem d_M_way_76 : decode b_M_way 76 = .ok (.iload_n 3, 1) := by decide +kernel
theorem d_M_way_77 : decode b_M_way 77 = .ok (.if_icmp .eq 160, 3) := by decide +kernel
theorem d_M_way_80 : decode b_M_way 80 = .ok (.iload 5, 2) := by decide +kernel
theorem d_M_way_82 : decode b_M_way 82 = .ok (.ifCond .eq 72, 3) := by decide +kernel
theorem d_M_way_85 : decode b_M_way 85 = .ok (.aload_n 0, 1) := by decide +kernel
theorem d_M_way_86 : decode b_M_way 86 = .ok (.iload 4, 2) := by decide +kernel
theorem d_M_way_88 : decode b_M_way 88 = .ok (.invokevirtual 141, 3) := by decide +kernel
theorem d_M_way_91 : decode b_M_way 91 = .ok (.istore 6, 2) := by decide +kernel
theorem d_M_way_93 : decode b_M_way 93 = .ok (.aload_n 0, 1) := by decide +kernel
theorem d_M_way_94 : decode b_M_way 94 = .ok (.getfield 31, 3) := by decide +kernel
theorem d_M_way_97 : decode b_M_way 97 = .ok (.iload 6, 2) := by decide +kernel
theorem d_M_way_99 : decode b_M_way 99 = .ok (.iaload, 1) := by decide +kernel
theorem d_M_way_100 : decode b_M_way 100 = .ok (.istore 7, 2) := by decide +kernel
theorem d_M_way_102 : decode b_M_way 102 = .ok (.aload_n 0, 1) := by decide +kernel
theorem d_M_way_103 : decode b_M_way 103 = .ok (.iconst 0, 1) := by decide +kernel
theorem d_M_way_104 : decode b_M_way 104 = .ok (.iload 6, 2) := by decide +kernel
theorem d_M_way_106 : decode b_M_way 106 = .ok (.iconst (-1), 1) := by decide +kernel
theorem d_M_way_107 : decode b_M_way 107 = .ok (.aload_n 0, 1) := by decide +kernel
theorem d_M_way_108 : decode b_M_way 108 = .ok (.iload 7, 2) := by decide +kernel
theorem d_M_way_110 : decode b_M_way 110 = .ok (.invokevirtual 100, 3) := by decide +kernel
theorem d_M_way_113 : decode b_M_way 113 = .ok (.aload_n 0, 1) := by decide +kernel
theorem d_M_way_114 : decode b_M_way 114 = .ok (.getfield 52, 3) := by decide +kernel
theorem d_M_way_117 : decode b_M_way 117 = .ok (.iload 4, 2) := by decide +kernel
theorem d_M_way_119 : decode b_M_way 119 = .ok (.iaload, 1) := by decide +kernel
theorem d_M_way_120 : decode b_M_way 120 = .ok (.invokevirtual 144, 3) := by decide +kernel
theorem d_M_way_123 : decode b_M_way 123 = .ok (.iload 7, 2) := by decide +kernel
theorem d_M_way_125 : decode b_M_way 125 = .ok (.istore 4, 2) := by decide +kernel
theorem d_M_way_127 : decode b_M_way 127 = .ok (.aload_n 0, 1) := by decide +kernel
theorem d_M_way_128 : decode b_M_way 128 = .ok (.getfield 52, 3) := by decide +kernel
theorem d_M_way_131 : decode b_M_way 131 = .ok (.iload 4, 2) := by decide +kernel
theorem d_M_way_133 : decode b_M_way 133 = .ok (.iaload, 1) := by decide +kernel
theorem d_M_way_134 : decode b_M_way 134 = .ok (.aload_n 0, 1) := by decide +kernel
theorem d_M_way_135 : decode b_M_way 135 = .ok (.getfield 49, 3) := by decide +kernel
theorem d_M_way_138 : decode b_M_way 138 = .ok (.iload 4, 2) := by decide +kernel
theorem d_M_way_140 : decode b_M_way 140 = .ok (.iaload, 1) := by decide +kernel
theorem d_M_way_141 : decode b_M_way 141 = .ok (.if_icmp .gt 7, 3) := by decide +kernel
theorem d_M_way_144 : decode b_M_way 144 = .ok (.iconst 1, 1) := by decide +kernel
theorem d_M_way_145 : decode b_M_way 145 = .ok (.goto 4, 3) := by decide +kernel
theorem d_M_way_148 : decode b_M_way 148 = .ok (.iconst 0, 1) := by decide +kernel
theorem d_M_way_149 : decode b_M_way 149 = .ok (.istore 5, 2) := by decide +kernel
theorem d_M_way_151 : decode b_M_way 151 = .ok (.goto (-93), 3) := by decide +kernel
theorem d_M_way_154 : decode b_M_way 154 = .ok (.aload_n 0, 1) := by decide +kernel
theorem d_M_way_155 : decode b_M_way 155 = .ok (.iload 4, 2) := by decide +kernel
theorem d_M_way_157 : decode b_M_way 157 = .ok (.invokevirtual 148, 3) := by decide +kernel
theorem d_M_way_160 : decode b_M_way 160 = .ok (.istore 6, 2) := by decide +kernel
theorem d_M_way_162 : decode b_M_way 162 = .ok (.iload 6, 2) := by decide +kernel
theorem d_M_way_164 : decode b_M_way 164 = .ok (.bipush 7, 2) := by decide +kernel
theorem d_M_way_166 : decode b_M_way 166 = .ok (.idiv, 1) := by decide +kernel
theorem d_M_way_167 : decode b_M_way 167 = .ok (.istore 7, 2) := by decide +kernel
theorem d_M_way_169 : decode b_M_way 169 = .ok (.iload 6, 2) := by decide +kernel
theorem d_M_way_171 : decode b_M_way 171 = .ok (.bipush 7, 2) := by decide +kernel
theorem d_M_way_173 : decode b_M_way 173 = .ok (.irem, 1) := by decide +kernel
theorem d_M_way_174 : decode b_M_way 174 = .ok (.istore 8, 2) := by decide +kernel
theorem d_M_way_176 : decode b_M_way 176 = .ok (.aload_n 0, 1) := by decide +kernel
theorem d_M_way_177 : decode b_M_way 177 = .ok (.iconst 1, 1) := by decide +kernel
theorem d_M_way_178 : decode b_M_way 178 = .ok (.iload 7, 2) := by decide +kernel
theorem d_M_way_180 : decode b_M_way 180 = .ok (.iload 8, 2) := by decide +kernel
theorem d_M_way_182 : decode b_M_way 182 = .ok (.aload_n 0, 1) := by decide +kernel
theorem d_M_way_183 : decode b_M_way 183 = .ok (.iload 7, 2) := by decide +kernel
theorem d_M_way_185 : decode b_M_way 185 = .ok (.iload 8, 2) := by decide +kernel
theorem d_M_way_187 : decode b_M_way 187 = .ok (.invokevirtual 92, 3) := by decide +kernel
theorem d_M_way_190 : decode b_M_way 190 = .ok (.aload_n 0, 1) := by decide +kernel
theorem d_M_way_191 : decode b_M_way 191 = .ok (.getfield 49, 3) := by decide +kernel
theorem d_M_way_194 : decode b_M_way 194 = .ok (.iload 4, 2) := by decide +kernel
theorem d_M_way_196 : decode b_M_way 196 = .ok (.iaload, 1) := by decide +kernel
theorem d_M_way_197 : decode b_M_way 197 = .ok (.invokevirtual 144, 3) := by decide +kernel
theorem d_M_way_200 : decode b_M_way 200 = .ok (.aload_n 0, 1) := by decide +kernel
theorem d_M_way_201 : decode b_M_way 201 = .ok (.getfield 13, 3) := by decide +kernel
theorem d_M_way_204 : decode b_M_way 204 = .ok (.iload 7, 2) := by decide +kernel
theorem d_M_way_206 : decode b_M_way 206 = .ok (.iaload, 1) := by decide +kernel
theorem d_M_way_207 : decode b_M_way 207 = .ok (.istore 4, 2) := by decide +kernel
theorem d_M_way_209 : decode b_M_way 209 = .ok (.aload_n 0, 1) := by decide +kernel
theorem d_M_way_210 : decode b_M_way 210 = .ok (.iload 7, 2) := by decide +kernel
theorem d_M_way_212 : decode b_M_way 212 = .ok (.iload 8, 2) := by decide +kernel
theorem d_M_way_214 : decode b_M_way 214 = .ok (.invokevirtual 92, 3) := by decide +kernel
theorem d_M_way_217 : decode b_M_way 217 = .ok (.aload_n 0, 1) := by decide +kernel
theorem d_M_way_218 : decode b_M_way 218 = .ok (.getfield 52, 3) := by decide +kernel
theorem d_M_way_221 : decode b_M_way 221 = .ok (.iload 4, 2) := by decide +kernel
theorem d_M_way_223 : decode b_M_way 223 = .ok (.iaload, 1) := by decide +kernel
theorem d_M_way_224 : decode b_M_way 224 = .ok (.if_icmp .lt 7, 3) := by decide +kernel
theorem d_M_way_227 : decode b_M_way 227 = .ok (.iconst 1, 1) := by decide +kernel
theorem d_M_way_228 : decode b_M_way 228 = .ok (.goto 4, 3) := by decide +kernel
theorem d_M_way_231 : decode b_M_way 231 = .ok (.iconst 0, 1) := by decide +kernel
theorem d_M_way_232 : decode b_M_way 232 = .ok (.istore 5, 2) := by decide +kernel
theorem d_M_way_234 : decode b_M_way 234 = .ok (.goto (-176), 3) := by decide +kernel
theorem d_M_way_237 : decode b_M_way 237 = .ok (.aload_n 0, 1) := by decide +kernel
theorem d_M_way_238 : decode b_M_way 238 = .ok (.getfield 71, 3) := by decide +kernel
theorem d_M_way_241 : decode b_M_way 241 = .ok (.ireturn, 1) := by decide +kernel
theorem d_M_act_0 : decode b_M_act 0 = .ok (.iload_n 1, 1) := by decide +kernel
theorem d_M_act_1 : decode b_M_act 1 = .ok (.iconst 0, 1) := by decide +kernel
theorem d_M_act_2 : decode b_M_act 2 = .ok (.aload_n 0, 1) := by decide +kernel
theorem d_M_act_3 : decode b_M_act 3 = .ok (.getfield 71, 3) := by decide +kernel
theorem d_M_act_6 : decode b_M_act 6 = .ok (.iconst 1, 1) := by decide +kernel
theorem d_M_act_7 : decode b_M_act 7 = .ok (.isub, 1) := by decide +kernel
theorem d_M_act_8 : decode b_M_act 8 = .ok (.invokestatic 74, 3) := by decide +kernel
theorem d_M_act_11 : decode b_M_act 11 = .ok (.ifCond .eq 32, 3) := by decide +kernel
theorem d_M_act_14 : decode b_M_act 14 = .ok (.iload_n 2, 1) := by decide +kernel
theorem d_M_act_15 : decode b_M_act 15 = .ok (.iconst 0, 1) := by decide +kernel
theorem d_M_act_16 : decode b_M_act 16 = .ok (.iconst 4, 1) := by decide +kernel
theorem d_M_act_17 : decode b_M_act 17 = .ok (.invokestatic 74, 3) := by decide +kernel
theorem d_M_act_20 : decode b_M_act 20 = .ok (.ifCond .eq 23, 3) := by decide +kernel
theorem d_M_act_23 : decode b_M_act 23 = .ok (.aload_n 0, 1) := by decide +kernel
theorem d_M_act_24 : decode b_M_act 24 = .ok (.getfield 46, 3) := by decide +kernel
theorem d_M_act_27 : decode b_M_act 27 = .ok (.iconst 5, 1) := by decide +kernel
theorem d_M_act_28 : decode b_M_act 28 = .ok (.aload_n 0, 1) := by decide +kernel
theorem d_M_act_29 : decode b_M_act 29 = .ok (.getfield 71, 3) := by decide +kernel
theorem d_M_act_32 : decode b_M_act 32 = .ok (.iconst 1, 1) := by decide +kernel
theorem d_M_act_33 : decode b_M_act 33 = .ok (.isub, 1) := by decide +kernel
theorem d_M_act_34 : decode b_M_act 34 = .ok (.iload_n 1, 1) := by decide +kernel
theorem d_M_act_35 : decode b_M_act 35 = .ok (.isub, 1) := by decide +kernel
theorem d_M_act_36 : decode b_M_act 36 = .ok (.imul, 1) := by decide +kernel
theorem d_M_act_37 : decode b_M_act 37 = .ok (.iload_n 2, 1) := by decide +kernel
theorem d_M_act_38 : decode b_M_act 38 = .ok (.iadd, 1) := by decide +kernel
theorem d_M_act_39 : decode b_M_act 39 = .ok (.iaload, 1) := by decide +kernel
theorem d_M_act_40 : decode b_M_act 40 = .ok (.goto 5, 3) := by decide +kernel
theorem d_M_act_43 : decode b_M_act 43 = .ok (.bipush (-2), 2) := by decide +kernel
theorem d_M_act_45 : decode b_M_act 45 = .ok (.ireturn, 1) := by decide +kernel
theorem d_M_next_0 : decode b_M_next 0 = .ok (.aload_n 0, 1) := by decide +kernel
theorem d_M_next_1 : decode b_M_next 1 = .ok (.iload_n 1, 1) := by decide +kernel
theorem d_M_next_2 : decode b_M_next 2 = .ok (.invokevirtual 78, 3) := by decide +kernel
theorem d_M_next_5 : decode b_M_next 5 = .ok (.ifCond .eq 14, 3) := by decide +kernel
theorem d_M_next_8 : decode b_M_next 8 = .ok (.iload_n 2, 1) := by decide +kernel
theorem d_M_next_9 : decode b_M_next 9 = .ok (.iconst 0, 1) := by decide +kernel
theorem d_M_next_10 : decode b_M_next 10 = .ok (.sipush 10079, 3) := by decide +kernel
theorem d_M_next_13 : decode b_M_next 13 = .ok (.invokestatic 74, 3) := by decide +kernel
theorem d_M_next_16 : decode b_M_next 16 = .ok (.ifCond .ne 6, 3) := by decide +kernel
theorem d_M_next_19 : decode b_M_next 19 = .ok (.bipush (-2), 2) := by decide +kernel
theorem d_M_next_21 : decode b_M_next 21 = .ok (.ireturn, 1) := by decide +kernel
theorem d_M_next_22 : decode b_M_next 22 = .ok (.iconst (-1), 1) := by decide +kernel
theorem d_M_next_23 : decode b_M_next 23 = .ok (.istore_n 3, 1) := by decide +kernel
theorem d_M_next_24 : decode b_M_next 24 = .ok (.ldc 99, 2) := by decide +kernel
theorem d_M_next_26 : decode b_M_next 26 = .ok (.istore 4, 2) := by decide +kernel
theorem d_M_next_28 : decode b_M_next 28 = .ok (.iconst 0, 1) := by decide +kernel
theorem d_M_next_29 : decode b_M_next 29 = .ok (.istore 5, 2) := by decide +kernel
theorem d_M_next_31 : decode b_M_next 31 = .ok (.iload 5, 2) := by decide +kernel
theorem d_M_next_33 : decode b_M_next 33 = .ok (.bipush 7, 2) := by decide +kernel
theorem d_M_next_35 : decode b_M_next 35 = .ok (.aload_n 0, 1) := by decide +kernel
theorem d_M_next_36 : decode b_M_next 36 = .ok (.getfield 62, 3) := by decide +kernel
theorem d_M_next_39 : decode b_M_next 39 = .ok (.imul, 1) := by decide +kernel
theorem d_M_next_40 : decode b_M_next 40 = .ok (.if_icmp .ge 83, 3) := by decide +kernel
theorem d_M_next_43 : decode b_M_next 43 = .ok (.iload 5, 2) := by decide +kernel
theorem d_M_next_45 : decode b_M_next 45 = .ok (.bipush 7, 2) := by decide +kernel
theorem d_M_next_47 : decode b_M_next 47 = .ok (.idiv, 1) := by decide +kernel
theorem d_M_next_48 : decode b_M_next 48 = .ok (.istore 6, 2) := by decide +kernel
theorem d_M_next_50 : decode b_M_next 50 = .ok (.iload 5, 2) := by decide +kernel
theorem d_M_next_52 : decode b_M_next 52 = .ok (.bipush 7, 2) := by decide +kernel
theorem d_M_next_54 : decode b_M_next 54 = .ok (.irem, 1) := by decide +kernel
theorem d_M_next_55 : decode b_M_next 55 = .ok (.istore 7, 2) := by decide +kernel
theorem d_M_next_57 : decode b_M_next 57 = .ok (.aload_n 0, 1) := by decide +kernel
theorem d_M_next_58 : decode b_M_next 58 = .ok (.getfield 13, 3) := by decide +kernel
theorem d_M_next_61 : decode b_M_next 61 = .ok (.iload 6, 2) := by decide +kernel
theorem d_M_next_63 : decode b_M_next 63 = .ok (.iaload, 1) := by decide +kernel
theorem d_M_next_64 : decode b_M_next 64 = .ok (.iload_n 1, 1) := by decide +kernel
theorem d_M_next_65 : decode b_M_next 65 = .ok (.if_icmp .ne 52, 3) := by decide +kernel
theorem d_M_next_68 : decode b_M_next 68 = .ok (.aload_n 0, 1) := by decide +kernel
theorem d_M_next_69 : decode b_M_next 69 = .ok (.iload 6, 2) := by decide +kernel
theorem d_M_next_71 : decode b_M_next 71 = .ok (.iload 7, 2) := by decide +kernel
theorem d_M_next_73 : decode b_M_next 73 = .ok (.invokevirtual 96, 3) := by decide +kernel
theorem d_M_next_76 : decode b_M_next 76 = .ok (.ifCond .eq 41, 3) := by decide +kernel
theorem d_M_next_79 : decode b_M_next 79 = .ok (.aload_n 0, 1) := by decide +kernel
theorem d_M_next_80 : decode b_M_next 80 = .ok (.iload 6, 2) := by decide +kernel
theorem d_M_next_82 : decode b_M_next 82 = .ok (.iload 7, 2) := by decide +kernel
theorem d_M_next_84 : decode b_M_next 84 = .ok (.invokevirtual 92, 3) := by decide +kernel
theorem d_M_next_87 : decode b_M_next 87 = .ok (.iload_n 2, 1) := by decide +kernel
theorem d_M_next_88 : decode b_M_next 88 = .ok (.if_icmp .lt 29, 3) := by decide +kernel
theorem d_M_next_91 : decode b_M_next 91 = .ok (.aload_n 0, 1) := by decide +kernel
theorem d_M_next_92 : decode b_M_next 92 = .ok (.iload 6, 2) := by decide +kernel
theorem d_M_next_94 : decode b_M_next 94 = .ok (.iload 7, 2) := by decide +kernel
theorem d_M_next_96 : decode b_M_next 96 = .ok (.invokevirtual 92, 3) := by decide +kernel
theorem d_M_next_99 : decode b_M_next 99 = .ok (.iload 4, 2) := by decide +kernel
theorem d_M_next_101 : decode b_M_next 101 = .ok (.if_icmp .ge 16, 3) := by decide +kernel
theorem d_M_next_104 : decode b_M_next 104 = .ok (.iload 5, 2) := by decide +kernel
theorem d_M_next_106 : decode b_M_next 106 = .ok (.istore_n 3, 1) := by decide +kernel
theorem d_M_next_107 : decode b_M_next 107 = .ok (.aload_n 0, 1) := by decide +kernel
theorem d_M_next_108 : decode b_M_next 108 = .ok (.iload 6, 2) := by decide +kernel
theorem d_M_next_110 : decode b_M_next 110 = .ok (.iload 7, 2) := by decide +kernel
theorem d_M_next_112 : decode b_M_next 112 = .ok (.invokevirtual 92, 3) := by decide +kernel
theorem d_M_next_115 : decode b_M_next 115 = .ok (.istore 4, 2) := by decide +kernel
theorem d_M_next_117 : decode b_M_next 117 = .ok (.iinc 5 1, 3) := by decide +kernel
theorem d_M_next_120 : decode b_M_next 120 = .ok (.goto (-89), 3) := by decide +kernel
theorem d_M_next_123 : decode b_M_next 123 = .ok (.iload_n 3, 1) := by decide +kernel
theorem d_M_next_124 : decode b_M_next 124 = .ok (.ireturn, 1) := by decide +kernel
theorem d_M_told_0 : decode b_M_told 0 = .ok (.aload_n 0, 1) := by decide +kernel
theorem d_M_told_1 : decode b_M_told 1 = .ok (.iload_n 1, 1) := by decide +kernel
theorem d_M_told_2 : decode b_M_told 2 = .ok (.invokevirtual 86, 3) := by decide +kernel
theorem d_M_told_5 : decode b_M_told 5 = .ok (.ifCond .eq 12, 3) := by decide +kernel
theorem d_M_told_8 : decode b_M_told 8 = .ok (.iload_n 2, 1) := by decide +kernel
theorem d_M_told_9 : decode b_M_told 9 = .ok (.iconst 0, 1) := by decide +kernel
theorem d_M_told_10 : decode b_M_told 10 = .ok (.iconst 5, 1) := by decide +kernel
theorem d_M_told_11 : decode b_M_told 11 = .ok (.invokestatic 74, 3) := by decide +kernel
theorem d_M_told_14 : decode b_M_told 14 = .ok (.ifCond .ne 6, 3) := by decide +kernel
theorem d_M_told_17 : decode b_M_told 17 = .ok (.bipush (-2), 2) := by decide +kernel
theorem d_M_told_19 : decode b_M_told 19 = .ok (.ireturn, 1) := by decide +kernel
theorem d_M_told_20 : decode b_M_told 20 = .ok (.iload_n 2, 1) := by decide +kernel
theorem d_M_told_21 : decode b_M_told 21 = .ok (.tableswitch 70 0 4 #[35, 42, 49, 56, 63], 35) := by decide +kernel
theorem d_M_told_56 : decode b_M_told 56 = .ok (.aload_n 0, 1) := by decide +kernel
theorem d_M_told_57 : decode b_M_told 57 = .ok (.getfield 13, 3) := by decide +kernel
theorem d_M_told_60 : decode b_M_told 60 = .ok (.iload_n 1, 1) := by decide +kernel
theorem d_M_told_61 : decode b_M_told 61 = .ok (.iaload, 1) := by decide +kernel
theorem d_M_told_62 : decode b_M_told 62 = .ok (.ireturn, 1) := by decide +kernel
theorem d_M_told_63 : decode b_M_told 63 = .ok (.aload_n 0, 1) := by decide +kernel
theorem d_M_told_64 : decode b_M_told 64 = .ok (.getfield 16, 3) := by decide +kernel
theorem d_M_told_67 : decode b_M_told 67 = .ok (.iload_n 1, 1) := by decide +kernel
theorem d_M_told_68 : decode b_M_told 68 = .ok (.iaload, 1) := by decide +kernel
theorem d_M_told_69 : decode b_M_told 69 = .ok (.ireturn, 1) := by decide +kernel
theorem d_M_told_70 : decode b_M_told 70 = .ok (.aload_n 0, 1) := by decide +kernel
theorem d_M_told_71 : decode b_M_told 71 = .ok (.getfield 19, 3) := by decide +kernel
theorem d_M_told_74 : decode b_M_told 74 = .ok (.iload_n 1, 1) := by decide +kernel
theorem d_M_told_75 : decode b_M_told 75 = .ok (.iaload, 1) := by decide +kernel
theorem d_M_told_76 : decode b_M_told 76 = .ok (.ireturn, 1) := by decide +kernel
theorem d_M_told_77 : decode b_M_told 77 = .ok (.aload_n 0, 1) := by decide +kernel
theorem d_M_told_78 : decode b_M_told 78 = .ok (.getfield 22, 3) := by decide +kernel
theorem d_M_told_81 : decode b_M_told 81 = .ok (.iload_n 1, 1) := by decide +kernel
theorem d_M_told_82 : decode b_M_told 82 = .ok (.iaload, 1) := by decide +kernel
theorem d_M_told_83 : decode b_M_told 83 = .ok (.ireturn, 1) := by decide +kernel
theorem d_M_told_84 : decode b_M_told 84 = .ok (.aload_n 0, 1) := by decide +kernel
theorem d_M_told_85 : decode b_M_told 85 = .ok (.getfield 25, 3) := by decide +kernel
theorem d_M_told_88 : decode b_M_told 88 = .ok (.iload_n 1, 1) := by decide +kernel
theorem d_M_told_89 : decode b_M_told 89 = .ok (.iaload, 1) := by decide +kernel
theorem d_M_told_90 : decode b_M_told 90 = .ok (.ireturn, 1) := by decide +kernel
theorem d_M_told_91 : decode b_M_told 91 = .ok (.iconst 0, 1) := by decide +kernel
theorem d_M_told_92 : decode b_M_told 92 = .ok (.istore_n 3, 1) := by decide +kernel
theorem d_M_told_93 : decode b_M_told 93 = .ok (.iconst 0, 1) := by decide +kernel
theorem d_M_told_94 : decode b_M_told 94 = .ok (.istore 4, 2) := by decide +kernel
theorem d_M_told_96 : decode b_M_told 96 = .ok (.iload 4, 2) := by decide +kernel
theorem d_M_told_98 : decode b_M_told 98 = .ok (.bipush 7, 2) := by decide +kernel
theorem d_M_told_100 : decode b_M_told 100 = .ok (.if_icmp .ge 30, 3) := by decide +kernel
theorem d_M_told_103 : decode b_M_told 103 = .ok (.iload_n 3, 1) := by decide +kernel
theorem d_M_told_104 : decode b_M_told 104 = .ok (.aload_n 0, 1) := by decide +kernel
theorem d_M_told_105 : decode b_M_told 105 = .ok (.iload_n 1, 1) := by decide +kernel
theorem d_M_told_106 : decode b_M_told 106 = .ok (.iload 4, 2) := by decide +kernel
theorem d_M_told_108 : decode b_M_told 108 = .ok (.invokevirtual 96, 3) := by decide +kernel
theorem d_M_told_111 : decode b_M_told 111 = .ok (.ifCond .eq 10, 3) := by decide +kernel
theorem d_M_told_114 : decode b_M_told 114 = .ok (.iconst 1, 1) := by decide +kernel
theorem d_M_told_115 : decode b_M_told 115 = .ok (.iload 4, 2) := by decide +kernel
theorem d_M_told_117 : decode b_M_told 117 = .ok (.ishl, 1) := by decide +kernel
theorem d_M_told_118 : decode b_M_told 118 = .ok (.goto 4, 3) := by decide +kernel
theorem d_M_told_121 : decode b_M_told 121 = .ok (.iconst 0, 1) := by decide +kernel
theorem d_M_told_122 : decode b_M_told 122 = .ok (.ior, 1) := by decide +kernel
theorem d_M_told_123 : decode b_M_told 123 = .ok (.istore_n 3, 1) := by decide +kernel
theorem d_M_told_124 : decode b_M_told 124 = .ok (.iinc 4 1, 3) := by decide +kernel
theorem d_M_told_127 : decode b_M_told 127 = .ok (.goto (-31), 3) := by decide +kernel
theorem d_M_told_130 : decode b_M_told 130 = .ok (.iload_n 3, 1) := by decide +kernel
theorem d_M_told_131 : decode b_M_told 131 = .ok (.ireturn, 1) := by decide +kernel
theorem d_M_of_0 : decode b_M_of 0 = .ok (.iload_n 1, 1) := by decide +kernel
theorem d_M_of_1 : decode b_M_of 1 = .ok (.iconst 0, 1) := by decide +kernel
theorem d_M_of_2 : decode b_M_of 2 = .ok (.iconst 4, 1) := by decide +kernel
theorem d_M_of_3 : decode b_M_of 3 = .ok (.invokestatic 74, 3) := by decide +kernel
theorem d_M_of_6 : decode b_M_of 6 = .ok (.ifCond .ne 6, 3) := by decide +kernel
theorem d_M_of_9 : decode b_M_of 9 = .ok (.bipush (-2), 2) := by decide +kernel
theorem d_M_of_11 : decode b_M_of 11 = .ok (.ireturn, 1) := by decide +kernel
theorem d_M_of_12 : decode b_M_of 12 = .ok (.iload_n 1, 1) := by decide +kernel
theorem d_M_of_13 : decode b_M_of 13 = .ok (.iconst 3, 1) := by decide +kernel
theorem d_M_of_14 : decode b_M_of 14 = .ok (.if_icmp .ge 31, 3) := by decide +kernel
theorem d_M_of_17 : decode b_M_of 17 = .ok (.iload_n 1, 1) := by decide +kernel
theorem d_M_of_18 : decode b_M_of 18 = .ok (.ifCond .ne 10, 3) := by decide +kernel
theorem d_M_of_21 : decode b_M_of 21 = .ok (.aload_n 0, 1) := by decide +kernel
theorem d_M_of_22 : decode b_M_of 22 = .ok (.getfield 58, 3) := by decide +kernel
theorem d_M_of_25 : decode b_M_of 25 = .ok (.goto 19, 3) := by decide +kernel
theorem d_M_of_28 : decode b_M_of 28 = .ok (.iload_n 1, 1) := by decide +kernel
theorem d_M_of_29 : decode b_M_of 29 = .ok (.iconst 1, 1) := by decide +kernel
theorem d_M_of_30 : decode b_M_of 30 = .ok (.if_icmp .ne 10, 3) := by decide +kernel
theorem d_M_of_33 : decode b_M_of 33 = .ok (.aload_n 0, 1) := by decide +kernel
theorem d_M_of_34 : decode b_M_of 34 = .ok (.getfield 62, 3) := by decide +kernel
theorem d_M_of_37 : decode b_M_of 37 = .ok (.goto 7, 3) := by decide +kernel
theorem d_M_of_40 : decode b_M_of 40 = .ok (.aload_n 0, 1) := by decide +kernel
theorem d_M_of_41 : decode b_M_of 41 = .ok (.getfield 65, 3) := by decide +kernel
theorem d_M_of_44 : decode b_M_of 44 = .ok (.ireturn, 1) := by decide +kernel
theorem d_M_of_45 : decode b_M_of 45 = .ok (.iconst 0, 1) := by decide +kernel
theorem d_M_of_46 : decode b_M_of 46 = .ok (.istore_n 2, 1) := by decide +kernel
theorem d_M_of_47 : decode b_M_of 47 = .ok (.iconst 0, 1) := by decide +kernel
theorem d_M_of_48 : decode b_M_of 48 = .ok (.istore_n 3, 1) := by decide +kernel
theorem d_M_of_49 : decode b_M_of 49 = .ok (.iload_n 3, 1) := by decide +kernel
theorem d_M_of_50 : decode b_M_of 50 = .ok (.aload_n 0, 1) := by decide +kernel
theorem d_M_of_51 : decode b_M_of 51 = .ok (.getfield 62, 3) := by decide +kernel
theorem d_M_of_54 : decode b_M_of 54 = .ok (.if_icmp .ge 63, 3) := by decide +kernel
theorem d_M_of_57 : decode b_M_of 57 = .ok (.iconst 0, 1) := by decide +kernel
theorem d_M_of_58 : decode b_M_of 58 = .ok (.istore 4, 2) := by decide +kernel
theorem d_M_of_60 : decode b_M_of 60 = .ok (.iload 4, 2) := by decide +kernel
theorem d_M_of_62 : decode b_M_of 62 = .ok (.bipush 7, 2) := by decide +kernel
theorem d_M_of_64 : decode b_M_of 64 = .ok (.if_icmp .ge 47, 3) := by decide +kernel
theorem d_M_of_67 : decode b_M_of 67 = .ok (.iload_n 2, 1) := by decide +kernel
theorem d_M_of_68 : decode b_M_of 68 = .ok (.aload_n 0, 1) := by decide +kernel
theorem d_M_of_69 : decode b_M_of 69 = .ok (.iload_n 3, 1) := by decide +kernel
theorem d_M_of_70 : decode b_M_of 70 = .ok (.iload 4, 2) := by decide +kernel
theorem d_M_of_72 : decode b_M_of 72 = .ok (.invokevirtual 96, 3) := by decide +kernel
theorem d_M_of_75 : decode b_M_of 75 = .ok (.ifCond .eq 27, 3) := by decide +kernel
theorem d_M_of_78 : decode b_M_of 78 = .ok (.iload_n 1, 1) := by decide +kernel
theorem d_M_of_79 : decode b_M_of 79 = .ok (.iconst 3, 1) := by decide +kernel
theorem d_M_of_80 : decode b_M_of 80 = .ok (.if_icmp .eq 18, 3) := by decide +kernel
theorem d_M_of_83 : decode b_M_of 83 = .ok (.aload_n 0, 1) := by decide +kernel
theorem d_M_of_84 : decode b_M_of 84 = .ok (.getfield 28, 3) := by decide +kernel
theorem d_M_of_87 : decode b_M_of 87 = .ok (.bipush 7, 2) := by decide +kernel
theorem d_M_of_89 : decode b_M_of 89 = .ok (.iload_n 3, 1) := by decide +kernel
theorem d_M_of_90 : decode b_M_of 90 = .ok (.imul, 1) := by decide +kernel
theorem d_M_of_91 : decode b_M_of 91 = .ok (.iload 4, 2) := by decide +kernel
theorem d_M_of_93 : decode b_M_of 93 = .ok (.iadd, 1) := by decide +kernel
theorem d_M_of_94 : decode b_M_of 94 = .ok (.iaload, 1) := by decide +kernel
theorem d_M_of_95 : decode b_M_of 95 = .ok (.ifCond .le 7, 3) := by decide +kernel
theorem d_M_of_98 : decode b_M_of 98 = .ok (.iconst 1, 1) := by decide +kernel
theorem d_M_of_99 : decode b_M_of 99 = .ok (.goto 4, 3) := by decide +kernel
theorem d_M_of_102 : decode b_M_of 102 = .ok (.iconst 0, 1) := by decide +kernel
theorem d_M_of_103 : decode b_M_of 103 = .ok (.iadd, 1) := by decide +kernel
theorem d_M_of_104 : decode b_M_of 104 = .ok (.istore_n 2, 1) := by decide +kernel
theorem d_M_of_105 : decode b_M_of 105 = .ok (.iinc 4 1, 3) := by decide +kernel
theorem d_M_of_108 : decode b_M_of 108 = .ok (.goto (-48), 3) := by decide +kernel
theorem d_M_of_111 : decode b_M_of 111 = .ok (.iinc 3 1, 3) := by decide +kernel
theorem d_M_of_114 : decode b_M_of 114 = .ok (.goto (-65), 3) := by decide +kernel
theorem d_M_of_117 : decode b_M_of 117 = .ok (.iload_n 2, 1) := by decide +kernel
theorem d_M_of_118 : decode b_M_of 118 = .ok (.ireturn, 1) := by decide +kernel
