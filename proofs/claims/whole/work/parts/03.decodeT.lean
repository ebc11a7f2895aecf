theorem d_T_init_0 : decode b_T_init 0 = .ok (.aload_n 0, 1) := by decide +kernel
theorem d_T_init_1 : decode b_T_init 1 = .ok (.invokespecial 3, 3) := by decide +kernel
theorem d_T_init_4 : decode b_T_init 4 = .ok (.aload_n 0, 1) := by decide +kernel
theorem d_T_init_5 : decode b_T_init 5 = .ok (.new 9, 3) := by decide +kernel
theorem d_T_init_8 : decode b_T_init 8 = .ok (.dup, 1) := by decide +kernel
theorem d_T_init_9 : decode b_T_init 9 = .ok (.invokespecial 11, 3) := by decide +kernel
theorem d_T_init_12 : decode b_T_init 12 = .ok (.putfield 12, 3) := by decide +kernel
theorem d_T_init_15 : decode b_T_init 15 = .ok (.aload_n 0, 1) := by decide +kernel
theorem d_T_init_16 : decode b_T_init 16 = .ok (.new 16, 3) := by decide +kernel
theorem d_T_init_19 : decode b_T_init 19 = .ok (.dup, 1) := by decide +kernel
theorem d_T_init_20 : decode b_T_init 20 = .ok (.invokespecial 18, 3) := by decide +kernel
theorem d_T_init_23 : decode b_T_init 23 = .ok (.putfield 19, 3) := by decide +kernel
theorem d_T_init_26 : decode b_T_init 26 = .ok (.aload_n 0, 1) := by decide +kernel
theorem d_T_init_27 : decode b_T_init 27 = .ok (.new 16, 3) := by decide +kernel
theorem d_T_init_30 : decode b_T_init 30 = .ok (.dup, 1) := by decide +kernel
theorem d_T_init_31 : decode b_T_init 31 = .ok (.invokespecial 18, 3) := by decide +kernel
theorem d_T_init_34 : decode b_T_init 34 = .ok (.putfield 23, 3) := by decide +kernel
theorem d_T_init_37 : decode b_T_init 37 = .ok (.aload_n 0, 1) := by decide +kernel
theorem d_T_init_38 : decode b_T_init 38 = .ok (.new 26, 3) := by decide +kernel
theorem d_T_init_41 : decode b_T_init 41 = .ok (.dup, 1) := by decide +kernel
theorem d_T_init_42 : decode b_T_init 42 = .ok (.invokespecial 28, 3) := by decide +kernel
theorem d_T_init_45 : decode b_T_init 45 = .ok (.putfield 29, 3) := by decide +kernel
theorem d_T_init_48 : decode b_T_init 48 = .ok (.aload_n 0, 1) := by decide +kernel
theorem d_T_init_49 : decode b_T_init 49 = .ok (.new 33, 3) := by decide +kernel
theorem d_T_init_52 : decode b_T_init 52 = .ok (.dup, 1) := by decide +kernel
theorem d_T_init_53 : decode b_T_init 53 = .ok (.invokespecial 35, 3) := by decide +kernel
theorem d_T_init_56 : decode b_T_init 56 = .ok (.putfield 36, 3) := by decide +kernel
theorem d_T_init_59 : decode b_T_init 59 = .ok (.aload_n 0, 1) := by decide +kernel
theorem d_T_init_60 : decode b_T_init 60 = .ok (.new 40, 3) := by decide +kernel
theorem d_T_init_63 : decode b_T_init 63 = .ok (.dup, 1) := by decide +kernel
theorem d_T_init_64 : decode b_T_init 64 = .ok (.invokespecial 42, 3) := by decide +kernel
theorem d_T_init_67 : decode b_T_init 67 = .ok (.putfield 43, 3) := by decide +kernel
theorem d_T_init_70 : decode b_T_init 70 = .ok (.return_, 1) := by decide +kernel
theorem d_T_clear_0 : decode b_T_clear 0 = .ok (.aload_n 0, 1) := by decide +kernel
theorem d_T_clear_1 : decode b_T_clear 1 = .ok (.getfield 12, 3) := by decide +kernel
theorem d_T_clear_4 : decode b_T_clear 4 = .ok (.getfield 47, 3) := by decide +kernel
theorem d_T_clear_7 : decode b_T_clear 7 = .ok (.getfield 51, 3) := by decide +kernel
theorem d_T_clear_10 : decode b_T_clear 10 = .ok (.istore_n 1, 1) := by decide +kernel
theorem d_T_clear_11 : decode b_T_clear 11 = .ok (.aload_n 0, 1) := by decide +kernel
theorem d_T_clear_12 : decode b_T_clear 12 = .ok (.getfield 12, 3) := by decide +kernel
theorem d_T_clear_15 : decode b_T_clear 15 = .ok (.invokevirtual 57, 3) := by decide +kernel
theorem d_T_clear_18 : decode b_T_clear 18 = .ok (.aload_n 0, 1) := by decide +kernel
theorem d_T_clear_19 : decode b_T_clear 19 = .ok (.getfield 36, 3) := by decide +kernel
theorem d_T_clear_22 : decode b_T_clear 22 = .ok (.iconst 0, 1) := by decide +kernel
theorem d_T_clear_23 : decode b_T_clear 23 = .ok (.putfield 60, 3) := by decide +kernel
theorem d_T_clear_26 : decode b_T_clear 26 = .ok (.aload_n 0, 1) := by decide +kernel
theorem d_T_clear_27 : decode b_T_clear 27 = .ok (.getfield 43, 3) := by decide +kernel
theorem d_T_clear_30 : decode b_T_clear 30 = .ok (.iconst 0, 1) := by decide +kernel
theorem d_T_clear_31 : decode b_T_clear 31 = .ok (.putfield 61, 3) := by decide +kernel
theorem d_T_clear_34 : decode b_T_clear 34 = .ok (.iload_n 1, 1) := by decide +kernel
theorem d_T_clear_35 : decode b_T_clear 35 = .ok (.ireturn, 1) := by decide +kernel
theorem d_T_stop_0 : decode b_T_stop 0 = .ok (.iload_n 1, 1) := by decide +kernel
theorem d_T_stop_1 : decode b_T_stop 1 = .ok (.iconst 0, 1) := by decide +kernel
theorem d_T_stop_2 : decode b_T_stop 2 = .ok (.bipush 60, 2) := by decide +kernel
theorem d_T_stop_4 : decode b_T_stop 4 = .ok (.invokestatic 62, 3) := by decide +kernel
theorem d_T_stop_7 : decode b_T_stop 7 = .ok (.ifCond .ne 6, 3) := by decide +kernel
theorem d_T_stop_10 : decode b_T_stop 10 = .ok (.bipush (-2), 2) := by decide +kernel
theorem d_T_stop_12 : decode b_T_stop 12 = .ok (.ireturn, 1) := by decide +kernel
theorem d_T_stop_13 : decode b_T_stop 13 = .ok (.aload_n 0, 1) := by decide +kernel
theorem d_T_stop_14 : decode b_T_stop 14 = .ok (.getfield 12, 3) := by decide +kernel
theorem d_T_stop_17 : decode b_T_stop 17 = .ok (.getfield 66, 3) := by decide +kernel
theorem d_T_stop_20 : decode b_T_stop 20 = .ok (.bipush 12, 2) := by decide +kernel
theorem d_T_stop_22 : decode b_T_stop 22 = .ok (.if_icmp .lt 6, 3) := by decide +kernel
theorem d_T_stop_25 : decode b_T_stop 25 = .ok (.bipush (-3), 2) := by decide +kernel
theorem d_T_stop_27 : decode b_T_stop 27 = .ok (.ireturn, 1) := by decide +kernel
theorem d_T_stop_28 : decode b_T_stop 28 = .ok (.aload_n 0, 1) := by decide +kernel
theorem d_T_stop_29 : decode b_T_stop 29 = .ok (.getfield 12, 3) := by decide +kernel
theorem d_T_stop_32 : decode b_T_stop 32 = .ok (.getfield 69, 3) := by decide +kernel
theorem d_T_stop_35 : decode b_T_stop 35 = .ok (.aload_n 0, 1) := by decide +kernel
theorem d_T_stop_36 : decode b_T_stop 36 = .ok (.getfield 12, 3) := by decide +kernel
theorem d_T_stop_39 : decode b_T_stop 39 = .ok (.getfield 66, 3) := by decide +kernel
theorem d_T_stop_42 : decode b_T_stop 42 = .ok (.iload_n 1, 1) := by decide +kernel
theorem d_T_stop_43 : decode b_T_stop 43 = .ok (.iastore, 1) := by decide +kernel
theorem d_T_stop_44 : decode b_T_stop 44 = .ok (.aload_n 0, 1) := by decide +kernel
theorem d_T_stop_45 : decode b_T_stop 45 = .ok (.getfield 12, 3) := by decide +kernel
theorem d_T_stop_48 : decode b_T_stop 48 = .ok (.dup, 1) := by decide +kernel
theorem d_T_stop_49 : decode b_T_stop 49 = .ok (.getfield 66, 3) := by decide +kernel
theorem d_T_stop_52 : decode b_T_stop 52 = .ok (.iconst 1, 1) := by decide +kernel
theorem d_T_stop_53 : decode b_T_stop 53 = .ok (.iadd, 1) := by decide +kernel
theorem d_T_stop_54 : decode b_T_stop 54 = .ok (.putfield 66, 3) := by decide +kernel
theorem d_T_stop_57 : decode b_T_stop 57 = .ok (.aload_n 0, 1) := by decide +kernel
theorem d_T_stop_58 : decode b_T_stop 58 = .ok (.getfield 12, 3) := by decide +kernel
theorem d_T_stop_61 : decode b_T_stop 61 = .ok (.getfield 66, 3) := by decide +kernel
theorem d_T_stop_64 : decode b_T_stop 64 = .ok (.iconst 1, 1) := by decide +kernel
theorem d_T_stop_65 : decode b_T_stop 65 = .ok (.isub, 1) := by decide +kernel
theorem d_T_stop_66 : decode b_T_stop 66 = .ok (.ireturn, 1) := by decide +kernel
theorem d_T_change_0 : decode b_T_change 0 = .ok (.aload_n 0, 1) := by decide +kernel
theorem d_T_change_1 : decode b_T_change 1 = .ok (.getfield 12, 3) := by decide +kernel
theorem d_T_change_4 : decode b_T_change 4 = .ok (.iload_n 1, 1) := by decide +kernel
theorem d_T_change_5 : decode b_T_change 5 = .ok (.invokevirtual 73, 3) := by decide +kernel
theorem d_T_change_8 : decode b_T_change 8 = .ok (.ifCond .eq 13, 3) := by decide +kernel
theorem d_T_change_11 : decode b_T_change 11 = .ok (.iload_n 2, 1) := by decide +kernel
theorem d_T_change_12 : decode b_T_change 12 = .ok (.iconst 0, 1) := by decide +kernel
theorem d_T_change_13 : decode b_T_change 13 = .ok (.bipush 60, 2) := by decide +kernel
theorem d_T_change_15 : decode b_T_change 15 = .ok (.invokestatic 62, 3) := by decide +kernel
theorem d_T_change_18 : decode b_T_change 18 = .ok (.ifCond .ne 6, 3) := by decide +kernel
theorem d_T_change_21 : decode b_T_change 21 = .ok (.bipush (-2), 2) := by decide +kernel
theorem d_T_change_23 : decode b_T_change 23 = .ok (.ireturn, 1) := by decide +kernel
theorem d_T_change_24 : decode b_T_change 24 = .ok (.aload_n 0, 1) := by decide +kernel
theorem d_T_change_25 : decode b_T_change 25 = .ok (.getfield 12, 3) := by decide +kernel
theorem d_T_change_28 : decode b_T_change 28 = .ok (.getfield 69, 3) := by decide +kernel
theorem d_T_change_31 : decode b_T_change 31 = .ok (.iload_n 1, 1) := by decide +kernel
theorem d_T_change_32 : decode b_T_change 32 = .ok (.iaload, 1) := by decide +kernel
theorem d_T_change_33 : decode b_T_change 33 = .ok (.istore_n 3, 1) := by decide +kernel
theorem d_T_change_34 : decode b_T_change 34 = .ok (.aload_n 0, 1) := by decide +kernel
theorem d_T_change_35 : decode b_T_change 35 = .ok (.getfield 12, 3) := by decide +kernel
theorem d_T_change_38 : decode b_T_change 38 = .ok (.getfield 69, 3) := by decide +kernel
theorem d_T_change_41 : decode b_T_change 41 = .ok (.iload_n 1, 1) := by decide +kernel
theorem d_T_change_42 : decode b_T_change 42 = .ok (.iload_n 2, 1) := by decide +kernel
theorem d_T_change_43 : decode b_T_change 43 = .ok (.iastore, 1) := by decide +kernel
theorem d_T_change_44 : decode b_T_change 44 = .ok (.iload_n 3, 1) := by decide +kernel
theorem d_T_change_45 : decode b_T_change 45 = .ok (.ireturn, 1) := by decide +kernel
theorem d_T_ride_0 : decode b_T_ride 0 = .ok (.aload_n 0, 1) := by decide +kernel
theorem d_T_ride_1 : decode b_T_ride 1 = .ok (.getfield 12, 3) := by decide +kernel
theorem d_T_ride_4 : decode b_T_ride 4 = .ok (.iload_n 1, 1) := by decide +kernel
theorem d_T_ride_5 : decode b_T_ride 5 = .ok (.iload_n 2, 1) := by decide +kernel
theorem d_T_ride_6 : decode b_T_ride 6 = .ok (.invokevirtual 77, 3) := by decide +kernel
theorem d_T_ride_9 : decode b_T_ride 9 = .ok (.ifCond .eq 8, 3) := by decide +kernel
theorem d_T_ride_12 : decode b_T_ride 12 = .ok (.iload_n 1, 1) := by decide +kernel
theorem d_T_ride_13 : decode b_T_ride 13 = .ok (.iload_n 2, 1) := by decide +kernel
theorem d_T_ride_14 : decode b_T_ride 14 = .ok (.if_icmp .ne 6, 3) := by decide +kernel
theorem d_T_ride_17 : decode b_T_ride 17 = .ok (.bipush (-2), 2) := by decide +kernel
theorem d_T_ride_19 : decode b_T_ride 19 = .ok (.ireturn, 1) := by decide +kernel
theorem d_T_ride_20 : decode b_T_ride 20 = .ok (.iload_n 3, 1) := by decide +kernel
theorem d_T_ride_21 : decode b_T_ride 21 = .ok (.iconst 0, 1) := by decide +kernel
theorem d_T_ride_22 : decode b_T_ride 22 = .ok (.sipush 1439, 3) := by decide +kernel
theorem d_T_ride_25 : decode b_T_ride 25 = .ok (.invokestatic 62, 3) := by decide +kernel
theorem d_T_ride_28 : decode b_T_ride 28 = .ok (.ifCond .eq 26, 3) := by decide +kernel
theorem d_T_ride_31 : decode b_T_ride 31 = .ok (.iload 4, 2) := by decide +kernel
theorem d_T_ride_33 : decode b_T_ride 33 = .ok (.iconst 1, 1) := by decide +kernel
theorem d_T_ride_34 : decode b_T_ride 34 = .ok (.sipush 1440, 3) := by decide +kernel
theorem d_T_ride_37 : decode b_T_ride 37 = .ok (.invokestatic 62, 3) := by decide +kernel
theorem d_T_ride_40 : decode b_T_ride 40 = .ok (.ifCond .eq 14, 3) := by decide +kernel
theorem d_T_ride_43 : decode b_T_ride 43 = .ok (.iload 5, 2) := by decide +kernel
theorem d_T_ride_45 : decode b_T_ride 45 = .ok (.iconst 1, 1) := by decide +kernel
theorem d_T_ride_46 : decode b_T_ride 46 = .ok (.bipush 127, 2) := by decide +kernel
theorem d_T_ride_48 : decode b_T_ride 48 = .ok (.invokestatic 62, 3) := by decide +kernel
theorem d_T_ride_51 : decode b_T_ride 51 = .ok (.ifCond .ne 6, 3) := by decide +kernel
theorem d_T_ride_54 : decode b_T_ride 54 = .ok (.bipush (-2), 2) := by decide +kernel
theorem d_T_ride_56 : decode b_T_ride 56 = .ok (.ireturn, 1) := by decide +kernel
theorem d_T_ride_57 : decode b_T_ride 57 = .ok (.aload_n 0, 1) := by decide +kernel
theorem d_T_ride_58 : decode b_T_ride 58 = .ok (.getfield 12, 3) := by decide +kernel
theorem d_T_ride_61 : decode b_T_ride 61 = .ok (.getfield 47, 3) := by decide +kernel
theorem d_T_ride_64 : decode b_T_ride 64 = .ok (.getfield 51, 3) := by decide +kernel
theorem d_T_ride_67 : decode b_T_ride 67 = .ok (.bipush 40, 2) := by decide +kernel
theorem d_T_ride_69 : decode b_T_ride 69 = .ok (.if_icmp .lt 6, 3) := by decide +kernel
theorem d_T_ride_72 : decode b_T_ride 72 = .ok (.bipush (-3), 2) := by decide +kernel
theorem d_T_ride_74 : decode b_T_ride 74 = .ok (.ireturn, 1) := by decide +kernel
theorem d_T_ride_75 : decode b_T_ride 75 = .ok (.aload_n 0, 1) := by decide +kernel
theorem d_T_ride_76 : decode b_T_ride 76 = .ok (.getfield 12, 3) := by decide +kernel
theorem d_T_ride_79 : decode b_T_ride 79 = .ok (.getfield 47, 3) := by decide +kernel
theorem d_T_ride_82 : decode b_T_ride 82 = .ok (.iload_n 1, 1) := by decide +kernel
theorem d_T_ride_83 : decode b_T_ride 83 = .ok (.iload_n 2, 1) := by decide +kernel
theorem d_T_ride_84 : decode b_T_ride 84 = .ok (.iload_n 3, 1) := by decide +kernel
theorem d_T_ride_85 : decode b_T_ride 85 = .ok (.iload 4, 2) := by decide +kernel
theorem d_T_ride_87 : decode b_T_ride 87 = .ok (.iload 5, 2) := by decide +kernel
theorem d_T_ride_89 : decode b_T_ride 89 = .ok (.invokevirtual 81, 3) := by decide +kernel
theorem d_T_ride_92 : decode b_T_ride 92 = .ok (.istore 6, 2) := by decide +kernel
theorem d_T_ride_94 : decode b_T_ride 94 = .ok (.aload_n 0, 1) := by decide +kernel
theorem d_T_ride_95 : decode b_T_ride 95 = .ok (.getfield 12, 3) := by decide +kernel
theorem d_T_ride_98 : decode b_T_ride 98 = .ok (.getfield 85, 3) := by decide +kernel
theorem d_T_ride_101 : decode b_T_ride 101 = .ok (.aload_n 0, 1) := by decide +kernel
theorem d_T_ride_102 : decode b_T_ride 102 = .ok (.getfield 12, 3) := by decide +kernel
theorem d_T_ride_105 : decode b_T_ride 105 = .ok (.getfield 47, 3) := by decide +kernel
theorem d_T_ride_108 : decode b_T_ride 108 = .ok (.iload 6, 2) := by decide +kernel
theorem d_T_ride_110 : decode b_T_ride 110 = .ok (.invokevirtual 89, 3) := by decide +kernel
theorem d_T_ride_113 : decode b_T_ride 113 = .ok (.iload 6, 2) := by decide +kernel
theorem d_T_ride_115 : decode b_T_ride 115 = .ok (.ireturn, 1) := by decide +kernel
theorem d_T_walk_0 : decode b_T_walk 0 = .ok (.aload_n 0, 1) := by decide +kernel
theorem d_T_walk_1 : decode b_T_walk 1 = .ok (.getfield 12, 3) := by decide +kernel
theorem d_T_walk_4 : decode b_T_walk 4 = .ok (.iload_n 1, 1) := by decide +kernel
theorem d_T_walk_5 : decode b_T_walk 5 = .ok (.iload_n 2, 1) := by decide +kernel
theorem d_T_walk_6 : decode b_T_walk 6 = .ok (.invokevirtual 77, 3) := by decide +kernel
theorem d_T_walk_9 : decode b_T_walk 9 = .ok (.ifCond .eq 19, 3) := by decide +kernel
theorem d_T_walk_12 : decode b_T_walk 12 = .ok (.iload_n 1, 1) := by decide +kernel
theorem d_T_walk_13 : decode b_T_walk 13 = .ok (.iload_n 2, 1) := by decide +kernel
theorem d_T_walk_14 : decode b_T_walk 14 = .ok (.if_icmp .eq 14, 3) := by decide +kernel
theorem d_T_walk_17 : decode b_T_walk 17 = .ok (.iload_n 3, 1) := by decide +kernel
theorem d_T_walk_18 : decode b_T_walk 18 = .ok (.iconst 1, 1) := by decide +kernel
theorem d_T_walk_19 : decode b_T_walk 19 = .ok (.sipush 600, 3) := by decide +kernel
theorem d_T_walk_22 : decode b_T_walk 22 = .ok (.invokestatic 62, 3) := by decide +kernel
theorem d_T_walk_25 : decode b_T_walk 25 = .ok (.ifCond .ne 6, 3) := by decide +kernel
theorem d_T_walk_28 : decode b_T_walk 28 = .ok (.bipush (-2), 2) := by decide +kernel
theorem d_T_walk_30 : decode b_T_walk 30 = .ok (.ireturn, 1) := by decide +kernel
theorem d_T_walk_31 : decode b_T_walk 31 = .ok (.aload_n 0, 1) := by decide +kernel
theorem d_T_walk_32 : decode b_T_walk 32 = .ok (.getfield 12, 3) := by decide +kernel
theorem d_T_walk_35 : decode b_T_walk 35 = .ok (.getfield 95, 3) := by decide +kernel
theorem d_T_walk_38 : decode b_T_walk 38 = .ok (.getfield 99, 3) := by decide +kernel
theorem d_T_walk_41 : decode b_T_walk 41 = .ok (.bipush 30, 2) := by decide +kernel
theorem d_T_walk_43 : decode b_T_walk 43 = .ok (.if_icmp .lt 6, 3) := by decide +kernel
theorem d_T_walk_46 : decode b_T_walk 46 = .ok (.bipush (-3), 2) := by decide +kernel
theorem d_T_walk_48 : decode b_T_walk 48 = .ok (.ireturn, 1) := by decide +kernel
theorem d_T_walk_49 : decode b_T_walk 49 = .ok (.aload_n 0, 1) := by decide +kernel
theorem d_T_walk_50 : decode b_T_walk 50 = .ok (.getfield 12, 3) := by decide +kernel
theorem d_T_walk_53 : decode b_T_walk 53 = .ok (.getfield 95, 3) := by decide +kernel
theorem d_T_walk_56 : decode b_T_walk 56 = .ok (.iload_n 1, 1) := by decide +kernel
theorem d_T_walk_57 : decode b_T_walk 57 = .ok (.iload_n 2, 1) := by decide +kernel
theorem d_T_walk_58 : decode b_T_walk 58 = .ok (.iload_n 3, 1) := by decide +kernel
theorem d_T_walk_59 : decode b_T_walk 59 = .ok (.invokevirtual 102, 3) := by decide +kernel
theorem d_T_walk_62 : decode b_T_walk 62 = .ok (.ireturn, 1) := by decide +kernel
theorem d_T_late_0 : decode b_T_late 0 = .ok (.aload_n 0, 1) := by decide +kernel
theorem d_T_late_1 : decode b_T_late 1 = .ok (.getfield 12, 3) := by decide +kernel
theorem d_T_late_4 : decode b_T_late 4 = .ok (.getfield 47, 3) := by decide +kernel
theorem d_T_late_7 : decode b_T_late 7 = .ok (.iload_n 1, 1) := by decide +kernel
theorem d_T_late_8 : decode b_T_late 8 = .ok (.invokevirtual 105, 3) := by decide +kernel
theorem d_T_late_11 : decode b_T_late 11 = .ok (.ifCond .eq 24, 3) := by decide +kernel
theorem d_T_late_14 : decode b_T_late 14 = .ok (.iload_n 2, 1) := by decide +kernel
theorem d_T_late_15 : decode b_T_late 15 = .ok (.iconst 0, 1) := by decide +kernel
theorem d_T_late_16 : decode b_T_late 16 = .ok (.bipush 6, 2) := by decide +kernel
theorem d_T_late_18 : decode b_T_late 18 = .ok (.invokestatic 62, 3) := by decide +kernel
theorem d_T_late_21 : decode b_T_late 21 = .ok (.ifCond .eq 14, 3) := by decide +kernel
theorem d_T_late_24 : decode b_T_late 24 = .ok (.iload_n 3, 1) := by decide +kernel
theorem d_T_late_25 : decode b_T_late 25 = .ok (.iconst (-1), 1) := by decide +kernel
theorem d_T_late_26 : decode b_T_late 26 = .ok (.sipush 300, 3) := by decide +kernel
theorem d_T_late_29 : decode b_T_late 29 = .ok (.invokestatic 62, 3) := by decide +kernel
theorem d_T_late_32 : decode b_T_late 32 = .ok (.ifCond .ne 6, 3) := by decide +kernel
theorem d_T_late_35 : decode b_T_late 35 = .ok (.bipush (-2), 2) := by decide +kernel
theorem d_T_late_37 : decode b_T_late 37 = .ok (.ireturn, 1) := by decide +kernel
theorem d_T_late_38 : decode b_T_late 38 = .ok (.aload_n 0, 1) := by decide +kernel
theorem d_T_late_39 : decode b_T_late 39 = .ok (.getfield 12, 3) := by decide +kernel
theorem d_T_late_42 : decode b_T_late 42 = .ok (.getfield 47, 3) := by decide +kernel
theorem d_T_late_45 : decode b_T_late 45 = .ok (.iload_n 1, 1) := by decide +kernel
theorem d_T_late_46 : decode b_T_late 46 = .ok (.iload_n 2, 1) := by decide +kernel
theorem d_T_late_47 : decode b_T_late 47 = .ok (.invokevirtual 108, 3) := by decide +kernel
theorem d_T_late_50 : decode b_T_late 50 = .ok (.ifCond .ne 6, 3) := by decide +kernel
theorem d_T_late_53 : decode b_T_late 53 = .ok (.bipush (-2), 2) := by decide +kernel
theorem d_T_late_55 : decode b_T_late 55 = .ok (.ireturn, 1) := by decide +kernel
theorem d_T_late_56 : decode b_T_late 56 = .ok (.iload_n 1, 1) := by decide +kernel
theorem d_T_late_57 : decode b_T_late 57 = .ok (.bipush 7, 2) := by decide +kernel
theorem d_T_late_59 : decode b_T_late 59 = .ok (.imul, 1) := by decide +kernel
theorem d_T_late_60 : decode b_T_late 60 = .ok (.iload_n 2, 1) := by decide +kernel
theorem d_T_late_61 : decode b_T_late 61 = .ok (.iadd, 1) := by decide +kernel
theorem d_T_late_62 : decode b_T_late 62 = .ok (.istore 4, 2) := by decide +kernel
theorem d_T_late_64 : decode b_T_late 64 = .ok (.aload_n 0, 1) := by decide +kernel
theorem d_T_late_65 : decode b_T_late 65 = .ok (.getfield 12, 3) := by decide +kernel
theorem d_T_late_68 : decode b_T_late 68 = .ok (.getfield 47, 3) := by decide +kernel
theorem d_T_late_71 : decode b_T_late 71 = .ok (.getfield 111, 3) := by decide +kernel
theorem d_T_late_74 : decode b_T_late 74 = .ok (.iload 4, 2) := by decide +kernel
theorem d_T_late_76 : decode b_T_late 76 = .ok (.iaload, 1) := by decide +kernel
theorem d_T_late_77 : decode b_T_late 77 = .ok (.istore 5, 2) := by decide +kernel
theorem d_T_late_79 : decode b_T_late 79 = .ok (.aload_n 0, 1) := by decide +kernel
theorem d_T_late_80 : decode b_T_late 80 = .ok (.getfield 12, 3) := by decide +kernel
theorem d_T_late_83 : decode b_T_late 83 = .ok (.getfield 85, 3) := by decide +kernel
theorem d_T_late_86 : decode b_T_late 86 = .ok (.iload 4, 2) := by decide +kernel
theorem d_T_late_88 : decode b_T_late 88 = .ok (.invokevirtual 114, 3) := by decide +kernel
theorem d_T_late_91 : decode b_T_late 91 = .ok (.aload_n 0, 1) := by decide +kernel
theorem d_T_late_92 : decode b_T_late 92 = .ok (.getfield 12, 3) := by decide +kernel
theorem d_T_late_95 : decode b_T_late 95 = .ok (.getfield 47, 3) := by decide +kernel
theorem d_T_late_98 : decode b_T_late 98 = .ok (.getfield 111, 3) := by decide +kernel
theorem d_T_late_101 : decode b_T_late 101 = .ok (.iload 4, 2) := by decide +kernel
theorem d_T_late_103 : decode b_T_late 103 = .ok (.iload_n 3, 1) := by decide +kernel
theorem d_T_late_104 : decode b_T_late 104 = .ok (.iastore, 1) := by decide +kernel
theorem d_T_late_105 : decode b_T_late 105 = .ok (.aload_n 0, 1) := by decide +kernel
theorem d_T_late_106 : decode b_T_late 106 = .ok (.getfield 12, 3) := by decide +kernel
theorem d_T_late_109 : decode b_T_late 109 = .ok (.getfield 85, 3) := by decide +kernel
theorem d_T_late_112 : decode b_T_late 112 = .ok (.aload_n 0, 1) := by decide +kernel
theorem d_T_late_113 : decode b_T_late 113 = .ok (.getfield 12, 3) := by decide +kernel
theorem d_T_late_116 : decode b_T_late 116 = .ok (.getfield 47, 3) := by decide +kernel
theorem d_T_late_119 : decode b_T_late 119 = .ok (.iload 4, 2) := by decide +kernel
theorem d_T_late_121 : decode b_T_late 121 = .ok (.invokevirtual 118, 3) := by decide +kernel
theorem d_T_late_124 : decode b_T_late 124 = .ok (.iload 5, 2) := by decide +kernel
theorem d_T_late_126 : decode b_T_late 126 = .ok (.ireturn, 1) := by decide +kernel
theorem d_T_earliest_0 : decode b_T_earliest 0 = .ok (.aload_n 0, 1) := by decide +kernel
theorem d_T_earliest_1 : decode b_T_earliest 1 = .ok (.getfield 12, 3) := by decide +kernel
theorem d_T_earliest_4 : decode b_T_earliest 4 = .ok (.iload_n 1, 1) := by decide +kernel
theorem d_T_earliest_5 : decode b_T_earliest 5 = .ok (.iload_n 2, 1) := by decide +kernel
theorem d_T_earliest_6 : decode b_T_earliest 6 = .ok (.invokevirtual 77, 3) := by decide +kernel
theorem d_T_earliest_9 : decode b_T_earliest 9 = .ok (.ifCond .eq 10, 3) := by decide +kernel
theorem d_T_earliest_12 : decode b_T_earliest 12 = .ok (.iload_n 3, 1) := by decide +kernel
theorem d_T_earliest_13 : decode b_T_earliest 13 = .ok (.invokestatic 121, 3) := by decide +kernel
theorem d_T_earliest_16 : decode b_T_earliest 16 = .ok (.ifCond .ne 6, 3) := by decide +kernel
theorem d_T_earliest_19 : decode b_T_earliest 19 = .ok (.bipush (-2), 2) := by decide +kernel
theorem d_T_earliest_21 : decode b_T_earliest 21 = .ok (.ireturn, 1) := by decide +kernel
theorem d_T_earliest_22 : decode b_T_earliest 22 = .ok (.aload_n 0, 1) := by decide +kernel
theorem d_T_earliest_23 : decode b_T_earliest 23 = .ok (.getfield 19, 3) := by decide +kernel
theorem d_T_earliest_26 : decode b_T_earliest 26 = .ok (.aload_n 0, 1) := by decide +kernel
theorem d_T_earliest_27 : decode b_T_earliest 27 = .ok (.getfield 12, 3) := by decide +kernel
theorem d_T_earliest_30 : decode b_T_earliest 30 = .ok (.iload_n 1, 1) := by decide +kernel
theorem d_T_earliest_31 : decode b_T_earliest 31 = .ok (.iload_n 3, 1) := by decide +kernel
theorem d_T_earliest_32 : decode b_T_earliest 32 = .ok (.invokevirtual 124, 3) := by decide +kernel
theorem d_T_earliest_35 : decode b_T_earliest 35 = .ok (.aload_n 0, 1) := by decide +kernel
theorem d_T_earliest_36 : decode b_T_earliest 36 = .ok (.getfield 19, 3) := by decide +kernel
theorem d_T_earliest_39 : decode b_T_earliest 39 = .ok (.iload_n 2, 1) := by decide +kernel
theorem d_T_earliest_40 : decode b_T_earliest 40 = .ok (.invokevirtual 128, 3) := by decide +kernel
theorem d_T_earliest_43 : decode b_T_earliest 43 = .ok (.invokestatic 132, 3) := by decide +kernel
theorem d_T_earliest_46 : decode b_T_earliest 46 = .ok (.ireturn, 1) := by decide +kernel
theorem d_T_latest_0 : decode b_T_latest 0 = .ok (.aload_n 0, 1) := by decide +kernel
theorem d_T_latest_1 : decode b_T_latest 1 = .ok (.getfield 12, 3) := by decide +kernel
theorem d_T_latest_4 : decode b_T_latest 4 = .ok (.iload_n 1, 1) := by decide +kernel
theorem d_T_latest_5 : decode b_T_latest 5 = .ok (.iload_n 2, 1) := by decide +kernel
theorem d_T_latest_6 : decode b_T_latest 6 = .ok (.invokevirtual 77, 3) := by decide +kernel
theorem d_T_latest_9 : decode b_T_latest 9 = .ok (.ifCond .eq 10, 3) := by decide +kernel
theorem d_T_latest_12 : decode b_T_latest 12 = .ok (.iload_n 3, 1) := by decide +kernel
theorem d_T_latest_13 : decode b_T_latest 13 = .ok (.invokestatic 135, 3) := by decide +kernel
theorem d_T_latest_16 : decode b_T_latest 16 = .ok (.ifCond .ne 6, 3) := by decide +kernel
theorem d_T_latest_19 : decode b_T_latest 19 = .ok (.bipush (-2), 2) := by decide +kernel
theorem d_T_latest_21 : decode b_T_latest 21 = .ok (.ireturn, 1) := by decide +kernel
theorem d_T_latest_22 : decode b_T_latest 22 = .ok (.aload_n 0, 1) := by decide +kernel
theorem d_T_latest_23 : decode b_T_latest 23 = .ok (.getfield 29, 3) := by decide +kernel
theorem d_T_latest_26 : decode b_T_latest 26 = .ok (.aload_n 0, 1) := by decide +kernel
theorem d_T_latest_27 : decode b_T_latest 27 = .ok (.getfield 12, 3) := by decide +kernel
theorem d_T_latest_30 : decode b_T_latest 30 = .ok (.iload_n 1, 1) := by decide +kernel
theorem d_T_latest_31 : decode b_T_latest 31 = .ok (.iload_n 2, 1) := by decide +kernel
theorem d_T_latest_32 : decode b_T_latest 32 = .ok (.iload_n 3, 1) := by decide +kernel
theorem d_T_latest_33 : decode b_T_latest 33 = .ok (.invokevirtual 138, 3) := by decide +kernel
theorem d_T_latest_36 : decode b_T_latest 36 = .ok (.ireturn, 1) := by decide +kernel
theorem d_T_fewest_0 : decode b_T_fewest 0 = .ok (.aload_n 0, 1) := by decide +kernel
theorem d_T_fewest_1 : decode b_T_fewest 1 = .ok (.getfield 12, 3) := by decide +kernel
theorem d_T_fewest_4 : decode b_T_fewest 4 = .ok (.iload_n 1, 1) := by decide +kernel
theorem d_T_fewest_5 : decode b_T_fewest 5 = .ok (.iload_n 2, 1) := by decide +kernel
theorem d_T_fewest_6 : decode b_T_fewest 6 = .ok (.invokevirtual 77, 3) := by decide +kernel
theorem d_T_fewest_9 : decode b_T_fewest 9 = .ok (.ifCond .eq 18, 3) := by decide +kernel
theorem d_T_fewest_12 : decode b_T_fewest 12 = .ok (.iload_n 3, 1) := by decide +kernel
theorem d_T_fewest_13 : decode b_T_fewest 13 = .ok (.invokestatic 121, 3) := by decide +kernel
theorem d_T_fewest_16 : decode b_T_fewest 16 = .ok (.ifCond .eq 11, 3) := by decide +kernel
theorem d_T_fewest_19 : decode b_T_fewest 19 = .ok (.iload 4, 2) := by decide +kernel
theorem d_T_fewest_21 : decode b_T_fewest 21 = .ok (.invokestatic 135, 3) := by decide +kernel
theorem d_T_fewest_24 : decode b_T_fewest 24 = .ok (.ifCond .ne 6, 3) := by decide +kernel
theorem d_T_fewest_27 : decode b_T_fewest 27 = .ok (.bipush (-2), 2) := by decide +kernel
theorem d_T_fewest_29 : decode b_T_fewest 29 = .ok (.ireturn, 1) := by decide +kernel
theorem d_T_fewest_30 : decode b_T_fewest 30 = .ok (.aload_n 0, 1) := by decide +kernel
theorem d_T_fewest_31 : decode b_T_fewest 31 = .ok (.getfield 19, 3) := by decide +kernel
theorem d_T_fewest_34 : decode b_T_fewest 34 = .ok (.aload_n 0, 1) := by decide +kernel
theorem d_T_fewest_35 : decode b_T_fewest 35 = .ok (.getfield 12, 3) := by decide +kernel
theorem d_T_fewest_38 : decode b_T_fewest 38 = .ok (.iload_n 1, 1) := by decide +kernel
theorem d_T_fewest_39 : decode b_T_fewest 39 = .ok (.iload_n 3, 1) := by decide +kernel
theorem d_T_fewest_40 : decode b_T_fewest 40 = .ok (.invokevirtual 142, 3) := by decide +kernel
theorem d_T_fewest_43 : decode b_T_fewest 43 = .ok (.iconst 0, 1) := by decide +kernel
theorem d_T_fewest_44 : decode b_T_fewest 44 = .ok (.istore 5, 2) := by decide +kernel
theorem d_T_fewest_46 : decode b_T_fewest 46 = .ok (.iload 5, 2) := by decide +kernel
theorem d_T_fewest_48 : decode b_T_fewest 48 = .ok (.bipush 12, 2) := by decide +kernel
theorem d_T_fewest_50 : decode b_T_fewest 50 = .ok (.if_icmp .gt 51, 3) := by decide +kernel
theorem d_T_fewest_53 : decode b_T_fewest 53 = .ok (.aload_n 0, 1) := by decide +kernel
theorem d_T_fewest_54 : decode b_T_fewest 54 = .ok (.getfield 19, 3) := by decide +kernel
theorem d_T_fewest_57 : decode b_T_fewest 57 = .ok (.iload_n 2, 1) := by decide +kernel
theorem d_T_fewest_58 : decode b_T_fewest 58 = .ok (.invokevirtual 128, 3) := by decide +kernel
theorem d_T_fewest_61 : decode b_T_fewest 61 = .ok (.iload 4, 2) := by decide +kernel
theorem d_T_fewest_63 : decode b_T_fewest 63 = .ok (.if_icmp .gt 6, 3) := by decide +kernel
theorem d_T_fewest_66 : decode b_T_fewest 66 = .ok (.iload 5, 2) := by decide +kernel
theorem d_T_fewest_68 : decode b_T_fewest 68 = .ok (.ireturn, 1) := by decide +kernel
theorem d_T_fewest_69 : decode b_T_fewest 69 = .ok (.aload_n 0, 1) := by decide +kernel
theorem d_T_fewest_70 : decode b_T_fewest 70 = .ok (.getfield 23, 3) := by decide +kernel
theorem d_T_fewest_73 : decode b_T_fewest 73 = .ok (.aload_n 0, 1) := by decide +kernel
theorem d_T_fewest_74 : decode b_T_fewest 74 = .ok (.getfield 19, 3) := by decide +kernel
theorem d_T_fewest_77 : decode b_T_fewest 77 = .ok (.invokevirtual 145, 3) := by decide +kernel
theorem d_T_fewest_80 : decode b_T_fewest 80 = .ok (.aload_n 0, 1) := by decide +kernel
theorem d_T_fewest_81 : decode b_T_fewest 81 = .ok (.getfield 19, 3) := by decide +kernel
theorem d_T_fewest_84 : decode b_T_fewest 84 = .ok (.aload_n 0, 1) := by decide +kernel
theorem d_T_fewest_85 : decode b_T_fewest 85 = .ok (.getfield 12, 3) := by decide +kernel
theorem d_T_fewest_88 : decode b_T_fewest 88 = .ok (.aload_n 0, 1) := by decide +kernel
theorem d_T_fewest_89 : decode b_T_fewest 89 = .ok (.getfield 23, 3) := by decide +kernel
theorem d_T_fewest_92 : decode b_T_fewest 92 = .ok (.invokevirtual 149, 3) := by decide +kernel
theorem d_T_fewest_95 : decode b_T_fewest 95 = .ok (.iinc 5 1, 3) := by decide +kernel
theorem d_T_fewest_98 : decode b_T_fewest 98 = .ok (.goto (-52), 3) := by decide +kernel
theorem d_T_fewest_101 : decode b_T_fewest 101 = .ok (.iconst (-1), 1) := by decide +kernel
theorem d_T_fewest_102 : decode b_T_fewest 102 = .ok (.ireturn, 1) := by decide +kernel
theorem d_T_fastest_0 : decode b_T_fastest 0 = .ok (.aload_n 0, 1) := by decide +kernel
theorem d_T_fastest_1 : decode b_T_fastest 1 = .ok (.getfield 12, 3) := by decide +kernel
theorem d_T_fastest_4 : decode b_T_fastest 4 = .ok (.iload_n 1, 1) := by decide +kernel
theorem d_T_fastest_5 : decode b_T_fastest 5 = .ok (.iload_n 2, 1) := by decide +kernel
theorem d_T_fastest_6 : decode b_T_fastest 6 = .ok (.invokevirtual 77, 3) := by decide +kernel
theorem d_T_fastest_9 : decode b_T_fastest 9 = .ok (.ifCond .eq 12, 3) := by decide +kernel
theorem d_T_fastest_12 : decode b_T_fastest 12 = .ok (.iload_n 3, 1) := by decide +kernel
theorem d_T_fastest_13 : decode b_T_fastest 13 = .ok (.iload 4, 2) := by decide +kernel
theorem d_T_fastest_15 : decode b_T_fastest 15 = .ok (.invokestatic 153, 3) := by decide +kernel
theorem d_T_fastest_18 : decode b_T_fastest 18 = .ok (.ifCond .ne 6, 3) := by decide +kernel
theorem d_T_fastest_21 : decode b_T_fastest 21 = .ok (.bipush (-2), 2) := by decide +kernel
theorem d_T_fastest_23 : decode b_T_fastest 23 = .ok (.ireturn, 1) := by decide +kernel
theorem d_T_fastest_24 : decode b_T_fastest 24 = .ok (.aload_n 0, 1) := by decide +kernel
theorem d_T_fastest_25 : decode b_T_fastest 25 = .ok (.getfield 29, 3) := by decide +kernel
theorem d_T_fastest_28 : decode b_T_fastest 28 = .ok (.aload_n 0, 1) := by decide +kernel
theorem d_T_fastest_29 : decode b_T_fastest 29 = .ok (.getfield 12, 3) := by decide +kernel
theorem d_T_fastest_32 : decode b_T_fastest 32 = .ok (.iload_n 1, 1) := by decide +kernel
theorem d_T_fastest_33 : decode b_T_fastest 33 = .ok (.iload_n 2, 1) := by decide +kernel
theorem d_T_fastest_34 : decode b_T_fastest 34 = .ok (.iload_n 3, 1) := by decide +kernel
theorem d_T_fastest_35 : decode b_T_fastest 35 = .ok (.iload 4, 2) := by decide +kernel
theorem d_T_fastest_37 : decode b_T_fastest 37 = .ok (.invokevirtual 156, 3) := by decide +kernel
theorem d_T_fastest_40 : decode b_T_fastest 40 = .ok (.aload_n 0, 1) := by decide +kernel
theorem d_T_fastest_41 : decode b_T_fastest 41 = .ok (.getfield 29, 3) := by decide +kernel
theorem d_T_fastest_44 : decode b_T_fastest 44 = .ok (.iload_n 3, 1) := by decide +kernel
theorem d_T_fastest_45 : decode b_T_fastest 45 = .ok (.iload 4, 2) := by decide +kernel
theorem d_T_fastest_47 : decode b_T_fastest 47 = .ok (.invokevirtual 159, 3) := by decide +kernel
theorem d_T_fastest_50 : decode b_T_fastest 50 = .ok (.invokestatic 132, 3) := by decide +kernel
theorem d_T_fastest_53 : decode b_T_fastest 53 = .ok (.ireturn, 1) := by decide +kernel
theorem d_T_profile_0 : decode b_T_profile 0 = .ok (.aload_n 0, 1) := by decide +kernel
theorem d_T_profile_1 : decode b_T_profile 1 = .ok (.getfield 12, 3) := by decide +kernel
theorem d_T_profile_4 : decode b_T_profile 4 = .ok (.iload_n 1, 1) := by decide +kernel
theorem d_T_profile_5 : decode b_T_profile 5 = .ok (.iload_n 2, 1) := by decide +kernel
theorem d_T_profile_6 : decode b_T_profile 6 = .ok (.invokevirtual 77, 3) := by decide +kernel
theorem d_T_profile_9 : decode b_T_profile 9 = .ok (.ifCond .eq 12, 3) := by decide +kernel
theorem d_T_profile_12 : decode b_T_profile 12 = .ok (.iload_n 3, 1) := by decide +kernel
theorem d_T_profile_13 : decode b_T_profile 13 = .ok (.iload 4, 2) := by decide +kernel
theorem d_T_profile_15 : decode b_T_profile 15 = .ok (.invokestatic 153, 3) := by decide +kernel
theorem d_T_profile_18 : decode b_T_profile 18 = .ok (.ifCond .ne 6, 3) := by decide +kernel
theorem d_T_profile_21 : decode b_T_profile 21 = .ok (.bipush (-2), 2) := by decide +kernel
theorem d_T_profile_23 : decode b_T_profile 23 = .ok (.ireturn, 1) := by decide +kernel
theorem d_T_profile_24 : decode b_T_profile 24 = .ok (.aload_n 0, 1) := by decide +kernel
theorem d_T_profile_25 : decode b_T_profile 25 = .ok (.getfield 29, 3) := by decide +kernel
theorem d_T_profile_28 : decode b_T_profile 28 = .ok (.aload_n 0, 1) := by decide +kernel
theorem d_T_profile_29 : decode b_T_profile 29 = .ok (.getfield 12, 3) := by decide +kernel
theorem d_T_profile_32 : decode b_T_profile 32 = .ok (.iload_n 1, 1) := by decide +kernel
theorem d_T_profile_33 : decode b_T_profile 33 = .ok (.iload_n 2, 1) := by decide +kernel
theorem d_T_profile_34 : decode b_T_profile 34 = .ok (.iload_n 3, 1) := by decide +kernel
theorem d_T_profile_35 : decode b_T_profile 35 = .ok (.iload 4, 2) := by decide +kernel
theorem d_T_profile_37 : decode b_T_profile 37 = .ok (.invokevirtual 156, 3) := by decide +kernel
theorem d_T_profile_40 : decode b_T_profile 40 = .ok (.aload_n 0, 1) := by decide +kernel
theorem d_T_profile_41 : decode b_T_profile 41 = .ok (.getfield 36, 3) := by decide +kernel
theorem d_T_profile_44 : decode b_T_profile 44 = .ok (.aload_n 0, 1) := by decide +kernel
theorem d_T_profile_45 : decode b_T_profile 45 = .ok (.getfield 29, 3) := by decide +kernel
theorem d_T_profile_48 : decode b_T_profile 48 = .ok (.iload_n 3, 1) := by decide +kernel
theorem d_T_profile_49 : decode b_T_profile 49 = .ok (.iload 4, 2) := by decide +kernel
theorem d_T_profile_51 : decode b_T_profile 51 = .ok (.invokevirtual 163, 3) := by decide +kernel
theorem d_T_profile_54 : decode b_T_profile 54 = .ok (.aload_n 0, 1) := by decide +kernel
theorem d_T_profile_55 : decode b_T_profile 55 = .ok (.getfield 36, 3) := by decide +kernel
theorem d_T_profile_58 : decode b_T_profile 58 = .ok (.getfield 60, 3) := by decide +kernel
theorem d_T_profile_61 : decode b_T_profile 61 = .ok (.ireturn, 1) := by decide +kernel
theorem d_T_step_0 : decode b_T_step 0 = .ok (.iload_n 1, 1) := by decide +kernel
theorem d_T_step_1 : decode b_T_step 1 = .ok (.iconst 0, 1) := by decide +kernel
theorem d_T_step_2 : decode b_T_step 2 = .ok (.aload_n 0, 1) := by decide +kernel
theorem d_T_step_3 : decode b_T_step 3 = .ok (.getfield 36, 3) := by decide +kernel
theorem d_T_step_6 : decode b_T_step 6 = .ok (.getfield 60, 3) := by decide +kernel
theorem d_T_step_9 : decode b_T_step 9 = .ok (.iconst 1, 1) := by decide +kernel
theorem d_T_step_10 : decode b_T_step 10 = .ok (.isub, 1) := by decide +kernel
theorem d_T_step_11 : decode b_T_step 11 = .ok (.invokestatic 62, 3) := by decide +kernel
theorem d_T_step_14 : decode b_T_step 14 = .ok (.ifCond .ne 6, 3) := by decide +kernel
theorem d_T_step_17 : decode b_T_step 17 = .ok (.bipush (-2), 2) := by decide +kernel
theorem d_T_step_19 : decode b_T_step 19 = .ok (.ireturn, 1) := by decide +kernel
theorem d_T_step_20 : decode b_T_step 20 = .ok (.iload_n 2, 1) := by decide +kernel
theorem d_T_step_21 : decode b_T_step 21 = .ok (.lookupswitch 50 #[(0, 27), (1, 37)], 27) := by decide +kernel
theorem d_T_step_48 : decode b_T_step 48 = .ok (.aload_n 0, 1) := by decide +kernel
theorem d_T_step_49 : decode b_T_step 49 = .ok (.getfield 36, 3) := by decide +kernel
theorem d_T_step_52 : decode b_T_step 52 = .ok (.getfield 167, 3) := by decide +kernel
theorem d_T_step_55 : decode b_T_step 55 = .ok (.iload_n 1, 1) := by decide +kernel
theorem d_T_step_56 : decode b_T_step 56 = .ok (.iaload, 1) := by decide +kernel
theorem d_T_step_57 : decode b_T_step 57 = .ok (.ireturn, 1) := by decide +kernel
theorem d_T_step_58 : decode b_T_step 58 = .ok (.aload_n 0, 1) := by decide +kernel
theorem d_T_step_59 : decode b_T_step 59 = .ok (.getfield 36, 3) := by decide +kernel
theorem d_T_step_62 : decode b_T_step 62 = .ok (.getfield 170, 3) := by decide +kernel
theorem d_T_step_65 : decode b_T_step 65 = .ok (.iload_n 1, 1) := by decide +kernel
theorem d_T_step_66 : decode b_T_step 66 = .ok (.iaload, 1) := by decide +kernel
theorem d_T_step_67 : decode b_T_step 67 = .ok (.invokestatic 132, 3) := by decide +kernel
theorem d_T_step_70 : decode b_T_step 70 = .ok (.ireturn, 1) := by decide +kernel
theorem d_T_step_71 : decode b_T_step 71 = .ok (.bipush (-2), 2) := by decide +kernel
theorem d_T_step_73 : decode b_T_step 73 = .ok (.ireturn, 1) := by decide +kernel
theorem d_T_reach_0 : decode b_T_reach 0 = .ok (.aload_n 0, 1) := by decide +kernel
theorem d_T_reach_1 : decode b_T_reach 1 = .ok (.getfield 12, 3) := by decide +kernel
theorem d_T_reach_4 : decode b_T_reach 4 = .ok (.iload_n 1, 1) := by decide +kernel
theorem d_T_reach_5 : decode b_T_reach 5 = .ok (.invokevirtual 73, 3) := by decide +kernel
theorem d_T_reach_8 : decode b_T_reach 8 = .ok (.ifCond .eq 17, 3) := by decide +kernel
theorem d_T_reach_11 : decode b_T_reach 11 = .ok (.iload_n 2, 1) := by decide +kernel
theorem d_T_reach_12 : decode b_T_reach 12 = .ok (.invokestatic 121, 3) := by decide +kernel
theorem d_T_reach_15 : decode b_T_reach 15 = .ok (.ifCond .eq 10, 3) := by decide +kernel
theorem d_T_reach_18 : decode b_T_reach 18 = .ok (.iload_n 3, 1) := by decide +kernel
theorem d_T_reach_19 : decode b_T_reach 19 = .ok (.invokestatic 135, 3) := by decide +kernel
theorem d_T_reach_22 : decode b_T_reach 22 = .ok (.ifCond .ne 6, 3) := by decide +kernel
theorem d_T_reach_25 : decode b_T_reach 25 = .ok (.bipush (-2), 2) := by decide +kernel
theorem d_T_reach_27 : decode b_T_reach 27 = .ok (.ireturn, 1) := by decide +kernel
theorem d_T_reach_28 : decode b_T_reach 28 = .ok (.aload_n 0, 1) := by decide +kernel
theorem d_T_reach_29 : decode b_T_reach 29 = .ok (.getfield 19, 3) := by decide +kernel
theorem d_T_reach_32 : decode b_T_reach 32 = .ok (.aload_n 0, 1) := by decide +kernel
theorem d_T_reach_33 : decode b_T_reach 33 = .ok (.getfield 12, 3) := by decide +kernel
theorem d_T_reach_36 : decode b_T_reach 36 = .ok (.iload_n 1, 1) := by decide +kernel
theorem d_T_reach_37 : decode b_T_reach 37 = .ok (.iload_n 2, 1) := by decide +kernel
theorem d_T_reach_38 : decode b_T_reach 38 = .ok (.invokevirtual 124, 3) := by decide +kernel
theorem d_T_reach_41 : decode b_T_reach 41 = .ok (.iconst 0, 1) := by decide +kernel
theorem d_T_reach_42 : decode b_T_reach 42 = .ok (.istore 4, 2) := by decide +kernel
theorem d_T_reach_44 : decode b_T_reach 44 = .ok (.iconst 0, 1) := by decide +kernel
theorem d_T_reach_45 : decode b_T_reach 45 = .ok (.istore 5, 2) := by decide +kernel
theorem d_T_reach_47 : decode b_T_reach 47 = .ok (.iload 5, 2) := by decide +kernel
theorem d_T_reach_49 : decode b_T_reach 49 = .ok (.aload_n 0, 1) := by decide +kernel
theorem d_T_reach_50 : decode b_T_reach 50 = .ok (.getfield 12, 3) := by decide +kernel
theorem d_T_reach_53 : decode b_T_reach 53 = .ok (.getfield 66, 3) := by decide +kernel
theorem d_T_reach_56 : decode b_T_reach 56 = .ok (.if_icmp .ge 31, 3) := by decide +kernel
theorem d_T_reach_59 : decode b_T_reach 59 = .ok (.aload_n 0, 1) := by decide +kernel
theorem d_T_reach_60 : decode b_T_reach 60 = .ok (.getfield 19, 3) := by decide +kernel
theorem d_T_reach_63 : decode b_T_reach 63 = .ok (.iload 5, 2) := by decide +kernel
theorem d_T_reach_65 : decode b_T_reach 65 = .ok (.invokevirtual 128, 3) := by decide +kernel
theorem d_T_reach_68 : decode b_T_reach 68 = .ok (.iload_n 3, 1) := by decide +kernel
theorem d_T_reach_69 : decode b_T_reach 69 = .ok (.if_icmp .gt 12, 3) := by decide +kernel
theorem d_T_reach_72 : decode b_T_reach 72 = .ok (.iload 4, 2) := by decide +kernel
theorem d_T_reach_74 : decode b_T_reach 74 = .ok (.iconst 1, 1) := by decide +kernel
theorem d_T_reach_75 : decode b_T_reach 75 = .ok (.iload 5, 2) := by decide +kernel
theorem d_T_reach_77 : decode b_T_reach 77 = .ok (.ishl, 1) := by decide +kernel
theorem d_T_reach_78 : decode b_T_reach 78 = .ok (.ior, 1) := by decide +kernel
theorem d_T_reach_79 : decode b_T_reach 79 = .ok (.istore 4, 2) := by decide +kernel
theorem d_T_reach_81 : decode b_T_reach 81 = .ok (.iinc 5 1, 3) := by decide +kernel
theorem d_T_reach_84 : decode b_T_reach 84 = .ok (.goto (-37), 3) := by decide +kernel
theorem d_T_reach_87 : decode b_T_reach 87 = .ok (.iload 4, 2) := by decide +kernel
theorem d_T_reach_89 : decode b_T_reach 89 = .ok (.ireturn, 1) := by decide +kernel
theorem d_T_way_0 : decode b_T_way 0 = .ok (.aload_n 0, 1) := by decide +kernel
theorem d_T_way_1 : decode b_T_way 1 = .ok (.getfield 12, 3) := by decide +kernel
theorem d_T_way_4 : decode b_T_way 4 = .ok (.iload_n 1, 1) := by decide +kernel
theorem d_T_way_5 : decode b_T_way 5 = .ok (.iload_n 2, 1) := by decide +kernel
theorem d_T_way_6 : decode b_T_way 6 = .ok (.invokevirtual 77, 3) := by decide +kernel
theorem d_T_way_9 : decode b_T_way 9 = .ok (.ifCond .eq 10, 3) := by decide +kernel
theorem d_T_way_12 : decode b_T_way 12 = .ok (.iload_n 3, 1) := by decide +kernel
theorem d_T_way_13 : decode b_T_way 13 = .ok (.invokestatic 121, 3) := by decide +kernel
theorem d_T_way_16 : decode b_T_way 16 = .ok (.ifCond .ne 6, 3) := by decide +kernel
theorem d_T_way_19 : decode b_T_way 19 = .ok (.bipush (-2), 2) := by decide +kernel
theorem d_T_way_21 : decode b_T_way 21 = .ok (.ireturn, 1) := by decide +kernel
theorem d_T_way_22 : decode b_T_way 22 = .ok (.aload_n 0, 1) := by decide +kernel
theorem d_T_way_23 : decode b_T_way 23 = .ok (.getfield 19, 3) := by decide +kernel
theorem d_T_way_26 : decode b_T_way 26 = .ok (.aload_n 0, 1) := by decide +kernel
theorem d_T_way_27 : decode b_T_way 27 = .ok (.getfield 12, 3) := by decide +kernel
theorem d_T_way_30 : decode b_T_way 30 = .ok (.iload_n 1, 1) := by decide +kernel
theorem d_T_way_31 : decode b_T_way 31 = .ok (.iload_n 3, 1) := by decide +kernel
theorem d_T_way_32 : decode b_T_way 32 = .ok (.invokevirtual 124, 3) := by decide +kernel
theorem d_T_way_35 : decode b_T_way 35 = .ok (.aload_n 0, 1) := by decide +kernel
theorem d_T_way_36 : decode b_T_way 36 = .ok (.getfield 19, 3) := by decide +kernel
theorem d_T_way_39 : decode b_T_way 39 = .ok (.iload_n 2, 1) := by decide +kernel
theorem d_T_way_40 : decode b_T_way 40 = .ok (.invokevirtual 128, 3) := by decide +kernel
theorem d_T_way_43 : decode b_T_way 43 = .ok (.ldc 173, 2) := by decide +kernel
theorem d_T_way_45 : decode b_T_way 45 = .ok (.if_icmp .lt 5, 3) := by decide +kernel
theorem d_T_way_48 : decode b_T_way 48 = .ok (.iconst (-1), 1) := by decide +kernel
theorem d_T_way_49 : decode b_T_way 49 = .ok (.ireturn, 1) := by decide +kernel
theorem d_T_way_50 : decode b_T_way 50 = .ok (.aload_n 0, 1) := by decide +kernel
theorem d_T_way_51 : decode b_T_way 51 = .ok (.getfield 43, 3) := by decide +kernel
theorem d_T_way_54 : decode b_T_way 54 = .ok (.aload_n 0, 1) := by decide +kernel
theorem d_T_way_55 : decode b_T_way 55 = .ok (.getfield 12, 3) := by decide +kernel
theorem d_T_way_58 : decode b_T_way 58 = .ok (.aload_n 0, 1) := by decide +kernel
theorem d_T_way_59 : decode b_T_way 59 = .ok (.getfield 19, 3) := by decide +kernel
theorem d_T_way_62 : decode b_T_way 62 = .ok (.iload_n 1, 1) := by decide +kernel
theorem d_T_way_63 : decode b_T_way 63 = .ok (.iload_n 2, 1) := by decide +kernel
theorem d_T_way_64 : decode b_T_way 64 = .ok (.invokevirtual 174, 3) := by decide +kernel
theorem d_T_way_67 : decode b_T_way 67 = .ok (.aload_n 0, 1) := by decide +kernel
theorem d_T_way_68 : decode b_T_way 68 = .ok (.getfield 43, 3) := by decide +kernel
theorem d_T_way_71 : decode b_T_way 71 = .ok (.getfield 61, 3) := by decide +kernel
theorem d_T_way_74 : decode b_T_way 74 = .ok (.ireturn, 1) := by decide +kernel
theorem d_T_act_0 : decode b_T_act 0 = .ok (.iload_n 1, 1) := by decide +kernel
theorem d_T_act_1 : decode b_T_act 1 = .ok (.iconst 0, 1) := by decide +kernel
theorem d_T_act_2 : decode b_T_act 2 = .ok (.aload_n 0, 1) := by decide +kernel
theorem d_T_act_3 : decode b_T_act 3 = .ok (.getfield 43, 3) := by decide +kernel
theorem d_T_act_6 : decode b_T_act 6 = .ok (.getfield 61, 3) := by decide +kernel
theorem d_T_act_9 : decode b_T_act 9 = .ok (.iconst 1, 1) := by decide +kernel
theorem d_T_act_10 : decode b_T_act 10 = .ok (.isub, 1) := by decide +kernel
theorem d_T_act_11 : decode b_T_act 11 = .ok (.invokestatic 62, 3) := by decide +kernel
theorem d_T_act_14 : decode b_T_act 14 = .ok (.ifCond .ne 6, 3) := by decide +kernel
theorem d_T_act_17 : decode b_T_act 17 = .ok (.bipush (-2), 2) := by decide +kernel
theorem d_T_act_19 : decode b_T_act 19 = .ok (.ireturn, 1) := by decide +kernel
theorem d_T_act_20 : decode b_T_act 20 = .ok (.aload_n 0, 1) := by decide +kernel
theorem d_T_act_21 : decode b_T_act 21 = .ok (.getfield 43, 3) := by decide +kernel
theorem d_T_act_24 : decode b_T_act 24 = .ok (.getfield 61, 3) := by decide +kernel
theorem d_T_act_27 : decode b_T_act 27 = .ok (.iconst 1, 1) := by decide +kernel
theorem d_T_act_28 : decode b_T_act 28 = .ok (.isub, 1) := by decide +kernel
theorem d_T_act_29 : decode b_T_act 29 = .ok (.iload_n 1, 1) := by decide +kernel
theorem d_T_act_30 : decode b_T_act 30 = .ok (.isub, 1) := by decide +kernel
theorem d_T_act_31 : decode b_T_act 31 = .ok (.istore_n 3, 1) := by decide +kernel
theorem d_T_act_32 : decode b_T_act 32 = .ok (.iload_n 2, 1) := by decide +kernel
theorem d_T_act_33 : decode b_T_act 33 = .ok (.tableswitch 94 0 4 #[35, 54, 64, 74, 84], 35) := by decide +kernel
theorem d_T_act_68 : decode b_T_act 68 = .ok (.aload_n 0, 1) := by decide +kernel
theorem d_T_act_69 : decode b_T_act 69 = .ok (.getfield 43, 3) := by decide +kernel
theorem d_T_act_72 : decode b_T_act 72 = .ok (.getfield 178, 3) := by decide +kernel
theorem d_T_act_75 : decode b_T_act 75 = .ok (.iload_n 3, 1) := by decide +kernel
theorem d_T_act_76 : decode b_T_act 76 = .ok (.iaload, 1) := by decide +kernel
theorem d_T_act_77 : decode b_T_act 77 = .ok (.iconst (-1), 1) := by decide +kernel
theorem d_T_act_78 : decode b_T_act 78 = .ok (.if_icmp .ne 7, 3) := by decide +kernel
theorem d_T_act_81 : decode b_T_act 81 = .ok (.iconst 0, 1) := by decide +kernel
theorem d_T_act_82 : decode b_T_act 82 = .ok (.goto 4, 3) := by decide +kernel
theorem d_T_act_85 : decode b_T_act 85 = .ok (.iconst 1, 1) := by decide +kernel
theorem d_T_act_86 : decode b_T_act 86 = .ok (.ireturn, 1) := by decide +kernel
theorem d_T_act_87 : decode b_T_act 87 = .ok (.aload_n 0, 1) := by decide +kernel
theorem d_T_act_88 : decode b_T_act 88 = .ok (.getfield 43, 3) := by decide +kernel
theorem d_T_act_91 : decode b_T_act 91 = .ok (.getfield 181, 3) := by decide +kernel
theorem d_T_act_94 : decode b_T_act 94 = .ok (.iload_n 3, 1) := by decide +kernel
theorem d_T_act_95 : decode b_T_act 95 = .ok (.iaload, 1) := by decide +kernel
theorem d_T_act_96 : decode b_T_act 96 = .ok (.ireturn, 1) := by decide +kernel
theorem d_T_act_97 : decode b_T_act 97 = .ok (.aload_n 0, 1) := by decide +kernel
theorem d_T_act_98 : decode b_T_act 98 = .ok (.getfield 43, 3) := by decide +kernel
theorem d_T_act_101 : decode b_T_act 101 = .ok (.getfield 178, 3) := by decide +kernel
theorem d_T_act_104 : decode b_T_act 104 = .ok (.iload_n 3, 1) := by decide +kernel
theorem d_T_act_105 : decode b_T_act 105 = .ok (.iaload, 1) := by decide +kernel
theorem d_T_act_106 : decode b_T_act 106 = .ok (.ireturn, 1) := by decide +kernel
theorem d_T_act_107 : decode b_T_act 107 = .ok (.aload_n 0, 1) := by decide +kernel
theorem d_T_act_108 : decode b_T_act 108 = .ok (.getfield 43, 3) := by decide +kernel
theorem d_T_act_111 : decode b_T_act 111 = .ok (.getfield 184, 3) := by decide +kernel
theorem d_T_act_114 : decode b_T_act 114 = .ok (.iload_n 3, 1) := by decide +kernel
theorem d_T_act_115 : decode b_T_act 115 = .ok (.iaload, 1) := by decide +kernel
theorem d_T_act_116 : decode b_T_act 116 = .ok (.ireturn, 1) := by decide +kernel
theorem d_T_act_117 : decode b_T_act 117 = .ok (.aload_n 0, 1) := by decide +kernel
theorem d_T_act_118 : decode b_T_act 118 = .ok (.getfield 43, 3) := by decide +kernel
theorem d_T_act_121 : decode b_T_act 121 = .ok (.getfield 187, 3) := by decide +kernel
theorem d_T_act_124 : decode b_T_act 124 = .ok (.iload_n 3, 1) := by decide +kernel
theorem d_T_act_125 : decode b_T_act 125 = .ok (.iaload, 1) := by decide +kernel
theorem d_T_act_126 : decode b_T_act 126 = .ok (.ireturn, 1) := by decide +kernel
theorem d_T_act_127 : decode b_T_act 127 = .ok (.bipush (-2), 2) := by decide +kernel
theorem d_T_act_129 : decode b_T_act 129 = .ok (.ireturn, 1) := by decide +kernel
theorem d_T_next_0 : decode b_T_next 0 = .ok (.aload_n 0, 1) := by decide +kernel
theorem d_T_next_1 : decode b_T_next 1 = .ok (.getfield 12, 3) := by decide +kernel
theorem d_T_next_4 : decode b_T_next 4 = .ok (.iload_n 1, 1) := by decide +kernel
theorem d_T_next_5 : decode b_T_next 5 = .ok (.invokevirtual 73, 3) := by decide +kernel
theorem d_T_next_8 : decode b_T_next 8 = .ok (.ifCond .eq 10, 3) := by decide +kernel
theorem d_T_next_11 : decode b_T_next 11 = .ok (.iload_n 2, 1) := by decide +kernel
theorem d_T_next_12 : decode b_T_next 12 = .ok (.invokestatic 121, 3) := by decide +kernel
theorem d_T_next_15 : decode b_T_next 15 = .ok (.ifCond .ne 6, 3) := by decide +kernel
theorem d_T_next_18 : decode b_T_next 18 = .ok (.bipush (-2), 2) := by decide +kernel
theorem d_T_next_20 : decode b_T_next 20 = .ok (.ireturn, 1) := by decide +kernel
theorem d_T_next_21 : decode b_T_next 21 = .ok (.aload_n 0, 1) := by decide +kernel
theorem d_T_next_22 : decode b_T_next 22 = .ok (.getfield 12, 3) := by decide +kernel
theorem d_T_next_25 : decode b_T_next 25 = .ok (.getfield 85, 3) := by decide +kernel
theorem d_T_next_28 : decode b_T_next 28 = .ok (.aload_n 0, 1) := by decide +kernel
theorem d_T_next_29 : decode b_T_next 29 = .ok (.getfield 12, 3) := by decide +kernel
theorem d_T_next_32 : decode b_T_next 32 = .ok (.getfield 47, 3) := by decide +kernel
theorem d_T_next_35 : decode b_T_next 35 = .ok (.iload_n 1, 1) := by decide +kernel
theorem d_T_next_36 : decode b_T_next 36 = .ok (.iload_n 2, 1) := by decide +kernel
theorem d_T_next_37 : decode b_T_next 37 = .ok (.invokevirtual 188, 3) := by decide +kernel
theorem d_T_next_40 : decode b_T_next 40 = .ok (.ireturn, 1) := by decide +kernel
theorem d_T_told_0 : decode b_T_told 0 = .ok (.aload_n 0, 1) := by decide +kernel
theorem d_T_told_1 : decode b_T_told 1 = .ok (.getfield 12, 3) := by decide +kernel
theorem d_T_told_4 : decode b_T_told 4 = .ok (.getfield 47, 3) := by decide +kernel
theorem d_T_told_7 : decode b_T_told 7 = .ok (.iload_n 1, 1) := by decide +kernel
theorem d_T_told_8 : decode b_T_told 8 = .ok (.invokevirtual 105, 3) := by decide +kernel
theorem d_T_told_11 : decode b_T_told 11 = .ok (.ifCond .ne 6, 3) := by decide +kernel
theorem d_T_told_14 : decode b_T_told 14 = .ok (.bipush (-2), 2) := by decide +kernel
theorem d_T_told_16 : decode b_T_told 16 = .ok (.ireturn, 1) := by decide +kernel
theorem d_T_told_17 : decode b_T_told 17 = .ok (.iload_n 2, 1) := by decide +kernel
theorem d_T_told_18 : decode b_T_told 18 = .ok (.tableswitch 115 0 5 #[38, 51, 64, 77, 90, 103], 38) := by decide +kernel
theorem d_T_told_56 : decode b_T_told 56 = .ok (.aload_n 0, 1) := by decide +kernel
theorem d_T_told_57 : decode b_T_told 57 = .ok (.getfield 12, 3) := by decide +kernel
theorem d_T_told_60 : decode b_T_told 60 = .ok (.getfield 47, 3) := by decide +kernel
theorem d_T_told_63 : decode b_T_told 63 = .ok (.getfield 192, 3) := by decide +kernel
theorem d_T_told_66 : decode b_T_told 66 = .ok (.iload_n 1, 1) := by decide +kernel
theorem d_T_told_67 : decode b_T_told 67 = .ok (.iaload, 1) := by decide +kernel
theorem d_T_told_68 : decode b_T_told 68 = .ok (.ireturn, 1) := by decide +kernel
theorem d_T_told_69 : decode b_T_told 69 = .ok (.aload_n 0, 1) := by decide +kernel
theorem d_T_told_70 : decode b_T_told 70 = .ok (.getfield 12, 3) := by decide +kernel
theorem d_T_told_73 : decode b_T_told 73 = .ok (.getfield 47, 3) := by decide +kernel
theorem d_T_told_76 : decode b_T_told 76 = .ok (.getfield 195, 3) := by decide +kernel
theorem d_T_told_79 : decode b_T_told 79 = .ok (.iload_n 1, 1) := by decide +kernel
theorem d_T_told_80 : decode b_T_told 80 = .ok (.iaload, 1) := by decide +kernel
theorem d_T_told_81 : decode b_T_told 81 = .ok (.ireturn, 1) := by decide +kernel
theorem d_T_told_82 : decode b_T_told 82 = .ok (.aload_n 0, 1) := by decide +kernel
theorem d_T_told_83 : decode b_T_told 83 = .ok (.getfield 12, 3) := by decide +kernel
theorem d_T_told_86 : decode b_T_told 86 = .ok (.getfield 47, 3) := by decide +kernel
theorem d_T_told_89 : decode b_T_told 89 = .ok (.getfield 198, 3) := by decide +kernel
theorem d_T_told_92 : decode b_T_told 92 = .ok (.iload_n 1, 1) := by decide +kernel
theorem d_T_told_93 : decode b_T_told 93 = .ok (.iaload, 1) := by decide +kernel
theorem d_T_told_94 : decode b_T_told 94 = .ok (.ireturn, 1) := by decide +kernel
theorem d_T_told_95 : decode b_T_told 95 = .ok (.aload_n 0, 1) := by decide +kernel
theorem d_T_told_96 : decode b_T_told 96 = .ok (.getfield 12, 3) := by decide +kernel
theorem d_T_told_99 : decode b_T_told 99 = .ok (.getfield 47, 3) := by decide +kernel
theorem d_T_told_102 : decode b_T_told 102 = .ok (.getfield 201, 3) := by decide +kernel
theorem d_T_told_105 : decode b_T_told 105 = .ok (.iload_n 1, 1) := by decide +kernel
theorem d_T_told_106 : decode b_T_told 106 = .ok (.iaload, 1) := by decide +kernel
theorem d_T_told_107 : decode b_T_told 107 = .ok (.ireturn, 1) := by decide +kernel
theorem d_T_told_108 : decode b_T_told 108 = .ok (.aload_n 0, 1) := by decide +kernel
theorem d_T_told_109 : decode b_T_told 109 = .ok (.getfield 12, 3) := by decide +kernel
theorem d_T_told_112 : decode b_T_told 112 = .ok (.getfield 47, 3) := by decide +kernel
theorem d_T_told_115 : decode b_T_told 115 = .ok (.getfield 204, 3) := by decide +kernel
theorem d_T_told_118 : decode b_T_told 118 = .ok (.iload_n 1, 1) := by decide +kernel
theorem d_T_told_119 : decode b_T_told 119 = .ok (.iaload, 1) := by decide +kernel
theorem d_T_told_120 : decode b_T_told 120 = .ok (.ireturn, 1) := by decide +kernel
theorem d_T_told_121 : decode b_T_told 121 = .ok (.aload_n 0, 1) := by decide +kernel
theorem d_T_told_122 : decode b_T_told 122 = .ok (.getfield 12, 3) := by decide +kernel
theorem d_T_told_125 : decode b_T_told 125 = .ok (.getfield 47, 3) := by decide +kernel
theorem d_T_told_128 : decode b_T_told 128 = .ok (.iload_n 1, 1) := by decide +kernel
theorem d_T_told_129 : decode b_T_told 129 = .ok (.invokevirtual 205, 3) := by decide +kernel
theorem d_T_told_132 : decode b_T_told 132 = .ok (.ireturn, 1) := by decide +kernel
theorem d_T_told_133 : decode b_T_told 133 = .ok (.bipush (-2), 2) := by decide +kernel
theorem d_T_told_135 : decode b_T_told 135 = .ok (.ireturn, 1) := by decide +kernel
theorem d_T_of_0 : decode b_T_of 0 = .ok (.iload_n 1, 1) := by decide +kernel
theorem d_T_of_1 : decode b_T_of 1 = .ok (.tableswitch 94 0 4 #[35, 43, 54, 65, 76], 35) := by decide +kernel
theorem d_T_of_36 : decode b_T_of 36 = .ok (.aload_n 0, 1) := by decide +kernel
theorem d_T_of_37 : decode b_T_of 37 = .ok (.getfield 12, 3) := by decide +kernel
theorem d_T_of_40 : decode b_T_of 40 = .ok (.getfield 66, 3) := by decide +kernel
theorem d_T_of_43 : decode b_T_of 43 = .ok (.ireturn, 1) := by decide +kernel
theorem d_T_of_44 : decode b_T_of 44 = .ok (.aload_n 0, 1) := by decide +kernel
theorem d_T_of_45 : decode b_T_of 45 = .ok (.getfield 12, 3) := by decide +kernel
theorem d_T_of_48 : decode b_T_of 48 = .ok (.getfield 47, 3) := by decide +kernel
theorem d_T_of_51 : decode b_T_of 51 = .ok (.getfield 51, 3) := by decide +kernel
theorem d_T_of_54 : decode b_T_of 54 = .ok (.ireturn, 1) := by decide +kernel
theorem d_T_of_55 : decode b_T_of 55 = .ok (.aload_n 0, 1) := by decide +kernel
theorem d_T_of_56 : decode b_T_of 56 = .ok (.getfield 12, 3) := by decide +kernel
theorem d_T_of_59 : decode b_T_of 59 = .ok (.getfield 95, 3) := by decide +kernel
theorem d_T_of_62 : decode b_T_of 62 = .ok (.getfield 99, 3) := by decide +kernel
theorem d_T_of_65 : decode b_T_of 65 = .ok (.ireturn, 1) := by decide +kernel
theorem d_T_of_66 : decode b_T_of 66 = .ok (.aload_n 0, 1) := by decide +kernel
theorem d_T_of_67 : decode b_T_of 67 = .ok (.getfield 12, 3) := by decide +kernel
theorem d_T_of_70 : decode b_T_of 70 = .ok (.getfield 85, 3) := by decide +kernel
theorem d_T_of_73 : decode b_T_of 73 = .ok (.getfield 208, 3) := by decide +kernel
theorem d_T_of_76 : decode b_T_of 76 = .ok (.ireturn, 1) := by decide +kernel
theorem d_T_of_77 : decode b_T_of 77 = .ok (.aload_n 0, 1) := by decide +kernel
theorem d_T_of_78 : decode b_T_of 78 = .ok (.getfield 12, 3) := by decide +kernel
theorem d_T_of_81 : decode b_T_of 81 = .ok (.getfield 85, 3) := by decide +kernel
theorem d_T_of_84 : decode b_T_of 84 = .ok (.aload_n 0, 1) := by decide +kernel
theorem d_T_of_85 : decode b_T_of 85 = .ok (.getfield 12, 3) := by decide +kernel
theorem d_T_of_88 : decode b_T_of 88 = .ok (.getfield 47, 3) := by decide +kernel
theorem d_T_of_91 : decode b_T_of 91 = .ok (.invokevirtual 209, 3) := by decide +kernel
theorem d_T_of_94 : decode b_T_of 94 = .ok (.ireturn, 1) := by decide +kernel
theorem d_T_of_95 : decode b_T_of 95 = .ok (.bipush (-2), 2) := by decide +kernel
theorem d_T_of_97 : decode b_T_of 97 = .ok (.ireturn, 1) := by decide +kernel
theorem d_T_within_0 : decode b_T_within 0 = .ok (.iload_n 0, 1) := by decide +kernel
theorem d_T_within_1 : decode b_T_within 1 = .ok (.iload_n 1, 1) := by decide +kernel
theorem d_T_within_2 : decode b_T_within 2 = .ok (.if_icmp .lt 12, 3) := by decide +kernel
theorem d_T_within_5 : decode b_T_within 5 = .ok (.iload_n 0, 1) := by decide +kernel
theorem d_T_within_6 : decode b_T_within 6 = .ok (.iload_n 2, 1) := by decide +kernel
theorem d_T_within_7 : decode b_T_within 7 = .ok (.if_icmp .gt 7, 3) := by decide +kernel
theorem d_T_within_10 : decode b_T_within 10 = .ok (.iconst 1, 1) := by decide +kernel
theorem d_T_within_11 : decode b_T_within 11 = .ok (.goto 4, 3) := by decide +kernel
theorem d_T_within_14 : decode b_T_within 14 = .ok (.iconst 0, 1) := by decide +kernel
theorem d_T_within_15 : decode b_T_within 15 = .ok (.ireturn, 1) := by decide +kernel
theorem d_T_isTime_0 : decode b_T_isTime 0 = .ok (.iload_n 0, 1) := by decide +kernel
theorem d_T_isTime_1 : decode b_T_isTime 1 = .ok (.iconst 0, 1) := by decide +kernel
theorem d_T_isTime_2 : decode b_T_isTime 2 = .ok (.sipush 10079, 3) := by decide +kernel
theorem d_T_isTime_5 : decode b_T_isTime 5 = .ok (.invokestatic 62, 3) := by decide +kernel
theorem d_T_isTime_8 : decode b_T_isTime 8 = .ok (.ireturn, 1) := by decide +kernel
theorem d_T_isBy_0 : decode b_T_isBy 0 = .ok (.iload_n 0, 1) := by decide +kernel
theorem d_T_isBy_1 : decode b_T_isBy 1 = .ok (.iconst 0, 1) := by decide +kernel
theorem d_T_isBy_2 : decode b_T_isBy 2 = .ok (.sipush 20000, 3) := by decide +kernel
theorem d_T_isBy_5 : decode b_T_isBy 5 = .ok (.invokestatic 62, 3) := by decide +kernel
theorem d_T_isBy_8 : decode b_T_isBy 8 = .ok (.ireturn, 1) := by decide +kernel
theorem d_T_isSpan_0 : decode b_T_isSpan 0 = .ok (.iload_n 0, 1) := by decide +kernel
theorem d_T_isSpan_1 : decode b_T_isSpan 1 = .ok (.invokestatic 121, 3) := by decide +kernel
theorem d_T_isSpan_4 : decode b_T_isSpan 4 = .ok (.ifCond .eq 27, 3) := by decide +kernel
theorem d_T_isSpan_7 : decode b_T_isSpan 7 = .ok (.iload_n 1, 1) := by decide +kernel
theorem d_T_isSpan_8 : decode b_T_isSpan 8 = .ok (.invokestatic 121, 3) := by decide +kernel
theorem d_T_isSpan_11 : decode b_T_isSpan 11 = .ok (.ifCond .eq 20, 3) := by decide +kernel
theorem d_T_isSpan_14 : decode b_T_isSpan 14 = .ok (.iload_n 1, 1) := by decide +kernel
theorem d_T_isSpan_15 : decode b_T_isSpan 15 = .ok (.iload_n 0, 1) := by decide +kernel
theorem d_T_isSpan_16 : decode b_T_isSpan 16 = .ok (.isub, 1) := by decide +kernel
theorem d_T_isSpan_17 : decode b_T_isSpan 17 = .ok (.iconst 0, 1) := by decide +kernel
theorem d_T_isSpan_18 : decode b_T_isSpan 18 = .ok (.sipush 600, 3) := by decide +kernel
theorem d_T_isSpan_21 : decode b_T_isSpan 21 = .ok (.invokestatic 62, 3) := by decide +kernel
theorem d_T_isSpan_24 : decode b_T_isSpan 24 = .ok (.ifCond .eq 7, 3) := by decide +kernel
theorem d_T_isSpan_27 : decode b_T_isSpan 27 = .ok (.iconst 1, 1) := by decide +kernel
theorem d_T_isSpan_28 : decode b_T_isSpan 28 = .ok (.goto 4, 3) := by decide +kernel
theorem d_T_isSpan_31 : decode b_T_isSpan 31 = .ok (.iconst 0, 1) := by decide +kernel
theorem d_T_isSpan_32 : decode b_T_isSpan 32 = .ok (.ireturn, 1) := by decide +kernel
theorem d_T_orNone_0 : decode b_T_orNone 0 = .ok (.iload_n 0, 1) := by decide +kernel
theorem d_T_orNone_1 : decode b_T_orNone 1 = .ok (.ldc 173, 2) := by decide +kernel
theorem d_T_orNone_3 : decode b_T_orNone 3 = .ok (.if_icmp .lt 7, 3) := by decide +kernel
theorem d_T_orNone_6 : decode b_T_orNone 6 = .ok (.iconst (-1), 1) := by decide +kernel
theorem d_T_orNone_7 : decode b_T_orNone 7 = .ok (.goto 4, 3) := by decide +kernel
theorem d_T_orNone_10 : decode b_T_orNone 10 = .ok (.iload_n 0, 1) := by decide +kernel
theorem d_T_orNone_11 : decode b_T_orNone 11 = .ok (.ireturn, 1) := by decide +kernel
theorem d_Ne_init_0 : decode b_Ne_init 0 = .ok (.aload_n 0, 1) := by decide +kernel
theorem d_Ne_init_1 : decode b_Ne_init 1 = .ok (.invokespecial 3, 3) := by decide +kernel
theorem d_Ne_init_4 : decode b_Ne_init 4 = .ok (.aload_n 0, 1) := by decide +kernel
theorem d_Ne_init_5 : decode b_Ne_init 5 = .ok (.iconst 0, 1) := by decide +kernel
theorem d_Ne_init_6 : decode b_Ne_init 6 = .ok (.putfield 9, 3) := by decide +kernel
theorem d_Ne_init_9 : decode b_Ne_init 9 = .ok (.aload_n 0, 1) := by decide +kernel
theorem d_Ne_init_10 : decode b_Ne_init 10 = .ok (.bipush 12, 2) := by decide +kernel
theorem d_Ne_init_12 : decode b_Ne_init 12 = .ok (.newarray .int, 2) := by decide +kernel
theorem d_Ne_init_14 : decode b_Ne_init 14 = .ok (.putfield 15, 3) := by decide +kernel
theorem d_Ne_init_17 : decode b_Ne_init 17 = .ok (.aload_n 0, 1) := by decide +kernel
theorem d_Ne_init_18 : decode b_Ne_init 18 = .ok (.new 19, 3) := by decide +kernel
theorem d_Ne_init_21 : decode b_Ne_init 21 = .ok (.dup, 1) := by decide +kernel
theorem d_Ne_init_22 : decode b_Ne_init 22 = .ok (.invokespecial 21, 3) := by decide +kernel
theorem d_Ne_init_25 : decode b_Ne_init 25 = .ok (.putfield 22, 3) := by decide +kernel
theorem d_Ne_init_28 : decode b_Ne_init 28 = .ok (.aload_n 0, 1) := by decide +kernel
theorem d_Ne_init_29 : decode b_Ne_init 29 = .ok (.new 26, 3) := by decide +kernel
theorem d_Ne_init_32 : decode b_Ne_init 32 = .ok (.dup, 1) := by decide +kernel
theorem d_Ne_init_33 : decode b_Ne_init 33 = .ok (.invokespecial 28, 3) := by decide +kernel
theorem d_Ne_init_36 : decode b_Ne_init 36 = .ok (.putfield 29, 3) := by decide +kernel
theorem d_Ne_init_39 : decode b_Ne_init 39 = .ok (.aload_n 0, 1) := by decide +kernel
theorem d_Ne_init_40 : decode b_Ne_init 40 = .ok (.new 33, 3) := by decide +kernel
theorem d_Ne_init_43 : decode b_Ne_init 43 = .ok (.dup, 1) := by decide +kernel
theorem d_Ne_init_44 : decode b_Ne_init 44 = .ok (.invokespecial 35, 3) := by decide +kernel
theorem d_Ne_init_47 : decode b_Ne_init 47 = .ok (.putfield 36, 3) := by decide +kernel
theorem d_Ne_init_50 : decode b_Ne_init 50 = .ok (.return_, 1) := by decide +kernel
theorem d_Ne_empty_0 : decode b_Ne_empty 0 = .ok (.aload_n 0, 1) := by decide +kernel
theorem d_Ne_empty_1 : decode b_Ne_empty 1 = .ok (.iconst 0, 1) := by decide +kernel
theorem d_Ne_empty_2 : decode b_Ne_empty 2 = .ok (.putfield 9, 3) := by decide +kernel
theorem d_Ne_empty_5 : decode b_Ne_empty 5 = .ok (.aload_n 0, 1) := by decide +kernel
theorem d_Ne_empty_6 : decode b_Ne_empty 6 = .ok (.getfield 22, 3) := by decide +kernel
theorem d_Ne_empty_9 : decode b_Ne_empty 9 = .ok (.iconst 0, 1) := by decide +kernel
theorem d_Ne_empty_10 : decode b_Ne_empty 10 = .ok (.putfield 40, 3) := by decide +kernel
theorem d_Ne_empty_13 : decode b_Ne_empty 13 = .ok (.aload_n 0, 1) := by decide +kernel
theorem d_Ne_empty_14 : decode b_Ne_empty 14 = .ok (.getfield 29, 3) := by decide +kernel
theorem d_Ne_empty_17 : decode b_Ne_empty 17 = .ok (.iconst 0, 1) := by decide +kernel
theorem d_Ne_empty_18 : decode b_Ne_empty 18 = .ok (.putfield 43, 3) := by decide +kernel
theorem d_Ne_empty_21 : decode b_Ne_empty 21 = .ok (.aload_n 0, 1) := by decide +kernel
theorem d_Ne_empty_22 : decode b_Ne_empty 22 = .ok (.getfield 36, 3) := by decide +kernel
theorem d_Ne_empty_25 : decode b_Ne_empty 25 = .ok (.invokevirtual 44, 3) := by decide +kernel
theorem d_Ne_empty_28 : decode b_Ne_empty 28 = .ok (.return_, 1) := by decide +kernel
theorem d_Ne_hasStop_0 : decode b_Ne_hasStop 0 = .ok (.iload_n 1, 1) := by decide +kernel
theorem d_Ne_hasStop_1 : decode b_Ne_hasStop 1 = .ok (.iconst 0, 1) := by decide +kernel
theorem d_Ne_hasStop_2 : decode b_Ne_hasStop 2 = .ok (.aload_n 0, 1) := by decide +kernel
theorem d_Ne_hasStop_3 : decode b_Ne_hasStop 3 = .ok (.getfield 9, 3) := by decide +kernel
theorem d_Ne_hasStop_6 : decode b_Ne_hasStop 6 = .ok (.iconst 1, 1) := by decide +kernel
theorem d_Ne_hasStop_7 : decode b_Ne_hasStop 7 = .ok (.isub, 1) := by decide +kernel
theorem d_Ne_hasStop_8 : decode b_Ne_hasStop 8 = .ok (.invokestatic 47, 3) := by decide +kernel
theorem d_Ne_hasStop_11 : decode b_Ne_hasStop 11 = .ok (.ireturn, 1) := by decide +kernel
theorem d_Ne_hasStops_0 : decode b_Ne_hasStops 0 = .ok (.aload_n 0, 1) := by decide +kernel
theorem d_Ne_hasStops_1 : decode b_Ne_hasStops 1 = .ok (.iload_n 1, 1) := by decide +kernel
theorem d_Ne_hasStops_2 : decode b_Ne_hasStops 2 = .ok (.invokevirtual 51, 3) := by decide +kernel
theorem d_Ne_hasStops_5 : decode b_Ne_hasStops 5 = .ok (.ifCond .eq 15, 3) := by decide +kernel
theorem d_Ne_hasStops_8 : decode b_Ne_hasStops 8 = .ok (.aload_n 0, 1) := by decide +kernel
theorem d_Ne_hasStops_9 : decode b_Ne_hasStops 9 = .ok (.iload_n 2, 1) := by decide +kernel
theorem d_Ne_hasStops_10 : decode b_Ne_hasStops 10 = .ok (.invokevirtual 51, 3) := by decide +kernel
theorem d_Ne_hasStops_13 : decode b_Ne_hasStops 13 = .ok (.ifCond .eq 7, 3) := by decide +kernel
theorem d_Ne_hasStops_16 : decode b_Ne_hasStops 16 = .ok (.iconst 1, 1) := by decide +kernel
theorem d_Ne_hasStops_17 : decode b_Ne_hasStops 17 = .ok (.goto 4, 3) := by decide +kernel
theorem d_Ne_hasStops_20 : decode b_Ne_hasStops 20 = .ok (.iconst 0, 1) := by decide +kernel
theorem d_Ne_hasStops_21 : decode b_Ne_hasStops 21 = .ok (.ireturn, 1) := by decide +kernel
theorem d_Ne_gap_0 : decode b_Ne_gap 0 = .ok (.aload_n 0, 1) := by decide +kernel
theorem d_Ne_gap_1 : decode b_Ne_gap 1 = .ok (.getfield 36, 3) := by decide +kernel
theorem d_Ne_gap_4 : decode b_Ne_gap 4 = .ok (.iload_n 1, 1) := by decide +kernel
theorem d_Ne_gap_5 : decode b_Ne_gap 5 = .ok (.iload_n 2, 1) := by decide +kernel
theorem d_Ne_gap_6 : decode b_Ne_gap 6 = .ok (.invokevirtual 55, 3) := by decide +kernel
theorem d_Ne_gap_9 : decode b_Ne_gap 9 = .ok (.istore_n 3, 1) := by decide +kernel
theorem d_Ne_gap_10 : decode b_Ne_gap 10 = .ok (.iload_n 1, 1) := by decide +kernel
theorem d_Ne_gap_11 : decode b_Ne_gap 11 = .ok (.iload_n 2, 1) := by decide +kernel
theorem d_Ne_gap_12 : decode b_Ne_gap 12 = .ok (.if_icmp .ne 16, 3) := by decide +kernel
theorem d_Ne_gap_15 : decode b_Ne_gap 15 = .ok (.aload_n 0, 1) := by decide +kernel
theorem d_Ne_gap_16 : decode b_Ne_gap 16 = .ok (.getfield 15, 3) := by decide +kernel
theorem d_Ne_gap_19 : decode b_Ne_gap 19 = .ok (.iload_n 1, 1) := by decide +kernel
theorem d_Ne_gap_20 : decode b_Ne_gap 20 = .ok (.iaload, 1) := by decide +kernel
theorem d_Ne_gap_21 : decode b_Ne_gap 21 = .ok (.iload_n 3, 1) := by decide +kernel
theorem d_Ne_gap_22 : decode b_Ne_gap 22 = .ok (.invokestatic 59, 3) := by decide +kernel
theorem d_Ne_gap_25 : decode b_Ne_gap 25 = .ok (.goto 4, 3) := by decide +kernel
theorem d_Ne_gap_28 : decode b_Ne_gap 28 = .ok (.iload_n 3, 1) := by decide +kernel
theorem d_Ne_gap_29 : decode b_Ne_gap 29 = .ok (.ireturn, 1) := by decide +kernel
theorem d_Ri_init_0 : decode b_Ri_init 0 = .ok (.aload_n 0, 1) := by decide +kernel
theorem d_Ri_init_1 : decode b_Ri_init 1 = .ok (.invokespecial 3, 3) := by decide +kernel
theorem d_Ri_init_4 : decode b_Ri_init 4 = .ok (.aload_n 0, 1) := by decide +kernel
theorem d_Ri_init_5 : decode b_Ri_init 5 = .ok (.iconst 0, 1) := by decide +kernel
theorem d_Ri_init_6 : decode b_Ri_init 6 = .ok (.putfield 9, 3) := by decide +kernel
theorem d_Ri_init_9 : decode b_Ri_init 9 = .ok (.aload_n 0, 1) := by decide +kernel
theorem d_Ri_init_10 : decode b_Ri_init 10 = .ok (.bipush 40, 2) := by decide +kernel
theorem d_Ri_init_12 : decode b_Ri_init 12 = .ok (.newarray .int, 2) := by decide +kernel
theorem d_Ri_init_14 : decode b_Ri_init 14 = .ok (.putfield 15, 3) := by decide +kernel
theorem d_Ri_init_17 : decode b_Ri_init 17 = .ok (.aload_n 0, 1) := by decide +kernel
theorem d_Ri_init_18 : decode b_Ri_init 18 = .ok (.bipush 40, 2) := by decide +kernel
theorem d_Ri_init_20 : decode b_Ri_init 20 = .ok (.newarray .int, 2) := by decide +kernel
theorem d_Ri_init_22 : decode b_Ri_init 22 = .ok (.putfield 19, 3) := by decide +kernel
theorem d_Ri_init_25 : decode b_Ri_init 25 = .ok (.aload_n 0, 1) := by decide +kernel
theorem d_Ri_init_26 : decode b_Ri_init 26 = .ok (.bipush 40, 2) := by decide +kernel
theorem d_Ri_init_28 : decode b_Ri_init 28 = .ok (.newarray .int, 2) := by decide +kernel
theorem d_Ri_init_30 : decode b_Ri_init 30 = .ok (.putfield 22, 3) := by decide +kernel
theorem d_Ri_init_33 : decode b_Ri_init 33 = .ok (.aload_n 0, 1) := by decide +kernel
theorem d_Ri_init_34 : decode b_Ri_init 34 = .ok (.bipush 40, 2) := by decide +kernel
theorem d_Ri_init_36 : decode b_Ri_init 36 = .ok (.newarray .int, 2) := by decide +kernel
theorem d_Ri_init_38 : decode b_Ri_init 38 = .ok (.putfield 25, 3) := by decide +kernel
theorem d_Ri_init_41 : decode b_Ri_init 41 = .ok (.aload_n 0, 1) := by decide +kernel
theorem d_Ri_init_42 : decode b_Ri_init 42 = .ok (.bipush 40, 2) := by decide +kernel
theorem d_Ri_init_44 : decode b_Ri_init 44 = .ok (.newarray .int, 2) := by decide +kernel
theorem d_Ri_init_46 : decode b_Ri_init 46 = .ok (.putfield 28, 3) := by decide +kernel
theorem d_Ri_init_49 : decode b_Ri_init 49 = .ok (.aload_n 0, 1) := by decide +kernel
theorem d_Ri_init_50 : decode b_Ri_init 50 = .ok (.sipush 280, 3) := by decide +kernel
theorem d_Ri_init_53 : decode b_Ri_init 53 = .ok (.newarray .int, 2) := by decide +kernel
theorem d_Ri_init_55 : decode b_Ri_init 55 = .ok (.putfield 31, 3) := by decide +kernel
theorem d_Ri_init_58 : decode b_Ri_init 58 = .ok (.return_, 1) := by decide +kernel
theorem d_Ri_has_0 : decode b_Ri_has 0 = .ok (.iload_n 1, 1) := by decide +kernel
theorem d_Ri_has_1 : decode b_Ri_has 1 = .ok (.iconst 0, 1) := by decide +kernel
theorem d_Ri_has_2 : decode b_Ri_has 2 = .ok (.aload_n 0, 1) := by decide +kernel
theorem d_Ri_has_3 : decode b_Ri_has 3 = .ok (.getfield 9, 3) := by decide +kernel
theorem d_Ri_has_6 : decode b_Ri_has 6 = .ok (.iconst 1, 1) := by decide +kernel
theorem d_Ri_has_7 : decode b_Ri_has 7 = .ok (.isub, 1) := by decide +kernel
theorem d_Ri_has_8 : decode b_Ri_has 8 = .ok (.invokestatic 34, 3) := by decide +kernel
theorem d_Ri_has_11 : decode b_Ri_has 11 = .ok (.ireturn, 1) := by decide +kernel
theorem d_Ri_isOnDay_0 : decode b_Ri_isOnDay 0 = .ok (.aload_n 0, 1) := by decide +kernel
theorem d_Ri_isOnDay_1 : decode b_Ri_isOnDay 1 = .ok (.getfield 28, 3) := by decide +kernel
theorem d_Ri_isOnDay_4 : decode b_Ri_isOnDay 4 = .ok (.iload_n 1, 1) := by decide +kernel
theorem d_Ri_isOnDay_5 : decode b_Ri_isOnDay 5 = .ok (.iaload, 1) := by decide +kernel
theorem d_Ri_isOnDay_6 : decode b_Ri_isOnDay 6 = .ok (.iload_n 2, 1) := by decide +kernel
theorem d_Ri_isOnDay_7 : decode b_Ri_isOnDay 7 = .ok (.ishr, 1) := by decide +kernel
theorem d_Ri_isOnDay_8 : decode b_Ri_isOnDay 8 = .ok (.iconst 1, 1) := by decide +kernel
theorem d_Ri_isOnDay_9 : decode b_Ri_isOnDay 9 = .ok (.iand, 1) := by decide +kernel
theorem d_Ri_isOnDay_10 : decode b_Ri_isOnDay 10 = .ok (.iconst 1, 1) := by decide +kernel
theorem d_Ri_isOnDay_11 : decode b_Ri_isOnDay 11 = .ok (.if_icmp .ne 7, 3) := by decide +kernel
theorem d_Ri_isOnDay_14 : decode b_Ri_isOnDay 14 = .ok (.iconst 1, 1) := by decide +kernel
theorem d_Ri_isOnDay_15 : decode b_Ri_isOnDay 15 = .ok (.goto 4, 3) := by decide +kernel
theorem d_Ri_isOnDay_18 : decode b_Ri_isOnDay 18 = .ok (.iconst 0, 1) := by decide +kernel
theorem d_Ri_isOnDay_19 : decode b_Ri_isOnDay 19 = .ok (.ireturn, 1) := by decide +kernel
theorem d_Ri_add_0 : decode b_Ri_add 0 = .ok (.aload_n 0, 1) := by decide +kernel
theorem d_Ri_add_1 : decode b_Ri_add 1 = .ok (.getfield 9, 3) := by decide +kernel
theorem d_Ri_add_4 : decode b_Ri_add 4 = .ok (.istore 6, 2) := by decide +kernel
theorem d_Ri_add_6 : decode b_Ri_add 6 = .ok (.aload_n 0, 1) := by decide +kernel
theorem d_Ri_add_7 : decode b_Ri_add 7 = .ok (.getfield 15, 3) := by decide +kernel
theorem d_Ri_add_10 : decode b_Ri_add 10 = .ok (.iload 6, 2) := by decide +kernel
theorem d_Ri_add_12 : decode b_Ri_add 12 = .ok (.iload_n 1, 1) := by decide +kernel
theorem d_Ri_add_13 : decode b_Ri_add 13 = .ok (.iastore, 1) := by decide +kernel
theorem d_Ri_add_14 : decode b_Ri_add 14 = .ok (.aload_n 0, 1) := by decide +kernel
theorem d_Ri_add_15 : decode b_Ri_add 15 = .ok (.getfield 19, 3) := by decide +kernel
theorem d_Ri_add_18 : decode b_Ri_add 18 = .ok (.iload 6, 2) := by decide +kernel
theorem d_Ri_add_20 : decode b_Ri_add 20 = .ok (.iload_n 2, 1) := by decide +kernel
theorem d_Ri_add_21 : decode b_Ri_add 21 = .ok (.iastore, 1) := by decide +kernel
theorem d_Ri_add_22 : decode b_Ri_add 22 = .ok (.aload_n 0, 1) := by decide +kernel
theorem d_Ri_add_23 : decode b_Ri_add 23 = .ok (.getfield 22, 3) := by decide +kernel
theorem d_Ri_add_26 : decode b_Ri_add 26 = .ok (.iload 6, 2) := by decide +kernel
theorem d_Ri_add_28 : decode b_Ri_add 28 = .ok (.iload_n 3, 1) := by decide +kernel
theorem d_Ri_add_29 : decode b_Ri_add 29 = .ok (.iastore, 1) := by decide +kernel
theorem d_Ri_add_30 : decode b_Ri_add 30 = .ok (.aload_n 0, 1) := by decide +kernel
theorem d_Ri_add_31 : decode b_Ri_add 31 = .ok (.getfield 25, 3) := by decide +kernel
theorem d_Ri_add_34 : decode b_Ri_add 34 = .ok (.iload 6, 2) := by decide +kernel
theorem d_Ri_add_36 : decode b_Ri_add 36 = .ok (.iload 4, 2) := by decide +kernel
theorem d_Ri_add_38 : decode b_Ri_add 38 = .ok (.iastore, 1) := by decide +kernel
theorem d_Ri_add_39 : decode b_Ri_add 39 = .ok (.aload_n 0, 1) := by decide +kernel
theorem d_Ri_add_40 : decode b_Ri_add 40 = .ok (.getfield 28, 3) := by decide +kernel
theorem d_Ri_add_43 : decode b_Ri_add 43 = .ok (.iload 6, 2) := by decide +kernel
theorem d_Ri_add_45 : decode b_Ri_add 45 = .ok (.iload 5, 2) := by decide +kernel
theorem d_Ri_add_47 : decode b_Ri_add 47 = .ok (.iastore, 1) := by decide +kernel
theorem d_Ri_add_48 : decode b_Ri_add 48 = .ok (.iconst 0, 1) := by decide +kernel
theorem d_Ri_add_49 : decode b_Ri_add 49 = .ok (.istore 7, 2) := by decide +kernel
theorem d_Ri_add_51 : decode b_Ri_add 51 = .ok (.iload 7, 2) := by decide +kernel
theorem d_Ri_add_53 : decode b_Ri_add 53 = .ok (.bipush 7, 2) := by decide +kernel
theorem d_Ri_add_55 : decode b_Ri_add 55 = .ok (.if_icmp .ge 38, 3) := by decide +kernel
theorem d_Ri_add_58 : decode b_Ri_add 58 = .ok (.aload_n 0, 1) := by decide +kernel
theorem d_Ri_add_59 : decode b_Ri_add 59 = .ok (.getfield 31, 3) := by decide +kernel
theorem d_Ri_add_62 : decode b_Ri_add 62 = .ok (.iload 6, 2) := by decide +kernel
theorem d_Ri_add_64 : decode b_Ri_add 64 = .ok (.bipush 7, 2) := by decide +kernel
theorem d_Ri_add_66 : decode b_Ri_add 66 = .ok (.imul, 1) := by decide +kernel
theorem d_Ri_add_67 : decode b_Ri_add 67 = .ok (.iload 7, 2) := by decide +kernel
theorem d_Ri_add_69 : decode b_Ri_add 69 = .ok (.iadd, 1) := by decide +kernel
theorem d_Ri_add_70 : decode b_Ri_add 70 = .ok (.aload_n 0, 1) := by decide +kernel
theorem d_Ri_add_71 : decode b_Ri_add 71 = .ok (.iload 6, 2) := by decide +kernel
theorem d_Ri_add_73 : decode b_Ri_add 73 = .ok (.iload 7, 2) := by decide +kernel
theorem d_Ri_add_75 : decode b_Ri_add 75 = .ok (.invokevirtual 38, 3) := by decide +kernel
theorem d_Ri_add_78 : decode b_Ri_add 78 = .ok (.ifCond .eq 7, 3) := by decide +kernel
theorem d_Ri_add_81 : decode b_Ri_add 81 = .ok (.iconst 0, 1) := by decide +kernel
theorem d_Ri_add_82 : decode b_Ri_add 82 = .ok (.goto 4, 3) := by decide +kernel
theorem d_Ri_add_85 : decode b_Ri_add 85 = .ok (.iconst (-1), 1) := by decide +kernel
theorem d_Ri_add_86 : decode b_Ri_add 86 = .ok (.iastore, 1) := by decide +kernel
theorem d_Ri_add_87 : decode b_Ri_add 87 = .ok (.iinc 7 1, 3) := by decide +kernel
theorem d_Ri_add_90 : decode b_Ri_add 90 = .ok (.goto (-39), 3) := by decide +kernel
theorem d_Ri_add_93 : decode b_Ri_add 93 = .ok (.aload_n 0, 1) := by decide +kernel
theorem d_Ri_add_94 : decode b_Ri_add 94 = .ok (.dup, 1) := by decide +kernel
theorem d_Ri_add_95 : decode b_Ri_add 95 = .ok (.getfield 9, 3) := by decide +kernel
theorem d_Ri_add_98 : decode b_Ri_add 98 = .ok (.iconst 1, 1) := by decide +kernel
theorem d_Ri_add_99 : decode b_Ri_add 99 = .ok (.iadd, 1) := by decide +kernel
theorem d_Ri_add_100 : decode b_Ri_add 100 = .ok (.putfield 9, 3) := by decide +kernel
theorem d_Ri_add_103 : decode b_Ri_add 103 = .ok (.iload 6, 2) := by decide +kernel
theorem d_Ri_add_105 : decode b_Ri_add 105 = .ok (.ireturn, 1) := by decide +kernel
theorem d_Ri_goes_0 : decode b_Ri_goes 0 = .ok (.aload_n 0, 1) := by decide +kernel
theorem d_Ri_goes_1 : decode b_Ri_goes 1 = .ok (.getfield 31, 3) := by decide +kernel
theorem d_Ri_goes_4 : decode b_Ri_goes 4 = .ok (.iload_n 1, 1) := by decide +kernel
theorem d_Ri_goes_5 : decode b_Ri_goes 5 = .ok (.iaload, 1) := by decide +kernel
theorem d_Ri_goes_6 : decode b_Ri_goes 6 = .ok (.iconst (-1), 1) := by decide +kernel
theorem d_Ri_goes_7 : decode b_Ri_goes 7 = .ok (.if_icmp .eq 7, 3) := by decide +kernel
theorem d_Ri_goes_10 : decode b_Ri_goes 10 = .ok (.iconst 1, 1) := by decide +kernel
theorem d_Ri_goes_11 : decode b_Ri_goes 11 = .ok (.goto 4, 3) := by decide +kernel
theorem d_Ri_goes_14 : decode b_Ri_goes 14 = .ok (.iconst 0, 1) := by decide +kernel
theorem d_Ri_goes_15 : decode b_Ri_goes 15 = .ok (.ireturn, 1) := by decide +kernel
theorem d_Ri_leaves_0 : decode b_Ri_leaves 0 = .ok (.iload_n 1, 1) := by decide +kernel
theorem d_Ri_leaves_1 : decode b_Ri_leaves 1 = .ok (.bipush 7, 2) := by decide +kernel
theorem d_Ri_leaves_3 : decode b_Ri_leaves 3 = .ok (.irem, 1) := by decide +kernel
theorem d_Ri_leaves_4 : decode b_Ri_leaves 4 = .ok (.istore_n 2, 1) := by decide +kernel
theorem d_Ri_leaves_5 : decode b_Ri_leaves 5 = .ok (.iload_n 2, 1) := by decide +kernel
theorem d_Ri_leaves_6 : decode b_Ri_leaves 6 = .ok (.sipush 1440, 3) := by decide +kernel
theorem d_Ri_leaves_9 : decode b_Ri_leaves 9 = .ok (.imul, 1) := by decide +kernel
theorem d_Ri_leaves_10 : decode b_Ri_leaves 10 = .ok (.aload_n 0, 1) := by decide +kernel
theorem d_Ri_leaves_11 : decode b_Ri_leaves 11 = .ok (.getfield 22, 3) := by decide +kernel
theorem d_Ri_leaves_14 : decode b_Ri_leaves 14 = .ok (.iload_n 1, 1) := by decide +kernel
theorem d_Ri_leaves_15 : decode b_Ri_leaves 15 = .ok (.bipush 7, 2) := by decide +kernel
theorem d_Ri_leaves_17 : decode b_Ri_leaves 17 = .ok (.idiv, 1) := by decide +kernel
theorem d_Ri_leaves_18 : decode b_Ri_leaves 18 = .ok (.iaload, 1) := by decide +kernel
theorem d_Ri_leaves_19 : decode b_Ri_leaves 19 = .ok (.iadd, 1) := by decide +kernel
theorem d_Ri_leaves_20 : decode b_Ri_leaves 20 = .ok (.aload_n 0, 1) := by decide +kernel
theorem d_Ri_leaves_21 : decode b_Ri_leaves 21 = .ok (.getfield 31, 3) := by decide +kernel
theorem d_Ri_leaves_24 : decode b_Ri_leaves 24 = .ok (.iload_n 1, 1) := by decide +kernel
theorem d_Ri_leaves_25 : decode b_Ri_leaves 25 = .ok (.iaload, 1) := by decide +kernel
theorem d_Ri_leaves_26 : decode b_Ri_leaves 26 = .ok (.iadd, 1) := by decide +kernel
theorem d_Ri_leaves_27 : decode b_Ri_leaves 27 = .ok (.ireturn, 1) := by decide +kernel
theorem d_Ri_goingDays_0 : decode b_Ri_goingDays 0 = .ok (.iconst 0, 1) := by decide +kernel
theorem d_Ri_goingDays_1 : decode b_Ri_goingDays 1 = .ok (.istore_n 2, 1) := by decide +kernel
theorem d_Ri_goingDays_2 : decode b_Ri_goingDays 2 = .ok (.iconst 0, 1) := by decide +kernel
theorem d_Ri_goingDays_3 : decode b_Ri_goingDays 3 = .ok (.istore_n 3, 1) := by decide +kernel
theorem d_Ri_goingDays_4 : decode b_Ri_goingDays 4 = .ok (.iload_n 3, 1) := by decide +kernel
theorem d_Ri_goingDays_5 : decode b_Ri_goingDays 5 = .ok (.bipush 7, 2) := by decide +kernel
theorem d_Ri_goingDays_7 : decode b_Ri_goingDays 7 = .ok (.if_icmp .ge 28, 3) := by decide +kernel
theorem d_Ri_goingDays_10 : decode b_Ri_goingDays 10 = .ok (.aload_n 0, 1) := by decide +kernel
theorem d_Ri_goingDays_11 : decode b_Ri_goingDays 11 = .ok (.iload_n 1, 1) := by decide +kernel
theorem d_Ri_goingDays_12 : decode b_Ri_goingDays 12 = .ok (.bipush 7, 2) := by decide +kernel
theorem d_Ri_goingDays_14 : decode b_Ri_goingDays 14 = .ok (.imul, 1) := by decide +kernel
theorem d_Ri_goingDays_15 : decode b_Ri_goingDays 15 = .ok (.iload_n 3, 1) := by decide +kernel
theorem d_Ri_goingDays_16 : decode b_Ri_goingDays 16 = .ok (.iadd, 1) := by decide +kernel
theorem d_Ri_goingDays_17 : decode b_Ri_goingDays 17 = .ok (.invokevirtual 42, 3) := by decide +kernel
theorem d_Ri_goingDays_20 : decode b_Ri_goingDays 20 = .ok (.ifCond .eq 9, 3) := by decide +kernel
theorem d_Ri_goingDays_23 : decode b_Ri_goingDays 23 = .ok (.iload_n 2, 1) := by decide +kernel
theorem d_Ri_goingDays_24 : decode b_Ri_goingDays 24 = .ok (.iconst 1, 1) := by decide +kernel
theorem d_Ri_goingDays_25 : decode b_Ri_goingDays 25 = .ok (.iload_n 3, 1) := by decide +kernel
theorem d_Ri_goingDays_26 : decode b_Ri_goingDays 26 = .ok (.ishl, 1) := by decide +kernel
theorem d_Ri_goingDays_27 : decode b_Ri_goingDays 27 = .ok (.ior, 1) := by decide +kernel
theorem d_Ri_goingDays_28 : decode b_Ri_goingDays 28 = .ok (.istore_n 2, 1) := by decide +kernel
theorem d_Ri_goingDays_29 : decode b_Ri_goingDays 29 = .ok (.iinc 3 1, 3) := by decide +kernel
theorem d_Ri_goingDays_32 : decode b_Ri_goingDays 32 = .ok (.goto (-28), 3) := by decide +kernel
theorem d_Ri_goingDays_35 : decode b_Ri_goingDays 35 = .ok (.iload_n 2, 1) := by decide +kernel
theorem d_Ri_goingDays_36 : decode b_Ri_goingDays 36 = .ok (.ireturn, 1) := by decide +kernel
theorem d_Bo_init_0 : decode b_Bo_init 0 = .ok (.aload_n 0, 1) := by decide +kernel
theorem d_Bo_init_1 : decode b_Bo_init 1 = .ok (.invokespecial 3, 3) := by decide +kernel
theorem d_Bo_init_4 : decode b_Bo_init 4 = .ok (.aload_n 0, 1) := by decide +kernel
theorem d_Bo_init_5 : decode b_Bo_init 5 = .ok (.iconst 0, 1) := by decide +kernel
theorem d_Bo_init_6 : decode b_Bo_init 6 = .ok (.putfield 9, 3) := by decide +kernel
theorem d_Bo_init_9 : decode b_Bo_init 9 = .ok (.aload_n 0, 1) := by decide +kernel
theorem d_Bo_init_10 : decode b_Bo_init 10 = .ok (.sipush 280, 3) := by decide +kernel
theorem d_Bo_init_13 : decode b_Bo_init 13 = .ok (.newarray .int, 2) := by decide +kernel
theorem d_Bo_init_15 : decode b_Bo_init 15 = .ok (.putfield 15, 3) := by decide +kernel
theorem d_Bo_init_18 : decode b_Bo_init 18 = .ok (.aload_n 0, 1) := by decide +kernel
theorem d_Bo_init_19 : decode b_Bo_init 19 = .ok (.sipush 280, 3) := by decide +kernel
theorem d_Bo_init_22 : decode b_Bo_init 22 = .ok (.newarray .int, 2) := by decide +kernel
theorem d_Bo_init_24 : decode b_Bo_init 24 = .ok (.putfield 19, 3) := by decide +kernel
theorem d_Bo_init_27 : decode b_Bo_init 27 = .ok (.return_, 1) := by decide +kernel
theorem d_Bo_rideAt_0 : decode b_Bo_rideAt 0 = .ok (.aload_n 0, 1) := by decide +kernel
theorem d_Bo_rideAt_1 : decode b_Bo_rideAt 1 = .ok (.getfield 15, 3) := by decide +kernel
theorem d_Bo_rideAt_4 : decode b_Bo_rideAt 4 = .ok (.iload_n 1, 1) := by decide +kernel
theorem d_Bo_rideAt_5 : decode b_Bo_rideAt 5 = .ok (.iaload, 1) := by decide +kernel
theorem d_Bo_rideAt_6 : decode b_Bo_rideAt 6 = .ok (.bipush 7, 2) := by decide +kernel
theorem d_Bo_rideAt_8 : decode b_Bo_rideAt 8 = .ok (.idiv, 1) := by decide +kernel
theorem d_Bo_rideAt_9 : decode b_Bo_rideAt 9 = .ok (.ireturn, 1) := by decide +kernel
theorem d_Bo_putRide_0 : decode b_Bo_putRide 0 = .ok (.iconst 0, 1) := by decide +kernel
theorem d_Bo_putRide_1 : decode b_Bo_putRide 1 = .ok (.istore_n 3, 1) := by decide +kernel
theorem d_Bo_putRide_2 : decode b_Bo_putRide 2 = .ok (.iload_n 3, 1) := by decide +kernel
theorem d_Bo_putRide_3 : decode b_Bo_putRide 3 = .ok (.bipush 7, 2) := by decide +kernel
theorem d_Bo_putRide_5 : decode b_Bo_putRide 5 = .ok (.if_icmp .ge 20, 3) := by decide +kernel
theorem d_Bo_putRide_8 : decode b_Bo_putRide 8 = .ok (.aload_n 0, 1) := by decide +kernel
theorem d_Bo_putRide_9 : decode b_Bo_putRide 9 = .ok (.aload_n 1, 1) := by decide +kernel
theorem d_Bo_putRide_10 : decode b_Bo_putRide 10 = .ok (.iload_n 2, 1) := by decide +kernel
theorem d_Bo_putRide_11 : decode b_Bo_putRide 11 = .ok (.bipush 7, 2) := by decide +kernel
theorem d_Bo_putRide_13 : decode b_Bo_putRide 13 = .ok (.imul, 1) := by decide +kernel
theorem d_Bo_putRide_14 : decode b_Bo_putRide 14 = .ok (.iload_n 3, 1) := by decide +kernel
theorem d_Bo_putRide_15 : decode b_Bo_putRide 15 = .ok (.iadd, 1) := by decide +kernel
theorem d_Bo_putRide_16 : decode b_Bo_putRide 16 = .ok (.invokevirtual 22, 3) := by decide +kernel
theorem d_Bo_putRide_19 : decode b_Bo_putRide 19 = .ok (.iinc 3 1, 3) := by decide +kernel
theorem d_Bo_putRide_22 : decode b_Bo_putRide 22 = .ok (.goto (-20), 3) := by decide +kernel
theorem d_Bo_putRide_25 : decode b_Bo_putRide 25 = .ok (.return_, 1) := by decide +kernel
theorem d_Bo_putIn_0 : decode b_Bo_putIn 0 = .ok (.aload_n 1, 1) := by decide +kernel
theorem d_Bo_putIn_1 : decode b_Bo_putIn 1 = .ok (.iload_n 2, 1) := by decide +kernel
theorem d_Bo_putIn_2 : decode b_Bo_putIn 2 = .ok (.invokevirtual 26, 3) := by decide +kernel
theorem d_Bo_putIn_5 : decode b_Bo_putIn 5 = .ok (.ifCond .eq 13, 3) := by decide +kernel
theorem d_Bo_putIn_8 : decode b_Bo_putIn 8 = .ok (.aload_n 0, 1) := by decide +kernel
theorem d_Bo_putIn_9 : decode b_Bo_putIn 9 = .ok (.getfield 9, 3) := by decide +kernel
theorem d_Bo_putIn_12 : decode b_Bo_putIn 12 = .ok (.sipush 280, 3) := by decide +kernel
theorem d_Bo_putIn_15 : decode b_Bo_putIn 15 = .ok (.if_icmp .lt 4, 3) := by decide +kernel
theorem d_Bo_putIn_18 : decode b_Bo_putIn 18 = .ok (.return_, 1) := by decide +kernel
theorem d_Bo_putIn_19 : decode b_Bo_putIn 19 = .ok (.aload_n 1, 1) := by decide +kernel
theorem d_Bo_putIn_20 : decode b_Bo_putIn 20 = .ok (.iload_n 2, 1) := by decide +kernel
theorem d_Bo_putIn_21 : decode b_Bo_putIn 21 = .ok (.invokevirtual 32, 3) := by decide +kernel
theorem d_Bo_putIn_24 : decode b_Bo_putIn 24 = .ok (.istore_n 3, 1) := by decide +kernel
theorem d_Bo_putIn_25 : decode b_Bo_putIn 25 = .ok (.aload_n 0, 1) := by decide +kernel
theorem d_Bo_putIn_26 : decode b_Bo_putIn 26 = .ok (.getfield 9, 3) := by decide +kernel
theorem d_Bo_putIn_29 : decode b_Bo_putIn 29 = .ok (.istore 4, 2) := by decide +kernel
theorem d_Bo_putIn_31 : decode b_Bo_putIn 31 = .ok (.iload 4, 2) := by decide +kernel
theorem d_Bo_putIn_33 : decode b_Bo_putIn 33 = .ok (.ifCond .le 54, 3) := by decide +kernel
theorem d_Bo_putIn_36 : decode b_Bo_putIn 36 = .ok (.aload_n 0, 1) := by decide +kernel
theorem d_Bo_putIn_37 : decode b_Bo_putIn 37 = .ok (.iload 4, 2) := by decide +kernel
theorem d_Bo_putIn_39 : decode b_Bo_putIn 39 = .ok (.iconst 1, 1) := by decide +kernel
theorem d_Bo_putIn_40 : decode b_Bo_putIn 40 = .ok (.isub, 1) := by decide +kernel
theorem d_Bo_putIn_41 : decode b_Bo_putIn 41 = .ok (.iload_n 3, 1) := by decide +kernel
theorem d_Bo_putIn_42 : decode b_Bo_putIn 42 = .ok (.iload_n 2, 1) := by decide +kernel
theorem d_Bo_putIn_43 : decode b_Bo_putIn 43 = .ok (.invokevirtual 35, 3) := by decide +kernel
theorem d_Bo_putIn_46 : decode b_Bo_putIn 46 = .ok (.ifCond .eq 41, 3) := by decide +kernel
theorem d_Bo_putIn_49 : decode b_Bo_putIn 49 = .ok (.aload_n 0, 1) := by decide +kernel
theorem d_Bo_putIn_50 : decode b_Bo_putIn 50 = .ok (.getfield 15, 3) := by decide +kernel
theorem d_Bo_putIn_53 : decode b_Bo_putIn 53 = .ok (.iload 4, 2) := by decide +kernel
theorem d_Bo_putIn_55 : decode b_Bo_putIn 55 = .ok (.aload_n 0, 1) := by decide +kernel
theorem d_Bo_putIn_56 : decode b_Bo_putIn 56 = .ok (.getfield 15, 3) := by decide +kernel
theorem d_Bo_putIn_59 : decode b_Bo_putIn 59 = .ok (.iload 4, 2) := by decide +kernel
theorem d_Bo_putIn_61 : decode b_Bo_putIn 61 = .ok (.iconst 1, 1) := by decide +kernel
theorem d_Bo_putIn_62 : decode b_Bo_putIn 62 = .ok (.isub, 1) := by decide +kernel
theorem d_Bo_putIn_63 : decode b_Bo_putIn 63 = .ok (.iaload, 1) := by decide +kernel
theorem d_Bo_putIn_64 : decode b_Bo_putIn 64 = .ok (.iastore, 1) := by decide +kernel
theorem d_Bo_putIn_65 : decode b_Bo_putIn 65 = .ok (.aload_n 0, 1) := by decide +kernel
theorem d_Bo_putIn_66 : decode b_Bo_putIn 66 = .ok (.getfield 19, 3) := by decide +kernel
theorem d_Bo_putIn_69 : decode b_Bo_putIn 69 = .ok (.iload 4, 2) := by decide +kernel
theorem d_Bo_putIn_71 : decode b_Bo_putIn 71 = .ok (.aload_n 0, 1) := by decide +kernel
theorem d_Bo_putIn_72 : decode b_Bo_putIn 72 = .ok (.getfield 19, 3) := by decide +kernel
theorem d_Bo_putIn_75 : decode b_Bo_putIn 75 = .ok (.iload 4, 2) := by decide +kernel
theorem d_Bo_putIn_77 : decode b_Bo_putIn 77 = .ok (.iconst 1, 1) := by decide +kernel
theorem d_Bo_putIn_78 : decode b_Bo_putIn 78 = .ok (.isub, 1) := by decide +kernel
theorem d_Bo_putIn_79 : decode b_Bo_putIn 79 = .ok (.iaload, 1) := by decide +kernel
theorem d_Bo_putIn_80 : decode b_Bo_putIn 80 = .ok (.iastore, 1) := by decide +kernel
theorem d_Bo_putIn_81 : decode b_Bo_putIn 81 = .ok (.iinc 4 (-1), 3) := by decide +kernel
theorem d_Bo_putIn_84 : decode b_Bo_putIn 84 = .ok (.goto (-53), 3) := by decide +kernel
theorem d_Bo_putIn_87 : decode b_Bo_putIn 87 = .ok (.aload_n 0, 1) := by decide +kernel
theorem d_Bo_putIn_88 : decode b_Bo_putIn 88 = .ok (.getfield 15, 3) := by decide +kernel
theorem d_Bo_putIn_91 : decode b_Bo_putIn 91 = .ok (.iload 4, 2) := by decide +kernel
theorem d_Bo_putIn_93 : decode b_Bo_putIn 93 = .ok (.iload_n 2, 1) := by decide +kernel
theorem d_Bo_putIn_94 : decode b_Bo_putIn 94 = .ok (.iastore, 1) := by decide +kernel
theorem d_Bo_putIn_95 : decode b_Bo_putIn 95 = .ok (.aload_n 0, 1) := by decide +kernel
theorem d_Bo_putIn_96 : decode b_Bo_putIn 96 = .ok (.getfield 19, 3) := by decide +kernel
theorem d_Bo_putIn_99 : decode b_Bo_putIn 99 = .ok (.iload 4, 2) := by decide +kernel
theorem d_Bo_putIn_101 : decode b_Bo_putIn 101 = .ok (.iload_n 3, 1) := by decide +kernel
theorem d_Bo_putIn_102 : decode b_Bo_putIn 102 = .ok (.iastore, 1) := by decide +kernel
theorem d_Bo_putIn_103 : decode b_Bo_putIn 103 = .ok (.aload_n 0, 1) := by decide +kernel
theorem d_Bo_putIn_104 : decode b_Bo_putIn 104 = .ok (.dup, 1) := by decide +kernel
theorem d_Bo_putIn_105 : decode b_Bo_putIn 105 = .ok (.getfield 9, 3) := by decide +kernel
theorem d_Bo_putIn_108 : decode b_Bo_putIn 108 = .ok (.iconst 1, 1) := by decide +kernel
theorem d_Bo_putIn_109 : decode b_Bo_putIn 109 = .ok (.iadd, 1) := by decide +kernel
theorem d_Bo_putIn_110 : decode b_Bo_putIn 110 = .ok (.putfield 9, 3) := by decide +kernel
theorem d_Bo_putIn_113 : decode b_Bo_putIn 113 = .ok (.return_, 1) := by decide +kernel
theorem d_Bo_isBehind_0 : decode b_Bo_isBehind 0 = .ok (.aload_n 0, 1) := by decide +kernel
theorem d_Bo_isBehind_1 : decode b_Bo_isBehind 1 = .ok (.getfield 19, 3) := by decide +kernel
theorem d_Bo_isBehind_4 : decode b_Bo_isBehind 4 = .ok (.iload_n 1, 1) := by decide +kernel
theorem d_Bo_isBehind_5 : decode b_Bo_isBehind 5 = .ok (.iaload, 1) := by decide +kernel
theorem d_Bo_isBehind_6 : decode b_Bo_isBehind 6 = .ok (.iload_n 2, 1) := by decide +kernel
theorem d_Bo_isBehind_7 : decode b_Bo_isBehind 7 = .ok (.if_icmp .gt 23, 3) := by decide +kernel
theorem d_Bo_isBehind_10 : decode b_Bo_isBehind 10 = .ok (.aload_n 0, 1) := by decide +kernel
theorem d_Bo_isBehind_11 : decode b_Bo_isBehind 11 = .ok (.getfield 19, 3) := by decide +kernel
theorem d_Bo_isBehind_14 : decode b_Bo_isBehind 14 = .ok (.iload_n 1, 1) := by decide +kernel
theorem d_Bo_isBehind_15 : decode b_Bo_isBehind 15 = .ok (.iaload, 1) := by decide +kernel
theorem d_Bo_isBehind_16 : decode b_Bo_isBehind 16 = .ok (.iload_n 2, 1) := by decide +kernel
theorem d_Bo_isBehind_17 : decode b_Bo_isBehind 17 = .ok (.if_icmp .ne 17, 3) := by decide +kernel
theorem d_Bo_isBehind_20 : decode b_Bo_isBehind 20 = .ok (.aload_n 0, 1) := by decide +kernel
theorem d_Bo_isBehind_21 : decode b_Bo_isBehind 21 = .ok (.getfield 15, 3) := by decide +kernel
theorem d_Bo_isBehind_24 : decode b_Bo_isBehind 24 = .ok (.iload_n 1, 1) := by decide +kernel
theorem d_Bo_isBehind_25 : decode b_Bo_isBehind 25 = .ok (.iaload, 1) := by decide +kernel
theorem d_Bo_isBehind_26 : decode b_Bo_isBehind 26 = .ok (.iload_n 3, 1) := by decide +kernel
theorem d_Bo_isBehind_27 : decode b_Bo_isBehind 27 = .ok (.if_icmp .le 7, 3) := by decide +kernel
theorem d_Bo_isBehind_30 : decode b_Bo_isBehind 30 = .ok (.iconst 1, 1) := by decide +kernel
theorem d_Bo_isBehind_31 : decode b_Bo_isBehind 31 = .ok (.goto 4, 3) := by decide +kernel
theorem d_Bo_isBehind_34 : decode b_Bo_isBehind 34 = .ok (.iconst 0, 1) := by decide +kernel
theorem d_Bo_isBehind_35 : decode b_Bo_isBehind 35 = .ok (.ireturn, 1) := by decide +kernel
theorem d_Bo_takeOut_0 : decode b_Bo_takeOut 0 = .ok (.iconst 0, 1) := by decide +kernel
theorem d_Bo_takeOut_1 : decode b_Bo_takeOut 1 = .ok (.istore_n 2, 1) := by decide +kernel
theorem d_Bo_takeOut_2 : decode b_Bo_takeOut 2 = .ok (.iconst 0, 1) := by decide +kernel
theorem d_Bo_takeOut_3 : decode b_Bo_takeOut 3 = .ok (.istore_n 3, 1) := by decide +kernel
theorem d_Bo_takeOut_4 : decode b_Bo_takeOut 4 = .ok (.iload_n 3, 1) := by decide +kernel
theorem d_Bo_takeOut_5 : decode b_Bo_takeOut 5 = .ok (.aload_n 0, 1) := by decide +kernel
theorem d_Bo_takeOut_6 : decode b_Bo_takeOut 6 = .ok (.getfield 9, 3) := by decide +kernel
theorem d_Bo_takeOut_9 : decode b_Bo_takeOut 9 = .ok (.if_icmp .ge 46, 3) := by decide +kernel
theorem d_Bo_takeOut_12 : decode b_Bo_takeOut 12 = .ok (.aload_n 0, 1) := by decide +kernel
theorem d_Bo_takeOut_13 : decode b_Bo_takeOut 13 = .ok (.getfield 15, 3) := by decide +kernel
theorem d_Bo_takeOut_16 : decode b_Bo_takeOut 16 = .ok (.iload_n 3, 1) := by decide +kernel
theorem d_Bo_takeOut_17 : decode b_Bo_takeOut 17 = .ok (.iaload, 1) := by decide +kernel
theorem d_Bo_takeOut_18 : decode b_Bo_takeOut 18 = .ok (.iload_n 1, 1) := by decide +kernel
theorem d_Bo_takeOut_19 : decode b_Bo_takeOut 19 = .ok (.if_icmp .eq 30, 3) := by decide +kernel
theorem d_Bo_takeOut_22 : decode b_Bo_takeOut 22 = .ok (.aload_n 0, 1) := by decide +kernel
theorem d_Bo_takeOut_23 : decode b_Bo_takeOut 23 = .ok (.getfield 15, 3) := by decide +kernel
theorem d_Bo_takeOut_26 : decode b_Bo_takeOut 26 = .ok (.iload_n 2, 1) := by decide +kernel
theorem d_Bo_takeOut_27 : decode b_Bo_takeOut 27 = .ok (.aload_n 0, 1) := by decide +kernel
theorem d_Bo_takeOut_28 : decode b_Bo_takeOut 28 = .ok (.getfield 15, 3) := by decide +kernel
theorem d_Bo_takeOut_31 : decode b_Bo_takeOut 31 = .ok (.iload_n 3, 1) := by decide +kernel
theorem d_Bo_takeOut_32 : decode b_Bo_takeOut 32 = .ok (.iaload, 1) := by decide +kernel
theorem d_Bo_takeOut_33 : decode b_Bo_takeOut 33 = .ok (.iastore, 1) := by decide +kernel
theorem d_Bo_takeOut_34 : decode b_Bo_takeOut 34 = .ok (.aload_n 0, 1) := by decide +kernel
theorem d_Bo_takeOut_35 : decode b_Bo_takeOut 35 = .ok (.getfield 19, 3) := by decide +kernel
theorem d_Bo_takeOut_38 : decode b_Bo_takeOut 38 = .ok (.iload_n 2, 1) := by decide +kernel
theorem d_Bo_takeOut_39 : decode b_Bo_takeOut 39 = .ok (.aload_n 0, 1) := by decide +kernel
theorem d_Bo_takeOut_40 : decode b_Bo_takeOut 40 = .ok (.getfield 19, 3) := by decide +kernel
theorem d_Bo_takeOut_43 : decode b_Bo_takeOut 43 = .ok (.iload_n 3, 1) := by decide +kernel
theorem d_Bo_takeOut_44 : decode b_Bo_takeOut 44 = .ok (.iaload, 1) := by decide +kernel
theorem d_Bo_takeOut_45 : decode b_Bo_takeOut 45 = .ok (.iastore, 1) := by decide +kernel
theorem d_Bo_takeOut_46 : decode b_Bo_takeOut 46 = .ok (.iinc 2 1, 3) := by decide +kernel
theorem d_Bo_takeOut_49 : decode b_Bo_takeOut 49 = .ok (.iinc 3 1, 3) := by decide +kernel
theorem d_Bo_takeOut_52 : decode b_Bo_takeOut 52 = .ok (.goto (-48), 3) := by decide +kernel
theorem d_Bo_takeOut_55 : decode b_Bo_takeOut 55 = .ok (.aload_n 0, 1) := by decide +kernel
theorem d_Bo_takeOut_56 : decode b_Bo_takeOut 56 = .ok (.iload_n 2, 1) := by decide +kernel
theorem d_Bo_takeOut_57 : decode b_Bo_takeOut 57 = .ok (.putfield 9, 3) := by decide +kernel
theorem d_Bo_takeOut_60 : decode b_Bo_takeOut 60 = .ok (.return_, 1) := by decide +kernel
theorem d_Bo_firstFrom_0 : decode b_Bo_firstFrom 0 = .ok (.iconst 0, 1) := by decide +kernel
theorem d_Bo_firstFrom_1 : decode b_Bo_firstFrom 1 = .ok (.istore 4, 2) := by decide +kernel
theorem d_Bo_firstFrom_3 : decode b_Bo_firstFrom 3 = .ok (.iload 4, 2) := by decide +kernel
theorem d_Bo_firstFrom_5 : decode b_Bo_firstFrom 5 = .ok (.aload_n 0, 1) := by decide +kernel
theorem d_Bo_firstFrom_6 : decode b_Bo_firstFrom 6 = .ok (.getfield 9, 3) := by decide +kernel
theorem d_Bo_firstFrom_9 : decode b_Bo_firstFrom 9 = .ok (.if_icmp .ge 43, 3) := by decide +kernel
theorem d_Bo_firstFrom_12 : decode b_Bo_firstFrom 12 = .ok (.aload_n 0, 1) := by decide +kernel
theorem d_Bo_firstFrom_13 : decode b_Bo_firstFrom 13 = .ok (.getfield 19, 3) := by decide +kernel
theorem d_Bo_firstFrom_16 : decode b_Bo_firstFrom 16 = .ok (.iload 4, 2) := by decide +kernel
theorem d_Bo_firstFrom_18 : decode b_Bo_firstFrom 18 = .ok (.iaload, 1) := by decide +kernel
theorem d_Bo_firstFrom_19 : decode b_Bo_firstFrom 19 = .ok (.iload_n 3, 1) := by decide +kernel
theorem d_Bo_firstFrom_20 : decode b_Bo_firstFrom 20 = .ok (.if_icmp .lt 26, 3) := by decide +kernel
theorem d_Bo_firstFrom_23 : decode b_Bo_firstFrom 23 = .ok (.aload_n 1, 1) := by decide +kernel
theorem d_Bo_firstFrom_24 : decode b_Bo_firstFrom 24 = .ok (.getfield 39, 3) := by decide +kernel
theorem d_Bo_firstFrom_27 : decode b_Bo_firstFrom 27 = .ok (.aload_n 0, 1) := by decide +kernel
theorem d_Bo_firstFrom_28 : decode b_Bo_firstFrom 28 = .ok (.iload 4, 2) := by decide +kernel
theorem d_Bo_firstFrom_30 : decode b_Bo_firstFrom 30 = .ok (.invokevirtual 42, 3) := by decide +kernel
theorem d_Bo_firstFrom_33 : decode b_Bo_firstFrom 33 = .ok (.iaload, 1) := by decide +kernel
theorem d_Bo_firstFrom_34 : decode b_Bo_firstFrom 34 = .ok (.iload_n 2, 1) := by decide +kernel
theorem d_Bo_firstFrom_35 : decode b_Bo_firstFrom 35 = .ok (.if_icmp .ne 11, 3) := by decide +kernel
theorem d_Bo_firstFrom_38 : decode b_Bo_firstFrom 38 = .ok (.aload_n 0, 1) := by decide +kernel
theorem d_Bo_firstFrom_39 : decode b_Bo_firstFrom 39 = .ok (.getfield 15, 3) := by decide +kernel
theorem d_Bo_firstFrom_42 : decode b_Bo_firstFrom 42 = .ok (.iload 4, 2) := by decide +kernel
theorem d_Bo_firstFrom_44 : decode b_Bo_firstFrom 44 = .ok (.iaload, 1) := by decide +kernel
theorem d_Bo_firstFrom_45 : decode b_Bo_firstFrom 45 = .ok (.ireturn, 1) := by decide +kernel
theorem d_Bo_firstFrom_46 : decode b_Bo_firstFrom 46 = .ok (.iinc 4 1, 3) := by decide +kernel
theorem d_Bo_firstFrom_49 : decode b_Bo_firstFrom 49 = .ok (.goto (-46), 3) := by decide +kernel
theorem d_Bo_firstFrom_52 : decode b_Bo_firstFrom 52 = .ok (.iconst (-1), 1) := by decide +kernel
theorem d_Bo_firstFrom_53 : decode b_Bo_firstFrom 53 = .ok (.ireturn, 1) := by decide +kernel
theorem d_Bo_countLate_0 : decode b_Bo_countLate 0 = .ok (.iconst 0, 1) := by decide +kernel
theorem d_Bo_countLate_1 : decode b_Bo_countLate 1 = .ok (.istore_n 2, 1) := by decide +kernel
theorem d_Bo_countLate_2 : decode b_Bo_countLate 2 = .ok (.iconst 0, 1) := by decide +kernel
theorem d_Bo_countLate_3 : decode b_Bo_countLate 3 = .ok (.istore_n 3, 1) := by decide +kernel
theorem d_Bo_countLate_4 : decode b_Bo_countLate 4 = .ok (.iload_n 3, 1) := by decide +kernel
theorem d_Bo_countLate_5 : decode b_Bo_countLate 5 = .ok (.aload_n 0, 1) := by decide +kernel
theorem d_Bo_countLate_6 : decode b_Bo_countLate 6 = .ok (.getfield 9, 3) := by decide +kernel
theorem d_Bo_countLate_9 : decode b_Bo_countLate 9 = .ok (.if_icmp .ge 26, 3) := by decide +kernel
theorem d_Bo_countLate_12 : decode b_Bo_countLate 12 = .ok (.aload_n 1, 1) := by decide +kernel
theorem d_Bo_countLate_13 : decode b_Bo_countLate 13 = .ok (.getfield 45, 3) := by decide +kernel
theorem d_Bo_countLate_16 : decode b_Bo_countLate 16 = .ok (.aload_n 0, 1) := by decide +kernel
theorem d_Bo_countLate_17 : decode b_Bo_countLate 17 = .ok (.getfield 15, 3) := by decide +kernel
theorem d_Bo_countLate_20 : decode b_Bo_countLate 20 = .ok (.iload_n 3, 1) := by decide +kernel
theorem d_Bo_countLate_21 : decode b_Bo_countLate 21 = .ok (.iaload, 1) := by decide +kernel
theorem d_Bo_countLate_22 : decode b_Bo_countLate 22 = .ok (.iaload, 1) := by decide +kernel
theorem d_Bo_countLate_23 : decode b_Bo_countLate 23 = .ok (.ifCond .le 6, 3) := by decide +kernel
theorem d_Bo_countLate_26 : decode b_Bo_countLate 26 = .ok (.iinc 2 1, 3) := by decide +kernel
theorem d_Bo_countLate_29 : decode b_Bo_countLate 29 = .ok (.iinc 3 1, 3) := by decide +kernel
theorem d_Bo_countLate_32 : decode b_Bo_countLate 32 = .ok (.goto (-28), 3) := by decide +kernel
theorem d_Bo_countLate_35 : decode b_Bo_countLate 35 = .ok (.iload_n 2, 1) := by decide +kernel
theorem d_Bo_countLate_36 : decode b_Bo_countLate 36 = .ok (.ireturn, 1) := by decide +kernel
theorem d_Wa_init_0 : decode b_Wa_init 0 = .ok (.aload_n 0, 1) := by decide +kernel
theorem d_Wa_init_1 : decode b_Wa_init 1 = .ok (.invokespecial 3, 3) := by decide +kernel
theorem d_Wa_init_4 : decode b_Wa_init 4 = .ok (.aload_n 0, 1) := by decide +kernel
theorem d_Wa_init_5 : decode b_Wa_init 5 = .ok (.iconst 0, 1) := by decide +kernel
theorem d_Wa_init_6 : decode b_Wa_init 6 = .ok (.putfield 9, 3) := by decide +kernel
theorem d_Wa_init_9 : decode b_Wa_init 9 = .ok (.aload_n 0, 1) := by decide +kernel
theorem d_Wa_init_10 : decode b_Wa_init 10 = .ok (.bipush 30, 2) := by decide +kernel
theorem d_Wa_init_12 : decode b_Wa_init 12 = .ok (.newarray .int, 2) := by decide +kernel
theorem d_Wa_init_14 : decode b_Wa_init 14 = .ok (.putfield 15, 3) := by decide +kernel
theorem d_Wa_init_17 : decode b_Wa_init 17 = .ok (.aload_n 0, 1) := by decide +kernel
theorem d_Wa_init_18 : decode b_Wa_init 18 = .ok (.bipush 30, 2) := by decide +kernel
theorem d_Wa_init_20 : decode b_Wa_init 20 = .ok (.newarray .int, 2) := by decide +kernel
theorem d_Wa_init_22 : decode b_Wa_init 22 = .ok (.putfield 19, 3) := by decide +kernel
theorem d_Wa_init_25 : decode b_Wa_init 25 = .ok (.aload_n 0, 1) := by decide +kernel
theorem d_Wa_init_26 : decode b_Wa_init 26 = .ok (.bipush 30, 2) := by decide +kernel
theorem d_Wa_init_28 : decode b_Wa_init 28 = .ok (.newarray .int, 2) := by decide +kernel
theorem d_Wa_init_30 : decode b_Wa_init 30 = .ok (.putfield 22, 3) := by decide +kernel
theorem d_Wa_init_33 : decode b_Wa_init 33 = .ok (.aload_n 0, 1) := by decide +kernel
theorem d_Wa_init_34 : decode b_Wa_init 34 = .ok (.sipush 144, 3) := by decide +kernel
theorem d_Wa_init_37 : decode b_Wa_init 37 = .ok (.newarray .int, 2) := by decide +kernel
theorem d_Wa_init_39 : decode b_Wa_init 39 = .ok (.putfield 25, 3) := by decide +kernel
theorem d_Wa_init_42 : decode b_Wa_init 42 = .ok (.aload_n 0, 1) := by decide +kernel
theorem d_Wa_init_43 : decode b_Wa_init 43 = .ok (.getfield 25, 3) := by decide +kernel
theorem d_Wa_init_46 : decode b_Wa_init 46 = .ok (.ldc 28, 2) := by decide +kernel
theorem d_Wa_init_48 : decode b_Wa_init 48 = .ok (.invokestatic 29, 3) := by decide +kernel
theorem d_Wa_init_51 : decode b_Wa_init 51 = .ok (.return_, 1) := by decide +kernel
theorem d_Wa_empty_0 : decode b_Wa_empty 0 = .ok (.aload_n 0, 1) := by decide +kernel
theorem d_Wa_empty_1 : decode b_Wa_empty 1 = .ok (.iconst 0, 1) := by decide +kernel
theorem d_Wa_empty_2 : decode b_Wa_empty 2 = .ok (.putfield 9, 3) := by decide +kernel
theorem d_Wa_empty_5 : decode b_Wa_empty 5 = .ok (.aload_n 0, 1) := by decide +kernel
theorem d_Wa_empty_6 : decode b_Wa_empty 6 = .ok (.getfield 25, 3) := by decide +kernel
theorem d_Wa_empty_9 : decode b_Wa_empty 9 = .ok (.ldc 28, 2) := by decide +kernel
theorem d_Wa_empty_11 : decode b_Wa_empty 11 = .ok (.invokestatic 29, 3) := by decide +kernel
theorem d_Wa_empty_14 : decode b_Wa_empty 14 = .ok (.return_, 1) := by decide +kernel
theorem d_Wa_add_0 : decode b_Wa_add 0 = .ok (.aload_n 0, 1) := by decide +kernel
theorem d_Wa_add_1 : decode b_Wa_add 1 = .ok (.getfield 15, 3) := by decide +kernel
theorem d_Wa_add_4 : decode b_Wa_add 4 = .ok (.aload_n 0, 1) := by decide +kernel
theorem d_Wa_add_5 : decode b_Wa_add 5 = .ok (.getfield 9, 3) := by decide +kernel
theorem d_Wa_add_8 : decode b_Wa_add 8 = .ok (.iload_n 1, 1) := by decide +kernel
theorem d_Wa_add_9 : decode b_Wa_add 9 = .ok (.iastore, 1) := by decide +kernel
theorem d_Wa_add_10 : decode b_Wa_add 10 = .ok (.aload_n 0, 1) := by decide +kernel
theorem d_Wa_add_11 : decode b_Wa_add 11 = .ok (.getfield 19, 3) := by decide +kernel
theorem d_Wa_add_14 : decode b_Wa_add 14 = .ok (.aload_n 0, 1) := by decide +kernel
theorem d_Wa_add_15 : decode b_Wa_add 15 = .ok (.getfield 9, 3) := by decide +kernel
theorem d_Wa_add_18 : decode b_Wa_add 18 = .ok (.iload_n 2, 1) := by decide +kernel
theorem d_Wa_add_19 : decode b_Wa_add 19 = .ok (.iastore, 1) := by decide +kernel
theorem d_Wa_add_20 : decode b_Wa_add 20 = .ok (.aload_n 0, 1) := by decide +kernel
theorem d_Wa_add_21 : decode b_Wa_add 21 = .ok (.getfield 22, 3) := by decide +kernel
theorem d_Wa_add_24 : decode b_Wa_add 24 = .ok (.aload_n 0, 1) := by decide +kernel
theorem d_Wa_add_25 : decode b_Wa_add 25 = .ok (.getfield 9, 3) := by decide +kernel
theorem d_Wa_add_28 : decode b_Wa_add 28 = .ok (.iload_n 3, 1) := by decide +kernel
theorem d_Wa_add_29 : decode b_Wa_add 29 = .ok (.iastore, 1) := by decide +kernel
theorem d_Wa_add_30 : decode b_Wa_add 30 = .ok (.aload_n 0, 1) := by decide +kernel
theorem d_Wa_add_31 : decode b_Wa_add 31 = .ok (.dup, 1) := by decide +kernel
theorem d_Wa_add_32 : decode b_Wa_add 32 = .ok (.getfield 9, 3) := by decide +kernel
theorem d_Wa_add_35 : decode b_Wa_add 35 = .ok (.iconst 1, 1) := by decide +kernel
theorem d_Wa_add_36 : decode b_Wa_add 36 = .ok (.iadd, 1) := by decide +kernel
theorem d_Wa_add_37 : decode b_Wa_add 37 = .ok (.putfield 9, 3) := by decide +kernel
theorem d_Wa_add_40 : decode b_Wa_add 40 = .ok (.aload_n 0, 1) := by decide +kernel
theorem d_Wa_add_41 : decode b_Wa_add 41 = .ok (.iload_n 1, 1) := by decide +kernel
theorem d_Wa_add_42 : decode b_Wa_add 42 = .ok (.iload_n 2, 1) := by decide +kernel
theorem d_Wa_add_43 : decode b_Wa_add 43 = .ok (.iload_n 3, 1) := by decide +kernel
theorem d_Wa_add_44 : decode b_Wa_add 44 = .ok (.invokevirtual 35, 3) := by decide +kernel
theorem d_Wa_add_47 : decode b_Wa_add 47 = .ok (.aload_n 0, 1) := by decide +kernel
theorem d_Wa_add_48 : decode b_Wa_add 48 = .ok (.getfield 9, 3) := by decide +kernel
theorem d_Wa_add_51 : decode b_Wa_add 51 = .ok (.iconst 1, 1) := by decide +kernel
theorem d_Wa_add_52 : decode b_Wa_add 52 = .ok (.isub, 1) := by decide +kernel
theorem d_Wa_add_53 : decode b_Wa_add 53 = .ok (.ireturn, 1) := by decide +kernel
theorem d_Wa_shorten_0 : decode b_Wa_shorten 0 = .ok (.iconst 0, 1) := by decide +kernel
theorem d_Wa_shorten_1 : decode b_Wa_shorten 1 = .ok (.istore 4, 2) := by decide +kernel
theorem d_Wa_shorten_3 : decode b_Wa_shorten 3 = .ok (.iload 4, 2) := by decide +kernel
theorem d_Wa_shorten_5 : decode b_Wa_shorten 5 = .ok (.bipush 12, 2) := by decide +kernel
theorem d_Wa_shorten_7 : decode b_Wa_shorten 7 = .ok (.if_icmp .ge 79, 3) := by decide +kernel
theorem d_Wa_shorten_10 : decode b_Wa_shorten 10 = .ok (.aload_n 0, 1) := by decide +kernel
theorem d_Wa_shorten_11 : decode b_Wa_shorten 11 = .ok (.iload 4, 2) := by decide +kernel
theorem d_Wa_shorten_13 : decode b_Wa_shorten 13 = .ok (.iload_n 1, 1) := by decide +kernel
theorem d_Wa_shorten_14 : decode b_Wa_shorten 14 = .ok (.invokevirtual 39, 3) := by decide +kernel
theorem d_Wa_shorten_17 : decode b_Wa_shorten 17 = .ok (.iload_n 3, 1) := by decide +kernel
theorem d_Wa_shorten_18 : decode b_Wa_shorten 18 = .ok (.iadd, 1) := by decide +kernel
theorem d_Wa_shorten_19 : decode b_Wa_shorten 19 = .ok (.istore 5, 2) := by decide +kernel
theorem d_Wa_shorten_21 : decode b_Wa_shorten 21 = .ok (.iconst 0, 1) := by decide +kernel
theorem d_Wa_shorten_22 : decode b_Wa_shorten 22 = .ok (.istore 6, 2) := by decide +kernel
theorem d_Wa_shorten_24 : decode b_Wa_shorten 24 = .ok (.iload 6, 2) := by decide +kernel
theorem d_Wa_shorten_26 : decode b_Wa_shorten 26 = .ok (.bipush 12, 2) := by decide +kernel
theorem d_Wa_shorten_28 : decode b_Wa_shorten 28 = .ok (.if_icmp .ge 52, 3) := by decide +kernel
theorem d_Wa_shorten_31 : decode b_Wa_shorten 31 = .ok (.iload 5, 2) := by decide +kernel
theorem d_Wa_shorten_33 : decode b_Wa_shorten 33 = .ok (.aload_n 0, 1) := by decide +kernel
theorem d_Wa_shorten_34 : decode b_Wa_shorten 34 = .ok (.iload_n 2, 1) := by decide +kernel
theorem d_Wa_shorten_35 : decode b_Wa_shorten 35 = .ok (.iload 6, 2) := by decide +kernel
theorem d_Wa_shorten_37 : decode b_Wa_shorten 37 = .ok (.invokevirtual 39, 3) := by decide +kernel
theorem d_Wa_shorten_40 : decode b_Wa_shorten 40 = .ok (.iadd, 1) := by decide +kernel
theorem d_Wa_shorten_41 : decode b_Wa_shorten 41 = .ok (.istore 7, 2) := by decide +kernel
theorem d_Wa_shorten_43 : decode b_Wa_shorten 43 = .ok (.aload_n 0, 1) := by decide +kernel
theorem d_Wa_shorten_44 : decode b_Wa_shorten 44 = .ok (.getfield 25, 3) := by decide +kernel
theorem d_Wa_shorten_47 : decode b_Wa_shorten 47 = .ok (.iload 4, 2) := by decide +kernel
theorem d_Wa_shorten_49 : decode b_Wa_shorten 49 = .ok (.bipush 12, 2) := by decide +kernel
theorem d_Wa_shorten_51 : decode b_Wa_shorten 51 = .ok (.imul, 1) := by decide +kernel
theorem d_Wa_shorten_52 : decode b_Wa_shorten 52 = .ok (.iload 6, 2) := by decide +kernel
theorem d_Wa_shorten_54 : decode b_Wa_shorten 54 = .ok (.iadd, 1) := by decide +kernel
theorem d_Wa_shorten_55 : decode b_Wa_shorten 55 = .ok (.aload_n 0, 1) := by decide +kernel
theorem d_Wa_shorten_56 : decode b_Wa_shorten 56 = .ok (.getfield 25, 3) := by decide +kernel
theorem d_Wa_shorten_59 : decode b_Wa_shorten 59 = .ok (.iload 4, 2) := by decide +kernel
theorem d_Wa_shorten_61 : decode b_Wa_shorten 61 = .ok (.bipush 12, 2) := by decide +kernel
theorem d_Wa_shorten_63 : decode b_Wa_shorten 63 = .ok (.imul, 1) := by decide +kernel
theorem d_Wa_shorten_64 : decode b_Wa_shorten 64 = .ok (.iload 6, 2) := by decide +kernel
theorem d_Wa_shorten_66 : decode b_Wa_shorten 66 = .ok (.iadd, 1) := by decide +kernel
theorem d_Wa_shorten_67 : decode b_Wa_shorten 67 = .ok (.iaload, 1) := by decide +kernel
theorem d_Wa_shorten_68 : decode b_Wa_shorten 68 = .ok (.iload 7, 2) := by decide +kernel
theorem d_Wa_shorten_70 : decode b_Wa_shorten 70 = .ok (.invokestatic 43, 3) := by decide +kernel
theorem d_Wa_shorten_73 : decode b_Wa_shorten 73 = .ok (.iastore, 1) := by decide +kernel
theorem d_Wa_shorten_74 : decode b_Wa_shorten 74 = .ok (.iinc 6 1, 3) := by decide +kernel
theorem d_Wa_shorten_77 : decode b_Wa_shorten 77 = .ok (.goto (-53), 3) := by decide +kernel
theorem d_Wa_shorten_80 : decode b_Wa_shorten 80 = .ok (.iinc 4 1, 3) := by decide +kernel
theorem d_Wa_shorten_83 : decode b_Wa_shorten 83 = .ok (.goto (-80), 3) := by decide +kernel
theorem d_Wa_shorten_86 : decode b_Wa_shorten 86 = .ok (.return_, 1) := by decide +kernel
theorem d_Wa_atLeastOne_0 : decode b_Wa_atLeastOne 0 = .ok (.aload_n 0, 1) := by decide +kernel
theorem d_Wa_atLeastOne_1 : decode b_Wa_atLeastOne 1 = .ok (.getfield 25, 3) := by decide +kernel
theorem d_Wa_atLeastOne_4 : decode b_Wa_atLeastOne 4 = .ok (.iload_n 1, 1) := by decide +kernel
theorem d_Wa_atLeastOne_5 : decode b_Wa_atLeastOne 5 = .ok (.bipush 12, 2) := by decide +kernel
theorem d_Wa_atLeastOne_7 : decode b_Wa_atLeastOne 7 = .ok (.imul, 1) := by decide +kernel
theorem d_Wa_atLeastOne_8 : decode b_Wa_atLeastOne 8 = .ok (.iload_n 2, 1) := by decide +kernel
theorem d_Wa_atLeastOne_9 : decode b_Wa_atLeastOne 9 = .ok (.iadd, 1) := by decide +kernel
theorem d_Wa_atLeastOne_10 : decode b_Wa_atLeastOne 10 = .ok (.iaload, 1) := by decide +kernel
theorem d_Wa_atLeastOne_11 : decode b_Wa_atLeastOne 11 = .ok (.ireturn, 1) := by decide +kernel
theorem d_Wa_anyNumber_0 : decode b_Wa_anyNumber 0 = .ok (.iload_n 1, 1) := by decide +kernel
theorem d_Wa_anyNumber_1 : decode b_Wa_anyNumber 1 = .ok (.iload_n 2, 1) := by decide +kernel
theorem d_Wa_anyNumber_2 : decode b_Wa_anyNumber 2 = .ok (.if_icmp .ne 7, 3) := by decide +kernel
theorem d_Wa_anyNumber_5 : decode b_Wa_anyNumber 5 = .ok (.iconst 0, 1) := by decide +kernel
theorem d_Wa_anyNumber_6 : decode b_Wa_anyNumber 6 = .ok (.goto 9, 3) := by decide +kernel
theorem d_Wa_anyNumber_9 : decode b_Wa_anyNumber 9 = .ok (.aload_n 0, 1) := by decide +kernel
theorem d_Wa_anyNumber_10 : decode b_Wa_anyNumber 10 = .ok (.iload_n 1, 1) := by decide +kernel
theorem d_Wa_anyNumber_11 : decode b_Wa_anyNumber 11 = .ok (.iload_n 2, 1) := by decide +kernel
theorem d_Wa_anyNumber_12 : decode b_Wa_anyNumber 12 = .ok (.invokevirtual 48, 3) := by decide +kernel
theorem d_Wa_anyNumber_15 : decode b_Wa_anyNumber 15 = .ok (.ireturn, 1) := by decide +kernel
theorem d_Ar_init_0 : decode b_Ar_init 0 = .ok (.aload_n 0, 1) := by decide +kernel
theorem d_Ar_init_1 : decode b_Ar_init 1 = .ok (.invokespecial 3, 3) := by decide +kernel
theorem d_Ar_init_4 : decode b_Ar_init 4 = .ok (.aload_n 0, 1) := by decide +kernel
theorem d_Ar_init_5 : decode b_Ar_init 5 = .ok (.bipush 12, 2) := by decide +kernel
theorem d_Ar_init_7 : decode b_Ar_init 7 = .ok (.newarray .int, 2) := by decide +kernel
theorem d_Ar_init_9 : decode b_Ar_init 9 = .ok (.putfield 9, 3) := by decide +kernel
theorem d_Ar_init_12 : decode b_Ar_init 12 = .ok (.aload_n 0, 1) := by decide +kernel
theorem d_Ar_init_13 : decode b_Ar_init 13 = .ok (.bipush 12, 2) := by decide +kernel
theorem d_Ar_init_15 : decode b_Ar_init 15 = .ok (.newarray .int, 2) := by decide +kernel
theorem d_Ar_init_17 : decode b_Ar_init 17 = .ok (.putfield 15, 3) := by decide +kernel
theorem d_Ar_init_20 : decode b_Ar_init 20 = .ok (.return_, 1) := by decide +kernel
theorem d_Ar_first_0 : decode b_Ar_first 0 = .ok (.aload_n 0, 1) := by decide +kernel
theorem d_Ar_first_1 : decode b_Ar_first 1 = .ok (.getfield 9, 3) := by decide +kernel
theorem d_Ar_first_4 : decode b_Ar_first 4 = .ok (.iload_n 1, 1) := by decide +kernel
theorem d_Ar_first_5 : decode b_Ar_first 5 = .ok (.iaload, 1) := by decide +kernel
theorem d_Ar_first_6 : decode b_Ar_first 6 = .ok (.aload_n 0, 1) := by decide +kernel
theorem d_Ar_first_7 : decode b_Ar_first 7 = .ok (.getfield 15, 3) := by decide +kernel
theorem d_Ar_first_10 : decode b_Ar_first 10 = .ok (.iload_n 1, 1) := by decide +kernel
theorem d_Ar_first_11 : decode b_Ar_first 11 = .ok (.iaload, 1) := by decide +kernel
theorem d_Ar_first_12 : decode b_Ar_first 12 = .ok (.invokestatic 18, 3) := by decide +kernel
theorem d_Ar_first_15 : decode b_Ar_first 15 = .ok (.ireturn, 1) := by decide +kernel
theorem d_Ar_isByWalk_0 : decode b_Ar_isByWalk 0 = .ok (.iload_n 2, 1) := by decide +kernel
theorem d_Ar_isByWalk_1 : decode b_Ar_isByWalk 1 = .ok (.aload_n 0, 1) := by decide +kernel
theorem d_Ar_isByWalk_2 : decode b_Ar_isByWalk 2 = .ok (.getfield 15, 3) := by decide +kernel
theorem d_Ar_isByWalk_5 : decode b_Ar_isByWalk 5 = .ok (.iload_n 1, 1) := by decide +kernel
theorem d_Ar_isByWalk_6 : decode b_Ar_isByWalk 6 = .ok (.iaload, 1) := by decide +kernel
theorem d_Ar_isByWalk_7 : decode b_Ar_isByWalk 7 = .ok (.if_icmp .lt 7, 3) := by decide +kernel
theorem d_Ar_isByWalk_10 : decode b_Ar_isByWalk 10 = .ok (.iconst 1, 1) := by decide +kernel
theorem d_Ar_isByWalk_11 : decode b_Ar_isByWalk 11 = .ok (.goto 4, 3) := by decide +kernel
theorem d_Ar_isByWalk_14 : decode b_Ar_isByWalk 14 = .ok (.iconst 0, 1) := by decide +kernel
theorem d_Ar_isByWalk_15 : decode b_Ar_isByWalk 15 = .ok (.ireturn, 1) := by decide +kernel
theorem d_Ar_copy_0 : decode b_Ar_copy 0 = .ok (.aload_n 1, 1) := by decide +kernel
theorem d_Ar_copy_1 : decode b_Ar_copy 1 = .ok (.getfield 9, 3) := by decide +kernel
theorem d_Ar_copy_4 : decode b_Ar_copy 4 = .ok (.iconst 0, 1) := by decide +kernel
theorem d_Ar_copy_5 : decode b_Ar_copy 5 = .ok (.aload_n 0, 1) := by decide +kernel
theorem d_Ar_copy_6 : decode b_Ar_copy 6 = .ok (.getfield 9, 3) := by decide +kernel
theorem d_Ar_copy_9 : decode b_Ar_copy 9 = .ok (.iconst 0, 1) := by decide +kernel
theorem d_Ar_copy_10 : decode b_Ar_copy 10 = .ok (.bipush 12, 2) := by decide +kernel
theorem d_Ar_copy_12 : decode b_Ar_copy 12 = .ok (.invokestatic 24, 3) := by decide +kernel
theorem d_Ar_copy_15 : decode b_Ar_copy 15 = .ok (.aload_n 1, 1) := by decide +kernel
theorem d_Ar_copy_16 : decode b_Ar_copy 16 = .ok (.getfield 15, 3) := by decide +kernel
theorem d_Ar_copy_19 : decode b_Ar_copy 19 = .ok (.iconst 0, 1) := by decide +kernel
theorem d_Ar_copy_20 : decode b_Ar_copy 20 = .ok (.aload_n 0, 1) := by decide +kernel
theorem d_Ar_copy_21 : decode b_Ar_copy 21 = .ok (.getfield 15, 3) := by decide +kernel
theorem d_Ar_copy_24 : decode b_Ar_copy 24 = .ok (.iconst 0, 1) := by decide +kernel
theorem d_Ar_copy_25 : decode b_Ar_copy 25 = .ok (.bipush 12, 2) := by decide +kernel
theorem d_Ar_copy_27 : decode b_Ar_copy 27 = .ok (.invokestatic 24, 3) := by decide +kernel
theorem d_Ar_copy_30 : decode b_Ar_copy 30 = .ok (.return_, 1) := by decide +kernel
theorem d_Ar_begin_0 : decode b_Ar_begin 0 = .ok (.iconst 0, 1) := by decide +kernel
theorem d_Ar_begin_1 : decode b_Ar_begin 1 = .ok (.istore 4, 2) := by decide +kernel
theorem d_Ar_begin_3 : decode b_Ar_begin 3 = .ok (.iload 4, 2) := by decide +kernel
theorem d_Ar_begin_5 : decode b_Ar_begin 5 = .ok (.bipush 12, 2) := by decide +kernel
theorem d_Ar_begin_7 : decode b_Ar_begin 7 = .ok (.if_icmp .ge 42, 3) := by decide +kernel
theorem d_Ar_begin_10 : decode b_Ar_begin 10 = .ok (.aload_n 0, 1) := by decide +kernel
theorem d_Ar_begin_11 : decode b_Ar_begin 11 = .ok (.getfield 9, 3) := by decide +kernel
theorem d_Ar_begin_14 : decode b_Ar_begin 14 = .ok (.iload 4, 2) := by decide +kernel
theorem d_Ar_begin_16 : decode b_Ar_begin 16 = .ok (.ldc 30, 2) := by decide +kernel
theorem d_Ar_begin_18 : decode b_Ar_begin 18 = .ok (.iastore, 1) := by decide +kernel
theorem d_Ar_begin_19 : decode b_Ar_begin 19 = .ok (.aload_n 0, 1) := by decide +kernel
theorem d_Ar_begin_20 : decode b_Ar_begin 20 = .ok (.getfield 15, 3) := by decide +kernel
theorem d_Ar_begin_23 : decode b_Ar_begin 23 = .ok (.iload 4, 2) := by decide +kernel
theorem d_Ar_begin_25 : decode b_Ar_begin 25 = .ok (.ldc 30, 2) := by decide +kernel
theorem d_Ar_begin_27 : decode b_Ar_begin 27 = .ok (.iload_n 3, 1) := by decide +kernel
theorem d_Ar_begin_28 : decode b_Ar_begin 28 = .ok (.aload_n 1, 1) := by decide +kernel
theorem d_Ar_begin_29 : decode b_Ar_begin 29 = .ok (.getfield 31, 3) := by decide +kernel
theorem d_Ar_begin_32 : decode b_Ar_begin 32 = .ok (.iload_n 2, 1) := by decide +kernel
theorem d_Ar_begin_33 : decode b_Ar_begin 33 = .ok (.iload 4, 2) := by decide +kernel
theorem d_Ar_begin_35 : decode b_Ar_begin 35 = .ok (.invokevirtual 37, 3) := by decide +kernel
theorem d_Ar_begin_38 : decode b_Ar_begin 38 = .ok (.iadd, 1) := by decide +kernel
theorem d_Ar_begin_39 : decode b_Ar_begin 39 = .ok (.invokestatic 18, 3) := by decide +kernel
theorem d_Ar_begin_42 : decode b_Ar_begin 42 = .ok (.iastore, 1) := by decide +kernel
theorem d_Ar_begin_43 : decode b_Ar_begin 43 = .ok (.iinc 4 1, 3) := by decide +kernel
theorem d_Ar_begin_46 : decode b_Ar_begin 46 = .ok (.goto (-43), 3) := by decide +kernel
theorem d_Ar_begin_49 : decode b_Ar_begin 49 = .ok (.return_, 1) := by decide +kernel
theorem d_Ar_find_0 : decode b_Ar_find 0 = .ok (.aload_n 0, 1) := by decide +kernel
theorem d_Ar_find_1 : decode b_Ar_find 1 = .ok (.aload_n 1, 1) := by decide +kernel
theorem d_Ar_find_2 : decode b_Ar_find 2 = .ok (.iload_n 2, 1) := by decide +kernel
theorem d_Ar_find_3 : decode b_Ar_find 3 = .ok (.iload_n 3, 1) := by decide +kernel
theorem d_Ar_find_4 : decode b_Ar_find 4 = .ok (.invokevirtual 42, 3) := by decide +kernel
theorem d_Ar_find_7 : decode b_Ar_find 7 = .ok (.aload_n 0, 1) := by decide +kernel
theorem d_Ar_find_8 : decode b_Ar_find 8 = .ok (.aload_n 1, 1) := by decide +kernel
theorem d_Ar_find_9 : decode b_Ar_find 9 = .ok (.aload_n 0, 1) := by decide +kernel
theorem d_Ar_find_10 : decode b_Ar_find 10 = .ok (.invokevirtual 46, 3) := by decide +kernel
theorem d_Ar_find_13 : decode b_Ar_find 13 = .ok (.return_, 1) := by decide +kernel
theorem d_Ar_addOneDeparture_0 : decode b_Ar_addOneDeparture 0 = .ok (.iconst 0, 1) := by decide +kernel
theorem d_Ar_addOneDeparture_1 : decode b_Ar_addOneDeparture 1 = .ok (.istore_n 3, 1) := by decide +kernel
theorem d_Ar_addOneDeparture_2 : decode b_Ar_addOneDeparture 2 = .ok (.iload_n 3, 1) := by decide +kernel
theorem d_Ar_addOneDeparture_3 : decode b_Ar_addOneDeparture 3 = .ok (.aload_n 1, 1) := by decide +kernel
theorem d_Ar_addOneDeparture_4 : decode b_Ar_addOneDeparture 4 = .ok (.getfield 50, 3) := by decide +kernel
theorem d_Ar_addOneDeparture_7 : decode b_Ar_addOneDeparture 7 = .ok (.getfield 54, 3) := by decide +kernel
theorem d_Ar_addOneDeparture_10 : decode b_Ar_addOneDeparture 10 = .ok (.if_icmp .ge 78, 3) := by decide +kernel
theorem d_Ar_addOneDeparture_13 : decode b_Ar_addOneDeparture 13 = .ok (.aload_n 1, 1) := by decide +kernel
theorem d_Ar_addOneDeparture_14 : decode b_Ar_addOneDeparture 14 = .ok (.getfield 50, 3) := by decide +kernel
theorem d_Ar_addOneDeparture_17 : decode b_Ar_addOneDeparture 17 = .ok (.iload_n 3, 1) := by decide +kernel
theorem d_Ar_addOneDeparture_18 : decode b_Ar_addOneDeparture 18 = .ok (.invokevirtual 60, 3) := by decide +kernel
theorem d_Ar_addOneDeparture_21 : decode b_Ar_addOneDeparture 21 = .ok (.istore 4, 2) := by decide +kernel
theorem d_Ar_addOneDeparture_23 : decode b_Ar_addOneDeparture 23 = .ok (.aload_n 1, 1) := by decide +kernel
theorem d_Ar_addOneDeparture_24 : decode b_Ar_addOneDeparture 24 = .ok (.getfield 50, 3) := by decide +kernel
theorem d_Ar_addOneDeparture_27 : decode b_Ar_addOneDeparture 27 = .ok (.getfield 64, 3) := by decide +kernel
theorem d_Ar_addOneDeparture_30 : decode b_Ar_addOneDeparture 30 = .ok (.iload_n 3, 1) := by decide +kernel
theorem d_Ar_addOneDeparture_31 : decode b_Ar_addOneDeparture 31 = .ok (.iaload, 1) := by decide +kernel
theorem d_Ar_addOneDeparture_32 : decode b_Ar_addOneDeparture 32 = .ok (.istore 5, 2) := by decide +kernel
theorem d_Ar_addOneDeparture_34 : decode b_Ar_addOneDeparture 34 = .ok (.aload_n 2, 1) := by decide +kernel
theorem d_Ar_addOneDeparture_35 : decode b_Ar_addOneDeparture 35 = .ok (.aload_n 1, 1) := by decide +kernel
theorem d_Ar_addOneDeparture_36 : decode b_Ar_addOneDeparture 36 = .ok (.aload_n 1, 1) := by decide +kernel
theorem d_Ar_addOneDeparture_37 : decode b_Ar_addOneDeparture 37 = .ok (.getfield 67, 3) := by decide +kernel
theorem d_Ar_addOneDeparture_40 : decode b_Ar_addOneDeparture 40 = .ok (.getfield 71, 3) := by decide +kernel
theorem d_Ar_addOneDeparture_43 : decode b_Ar_addOneDeparture 43 = .ok (.iload 4, 2) := by decide +kernel
theorem d_Ar_addOneDeparture_45 : decode b_Ar_addOneDeparture 45 = .ok (.iaload, 1) := by decide +kernel
theorem d_Ar_addOneDeparture_46 : decode b_Ar_addOneDeparture 46 = .ok (.iload 5, 2) := by decide +kernel
theorem d_Ar_addOneDeparture_48 : decode b_Ar_addOneDeparture 48 = .ok (.invokevirtual 76, 3) := by decide +kernel
theorem d_Ar_addOneDeparture_51 : decode b_Ar_addOneDeparture 51 = .ok (.ifCond .eq 31, 3) := by decide +kernel
theorem d_Ar_addOneDeparture_54 : decode b_Ar_addOneDeparture 54 = .ok (.aload_n 0, 1) := by decide +kernel
theorem d_Ar_addOneDeparture_55 : decode b_Ar_addOneDeparture 55 = .ok (.aload_n 1, 1) := by decide +kernel
theorem d_Ar_addOneDeparture_56 : decode b_Ar_addOneDeparture 56 = .ok (.aload_n 1, 1) := by decide +kernel
theorem d_Ar_addOneDeparture_57 : decode b_Ar_addOneDeparture 57 = .ok (.getfield 67, 3) := by decide +kernel
theorem d_Ar_addOneDeparture_60 : decode b_Ar_addOneDeparture 60 = .ok (.getfield 80, 3) := by decide +kernel
theorem d_Ar_addOneDeparture_63 : decode b_Ar_addOneDeparture 63 = .ok (.iload 4, 2) := by decide +kernel
theorem d_Ar_addOneDeparture_65 : decode b_Ar_addOneDeparture 65 = .ok (.iaload, 1) := by decide +kernel
theorem d_Ar_addOneDeparture_66 : decode b_Ar_addOneDeparture 66 = .ok (.iload 5, 2) := by decide +kernel
theorem d_Ar_addOneDeparture_68 : decode b_Ar_addOneDeparture 68 = .ok (.aload_n 1, 1) := by decide +kernel
theorem d_Ar_addOneDeparture_69 : decode b_Ar_addOneDeparture 69 = .ok (.getfield 67, 3) := by decide +kernel
theorem d_Ar_addOneDeparture_72 : decode b_Ar_addOneDeparture 72 = .ok (.getfield 83, 3) := by decide +kernel
theorem d_Ar_addOneDeparture_75 : decode b_Ar_addOneDeparture 75 = .ok (.iload 4, 2) := by decide +kernel
theorem d_Ar_addOneDeparture_77 : decode b_Ar_addOneDeparture 77 = .ok (.iaload, 1) := by decide +kernel
theorem d_Ar_addOneDeparture_78 : decode b_Ar_addOneDeparture 78 = .ok (.iadd, 1) := by decide +kernel
theorem d_Ar_addOneDeparture_79 : decode b_Ar_addOneDeparture 79 = .ok (.invokevirtual 86, 3) := by decide +kernel
theorem d_Ar_addOneDeparture_82 : decode b_Ar_addOneDeparture 82 = .ok (.iinc 3 1, 3) := by decide +kernel
theorem d_Ar_addOneDeparture_85 : decode b_Ar_addOneDeparture 85 = .ok (.goto (-83), 3) := by decide +kernel
theorem d_Ar_addOneDeparture_88 : decode b_Ar_addOneDeparture 88 = .ok (.return_, 1) := by decide +kernel
theorem d_Ar_mayTake_0 : decode b_Ar_mayTake 0 = .ok (.iload_n 3, 1) := by decide +kernel
theorem d_Ar_mayTake_1 : decode b_Ar_mayTake 1 = .ok (.aload_n 0, 1) := by decide +kernel
theorem d_Ar_mayTake_2 : decode b_Ar_mayTake 2 = .ok (.getfield 15, 3) := by decide +kernel
theorem d_Ar_mayTake_5 : decode b_Ar_mayTake 5 = .ok (.iload_n 2, 1) := by decide +kernel
theorem d_Ar_mayTake_6 : decode b_Ar_mayTake 6 = .ok (.iaload, 1) := by decide +kernel
theorem d_Ar_mayTake_7 : decode b_Ar_mayTake 7 = .ok (.if_icmp .ge 20, 3) := by decide +kernel
theorem d_Ar_mayTake_10 : decode b_Ar_mayTake 10 = .ok (.iload_n 3, 1) := by decide +kernel
theorem d_Ar_mayTake_11 : decode b_Ar_mayTake 11 = .ok (.aload_n 0, 1) := by decide +kernel
theorem d_Ar_mayTake_12 : decode b_Ar_mayTake 12 = .ok (.getfield 9, 3) := by decide +kernel
theorem d_Ar_mayTake_15 : decode b_Ar_mayTake 15 = .ok (.iload_n 2, 1) := by decide +kernel
theorem d_Ar_mayTake_16 : decode b_Ar_mayTake 16 = .ok (.iaload, 1) := by decide +kernel
theorem d_Ar_mayTake_17 : decode b_Ar_mayTake 17 = .ok (.aload_n 1, 1) := by decide +kernel
theorem d_Ar_mayTake_18 : decode b_Ar_mayTake 18 = .ok (.getfield 89, 3) := by decide +kernel
theorem d_Ar_mayTake_21 : decode b_Ar_mayTake 21 = .ok (.iload_n 2, 1) := by decide +kernel
theorem d_Ar_mayTake_22 : decode b_Ar_mayTake 22 = .ok (.iaload, 1) := by decide +kernel
theorem d_Ar_mayTake_23 : decode b_Ar_mayTake 23 = .ok (.iadd, 1) := by decide +kernel
theorem d_Ar_mayTake_24 : decode b_Ar_mayTake 24 = .ok (.if_icmp .lt 7, 3) := by decide +kernel
theorem d_Ar_mayTake_27 : decode b_Ar_mayTake 27 = .ok (.iconst 1, 1) := by decide +kernel
theorem d_Ar_mayTake_28 : decode b_Ar_mayTake 28 = .ok (.goto 4, 3) := by decide +kernel
theorem d_Ar_mayTake_31 : decode b_Ar_mayTake 31 = .ok (.iconst 0, 1) := by decide +kernel
theorem d_Ar_mayTake_32 : decode b_Ar_mayTake 32 = .ok (.ireturn, 1) := by decide +kernel
theorem d_Ar_arrive_0 : decode b_Ar_arrive 0 = .ok (.iload_n 3, 1) := by decide +kernel
theorem d_Ar_arrive_1 : decode b_Ar_arrive 1 = .ok (.aload_n 0, 1) := by decide +kernel
theorem d_Ar_arrive_2 : decode b_Ar_arrive 2 = .ok (.getfield 9, 3) := by decide +kernel
theorem d_Ar_arrive_5 : decode b_Ar_arrive 5 = .ok (.iload_n 2, 1) := by decide +kernel
theorem d_Ar_arrive_6 : decode b_Ar_arrive 6 = .ok (.iaload, 1) := by decide +kernel
theorem d_Ar_arrive_7 : decode b_Ar_arrive 7 = .ok (.if_icmp .lt 4, 3) := by decide +kernel
theorem d_Ar_arrive_10 : decode b_Ar_arrive 10 = .ok (.return_, 1) := by decide +kernel
theorem d_Ar_arrive_11 : decode b_Ar_arrive 11 = .ok (.aload_n 0, 1) := by decide +kernel
theorem d_Ar_arrive_12 : decode b_Ar_arrive 12 = .ok (.getfield 9, 3) := by decide +kernel
theorem d_Ar_arrive_15 : decode b_Ar_arrive 15 = .ok (.iload_n 2, 1) := by decide +kernel
theorem d_Ar_arrive_16 : decode b_Ar_arrive 16 = .ok (.iload_n 3, 1) := by decide +kernel
theorem d_Ar_arrive_17 : decode b_Ar_arrive 17 = .ok (.iastore, 1) := by decide +kernel
theorem d_Ar_arrive_18 : decode b_Ar_arrive 18 = .ok (.iconst 0, 1) := by decide +kernel
theorem d_Ar_arrive_19 : decode b_Ar_arrive 19 = .ok (.istore 4, 2) := by decide +kernel
theorem d_Ar_arrive_21 : decode b_Ar_arrive 21 = .ok (.iload 4, 2) := by decide +kernel
theorem d_Ar_arrive_23 : decode b_Ar_arrive 23 = .ok (.aload_n 1, 1) := by decide +kernel
theorem d_Ar_arrive_24 : decode b_Ar_arrive 24 = .ok (.getfield 92, 3) := by decide +kernel
theorem d_Ar_arrive_27 : decode b_Ar_arrive 27 = .ok (.if_icmp .ge 38, 3) := by decide +kernel
theorem d_Ar_arrive_30 : decode b_Ar_arrive 30 = .ok (.aload_n 0, 1) := by decide +kernel
theorem d_Ar_arrive_31 : decode b_Ar_arrive 31 = .ok (.getfield 15, 3) := by decide +kernel
theorem d_Ar_arrive_34 : decode b_Ar_arrive 34 = .ok (.iload 4, 2) := by decide +kernel
theorem d_Ar_arrive_36 : decode b_Ar_arrive 36 = .ok (.aload_n 0, 1) := by decide +kernel
theorem d_Ar_arrive_37 : decode b_Ar_arrive 37 = .ok (.getfield 15, 3) := by decide +kernel
theorem d_Ar_arrive_40 : decode b_Ar_arrive 40 = .ok (.iload 4, 2) := by decide +kernel
theorem d_Ar_arrive_42 : decode b_Ar_arrive 42 = .ok (.iaload, 1) := by decide +kernel
theorem d_Ar_arrive_43 : decode b_Ar_arrive 43 = .ok (.iload_n 3, 1) := by decide +kernel
theorem d_Ar_arrive_44 : decode b_Ar_arrive 44 = .ok (.aload_n 1, 1) := by decide +kernel
theorem d_Ar_arrive_45 : decode b_Ar_arrive 45 = .ok (.getfield 31, 3) := by decide +kernel
theorem d_Ar_arrive_48 : decode b_Ar_arrive 48 = .ok (.iload_n 2, 1) := by decide +kernel
theorem d_Ar_arrive_49 : decode b_Ar_arrive 49 = .ok (.iload 4, 2) := by decide +kernel
theorem d_Ar_arrive_51 : decode b_Ar_arrive 51 = .ok (.invokevirtual 95, 3) := by decide +kernel
theorem d_Ar_arrive_54 : decode b_Ar_arrive 54 = .ok (.iadd, 1) := by decide +kernel
theorem d_Ar_arrive_55 : decode b_Ar_arrive 55 = .ok (.invokestatic 18, 3) := by decide +kernel
theorem d_Ar_arrive_58 : decode b_Ar_arrive 58 = .ok (.iastore, 1) := by decide +kernel
theorem d_Ar_arrive_59 : decode b_Ar_arrive 59 = .ok (.iinc 4 1, 3) := by decide +kernel
theorem d_Ar_arrive_62 : decode b_Ar_arrive 62 = .ok (.goto (-41), 3) := by decide +kernel
theorem d_Ar_arrive_65 : decode b_Ar_arrive 65 = .ok (.return_, 1) := by decide +kernel
theorem d_Ar_lastWalk_0 : decode b_Ar_lastWalk 0 = .ok (.iconst 0, 1) := by decide +kernel
theorem d_Ar_lastWalk_1 : decode b_Ar_lastWalk 1 = .ok (.istore_n 3, 1) := by decide +kernel
theorem d_Ar_lastWalk_2 : decode b_Ar_lastWalk 2 = .ok (.iload_n 3, 1) := by decide +kernel
theorem d_Ar_lastWalk_3 : decode b_Ar_lastWalk 3 = .ok (.aload_n 1, 1) := by decide +kernel
theorem d_Ar_lastWalk_4 : decode b_Ar_lastWalk 4 = .ok (.getfield 31, 3) := by decide +kernel
theorem d_Ar_lastWalk_7 : decode b_Ar_lastWalk 7 = .ok (.getfield 98, 3) := by decide +kernel
theorem d_Ar_lastWalk_10 : decode b_Ar_lastWalk 10 = .ok (.if_icmp .ge 60, 3) := by decide +kernel
theorem d_Ar_lastWalk_13 : decode b_Ar_lastWalk 13 = .ok (.aload_n 0, 1) := by decide +kernel
theorem d_Ar_lastWalk_14 : decode b_Ar_lastWalk 14 = .ok (.aload_n 1, 1) := by decide +kernel
theorem d_Ar_lastWalk_15 : decode b_Ar_lastWalk 15 = .ok (.getfield 31, 3) := by decide +kernel
theorem d_Ar_lastWalk_18 : decode b_Ar_lastWalk 18 = .ok (.getfield 99, 3) := by decide +kernel
theorem d_Ar_lastWalk_21 : decode b_Ar_lastWalk 21 = .ok (.iload_n 3, 1) := by decide +kernel
theorem d_Ar_lastWalk_22 : decode b_Ar_lastWalk 22 = .ok (.iaload, 1) := by decide +kernel
theorem d_Ar_lastWalk_23 : decode b_Ar_lastWalk 23 = .ok (.invokevirtual 100, 3) := by decide +kernel
theorem d_Ar_lastWalk_26 : decode b_Ar_lastWalk 26 = .ok (.aload_n 1, 1) := by decide +kernel
theorem d_Ar_lastWalk_27 : decode b_Ar_lastWalk 27 = .ok (.getfield 31, 3) := by decide +kernel
theorem d_Ar_lastWalk_30 : decode b_Ar_lastWalk 30 = .ok (.getfield 103, 3) := by decide +kernel
theorem d_Ar_lastWalk_33 : decode b_Ar_lastWalk 33 = .ok (.iload_n 3, 1) := by decide +kernel
theorem d_Ar_lastWalk_34 : decode b_Ar_lastWalk 34 = .ok (.iaload, 1) := by decide +kernel
theorem d_Ar_lastWalk_35 : decode b_Ar_lastWalk 35 = .ok (.iadd, 1) := by decide +kernel
theorem d_Ar_lastWalk_36 : decode b_Ar_lastWalk 36 = .ok (.istore 4, 2) := by decide +kernel
theorem d_Ar_lastWalk_38 : decode b_Ar_lastWalk 38 = .ok (.aload_n 1, 1) := by decide +kernel
theorem d_Ar_lastWalk_39 : decode b_Ar_lastWalk 39 = .ok (.getfield 31, 3) := by decide +kernel
theorem d_Ar_lastWalk_42 : decode b_Ar_lastWalk 42 = .ok (.getfield 104, 3) := by decide +kernel
theorem d_Ar_lastWalk_45 : decode b_Ar_lastWalk 45 = .ok (.iload_n 3, 1) := by decide +kernel
theorem d_Ar_lastWalk_46 : decode b_Ar_lastWalk 46 = .ok (.iaload, 1) := by decide +kernel
theorem d_Ar_lastWalk_47 : decode b_Ar_lastWalk 47 = .ok (.iload_n 2, 1) := by decide +kernel
theorem d_Ar_lastWalk_48 : decode b_Ar_lastWalk 48 = .ok (.if_icmp .ne 16, 3) := by decide +kernel
theorem d_Ar_lastWalk_51 : decode b_Ar_lastWalk 51 = .ok (.iload 4, 2) := by decide +kernel
theorem d_Ar_lastWalk_53 : decode b_Ar_lastWalk 53 = .ok (.aload_n 0, 1) := by decide +kernel
theorem d_Ar_lastWalk_54 : decode b_Ar_lastWalk 54 = .ok (.getfield 15, 3) := by decide +kernel
theorem d_Ar_lastWalk_57 : decode b_Ar_lastWalk 57 = .ok (.iload_n 2, 1) := by decide +kernel
theorem d_Ar_lastWalk_58 : decode b_Ar_lastWalk 58 = .ok (.iaload, 1) := by decide +kernel
theorem d_Ar_lastWalk_59 : decode b_Ar_lastWalk 59 = .ok (.if_icmp .ne 5, 3) := by decide +kernel
theorem d_Ar_lastWalk_62 : decode b_Ar_lastWalk 62 = .ok (.iload_n 3, 1) := by decide +kernel
theorem d_Ar_lastWalk_63 : decode b_Ar_lastWalk 63 = .ok (.ireturn, 1) := by decide +kernel
theorem d_Ar_lastWalk_64 : decode b_Ar_lastWalk 64 = .ok (.iinc 3 1, 3) := by decide +kernel
theorem d_Ar_lastWalk_67 : decode b_Ar_lastWalk 67 = .ok (.goto (-65), 3) := by decide +kernel
theorem d_Ar_lastWalk_70 : decode b_Ar_lastWalk 70 = .ok (.iconst (-1), 1) := by decide +kernel
theorem d_Ar_lastWalk_71 : decode b_Ar_lastWalk 71 = .ok (.ireturn, 1) := by decide +kernel
theorem d_Ar_lastDeparture_0 : decode b_Ar_lastDeparture 0 = .ok (.iconst 0, 1) := by decide +kernel
theorem d_Ar_lastDeparture_1 : decode b_Ar_lastDeparture 1 = .ok (.istore_n 3, 1) := by decide +kernel
theorem d_Ar_lastDeparture_2 : decode b_Ar_lastDeparture 2 = .ok (.iload_n 3, 1) := by decide +kernel
theorem d_Ar_lastDeparture_3 : decode b_Ar_lastDeparture 3 = .ok (.aload_n 1, 1) := by decide +kernel
theorem d_Ar_lastDeparture_4 : decode b_Ar_lastDeparture 4 = .ok (.getfield 67, 3) := by decide +kernel
theorem d_Ar_lastDeparture_7 : decode b_Ar_lastDeparture 7 = .ok (.getfield 105, 3) := by decide +kernel
theorem d_Ar_lastDeparture_10 : decode b_Ar_lastDeparture 10 = .ok (.if_icmp .ge 60, 3) := by decide +kernel
theorem d_Ar_lastDeparture_13 : decode b_Ar_lastDeparture 13 = .ok (.aload_n 1, 1) := by decide +kernel
theorem d_Ar_lastDeparture_14 : decode b_Ar_lastDeparture 14 = .ok (.getfield 67, 3) := by decide +kernel
theorem d_Ar_lastDeparture_17 : decode b_Ar_lastDeparture 17 = .ok (.getfield 80, 3) := by decide +kernel
theorem d_Ar_lastDeparture_20 : decode b_Ar_lastDeparture 20 = .ok (.iload_n 3, 1) := by decide +kernel
theorem d_Ar_lastDeparture_21 : decode b_Ar_lastDeparture 21 = .ok (.iaload, 1) := by decide +kernel
theorem d_Ar_lastDeparture_22 : decode b_Ar_lastDeparture 22 = .ok (.iload_n 2, 1) := by decide +kernel
theorem d_Ar_lastDeparture_23 : decode b_Ar_lastDeparture 23 = .ok (.if_icmp .eq 6, 3) := by decide +kernel
theorem d_Ar_lastDeparture_26 : decode b_Ar_lastDeparture 26 = .ok (.goto 38, 3) := by decide +kernel
theorem d_Ar_lastDeparture_29 : decode b_Ar_lastDeparture 29 = .ok (.iconst 0, 1) := by decide +kernel
theorem d_Ar_lastDeparture_30 : decode b_Ar_lastDeparture 30 = .ok (.istore 4, 2) := by decide +kernel
theorem d_Ar_lastDeparture_32 : decode b_Ar_lastDeparture 32 = .ok (.iload 4, 2) := by decide +kernel
theorem d_Ar_lastDeparture_34 : decode b_Ar_lastDeparture 34 = .ok (.bipush 7, 2) := by decide +kernel
theorem d_Ar_lastDeparture_36 : decode b_Ar_lastDeparture 36 = .ok (.if_icmp .ge 28, 3) := by decide +kernel
theorem d_Ar_lastDeparture_39 : decode b_Ar_lastDeparture 39 = .ok (.aload_n 0, 1) := by decide +kernel
theorem d_Ar_lastDeparture_40 : decode b_Ar_lastDeparture 40 = .ok (.aload_n 1, 1) := by decide +kernel
theorem d_Ar_lastDeparture_41 : decode b_Ar_lastDeparture 41 = .ok (.iload_n 3, 1) := by decide +kernel
theorem d_Ar_lastDeparture_42 : decode b_Ar_lastDeparture 42 = .ok (.iload 4, 2) := by decide +kernel
theorem d_Ar_lastDeparture_44 : decode b_Ar_lastDeparture 44 = .ok (.invokevirtual 106, 3) := by decide +kernel
theorem d_Ar_lastDeparture_47 : decode b_Ar_lastDeparture 47 = .ok (.ifCond .eq 11, 3) := by decide +kernel
theorem d_Ar_lastDeparture_50 : decode b_Ar_lastDeparture 50 = .ok (.iload_n 3, 1) := by decide +kernel
theorem d_Ar_lastDeparture_51 : decode b_Ar_lastDeparture 51 = .ok (.bipush 7, 2) := by decide +kernel
theorem d_Ar_lastDeparture_53 : decode b_Ar_lastDeparture 53 = .ok (.imul, 1) := by decide +kernel
theorem d_Ar_lastDeparture_54 : decode b_Ar_lastDeparture 54 = .ok (.iload 4, 2) := by decide +kernel
theorem d_Ar_lastDeparture_56 : decode b_Ar_lastDeparture 56 = .ok (.iadd, 1) := by decide +kernel
theorem d_Ar_lastDeparture_57 : decode b_Ar_lastDeparture 57 = .ok (.ireturn, 1) := by decide +kernel
theorem d_Ar_lastDeparture_58 : decode b_Ar_lastDeparture 58 = .ok (.iinc 4 1, 3) := by decide +kernel
theorem d_Ar_lastDeparture_61 : decode b_Ar_lastDeparture 61 = .ok (.goto (-29), 3) := by decide +kernel
theorem d_Ar_lastDeparture_64 : decode b_Ar_lastDeparture 64 = .ok (.iinc 3 1, 3) := by decide +kernel
theorem d_Ar_lastDeparture_67 : decode b_Ar_lastDeparture 67 = .ok (.goto (-65), 3) := by decide +kernel
theorem d_Ar_lastDeparture_70 : decode b_Ar_lastDeparture 70 = .ok (.iconst (-1), 1) := by decide +kernel
theorem d_Ar_lastDeparture_71 : decode b_Ar_lastDeparture 71 = .ok (.ireturn, 1) := by decide +kernel
theorem d_Ar_endsByRide_0 : decode b_Ar_endsByRide 0 = .ok (.iload_n 2, 1) := by decide +kernel
theorem d_Ar_endsByRide_1 : decode b_Ar_endsByRide 1 = .ok (.bipush 7, 2) := by decide +kernel
theorem d_Ar_endsByRide_3 : decode b_Ar_endsByRide 3 = .ok (.imul, 1) := by decide +kernel
theorem d_Ar_endsByRide_4 : decode b_Ar_endsByRide 4 = .ok (.iload_n 3, 1) := by decide +kernel
theorem d_Ar_endsByRide_5 : decode b_Ar_endsByRide 5 = .ok (.iadd, 1) := by decide +kernel
theorem d_Ar_endsByRide_6 : decode b_Ar_endsByRide 6 = .ok (.istore 4, 2) := by decide +kernel
theorem d_Ar_endsByRide_8 : decode b_Ar_endsByRide 8 = .ok (.aload_n 1, 1) := by decide +kernel
theorem d_Ar_endsByRide_9 : decode b_Ar_endsByRide 9 = .ok (.getfield 67, 3) := by decide +kernel
theorem d_Ar_endsByRide_12 : decode b_Ar_endsByRide 12 = .ok (.iload 4, 2) := by decide +kernel
theorem d_Ar_endsByRide_14 : decode b_Ar_endsByRide 14 = .ok (.invokevirtual 109, 3) := by decide +kernel
theorem d_Ar_endsByRide_17 : decode b_Ar_endsByRide 17 = .ok (.ifCond .ne 5, 3) := by decide +kernel
theorem d_Ar_endsByRide_20 : decode b_Ar_endsByRide 20 = .ok (.iconst 0, 1) := by decide +kernel
theorem d_Ar_endsByRide_21 : decode b_Ar_endsByRide 21 = .ok (.ireturn, 1) := by decide +kernel
theorem d_Ar_endsByRide_22 : decode b_Ar_endsByRide 22 = .ok (.aload_n 1, 1) := by decide +kernel
theorem d_Ar_endsByRide_23 : decode b_Ar_endsByRide 23 = .ok (.getfield 67, 3) := by decide +kernel
theorem d_Ar_endsByRide_26 : decode b_Ar_endsByRide 26 = .ok (.iload 4, 2) := by decide +kernel
theorem d_Ar_endsByRide_28 : decode b_Ar_endsByRide 28 = .ok (.invokevirtual 113, 3) := by decide +kernel
theorem d_Ar_endsByRide_31 : decode b_Ar_endsByRide 31 = .ok (.istore 5, 2) := by decide +kernel
theorem d_Ar_endsByRide_33 : decode b_Ar_endsByRide 33 = .ok (.iload 5, 2) := by decide +kernel
theorem d_Ar_endsByRide_35 : decode b_Ar_endsByRide 35 = .ok (.aload_n 1, 1) := by decide +kernel
theorem d_Ar_endsByRide_36 : decode b_Ar_endsByRide 36 = .ok (.getfield 67, 3) := by decide +kernel
theorem d_Ar_endsByRide_39 : decode b_Ar_endsByRide 39 = .ok (.getfield 83, 3) := by decide +kernel
theorem d_Ar_endsByRide_42 : decode b_Ar_endsByRide 42 = .ok (.iload_n 2, 1) := by decide +kernel
theorem d_Ar_endsByRide_43 : decode b_Ar_endsByRide 43 = .ok (.iaload, 1) := by decide +kernel
theorem d_Ar_endsByRide_44 : decode b_Ar_endsByRide 44 = .ok (.iadd, 1) := by decide +kernel
theorem d_Ar_endsByRide_45 : decode b_Ar_endsByRide 45 = .ok (.aload_n 0, 1) := by decide +kernel
theorem d_Ar_endsByRide_46 : decode b_Ar_endsByRide 46 = .ok (.getfield 9, 3) := by decide +kernel
theorem d_Ar_endsByRide_49 : decode b_Ar_endsByRide 49 = .ok (.aload_n 1, 1) := by decide +kernel
theorem d_Ar_endsByRide_50 : decode b_Ar_endsByRide 50 = .ok (.getfield 67, 3) := by decide +kernel
theorem d_Ar_endsByRide_53 : decode b_Ar_endsByRide 53 = .ok (.getfield 80, 3) := by decide +kernel
theorem d_Ar_endsByRide_56 : decode b_Ar_endsByRide 56 = .ok (.iload_n 2, 1) := by decide +kernel
theorem d_Ar_endsByRide_57 : decode b_Ar_endsByRide 57 = .ok (.iaload, 1) := by decide +kernel
theorem d_Ar_endsByRide_58 : decode b_Ar_endsByRide 58 = .ok (.iaload, 1) := by decide +kernel
theorem d_Ar_endsByRide_59 : decode b_Ar_endsByRide 59 = .ok (.if_icmp .ne 26, 3) := by decide +kernel
theorem d_Ar_endsByRide_62 : decode b_Ar_endsByRide 62 = .ok (.aload_n 0, 1) := by decide +kernel
theorem d_Ar_endsByRide_63 : decode b_Ar_endsByRide 63 = .ok (.aload_n 1, 1) := by decide +kernel
theorem d_Ar_endsByRide_64 : decode b_Ar_endsByRide 64 = .ok (.aload_n 1, 1) := by decide +kernel
theorem d_Ar_endsByRide_65 : decode b_Ar_endsByRide 65 = .ok (.getfield 67, 3) := by decide +kernel
theorem d_Ar_endsByRide_68 : decode b_Ar_endsByRide 68 = .ok (.getfield 71, 3) := by decide +kernel
theorem d_Ar_endsByRide_71 : decode b_Ar_endsByRide 71 = .ok (.iload_n 2, 1) := by decide +kernel
theorem d_Ar_endsByRide_72 : decode b_Ar_endsByRide 72 = .ok (.iaload, 1) := by decide +kernel
theorem d_Ar_endsByRide_73 : decode b_Ar_endsByRide 73 = .ok (.iload 5, 2) := by decide +kernel
theorem d_Ar_endsByRide_75 : decode b_Ar_endsByRide 75 = .ok (.invokevirtual 76, 3) := by decide +kernel
theorem d_Ar_endsByRide_78 : decode b_Ar_endsByRide 78 = .ok (.ifCond .eq 7, 3) := by decide +kernel
theorem d_Ar_endsByRide_81 : decode b_Ar_endsByRide 81 = .ok (.iconst 1, 1) := by decide +kernel
theorem d_Ar_endsByRide_82 : decode b_Ar_endsByRide 82 = .ok (.goto 4, 3) := by decide +kernel
theorem d_Ar_endsByRide_85 : decode b_Ar_endsByRide 85 = .ok (.iconst 0, 1) := by decide +kernel
theorem d_Ar_endsByRide_86 : decode b_Ar_endsByRide 86 = .ok (.ireturn, 1) := by decide +kernel
theorem d_Sp_init_0 : decode b_Sp_init 0 = .ok (.aload_n 0, 1) := by decide +kernel
theorem d_Sp_init_1 : decode b_Sp_init 1 = .ok (.invokespecial 3, 3) := by decide +kernel
theorem d_Sp_init_4 : decode b_Sp_init 4 = .ok (.aload_n 0, 1) := by decide +kernel
theorem d_Sp_init_5 : decode b_Sp_init 5 = .ok (.sipush 280, 3) := by decide +kernel
theorem d_Sp_init_8 : decode b_Sp_init 8 = .ok (.newarray .int, 2) := by decide +kernel
theorem d_Sp_init_10 : decode b_Sp_init 10 = .ok (.putfield 9, 3) := by decide +kernel
theorem d_Sp_init_13 : decode b_Sp_init 13 = .ok (.aload_n 0, 1) := by decide +kernel
theorem d_Sp_init_14 : decode b_Sp_init 14 = .ok (.sipush 601, 3) := by decide +kernel
theorem d_Sp_init_17 : decode b_Sp_init 17 = .ok (.newarray .int, 2) := by decide +kernel
theorem d_Sp_init_19 : decode b_Sp_init 19 = .ok (.putfield 15, 3) := by decide +kernel
theorem d_Sp_init_22 : decode b_Sp_init 22 = .ok (.return_, 1) := by decide +kernel
theorem d_Sp_find_0 : decode b_Sp_find 0 = .ok (.aload_n 0, 1) := by decide +kernel
theorem d_Sp_find_1 : decode b_Sp_find 1 = .ok (.getfield 15, 3) := by decide +kernel
theorem d_Sp_find_4 : decode b_Sp_find 4 = .ok (.ldc 18, 2) := by decide +kernel
theorem d_Sp_find_6 : decode b_Sp_find 6 = .ok (.invokestatic 19, 3) := by decide +kernel
theorem d_Sp_find_9 : decode b_Sp_find 9 = .ok (.aload_n 1, 1) := by decide +kernel
theorem d_Sp_find_10 : decode b_Sp_find 10 = .ok (.getfield 25, 3) := by decide +kernel
theorem d_Sp_find_13 : decode b_Sp_find 13 = .ok (.getfield 31, 3) := by decide +kernel
theorem d_Sp_find_16 : decode b_Sp_find 16 = .ok (.iconst 1, 1) := by decide +kernel
theorem d_Sp_find_17 : decode b_Sp_find 17 = .ok (.isub, 1) := by decide +kernel
theorem d_Sp_find_18 : decode b_Sp_find 18 = .ok (.istore 6, 2) := by decide +kernel
theorem d_Sp_find_20 : decode b_Sp_find 20 = .ok (.iload 6, 2) := by decide +kernel
theorem d_Sp_find_22 : decode b_Sp_find 22 = .ok (.ifCond .lt 90, 3) := by decide +kernel
theorem d_Sp_find_25 : decode b_Sp_find 25 = .ok (.aload_n 1, 1) := by decide +kernel
theorem d_Sp_find_26 : decode b_Sp_find 26 = .ok (.getfield 25, 3) := by decide +kernel
theorem d_Sp_find_29 : decode b_Sp_find 29 = .ok (.getfield 37, 3) := by decide +kernel
theorem d_Sp_find_32 : decode b_Sp_find 32 = .ok (.iload 6, 2) := by decide +kernel
theorem d_Sp_find_34 : decode b_Sp_find 34 = .ok (.iaload, 1) := by decide +kernel
theorem d_Sp_find_35 : decode b_Sp_find 35 = .ok (.iload 4, 2) := by decide +kernel
theorem d_Sp_find_37 : decode b_Sp_find 37 = .ok (.if_icmp .lt 75, 3) := by decide +kernel
theorem d_Sp_find_40 : decode b_Sp_find 40 = .ok (.aload_n 0, 1) := by decide +kernel
theorem d_Sp_find_41 : decode b_Sp_find 41 = .ok (.getfield 9, 3) := by decide +kernel
theorem d_Sp_find_44 : decode b_Sp_find 44 = .ok (.iload 6, 2) := by decide +kernel
theorem d_Sp_find_46 : decode b_Sp_find 46 = .ok (.aload_n 0, 1) := by decide +kernel
theorem d_Sp_find_47 : decode b_Sp_find 47 = .ok (.aload_n 1, 1) := by decide +kernel
theorem d_Sp_find_48 : decode b_Sp_find 48 = .ok (.iload 6, 2) := by decide +kernel
theorem d_Sp_find_50 : decode b_Sp_find 50 = .ok (.iload_n 3, 1) := by decide +kernel
theorem d_Sp_find_51 : decode b_Sp_find 51 = .ok (.invokevirtual 40, 3) := by decide +kernel
theorem d_Sp_find_54 : decode b_Sp_find 54 = .ok (.iastore, 1) := by decide +kernel
theorem d_Sp_find_55 : decode b_Sp_find 55 = .ok (.iload 5, 2) := by decide +kernel
theorem d_Sp_find_57 : decode b_Sp_find 57 = .ok (.aload_n 1, 1) := by decide +kernel
theorem d_Sp_find_58 : decode b_Sp_find 58 = .ok (.iload_n 2, 1) := by decide +kernel
theorem d_Sp_find_59 : decode b_Sp_find 59 = .ok (.iload 6, 2) := by decide +kernel
theorem d_Sp_find_61 : decode b_Sp_find 61 = .ok (.invokestatic 44, 3) := by decide +kernel
theorem d_Sp_find_64 : decode b_Sp_find 64 = .ok (.invokestatic 47, 3) := by decide +kernel
theorem d_Sp_find_67 : decode b_Sp_find 67 = .ok (.istore 7, 2) := by decide +kernel
theorem d_Sp_find_69 : decode b_Sp_find 69 = .ok (.iload 7, 2) := by decide +kernel
theorem d_Sp_find_71 : decode b_Sp_find 71 = .ok (.iload 4, 2) := by decide +kernel
theorem d_Sp_find_73 : decode b_Sp_find 73 = .ok (.if_icmp .lt 33, 3) := by decide +kernel
theorem d_Sp_find_76 : decode b_Sp_find 76 = .ok (.aload_n 0, 1) := by decide +kernel
theorem d_Sp_find_77 : decode b_Sp_find 77 = .ok (.getfield 15, 3) := by decide +kernel
theorem d_Sp_find_80 : decode b_Sp_find 80 = .ok (.iload 7, 2) := by decide +kernel
theorem d_Sp_find_82 : decode b_Sp_find 82 = .ok (.iload 4, 2) := by decide +kernel
theorem d_Sp_find_84 : decode b_Sp_find 84 = .ok (.isub, 1) := by decide +kernel
theorem d_Sp_find_85 : decode b_Sp_find 85 = .ok (.aload_n 0, 1) := by decide +kernel
theorem d_Sp_find_86 : decode b_Sp_find 86 = .ok (.getfield 15, 3) := by decide +kernel
theorem d_Sp_find_89 : decode b_Sp_find 89 = .ok (.iload 7, 2) := by decide +kernel
theorem d_Sp_find_91 : decode b_Sp_find 91 = .ok (.iload 4, 2) := by decide +kernel
theorem d_Sp_find_93 : decode b_Sp_find 93 = .ok (.isub, 1) := by decide +kernel
theorem d_Sp_find_94 : decode b_Sp_find 94 = .ok (.iaload, 1) := by decide +kernel
theorem d_Sp_find_95 : decode b_Sp_find 95 = .ok (.aload_n 0, 1) := by decide +kernel
theorem d_Sp_find_96 : decode b_Sp_find 96 = .ok (.getfield 9, 3) := by decide +kernel
theorem d_Sp_find_99 : decode b_Sp_find 99 = .ok (.iload 6, 2) := by decide +kernel
theorem d_Sp_find_101 : decode b_Sp_find 101 = .ok (.iaload, 1) := by decide +kernel
theorem d_Sp_find_102 : decode b_Sp_find 102 = .ok (.invokestatic 47, 3) := by decide +kernel
theorem d_Sp_find_105 : decode b_Sp_find 105 = .ok (.iastore, 1) := by decide +kernel
theorem d_Sp_find_106 : decode b_Sp_find 106 = .ok (.iinc 6 (-1), 3) := by decide +kernel
theorem d_Sp_find_109 : decode b_Sp_find 109 = .ok (.goto (-89), 3) := by decide +kernel
theorem d_Sp_find_112 : decode b_Sp_find 112 = .ok (.aload_n 0, 1) := by decide +kernel
theorem d_Sp_find_113 : decode b_Sp_find 113 = .ok (.iload 4, 2) := by decide +kernel
theorem d_Sp_find_115 : decode b_Sp_find 115 = .ok (.iload 5, 2) := by decide +kernel
theorem d_Sp_find_117 : decode b_Sp_find 117 = .ok (.aload_n 1, 1) := by decide +kernel
theorem d_Sp_find_118 : decode b_Sp_find 118 = .ok (.getfield 53, 3) := by decide +kernel
theorem d_Sp_find_121 : decode b_Sp_find 121 = .ok (.iload_n 2, 1) := by decide +kernel
theorem d_Sp_find_122 : decode b_Sp_find 122 = .ok (.iload_n 3, 1) := by decide +kernel
theorem d_Sp_find_123 : decode b_Sp_find 123 = .ok (.invokevirtual 57, 3) := by decide +kernel
theorem d_Sp_find_126 : decode b_Sp_find 126 = .ok (.invokevirtual 62, 3) := by decide +kernel
theorem d_Sp_find_129 : decode b_Sp_find 129 = .ok (.return_, 1) := by decide +kernel
theorem d_Sp_spread_0 : decode b_Sp_spread 0 = .ok (.ldc 18, 2) := by decide +kernel
theorem d_Sp_spread_2 : decode b_Sp_spread 2 = .ok (.istore 4, 2) := by decide +kernel
theorem d_Sp_spread_4 : decode b_Sp_spread 4 = .ok (.iload_n 2, 1) := by decide +kernel
theorem d_Sp_spread_5 : decode b_Sp_spread 5 = .ok (.istore 5, 2) := by decide +kernel
theorem d_Sp_spread_7 : decode b_Sp_spread 7 = .ok (.iload 5, 2) := by decide +kernel
theorem d_Sp_spread_9 : decode b_Sp_spread 9 = .ok (.iload_n 1, 1) := by decide +kernel
theorem d_Sp_spread_10 : decode b_Sp_spread 10 = .ok (.if_icmp .lt 43, 3) := by decide +kernel
theorem d_Sp_spread_13 : decode b_Sp_spread 13 = .ok (.iload 4, 2) := by decide +kernel
theorem d_Sp_spread_15 : decode b_Sp_spread 15 = .ok (.aload_n 0, 1) := by decide +kernel
theorem d_Sp_spread_16 : decode b_Sp_spread 16 = .ok (.getfield 15, 3) := by decide +kernel
theorem d_Sp_spread_19 : decode b_Sp_spread 19 = .ok (.iload 5, 2) := by decide +kernel
theorem d_Sp_spread_21 : decode b_Sp_spread 21 = .ok (.iload_n 1, 1) := by decide +kernel
theorem d_Sp_spread_22 : decode b_Sp_spread 22 = .ok (.isub, 1) := by decide +kernel
theorem d_Sp_spread_23 : decode b_Sp_spread 23 = .ok (.iaload, 1) := by decide +kernel
theorem d_Sp_spread_24 : decode b_Sp_spread 24 = .ok (.invokestatic 47, 3) := by decide +kernel
theorem d_Sp_spread_27 : decode b_Sp_spread 27 = .ok (.istore 4, 2) := by decide +kernel
theorem d_Sp_spread_29 : decode b_Sp_spread 29 = .ok (.aload_n 0, 1) := by decide +kernel
theorem d_Sp_spread_30 : decode b_Sp_spread 30 = .ok (.getfield 15, 3) := by decide +kernel
theorem d_Sp_spread_33 : decode b_Sp_spread 33 = .ok (.iload 5, 2) := by decide +kernel
theorem d_Sp_spread_35 : decode b_Sp_spread 35 = .ok (.iload_n 1, 1) := by decide +kernel
theorem d_Sp_spread_36 : decode b_Sp_spread 36 = .ok (.isub, 1) := by decide +kernel
theorem d_Sp_spread_37 : decode b_Sp_spread 37 = .ok (.iload 4, 2) := by decide +kernel
theorem d_Sp_spread_39 : decode b_Sp_spread 39 = .ok (.iload 5, 2) := by decide +kernel
theorem d_Sp_spread_41 : decode b_Sp_spread 41 = .ok (.iload_n 3, 1) := by decide +kernel
theorem d_Sp_spread_42 : decode b_Sp_spread 42 = .ok (.iadd, 1) := by decide +kernel
theorem d_Sp_spread_43 : decode b_Sp_spread 43 = .ok (.invokestatic 47, 3) := by decide +kernel
theorem d_Sp_spread_46 : decode b_Sp_spread 46 = .ok (.iastore, 1) := by decide +kernel
theorem d_Sp_spread_47 : decode b_Sp_spread 47 = .ok (.iinc 5 (-1), 3) := by decide +kernel
theorem d_Sp_spread_50 : decode b_Sp_spread 50 = .ok (.goto (-43), 3) := by decide +kernel
theorem d_Sp_spread_53 : decode b_Sp_spread 53 = .ok (.return_, 1) := by decide +kernel
theorem d_Sp_latestBeginning_0 : decode b_Sp_latestBeginning 0 = .ok (.iload 4, 2) := by decide +kernel
theorem d_Sp_latestBeginning_2 : decode b_Sp_latestBeginning 2 = .ok (.aload_n 1, 1) := by decide +kernel
theorem d_Sp_latestBeginning_3 : decode b_Sp_latestBeginning 3 = .ok (.getfield 53, 3) := by decide +kernel
theorem d_Sp_latestBeginning_6 : decode b_Sp_latestBeginning 6 = .ok (.iload_n 2, 1) := by decide +kernel
theorem d_Sp_latestBeginning_7 : decode b_Sp_latestBeginning 7 = .ok (.iload_n 3, 1) := by decide +kernel
theorem d_Sp_latestBeginning_8 : decode b_Sp_latestBeginning 8 = .ok (.invokevirtual 57, 3) := by decide +kernel
theorem d_Sp_latestBeginning_11 : decode b_Sp_latestBeginning 11 = .ok (.isub, 1) := by decide +kernel
theorem d_Sp_latestBeginning_12 : decode b_Sp_latestBeginning 12 = .ok (.istore 5, 2) := by decide +kernel
theorem d_Sp_latestBeginning_14 : decode b_Sp_latestBeginning 14 = .ok (.aload_n 1, 1) := by decide +kernel
theorem d_Sp_latestBeginning_15 : decode b_Sp_latestBeginning 15 = .ok (.getfield 25, 3) := by decide +kernel
theorem d_Sp_latestBeginning_18 : decode b_Sp_latestBeginning 18 = .ok (.getfield 31, 3) := by decide +kernel
theorem d_Sp_latestBeginning_21 : decode b_Sp_latestBeginning 21 = .ok (.iconst 1, 1) := by decide +kernel
theorem d_Sp_latestBeginning_22 : decode b_Sp_latestBeginning 22 = .ok (.isub, 1) := by decide +kernel
theorem d_Sp_latestBeginning_23 : decode b_Sp_latestBeginning 23 = .ok (.istore 6, 2) := by decide +kernel
theorem d_Sp_latestBeginning_25 : decode b_Sp_latestBeginning 25 = .ok (.iload 6, 2) := by decide +kernel
theorem d_Sp_latestBeginning_27 : decode b_Sp_latestBeginning 27 = .ok (.ifCond .lt 50, 3) := by decide +kernel
theorem d_Sp_latestBeginning_30 : decode b_Sp_latestBeginning 30 = .ok (.aload_n 0, 1) := by decide +kernel
theorem d_Sp_latestBeginning_31 : decode b_Sp_latestBeginning 31 = .ok (.getfield 9, 3) := by decide +kernel
theorem d_Sp_latestBeginning_34 : decode b_Sp_latestBeginning 34 = .ok (.iload 6, 2) := by decide +kernel
theorem d_Sp_latestBeginning_36 : decode b_Sp_latestBeginning 36 = .ok (.aload_n 0, 1) := by decide +kernel
theorem d_Sp_latestBeginning_37 : decode b_Sp_latestBeginning 37 = .ok (.aload_n 1, 1) := by decide +kernel
theorem d_Sp_latestBeginning_38 : decode b_Sp_latestBeginning 38 = .ok (.iload 6, 2) := by decide +kernel
theorem d_Sp_latestBeginning_40 : decode b_Sp_latestBeginning 40 = .ok (.iload_n 3, 1) := by decide +kernel
theorem d_Sp_latestBeginning_41 : decode b_Sp_latestBeginning 41 = .ok (.invokevirtual 40, 3) := by decide +kernel
theorem d_Sp_latestBeginning_44 : decode b_Sp_latestBeginning 44 = .ok (.iastore, 1) := by decide +kernel
theorem d_Sp_latestBeginning_45 : decode b_Sp_latestBeginning 45 = .ok (.aload_n 0, 1) := by decide +kernel
theorem d_Sp_latestBeginning_46 : decode b_Sp_latestBeginning 46 = .ok (.getfield 9, 3) := by decide +kernel
theorem d_Sp_latestBeginning_49 : decode b_Sp_latestBeginning 49 = .ok (.iload 6, 2) := by decide +kernel
theorem d_Sp_latestBeginning_51 : decode b_Sp_latestBeginning 51 = .ok (.iaload, 1) := by decide +kernel
theorem d_Sp_latestBeginning_52 : decode b_Sp_latestBeginning 52 = .ok (.iload 4, 2) := by decide +kernel
theorem d_Sp_latestBeginning_54 : decode b_Sp_latestBeginning 54 = .ok (.if_icmp .gt 17, 3) := by decide +kernel
theorem d_Sp_latestBeginning_57 : decode b_Sp_latestBeginning 57 = .ok (.iload 5, 2) := by decide +kernel
theorem d_Sp_latestBeginning_59 : decode b_Sp_latestBeginning 59 = .ok (.aload_n 1, 1) := by decide +kernel
theorem d_Sp_latestBeginning_60 : decode b_Sp_latestBeginning 60 = .ok (.iload_n 2, 1) := by decide +kernel
theorem d_Sp_latestBeginning_61 : decode b_Sp_latestBeginning 61 = .ok (.iload 6, 2) := by decide +kernel
theorem d_Sp_latestBeginning_63 : decode b_Sp_latestBeginning 63 = .ok (.invokestatic 44, 3) := by decide +kernel
theorem d_Sp_latestBeginning_66 : decode b_Sp_latestBeginning 66 = .ok (.invokestatic 66, 3) := by decide +kernel
theorem d_Sp_latestBeginning_69 : decode b_Sp_latestBeginning 69 = .ok (.istore 5, 2) := by decide +kernel
theorem d_Sp_latestBeginning_71 : decode b_Sp_latestBeginning 71 = .ok (.iinc 6 (-1), 3) := by decide +kernel
theorem d_Sp_latestBeginning_74 : decode b_Sp_latestBeginning 74 = .ok (.goto (-49), 3) := by decide +kernel
theorem d_Sp_latestBeginning_77 : decode b_Sp_latestBeginning 77 = .ok (.iload 5, 2) := by decide +kernel
theorem d_Sp_latestBeginning_79 : decode b_Sp_latestBeginning 79 = .ok (.ifCond .ge 7, 3) := by decide +kernel
theorem d_Sp_latestBeginning_82 : decode b_Sp_latestBeginning 82 = .ok (.iconst (-1), 1) := by decide +kernel
theorem d_Sp_latestBeginning_83 : decode b_Sp_latestBeginning 83 = .ok (.goto 11, 3) := by decide +kernel
theorem d_Sp_latestBeginning_86 : decode b_Sp_latestBeginning 86 = .ok (.iload 5, 2) := by decide +kernel
theorem d_Sp_latestBeginning_88 : decode b_Sp_latestBeginning 88 = .ok (.sipush 10079, 3) := by decide +kernel
theorem d_Sp_latestBeginning_91 : decode b_Sp_latestBeginning 91 = .ok (.invokestatic 47, 3) := by decide +kernel
theorem d_Sp_latestBeginning_94 : decode b_Sp_latestBeginning 94 = .ok (.ireturn, 1) := by decide +kernel
theorem d_Sp_leastMinutes_0 : decode b_Sp_leastMinutes 0 = .ok (.ldc 18, 2) := by decide +kernel
theorem d_Sp_leastMinutes_2 : decode b_Sp_leastMinutes 2 = .ok (.istore_n 3, 1) := by decide +kernel
theorem d_Sp_leastMinutes_3 : decode b_Sp_leastMinutes 3 = .ok (.iload_n 1, 1) := by decide +kernel
theorem d_Sp_leastMinutes_4 : decode b_Sp_leastMinutes 4 = .ok (.istore 4, 2) := by decide +kernel
theorem d_Sp_leastMinutes_6 : decode b_Sp_leastMinutes 6 = .ok (.iload 4, 2) := by decide +kernel
theorem d_Sp_leastMinutes_8 : decode b_Sp_leastMinutes 8 = .ok (.iload_n 2, 1) := by decide +kernel
theorem d_Sp_leastMinutes_9 : decode b_Sp_leastMinutes 9 = .ok (.if_icmp .gt 37, 3) := by decide +kernel
theorem d_Sp_leastMinutes_12 : decode b_Sp_leastMinutes 12 = .ok (.aload_n 0, 1) := by decide +kernel
theorem d_Sp_leastMinutes_13 : decode b_Sp_leastMinutes 13 = .ok (.getfield 15, 3) := by decide +kernel
theorem d_Sp_leastMinutes_16 : decode b_Sp_leastMinutes 16 = .ok (.iload 4, 2) := by decide +kernel
theorem d_Sp_leastMinutes_18 : decode b_Sp_leastMinutes 18 = .ok (.iload_n 1, 1) := by decide +kernel
theorem d_Sp_leastMinutes_19 : decode b_Sp_leastMinutes 19 = .ok (.isub, 1) := by decide +kernel
theorem d_Sp_leastMinutes_20 : decode b_Sp_leastMinutes 20 = .ok (.iaload, 1) := by decide +kernel
theorem d_Sp_leastMinutes_21 : decode b_Sp_leastMinutes 21 = .ok (.istore 5, 2) := by decide +kernel
theorem d_Sp_leastMinutes_23 : decode b_Sp_leastMinutes 23 = .ok (.iload 5, 2) := by decide +kernel
theorem d_Sp_leastMinutes_25 : decode b_Sp_leastMinutes 25 = .ok (.ldc 18, 2) := by decide +kernel
theorem d_Sp_leastMinutes_27 : decode b_Sp_leastMinutes 27 = .ok (.if_icmp .ge 13, 3) := by decide +kernel
theorem d_Sp_leastMinutes_30 : decode b_Sp_leastMinutes 30 = .ok (.iload_n 3, 1) := by decide +kernel
theorem d_Sp_leastMinutes_31 : decode b_Sp_leastMinutes 31 = .ok (.iload 5, 2) := by decide +kernel
theorem d_Sp_leastMinutes_33 : decode b_Sp_leastMinutes 33 = .ok (.iload 4, 2) := by decide +kernel
theorem d_Sp_leastMinutes_35 : decode b_Sp_leastMinutes 35 = .ok (.isub, 1) := by decide +kernel
theorem d_Sp_leastMinutes_36 : decode b_Sp_leastMinutes 36 = .ok (.invokestatic 47, 3) := by decide +kernel
theorem d_Sp_leastMinutes_39 : decode b_Sp_leastMinutes 39 = .ok (.istore_n 3, 1) := by decide +kernel
theorem d_Sp_leastMinutes_40 : decode b_Sp_leastMinutes 40 = .ok (.iinc 4 1, 3) := by decide +kernel
theorem d_Sp_leastMinutes_43 : decode b_Sp_leastMinutes 43 = .ok (.goto (-37), 3) := by decide +kernel
theorem d_Sp_leastMinutes_46 : decode b_Sp_leastMinutes 46 = .ok (.iload_n 3, 1) := by decide +kernel
theorem d_Sp_leastMinutes_47 : decode b_Sp_leastMinutes 47 = .ok (.ireturn, 1) := by decide +kernel
theorem d_Sp_latestFor_0 : decode b_Sp_latestFor 0 = .ok (.aload_n 0, 1) := by decide +kernel
theorem d_Sp_latestFor_1 : decode b_Sp_latestFor 1 = .ok (.getfield 69, 3) := by decide +kernel
theorem d_Sp_latestFor_4 : decode b_Sp_latestFor 4 = .ok (.getfield 73, 3) := by decide +kernel
theorem d_Sp_latestFor_7 : decode b_Sp_latestFor 7 = .ok (.aload_n 0, 1) := by decide +kernel
theorem d_Sp_latestFor_8 : decode b_Sp_latestFor 8 = .ok (.getfield 25, 3) := by decide +kernel
theorem d_Sp_latestFor_11 : decode b_Sp_latestFor 11 = .ok (.iload_n 2, 1) := by decide +kernel
theorem d_Sp_latestFor_12 : decode b_Sp_latestFor 12 = .ok (.invokevirtual 78, 3) := by decide +kernel
theorem d_Sp_latestFor_15 : decode b_Sp_latestFor 15 = .ok (.iaload, 1) := by decide +kernel
theorem d_Sp_latestFor_16 : decode b_Sp_latestFor 16 = .ok (.istore_n 3, 1) := by decide +kernel
theorem d_Sp_latestFor_17 : decode b_Sp_latestFor 17 = .ok (.aload_n 0, 1) := by decide +kernel
theorem d_Sp_latestFor_18 : decode b_Sp_latestFor 18 = .ok (.getfield 25, 3) := by decide +kernel
theorem d_Sp_latestFor_21 : decode b_Sp_latestFor 21 = .ok (.getfield 37, 3) := by decide +kernel
theorem d_Sp_latestFor_24 : decode b_Sp_latestFor 24 = .ok (.iload_n 2, 1) := by decide +kernel
theorem d_Sp_latestFor_25 : decode b_Sp_latestFor 25 = .ok (.iaload, 1) := by decide +kernel
theorem d_Sp_latestFor_26 : decode b_Sp_latestFor 26 = .ok (.aload_n 0, 1) := by decide +kernel
theorem d_Sp_latestFor_27 : decode b_Sp_latestFor 27 = .ok (.getfield 53, 3) := by decide +kernel
theorem d_Sp_latestFor_30 : decode b_Sp_latestFor 30 = .ok (.iload_n 1, 1) := by decide +kernel
theorem d_Sp_latestFor_31 : decode b_Sp_latestFor 31 = .ok (.iload_n 3, 1) := by decide +kernel
theorem d_Sp_latestFor_32 : decode b_Sp_latestFor 32 = .ok (.invokevirtual 57, 3) := by decide +kernel
theorem d_Sp_latestFor_35 : decode b_Sp_latestFor 35 = .ok (.isub, 1) := by decide +kernel
theorem d_Sp_latestFor_36 : decode b_Sp_latestFor 36 = .ok (.ireturn, 1) := by decide +kernel
theorem d_Sp_endOf_0 : decode b_Sp_endOf 0 = .ok (.aload_n 1, 1) := by decide +kernel
theorem d_Sp_endOf_1 : decode b_Sp_endOf 1 = .ok (.getfield 25, 3) := by decide +kernel
theorem d_Sp_endOf_4 : decode b_Sp_endOf 4 = .ok (.iload_n 2, 1) := by decide +kernel
theorem d_Sp_endOf_5 : decode b_Sp_endOf 5 = .ok (.invokevirtual 78, 3) := by decide +kernel
theorem d_Sp_endOf_8 : decode b_Sp_endOf 8 = .ok (.istore 4, 2) := by decide +kernel
theorem d_Sp_endOf_10 : decode b_Sp_endOf 10 = .ok (.aload_n 1, 1) := by decide +kernel
theorem d_Sp_endOf_11 : decode b_Sp_endOf 11 = .ok (.getfield 69, 3) := by decide +kernel
theorem d_Sp_endOf_14 : decode b_Sp_endOf 14 = .ok (.getfield 82, 3) := by decide +kernel
theorem d_Sp_endOf_17 : decode b_Sp_endOf 17 = .ok (.iload 4, 2) := by decide +kernel
theorem d_Sp_endOf_19 : decode b_Sp_endOf 19 = .ok (.iaload, 1) := by decide +kernel
theorem d_Sp_endOf_20 : decode b_Sp_endOf 20 = .ok (.istore 5, 2) := by decide +kernel
theorem d_Sp_endOf_22 : decode b_Sp_endOf 22 = .ok (.aload_n 1, 1) := by decide +kernel
theorem d_Sp_endOf_23 : decode b_Sp_endOf 23 = .ok (.getfield 25, 3) := by decide +kernel
theorem d_Sp_endOf_26 : decode b_Sp_endOf 26 = .ok (.getfield 37, 3) := by decide +kernel
theorem d_Sp_endOf_29 : decode b_Sp_endOf 29 = .ok (.iload_n 2, 1) := by decide +kernel
theorem d_Sp_endOf_30 : decode b_Sp_endOf 30 = .ok (.iaload, 1) := by decide +kernel
theorem d_Sp_endOf_31 : decode b_Sp_endOf 31 = .ok (.aload_n 1, 1) := by decide +kernel
theorem d_Sp_endOf_32 : decode b_Sp_endOf 32 = .ok (.getfield 69, 3) := by decide +kernel
theorem d_Sp_endOf_35 : decode b_Sp_endOf 35 = .ok (.getfield 85, 3) := by decide +kernel
theorem d_Sp_endOf_38 : decode b_Sp_endOf 38 = .ok (.iload 4, 2) := by decide +kernel
theorem d_Sp_endOf_40 : decode b_Sp_endOf 40 = .ok (.iaload, 1) := by decide +kernel
theorem d_Sp_endOf_41 : decode b_Sp_endOf 41 = .ok (.iadd, 1) := by decide +kernel
theorem d_Sp_endOf_42 : decode b_Sp_endOf 42 = .ok (.istore 6, 2) := by decide +kernel
theorem d_Sp_endOf_44 : decode b_Sp_endOf 44 = .ok (.ldc 18, 2) := by decide +kernel
theorem d_Sp_endOf_46 : decode b_Sp_endOf 46 = .ok (.iload 6, 2) := by decide +kernel
theorem d_Sp_endOf_48 : decode b_Sp_endOf 48 = .ok (.aload_n 1, 1) := by decide +kernel
theorem d_Sp_endOf_49 : decode b_Sp_endOf 49 = .ok (.getfield 53, 3) := by decide +kernel
theorem d_Sp_endOf_52 : decode b_Sp_endOf 52 = .ok (.iload 5, 2) := by decide +kernel
theorem d_Sp_endOf_54 : decode b_Sp_endOf 54 = .ok (.iload_n 3, 1) := by decide +kernel
theorem d_Sp_endOf_55 : decode b_Sp_endOf 55 = .ok (.invokevirtual 57, 3) := by decide +kernel
theorem d_Sp_endOf_58 : decode b_Sp_endOf 58 = .ok (.iadd, 1) := by decide +kernel
theorem d_Sp_endOf_59 : decode b_Sp_endOf 59 = .ok (.invokestatic 47, 3) := by decide +kernel
theorem d_Sp_endOf_62 : decode b_Sp_endOf 62 = .ok (.istore 7, 2) := by decide +kernel
theorem d_Sp_endOf_64 : decode b_Sp_endOf 64 = .ok (.iload_n 2, 1) := by decide +kernel
theorem d_Sp_endOf_65 : decode b_Sp_endOf 65 = .ok (.iconst 1, 1) := by decide +kernel
theorem d_Sp_endOf_66 : decode b_Sp_endOf 66 = .ok (.iadd, 1) := by decide +kernel
theorem d_Sp_endOf_67 : decode b_Sp_endOf 67 = .ok (.istore 8, 2) := by decide +kernel
theorem d_Sp_endOf_69 : decode b_Sp_endOf 69 = .ok (.iload 8, 2) := by decide +kernel
theorem d_Sp_endOf_71 : decode b_Sp_endOf 71 = .ok (.aload_n 1, 1) := by decide +kernel
theorem d_Sp_endOf_72 : decode b_Sp_endOf 72 = .ok (.getfield 25, 3) := by decide +kernel
theorem d_Sp_endOf_75 : decode b_Sp_endOf 75 = .ok (.getfield 31, 3) := by decide +kernel
theorem d_Sp_endOf_78 : decode b_Sp_endOf 78 = .ok (.if_icmp .ge 58, 3) := by decide +kernel
theorem d_Sp_endOf_81 : decode b_Sp_endOf 81 = .ok (.aload_n 1, 1) := by decide +kernel
theorem d_Sp_endOf_82 : decode b_Sp_endOf 82 = .ok (.getfield 25, 3) := by decide +kernel
theorem d_Sp_endOf_85 : decode b_Sp_endOf 85 = .ok (.getfield 37, 3) := by decide +kernel
theorem d_Sp_endOf_88 : decode b_Sp_endOf 88 = .ok (.iload 8, 2) := by decide +kernel
theorem d_Sp_endOf_90 : decode b_Sp_endOf 90 = .ok (.iaload, 1) := by decide +kernel
theorem d_Sp_endOf_91 : decode b_Sp_endOf 91 = .ok (.iload 7, 2) := by decide +kernel
theorem d_Sp_endOf_93 : decode b_Sp_endOf 93 = .ok (.if_icmp .ge 43, 3) := by decide +kernel
theorem d_Sp_endOf_96 : decode b_Sp_endOf 96 = .ok (.aload_n 0, 1) := by decide +kernel
theorem d_Sp_endOf_97 : decode b_Sp_endOf 97 = .ok (.getfield 9, 3) := by decide +kernel
theorem d_Sp_endOf_100 : decode b_Sp_endOf 100 = .ok (.iload 8, 2) := by decide +kernel
theorem d_Sp_endOf_102 : decode b_Sp_endOf 102 = .ok (.iaload, 1) := by decide +kernel
theorem d_Sp_endOf_103 : decode b_Sp_endOf 103 = .ok (.iload 7, 2) := by decide +kernel
theorem d_Sp_endOf_105 : decode b_Sp_endOf 105 = .ok (.if_icmp .ge 25, 3) := by decide +kernel
theorem d_Sp_endOf_108 : decode b_Sp_endOf 108 = .ok (.aload_n 1, 1) := by decide +kernel
theorem d_Sp_endOf_109 : decode b_Sp_endOf 109 = .ok (.iload 8, 2) := by decide +kernel
theorem d_Sp_endOf_111 : decode b_Sp_endOf 111 = .ok (.iload 5, 2) := by decide +kernel
theorem d_Sp_endOf_113 : decode b_Sp_endOf 113 = .ok (.iload 6, 2) := by decide +kernel
theorem d_Sp_endOf_115 : decode b_Sp_endOf 115 = .ok (.invokestatic 88, 3) := by decide +kernel
theorem d_Sp_endOf_118 : decode b_Sp_endOf 118 = .ok (.ifCond .eq 12, 3) := by decide +kernel
theorem d_Sp_endOf_121 : decode b_Sp_endOf 121 = .ok (.aload_n 0, 1) := by decide +kernel
theorem d_Sp_endOf_122 : decode b_Sp_endOf 122 = .ok (.getfield 9, 3) := by decide +kernel
theorem d_Sp_endOf_125 : decode b_Sp_endOf 125 = .ok (.iload 8, 2) := by decide +kernel
theorem d_Sp_endOf_127 : decode b_Sp_endOf 127 = .ok (.iaload, 1) := by decide +kernel
theorem d_Sp_endOf_128 : decode b_Sp_endOf 128 = .ok (.istore 7, 2) := by decide +kernel
theorem d_Sp_endOf_130 : decode b_Sp_endOf 130 = .ok (.iinc 8 1, 3) := by decide +kernel
theorem d_Sp_endOf_133 : decode b_Sp_endOf 133 = .ok (.goto (-64), 3) := by decide +kernel
theorem d_Sp_endOf_136 : decode b_Sp_endOf 136 = .ok (.iload 7, 2) := by decide +kernel
theorem d_Sp_endOf_138 : decode b_Sp_endOf 138 = .ok (.ireturn, 1) := by decide +kernel
theorem d_Sp_mayFollow_0 : decode b_Sp_mayFollow 0 = .ok (.aload_n 0, 1) := by decide +kernel
theorem d_Sp_mayFollow_1 : decode b_Sp_mayFollow 1 = .ok (.getfield 69, 3) := by decide +kernel
theorem d_Sp_mayFollow_4 : decode b_Sp_mayFollow 4 = .ok (.getfield 73, 3) := by decide +kernel
theorem d_Sp_mayFollow_7 : decode b_Sp_mayFollow 7 = .ok (.aload_n 0, 1) := by decide +kernel
theorem d_Sp_mayFollow_8 : decode b_Sp_mayFollow 8 = .ok (.getfield 25, 3) := by decide +kernel
theorem d_Sp_mayFollow_11 : decode b_Sp_mayFollow 11 = .ok (.iload_n 1, 1) := by decide +kernel
theorem d_Sp_mayFollow_12 : decode b_Sp_mayFollow 12 = .ok (.invokevirtual 78, 3) := by decide +kernel
theorem d_Sp_mayFollow_15 : decode b_Sp_mayFollow 15 = .ok (.iaload, 1) := by decide +kernel
theorem d_Sp_mayFollow_16 : decode b_Sp_mayFollow 16 = .ok (.istore 4, 2) := by decide +kernel
theorem d_Sp_mayFollow_18 : decode b_Sp_mayFollow 18 = .ok (.aload_n 0, 1) := by decide +kernel
theorem d_Sp_mayFollow_19 : decode b_Sp_mayFollow 19 = .ok (.getfield 25, 3) := by decide +kernel
theorem d_Sp_mayFollow_22 : decode b_Sp_mayFollow 22 = .ok (.getfield 37, 3) := by decide +kernel
theorem d_Sp_mayFollow_25 : decode b_Sp_mayFollow 25 = .ok (.iload_n 1, 1) := by decide +kernel
theorem d_Sp_mayFollow_26 : decode b_Sp_mayFollow 26 = .ok (.iaload, 1) := by decide +kernel
theorem d_Sp_mayFollow_27 : decode b_Sp_mayFollow 27 = .ok (.iload_n 3, 1) := by decide +kernel
theorem d_Sp_mayFollow_28 : decode b_Sp_mayFollow 28 = .ok (.aload_n 0, 1) := by decide +kernel
theorem d_Sp_mayFollow_29 : decode b_Sp_mayFollow 29 = .ok (.iload_n 2, 1) := by decide +kernel
theorem d_Sp_mayFollow_30 : decode b_Sp_mayFollow 30 = .ok (.iload 4, 2) := by decide +kernel
theorem d_Sp_mayFollow_32 : decode b_Sp_mayFollow 32 = .ok (.invokevirtual 92, 3) := by decide +kernel
theorem d_Sp_mayFollow_35 : decode b_Sp_mayFollow 35 = .ok (.iadd, 1) := by decide +kernel
theorem d_Sp_mayFollow_36 : decode b_Sp_mayFollow 36 = .ok (.if_icmp .lt 7, 3) := by decide +kernel
theorem d_Sp_mayFollow_39 : decode b_Sp_mayFollow 39 = .ok (.iconst 1, 1) := by decide +kernel
theorem d_Sp_mayFollow_40 : decode b_Sp_mayFollow 40 = .ok (.goto 4, 3) := by decide +kernel
theorem d_Sp_mayFollow_43 : decode b_Sp_mayFollow 43 = .ok (.iconst 0, 1) := by decide +kernel
theorem d_Sp_mayFollow_44 : decode b_Sp_mayFollow 44 = .ok (.ireturn, 1) := by decide +kernel
theorem d_St_init_0 : decode b_St_init 0 = .ok (.aload_n 0, 1) := by decide +kernel
theorem d_St_init_1 : decode b_St_init 1 = .ok (.invokespecial 3, 3) := by decide +kernel
theorem d_St_init_4 : decode b_St_init 4 = .ok (.aload_n 0, 1) := by decide +kernel
theorem d_St_init_5 : decode b_St_init 5 = .ok (.iconst 0, 1) := by decide +kernel
theorem d_St_init_6 : decode b_St_init 6 = .ok (.putfield 9, 3) := by decide +kernel
theorem d_St_init_9 : decode b_St_init 9 = .ok (.aload_n 0, 1) := by decide +kernel
theorem d_St_init_10 : decode b_St_init 10 = .ok (.sipush 601, 3) := by decide +kernel
theorem d_St_init_13 : decode b_St_init 13 = .ok (.newarray .int, 2) := by decide +kernel
theorem d_St_init_15 : decode b_St_init 15 = .ok (.putfield 15, 3) := by decide +kernel
theorem d_St_init_18 : decode b_St_init 18 = .ok (.aload_n 0, 1) := by decide +kernel
theorem d_St_init_19 : decode b_St_init 19 = .ok (.sipush 601, 3) := by decide +kernel
theorem d_St_init_22 : decode b_St_init 22 = .ok (.newarray .int, 2) := by decide +kernel
theorem d_St_init_24 : decode b_St_init 24 = .ok (.putfield 19, 3) := by decide +kernel
theorem d_St_init_27 : decode b_St_init 27 = .ok (.return_, 1) := by decide +kernel
theorem d_St_take_0 : decode b_St_take 0 = .ok (.aload_n 0, 1) := by decide +kernel
theorem d_St_take_1 : decode b_St_take 1 = .ok (.iconst 0, 1) := by decide +kernel
theorem d_St_take_2 : decode b_St_take 2 = .ok (.putfield 9, 3) := by decide +kernel
theorem d_St_take_5 : decode b_St_take 5 = .ok (.iconst 0, 1) := by decide +kernel
theorem d_St_take_6 : decode b_St_take 6 = .ok (.istore 4, 2) := by decide +kernel
theorem d_St_take_8 : decode b_St_take 8 = .ok (.iload 4, 2) := by decide +kernel
theorem d_St_take_10 : decode b_St_take 10 = .ok (.iload_n 3, 1) := by decide +kernel
theorem d_St_take_11 : decode b_St_take 11 = .ok (.iload_n 2, 1) := by decide +kernel
theorem d_St_take_12 : decode b_St_take 12 = .ok (.isub, 1) := by decide +kernel
theorem d_St_take_13 : decode b_St_take 13 = .ok (.if_icmp .gt 72, 3) := by decide +kernel
theorem d_St_take_16 : decode b_St_take 16 = .ok (.iload 4, 2) := by decide +kernel
theorem d_St_take_18 : decode b_St_take 18 = .ok (.ifCond .eq 22, 3) := by decide +kernel
theorem d_St_take_21 : decode b_St_take 21 = .ok (.aload_n 1, 1) := by decide +kernel
theorem d_St_take_22 : decode b_St_take 22 = .ok (.getfield 22, 3) := by decide +kernel
theorem d_St_take_25 : decode b_St_take 25 = .ok (.iload 4, 2) := by decide +kernel
theorem d_St_take_27 : decode b_St_take 27 = .ok (.iaload, 1) := by decide +kernel
theorem d_St_take_28 : decode b_St_take 28 = .ok (.aload_n 1, 1) := by decide +kernel
theorem d_St_take_29 : decode b_St_take 29 = .ok (.getfield 22, 3) := by decide +kernel
theorem d_St_take_32 : decode b_St_take 32 = .ok (.iload 4, 2) := by decide +kernel
theorem d_St_take_34 : decode b_St_take 34 = .ok (.iconst 1, 1) := by decide +kernel
theorem d_St_take_35 : decode b_St_take 35 = .ok (.isub, 1) := by decide +kernel
theorem d_St_take_36 : decode b_St_take 36 = .ok (.iaload, 1) := by decide +kernel
theorem d_St_take_37 : decode b_St_take 37 = .ok (.if_icmp .eq 42, 3) := by decide +kernel
theorem d_St_take_40 : decode b_St_take 40 = .ok (.aload_n 0, 1) := by decide +kernel
theorem d_St_take_41 : decode b_St_take 41 = .ok (.getfield 15, 3) := by decide +kernel
theorem d_St_take_44 : decode b_St_take 44 = .ok (.aload_n 0, 1) := by decide +kernel
theorem d_St_take_45 : decode b_St_take 45 = .ok (.getfield 9, 3) := by decide +kernel
theorem d_St_take_48 : decode b_St_take 48 = .ok (.iload_n 2, 1) := by decide +kernel
theorem d_St_take_49 : decode b_St_take 49 = .ok (.iload 4, 2) := by decide +kernel
theorem d_St_take_51 : decode b_St_take 51 = .ok (.iadd, 1) := by decide +kernel
theorem d_St_take_52 : decode b_St_take 52 = .ok (.iastore, 1) := by decide +kernel
theorem d_St_take_53 : decode b_St_take 53 = .ok (.aload_n 0, 1) := by decide +kernel
theorem d_St_take_54 : decode b_St_take 54 = .ok (.getfield 19, 3) := by decide +kernel
theorem d_St_take_57 : decode b_St_take 57 = .ok (.aload_n 0, 1) := by decide +kernel
theorem d_St_take_58 : decode b_St_take 58 = .ok (.getfield 9, 3) := by decide +kernel
theorem d_St_take_61 : decode b_St_take 61 = .ok (.aload_n 1, 1) := by decide +kernel
theorem d_St_take_62 : decode b_St_take 62 = .ok (.getfield 22, 3) := by decide +kernel
theorem d_St_take_65 : decode b_St_take 65 = .ok (.iload 4, 2) := by decide +kernel
theorem d_St_take_67 : decode b_St_take 67 = .ok (.iaload, 1) := by decide +kernel
theorem d_St_take_68 : decode b_St_take 68 = .ok (.iastore, 1) := by decide +kernel
theorem d_St_take_69 : decode b_St_take 69 = .ok (.aload_n 0, 1) := by decide +kernel
theorem d_St_take_70 : decode b_St_take 70 = .ok (.dup, 1) := by decide +kernel
theorem d_St_take_71 : decode b_St_take 71 = .ok (.getfield 9, 3) := by decide +kernel
theorem d_St_take_74 : decode b_St_take 74 = .ok (.iconst 1, 1) := by decide +kernel
theorem d_St_take_75 : decode b_St_take 75 = .ok (.iadd, 1) := by decide +kernel
theorem d_St_take_76 : decode b_St_take 76 = .ok (.putfield 9, 3) := by decide +kernel
theorem d_St_take_79 : decode b_St_take 79 = .ok (.iinc 4 1, 3) := by decide +kernel
theorem d_St_take_82 : decode b_St_take 82 = .ok (.goto (-74), 3) := by decide +kernel
theorem d_St_take_85 : decode b_St_take 85 = .ok (.return_, 1) := by decide +kernel
theorem d_Ac_init_0 : decode b_Ac_init 0 = .ok (.aload_n 0, 1) := by decide +kernel
theorem d_Ac_init_1 : decode b_Ac_init 1 = .ok (.invokespecial 3, 3) := by decide +kernel
theorem d_Ac_init_4 : decode b_Ac_init 4 = .ok (.aload_n 0, 1) := by decide +kernel
theorem d_Ac_init_5 : decode b_Ac_init 5 = .ok (.iconst 0, 1) := by decide +kernel
theorem d_Ac_init_6 : decode b_Ac_init 6 = .ok (.putfield 9, 3) := by decide +kernel
theorem d_Ac_init_9 : decode b_Ac_init 9 = .ok (.aload_n 0, 1) := by decide +kernel
theorem d_Ac_init_10 : decode b_Ac_init 10 = .ok (.bipush 24, 2) := by decide +kernel
theorem d_Ac_init_12 : decode b_Ac_init 12 = .ok (.newarray .int, 2) := by decide +kernel
theorem d_Ac_init_14 : decode b_Ac_init 14 = .ok (.putfield 15, 3) := by decide +kernel
theorem d_Ac_init_17 : decode b_Ac_init 17 = .ok (.aload_n 0, 1) := by decide +kernel
theorem d_Ac_init_18 : decode b_Ac_init 18 = .ok (.bipush 24, 2) := by decide +kernel
theorem d_Ac_init_20 : decode b_Ac_init 20 = .ok (.newarray .int, 2) := by decide +kernel
theorem d_Ac_init_22 : decode b_Ac_init 22 = .ok (.putfield 19, 3) := by decide +kernel
theorem d_Ac_init_25 : decode b_Ac_init 25 = .ok (.aload_n 0, 1) := by decide +kernel
theorem d_Ac_init_26 : decode b_Ac_init 26 = .ok (.bipush 24, 2) := by decide +kernel
theorem d_Ac_init_28 : decode b_Ac_init 28 = .ok (.newarray .int, 2) := by decide +kernel
theorem d_Ac_init_30 : decode b_Ac_init 30 = .ok (.putfield 22, 3) := by decide +kernel
theorem d_Ac_init_33 : decode b_Ac_init 33 = .ok (.aload_n 0, 1) := by decide +kernel
theorem d_Ac_init_34 : decode b_Ac_init 34 = .ok (.bipush 24, 2) := by decide +kernel
theorem d_Ac_init_36 : decode b_Ac_init 36 = .ok (.newarray .int, 2) := by decide +kernel
theorem d_Ac_init_38 : decode b_Ac_init 38 = .ok (.putfield 25, 3) := by decide +kernel
theorem d_Ac_init_41 : decode b_Ac_init 41 = .ok (.return_, 1) := by decide +kernel
theorem d_Ac_trace_0 : decode b_Ac_trace 0 = .ok (.aload_n 0, 1) := by decide +kernel
theorem d_Ac_trace_1 : decode b_Ac_trace 1 = .ok (.iconst 0, 1) := by decide +kernel
theorem d_Ac_trace_2 : decode b_Ac_trace 2 = .ok (.putfield 9, 3) := by decide +kernel
theorem d_Ac_trace_5 : decode b_Ac_trace 5 = .ok (.iload 4, 2) := by decide +kernel
theorem d_Ac_trace_7 : decode b_Ac_trace 7 = .ok (.istore 5, 2) := by decide +kernel
theorem d_Ac_trace_9 : decode b_Ac_trace 9 = .ok (.aload_n 2, 1) := by decide +kernel
theorem d_Ac_trace_10 : decode b_Ac_trace 10 = .ok (.iload 4, 2) := by decide +kernel
theorem d_Ac_trace_12 : decode b_Ac_trace 12 = .ok (.aload_n 2, 1) := by decide +kernel
theorem d_Ac_trace_13 : decode b_Ac_trace 13 = .ok (.iload 4, 2) := by decide +kernel
theorem d_Ac_trace_15 : decode b_Ac_trace 15 = .ok (.invokevirtual 28, 3) := by decide +kernel
theorem d_Ac_trace_18 : decode b_Ac_trace 18 = .ok (.invokevirtual 34, 3) := by decide +kernel
theorem d_Ac_trace_21 : decode b_Ac_trace 21 = .ok (.istore 6, 2) := by decide +kernel
theorem d_Ac_trace_23 : decode b_Ac_trace 23 = .ok (.iconst 0, 1) := by decide +kernel
theorem d_Ac_trace_24 : decode b_Ac_trace 24 = .ok (.istore 7, 2) := by decide +kernel
theorem d_Ac_trace_26 : decode b_Ac_trace 26 = .ok (.iload 7, 2) := by decide +kernel
theorem d_Ac_trace_28 : decode b_Ac_trace 28 = .ok (.bipush 24, 2) := by decide +kernel
theorem d_Ac_trace_30 : decode b_Ac_trace 30 = .ok (.if_icmp .ge 72, 3) := by decide +kernel
theorem d_Ac_trace_33 : decode b_Ac_trace 33 = .ok (.iload 6, 2) := by decide +kernel
theorem d_Ac_trace_35 : decode b_Ac_trace 35 = .ok (.ifCond .eq 9, 3) := by decide +kernel
theorem d_Ac_trace_38 : decode b_Ac_trace 38 = .ok (.iload 5, 2) := by decide +kernel
theorem d_Ac_trace_40 : decode b_Ac_trace 40 = .ok (.iload_n 3, 1) := by decide +kernel
theorem d_Ac_trace_41 : decode b_Ac_trace 41 = .ok (.if_icmp .eq 61, 3) := by decide +kernel
theorem d_Ac_trace_44 : decode b_Ac_trace 44 = .ok (.iload 6, 2) := by decide +kernel
theorem d_Ac_trace_46 : decode b_Ac_trace 46 = .ok (.ifCond .eq 14, 3) := by decide +kernel
theorem d_Ac_trace_49 : decode b_Ac_trace 49 = .ok (.aload_n 0, 1) := by decide +kernel
theorem d_Ac_trace_50 : decode b_Ac_trace 50 = .ok (.aload_n 1, 1) := by decide +kernel
theorem d_Ac_trace_51 : decode b_Ac_trace 51 = .ok (.aload_n 2, 1) := by decide +kernel
theorem d_Ac_trace_52 : decode b_Ac_trace 52 = .ok (.iload 5, 2) := by decide +kernel
theorem d_Ac_trace_54 : decode b_Ac_trace 54 = .ok (.invokevirtual 38, 3) := by decide +kernel
theorem d_Ac_trace_57 : decode b_Ac_trace 57 = .ok (.goto 11, 3) := by decide +kernel
theorem d_Ac_trace_60 : decode b_Ac_trace 60 = .ok (.aload_n 0, 1) := by decide +kernel
theorem d_Ac_trace_61 : decode b_Ac_trace 61 = .ok (.aload_n 1, 1) := by decide +kernel
theorem d_Ac_trace_62 : decode b_Ac_trace 62 = .ok (.aload_n 2, 1) := by decide +kernel
theorem d_Ac_trace_63 : decode b_Ac_trace 63 = .ok (.iload 5, 2) := by decide +kernel
theorem d_Ac_trace_65 : decode b_Ac_trace 65 = .ok (.invokevirtual 42, 3) := by decide +kernel
theorem d_Ac_trace_68 : decode b_Ac_trace 68 = .ok (.istore 5, 2) := by decide +kernel
theorem d_Ac_trace_70 : decode b_Ac_trace 70 = .ok (.iload 5, 2) := by decide +kernel
theorem d_Ac_trace_72 : decode b_Ac_trace 72 = .ok (.iconst (-1), 1) := by decide +kernel
theorem d_Ac_trace_73 : decode b_Ac_trace 73 = .ok (.if_icmp .ne 4, 3) := by decide +kernel
theorem d_Ac_trace_76 : decode b_Ac_trace 76 = .ok (.return_, 1) := by decide +kernel
theorem d_Ac_trace_77 : decode b_Ac_trace 77 = .ok (.aload_n 2, 1) := by decide +kernel
theorem d_Ac_trace_78 : decode b_Ac_trace 78 = .ok (.iload 5, 2) := by decide +kernel
theorem d_Ac_trace_80 : decode b_Ac_trace 80 = .ok (.aload_n 0, 1) := by decide +kernel
theorem d_Ac_trace_81 : decode b_Ac_trace 81 = .ok (.getfield 22, 3) := by decide +kernel
theorem d_Ac_trace_84 : decode b_Ac_trace 84 = .ok (.aload_n 0, 1) := by decide +kernel
theorem d_Ac_trace_85 : decode b_Ac_trace 85 = .ok (.getfield 9, 3) := by decide +kernel
theorem d_Ac_trace_88 : decode b_Ac_trace 88 = .ok (.iconst 1, 1) := by decide +kernel
theorem d_Ac_trace_89 : decode b_Ac_trace 89 = .ok (.isub, 1) := by decide +kernel
theorem d_Ac_trace_90 : decode b_Ac_trace 90 = .ok (.iaload, 1) := by decide +kernel
theorem d_Ac_trace_91 : decode b_Ac_trace 91 = .ok (.invokevirtual 34, 3) := by decide +kernel
theorem d_Ac_trace_94 : decode b_Ac_trace 94 = .ok (.istore 6, 2) := by decide +kernel
theorem d_Ac_trace_96 : decode b_Ac_trace 96 = .ok (.iinc 7 1, 3) := by decide +kernel
theorem d_Ac_trace_99 : decode b_Ac_trace 99 = .ok (.goto (-73), 3) := by decide +kernel
theorem d_Ac_trace_102 : decode b_Ac_trace 102 = .ok (.return_, 1) := by decide +kernel
theorem d_Ac_addWalk_0 : decode b_Ac_addWalk 0 = .ok (.aload_n 2, 1) := by decide +kernel
theorem d_Ac_addWalk_1 : decode b_Ac_addWalk 1 = .ok (.aload_n 1, 1) := by decide +kernel
theorem d_Ac_addWalk_2 : decode b_Ac_addWalk 2 = .ok (.iload_n 3, 1) := by decide +kernel
theorem d_Ac_addWalk_3 : decode b_Ac_addWalk 3 = .ok (.invokevirtual 45, 3) := by decide +kernel
theorem d_Ac_addWalk_6 : decode b_Ac_addWalk 6 = .ok (.istore 4, 2) := by decide +kernel
theorem d_Ac_addWalk_8 : decode b_Ac_addWalk 8 = .ok (.iload 4, 2) := by decide +kernel
theorem d_Ac_addWalk_10 : decode b_Ac_addWalk 10 = .ok (.iconst (-1), 1) := by decide +kernel
theorem d_Ac_addWalk_11 : decode b_Ac_addWalk 11 = .ok (.if_icmp .ne 5, 3) := by decide +kernel
theorem d_Ac_addWalk_14 : decode b_Ac_addWalk 14 = .ok (.iconst (-1), 1) := by decide +kernel
theorem d_Ac_addWalk_15 : decode b_Ac_addWalk 15 = .ok (.ireturn, 1) := by decide +kernel
theorem d_Ac_addWalk_16 : decode b_Ac_addWalk 16 = .ok (.aload_n 1, 1) := by decide +kernel
theorem d_Ac_addWalk_17 : decode b_Ac_addWalk 17 = .ok (.getfield 49, 3) := by decide +kernel
theorem d_Ac_addWalk_20 : decode b_Ac_addWalk 20 = .ok (.getfield 55, 3) := by decide +kernel
theorem d_Ac_addWalk_23 : decode b_Ac_addWalk 23 = .ok (.iload 4, 2) := by decide +kernel
theorem d_Ac_addWalk_25 : decode b_Ac_addWalk 25 = .ok (.iaload, 1) := by decide +kernel
theorem d_Ac_addWalk_26 : decode b_Ac_addWalk 26 = .ok (.istore 5, 2) := by decide +kernel
theorem d_Ac_addWalk_28 : decode b_Ac_addWalk 28 = .ok (.aload_n 0, 1) := by decide +kernel
theorem d_Ac_addWalk_29 : decode b_Ac_addWalk 29 = .ok (.iload 4, 2) := by decide +kernel
theorem d_Ac_addWalk_31 : decode b_Ac_addWalk 31 = .ok (.iconst (-1), 1) := by decide +kernel
theorem d_Ac_addWalk_32 : decode b_Ac_addWalk 32 = .ok (.aload_n 2, 1) := by decide +kernel
theorem d_Ac_addWalk_33 : decode b_Ac_addWalk 33 = .ok (.iload 5, 2) := by decide +kernel
theorem d_Ac_addWalk_35 : decode b_Ac_addWalk 35 = .ok (.invokevirtual 28, 3) := by decide +kernel
theorem d_Ac_addWalk_38 : decode b_Ac_addWalk 38 = .ok (.aload_n 1, 1) := by decide +kernel
theorem d_Ac_addWalk_39 : decode b_Ac_addWalk 39 = .ok (.getfield 49, 3) := by decide +kernel
theorem d_Ac_addWalk_42 : decode b_Ac_addWalk 42 = .ok (.getfield 60, 3) := by decide +kernel
theorem d_Ac_addWalk_45 : decode b_Ac_addWalk 45 = .ok (.iload 4, 2) := by decide +kernel
theorem d_Ac_addWalk_47 : decode b_Ac_addWalk 47 = .ok (.iaload, 1) := by decide +kernel
theorem d_Ac_addWalk_48 : decode b_Ac_addWalk 48 = .ok (.invokevirtual 63, 3) := by decide +kernel
theorem d_Ac_addWalk_51 : decode b_Ac_addWalk 51 = .ok (.iload 5, 2) := by decide +kernel
theorem d_Ac_addWalk_53 : decode b_Ac_addWalk 53 = .ok (.ireturn, 1) := by decide +kernel
theorem d_Ac_addDeparture_0 : decode b_Ac_addDeparture 0 = .ok (.aload_n 2, 1) := by decide +kernel
theorem d_Ac_addDeparture_1 : decode b_Ac_addDeparture 1 = .ok (.aload_n 1, 1) := by decide +kernel
theorem d_Ac_addDeparture_2 : decode b_Ac_addDeparture 2 = .ok (.iload_n 3, 1) := by decide +kernel
theorem d_Ac_addDeparture_3 : decode b_Ac_addDeparture 3 = .ok (.invokevirtual 67, 3) := by decide +kernel
theorem d_Ac_addDeparture_6 : decode b_Ac_addDeparture 6 = .ok (.istore 4, 2) := by decide +kernel
theorem d_Ac_addDeparture_8 : decode b_Ac_addDeparture 8 = .ok (.iload 4, 2) := by decide +kernel
theorem d_Ac_addDeparture_10 : decode b_Ac_addDeparture 10 = .ok (.iconst (-1), 1) := by decide +kernel
theorem d_Ac_addDeparture_11 : decode b_Ac_addDeparture 11 = .ok (.if_icmp .ne 5, 3) := by decide +kernel
theorem d_Ac_addDeparture_14 : decode b_Ac_addDeparture 14 = .ok (.iconst (-1), 1) := by decide +kernel
theorem d_Ac_addDeparture_15 : decode b_Ac_addDeparture 15 = .ok (.ireturn, 1) := by decide +kernel
theorem d_Ac_addDeparture_16 : decode b_Ac_addDeparture 16 = .ok (.iload 4, 2) := by decide +kernel
theorem d_Ac_addDeparture_18 : decode b_Ac_addDeparture 18 = .ok (.bipush 7, 2) := by decide +kernel
theorem d_Ac_addDeparture_20 : decode b_Ac_addDeparture 20 = .ok (.idiv, 1) := by decide +kernel
theorem d_Ac_addDeparture_21 : decode b_Ac_addDeparture 21 = .ok (.istore 5, 2) := by decide +kernel
theorem d_Ac_addDeparture_23 : decode b_Ac_addDeparture 23 = .ok (.aload_n 0, 1) := by decide +kernel
theorem d_Ac_addDeparture_24 : decode b_Ac_addDeparture 24 = .ok (.iload 5, 2) := by decide +kernel
theorem d_Ac_addDeparture_26 : decode b_Ac_addDeparture 26 = .ok (.iload 4, 2) := by decide +kernel
theorem d_Ac_addDeparture_28 : decode b_Ac_addDeparture 28 = .ok (.bipush 7, 2) := by decide +kernel
theorem d_Ac_addDeparture_30 : decode b_Ac_addDeparture 30 = .ok (.irem, 1) := by decide +kernel
theorem d_Ac_addDeparture_31 : decode b_Ac_addDeparture 31 = .ok (.aload_n 1, 1) := by decide +kernel
theorem d_Ac_addDeparture_32 : decode b_Ac_addDeparture 32 = .ok (.getfield 70, 3) := by decide +kernel
theorem d_Ac_addDeparture_35 : decode b_Ac_addDeparture 35 = .ok (.iload 4, 2) := by decide +kernel
theorem d_Ac_addDeparture_37 : decode b_Ac_addDeparture 37 = .ok (.invokevirtual 74, 3) := by decide +kernel
theorem d_Ac_addDeparture_40 : decode b_Ac_addDeparture 40 = .ok (.aload_n 1, 1) := by decide +kernel
theorem d_Ac_addDeparture_41 : decode b_Ac_addDeparture 41 = .ok (.getfield 70, 3) := by decide +kernel
theorem d_Ac_addDeparture_44 : decode b_Ac_addDeparture 44 = .ok (.getfield 79, 3) := by decide +kernel
theorem d_Ac_addDeparture_47 : decode b_Ac_addDeparture 47 = .ok (.iload 5, 2) := by decide +kernel
theorem d_Ac_addDeparture_49 : decode b_Ac_addDeparture 49 = .ok (.iaload, 1) := by decide +kernel
theorem d_Ac_addDeparture_50 : decode b_Ac_addDeparture 50 = .ok (.invokevirtual 63, 3) := by decide +kernel
theorem d_Ac_addDeparture_53 : decode b_Ac_addDeparture 53 = .ok (.aload_n 1, 1) := by decide +kernel
theorem d_Ac_addDeparture_54 : decode b_Ac_addDeparture 54 = .ok (.getfield 70, 3) := by decide +kernel
theorem d_Ac_addDeparture_57 : decode b_Ac_addDeparture 57 = .ok (.getfield 80, 3) := by decide +kernel
theorem d_Ac_addDeparture_60 : decode b_Ac_addDeparture 60 = .ok (.iload 5, 2) := by decide +kernel
theorem d_Ac_addDeparture_62 : decode b_Ac_addDeparture 62 = .ok (.iaload, 1) := by decide +kernel
theorem d_Ac_addDeparture_63 : decode b_Ac_addDeparture 63 = .ok (.ireturn, 1) := by decide +kernel
theorem d_Ac_put_0 : decode b_Ac_put 0 = .ok (.aload_n 0, 1) := by decide +kernel
theorem d_Ac_put_1 : decode b_Ac_put 1 = .ok (.getfield 15, 3) := by decide +kernel
theorem d_Ac_put_4 : decode b_Ac_put 4 = .ok (.aload_n 0, 1) := by decide +kernel
theorem d_Ac_put_5 : decode b_Ac_put 5 = .ok (.getfield 9, 3) := by decide +kernel
theorem d_Ac_put_8 : decode b_Ac_put 8 = .ok (.iload_n 1, 1) := by decide +kernel
theorem d_Ac_put_9 : decode b_Ac_put 9 = .ok (.iastore, 1) := by decide +kernel
theorem d_Ac_put_10 : decode b_Ac_put 10 = .ok (.aload_n 0, 1) := by decide +kernel
theorem d_Ac_put_11 : decode b_Ac_put 11 = .ok (.getfield 19, 3) := by decide +kernel
theorem d_Ac_put_14 : decode b_Ac_put 14 = .ok (.aload_n 0, 1) := by decide +kernel
theorem d_Ac_put_15 : decode b_Ac_put 15 = .ok (.getfield 9, 3) := by decide +kernel
theorem d_Ac_put_18 : decode b_Ac_put 18 = .ok (.iload_n 2, 1) := by decide +kernel
theorem d_Ac_put_19 : decode b_Ac_put 19 = .ok (.iastore, 1) := by decide +kernel
theorem d_Ac_put_20 : decode b_Ac_put 20 = .ok (.aload_n 0, 1) := by decide +kernel
theorem d_Ac_put_21 : decode b_Ac_put 21 = .ok (.getfield 22, 3) := by decide +kernel
theorem d_Ac_put_24 : decode b_Ac_put 24 = .ok (.aload_n 0, 1) := by decide +kernel
theorem d_Ac_put_25 : decode b_Ac_put 25 = .ok (.getfield 9, 3) := by decide +kernel
theorem d_Ac_put_28 : decode b_Ac_put 28 = .ok (.iload_n 3, 1) := by decide +kernel
theorem d_Ac_put_29 : decode b_Ac_put 29 = .ok (.iastore, 1) := by decide +kernel
theorem d_Ac_put_30 : decode b_Ac_put 30 = .ok (.aload_n 0, 1) := by decide +kernel
theorem d_Ac_put_31 : decode b_Ac_put 31 = .ok (.getfield 25, 3) := by decide +kernel
theorem d_Ac_put_34 : decode b_Ac_put 34 = .ok (.aload_n 0, 1) := by decide +kernel
theorem d_Ac_put_35 : decode b_Ac_put 35 = .ok (.getfield 9, 3) := by decide +kernel
theorem d_Ac_put_38 : decode b_Ac_put 38 = .ok (.iload_n 3, 1) := by decide +kernel
theorem d_Ac_put_39 : decode b_Ac_put 39 = .ok (.iload 4, 2) := by decide +kernel
theorem d_Ac_put_41 : decode b_Ac_put 41 = .ok (.iadd, 1) := by decide +kernel
theorem d_Ac_put_42 : decode b_Ac_put 42 = .ok (.iastore, 1) := by decide +kernel
theorem d_Ac_put_43 : decode b_Ac_put 43 = .ok (.aload_n 0, 1) := by decide +kernel
theorem d_Ac_put_44 : decode b_Ac_put 44 = .ok (.dup, 1) := by decide +kernel
theorem d_Ac_put_45 : decode b_Ac_put 45 = .ok (.getfield 9, 3) := by decide +kernel
theorem d_Ac_put_48 : decode b_Ac_put 48 = .ok (.iconst 1, 1) := by decide +kernel
theorem d_Ac_put_49 : decode b_Ac_put 49 = .ok (.iadd, 1) := by decide +kernel
theorem d_Ac_put_50 : decode b_Ac_put 50 = .ok (.putfield 9, 3) := by decide +kernel
theorem d_Ac_put_53 : decode b_Ac_put 53 = .ok (.return_, 1) := by decide +kernel
theorem d_J_fill_0 : decode b_J_fill 0 = .ok (.iconst 0, 1) := by decide +kernel
theorem d_J_fill_1 : decode b_J_fill 1 = .ok (.istore_n 2, 1) := by decide +kernel
theorem d_J_fill_2 : decode b_J_fill 2 = .ok (.aload_n 0, 1) := by decide +kernel
theorem d_J_fill_3 : decode b_J_fill 3 = .ok (.arraylength, 1) := by decide +kernel
theorem d_J_fill_4 : decode b_J_fill 4 = .ok (.istore_n 3, 1) := by decide +kernel
theorem d_J_fill_5 : decode b_J_fill 5 = .ok (.iload_n 2, 1) := by decide +kernel
theorem d_J_fill_6 : decode b_J_fill 6 = .ok (.iload_n 3, 1) := by decide +kernel
theorem d_J_fill_7 : decode b_J_fill 7 = .ok (.if_icmp .ge 13, 3) := by decide +kernel
theorem d_J_fill_10 : decode b_J_fill 10 = .ok (.aload_n 0, 1) := by decide +kernel
theorem d_J_fill_11 : decode b_J_fill 11 = .ok (.iload_n 2, 1) := by decide +kernel
theorem d_J_fill_12 : decode b_J_fill 12 = .ok (.iload_n 1, 1) := by decide +kernel
theorem d_J_fill_13 : decode b_J_fill 13 = .ok (.iastore, 1) := by decide +kernel
theorem d_J_fill_14 : decode b_J_fill 14 = .ok (.iinc 2 1, 3) := by decide +kernel
theorem d_J_fill_17 : decode b_J_fill 17 = .ok (.goto (-12), 3) := by decide +kernel
theorem d_J_fill_20 : decode b_J_fill 20 = .ok (.return_, 1) := by decide +kernel
