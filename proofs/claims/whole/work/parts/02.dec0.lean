theorem dX0_init_0 : decode cX0_init 0 = .ok (.aload_n 0, 1) := by decide +kernel
theorem dX0_init_1 : decode cX0_init 1 = .ok (.invokespecial 3, 3) := by decide +kernel
theorem dX0_init_4 : decode cX0_init 4 = .ok (.aload_n 0, 1) := by decide +kernel
theorem dX0_init_5 : decode cX0_init 5 = .ok (.new 9, 3) := by decide +kernel
theorem dX0_init_8 : decode cX0_init 8 = .ok (.dup, 1) := by decide +kernel
theorem dX0_init_9 : decode cX0_init 9 = .ok (.invokespecial 11, 3) := by decide +kernel
theorem dX0_init_12 : decode cX0_init 12 = .ok (.putfield 12, 3) := by decide +kernel
theorem dX0_init_15 : decode cX0_init 15 = .ok (.aload_n 0, 1) := by decide +kernel
theorem dX0_init_16 : decode cX0_init 16 = .ok (.new 9, 3) := by decide +kernel
theorem dX0_init_19 : decode cX0_init 19 = .ok (.dup, 1) := by decide +kernel
theorem dX0_init_20 : decode cX0_init 20 = .ok (.invokespecial 11, 3) := by decide +kernel
theorem dX0_init_23 : decode cX0_init 23 = .ok (.putfield 18, 3) := by decide +kernel
theorem dX0_init_26 : decode cX0_init 26 = .ok (.aload_n 0, 1) := by decide +kernel
theorem dX0_init_27 : decode cX0_init 27 = .ok (.iconst 0, 1) := by decide +kernel
theorem dX0_init_28 : decode cX0_init 28 = .ok (.newarray .int, 2) := by decide +kernel
theorem dX0_init_30 : decode cX0_init 30 = .ok (.putfield 21, 3) := by decide +kernel
theorem dX0_init_33 : decode cX0_init 33 = .ok (.aload_n 0, 1) := by decide +kernel
theorem dX0_init_34 : decode cX0_init 34 = .ok (.iconst 2, 1) := by decide +kernel
theorem dX0_init_35 : decode cX0_init 35 = .ok (.putfield 25, 3) := by decide +kernel
theorem dX0_init_38 : decode cX0_init 38 = .ok (.aload_n 0, 1) := by decide +kernel
theorem dX0_init_39 : decode cX0_init 39 = .ok (.iconst 1, 1) := by decide +kernel
theorem dX0_init_40 : decode cX0_init 40 = .ok (.putfield 29, 3) := by decide +kernel
theorem dX0_init_43 : decode cX0_init 43 = .ok (.aload_n 0, 1) := by decide +kernel
theorem dX0_init_44 : decode cX0_init 44 = .ok (.iconst 1, 1) := by decide +kernel
theorem dX0_init_45 : decode cX0_init 45 = .ok (.putfield 32, 3) := by decide +kernel
theorem dX0_init_48 : decode cX0_init 48 = .ok (.return_, 1) := by decide +kernel
theorem dX0_stands_0 : decode cX0_stands 0 = .ok (.aload_n 0, 1) := by decide +kernel
theorem dX0_stands_1 : decode cX0_stands 1 = .ok (.getfield 35, 3) := by decide +kernel
theorem dX0_stands_4 : decode cX0_stands 4 = .ok (.ifCond .le 7, 3) := by decide +kernel
theorem dX0_stands_7 : decode cX0_stands 7 = .ok (.iconst 1, 1) := by decide +kernel
theorem dX0_stands_8 : decode cX0_stands 8 = .ok (.goto 4, 3) := by decide +kernel
theorem dX0_stands_11 : decode cX0_stands 11 = .ok (.iconst 0, 1) := by decide +kernel
theorem dX0_stands_12 : decode cX0_stands 12 = .ok (.ireturn, 1) := by decide +kernel
theorem dX0_forget_0 : decode cX0_forget 0 = .ok (.aload_n 0, 1) := by decide +kernel
theorem dX0_forget_1 : decode cX0_forget 1 = .ok (.iconst 0, 1) := by decide +kernel
theorem dX0_forget_2 : decode cX0_forget 2 = .ok (.putfield 35, 3) := by decide +kernel
theorem dX0_forget_5 : decode cX0_forget 5 = .ok (.return_, 1) := by decide +kernel
theorem dX0_tell_0 : decode cX0_tell 0 = .ok (.aload_n 0, 1) := by decide +kernel
theorem dX0_tell_1 : decode cX0_tell 1 = .ok (.iload_n 1, 1) := by decide +kernel
theorem dX0_tell_2 : decode cX0_tell 2 = .ok (.putfield 25, 3) := by decide +kernel
theorem dX0_tell_5 : decode cX0_tell 5 = .ok (.aload_n 0, 1) := by decide +kernel
theorem dX0_tell_6 : decode cX0_tell 6 = .ok (.iload_n 2, 1) := by decide +kernel
theorem dX0_tell_7 : decode cX0_tell 7 = .ok (.putfield 35, 3) := by decide +kernel
theorem dX0_tell_10 : decode cX0_tell 10 = .ok (.aload_n 0, 1) := by decide +kernel
theorem dX0_tell_11 : decode cX0_tell 11 = .ok (.iload_n 3, 1) := by decide +kernel
theorem dX0_tell_12 : decode cX0_tell 12 = .ok (.putfield 29, 3) := by decide +kernel
theorem dX0_tell_15 : decode cX0_tell 15 = .ok (.aload_n 0, 1) := by decide +kernel
theorem dX0_tell_16 : decode cX0_tell 16 = .ok (.iload 4, 2) := by decide +kernel
theorem dX0_tell_18 : decode cX0_tell 18 = .ok (.putfield 38, 3) := by decide +kernel
theorem dX0_tell_21 : decode cX0_tell 21 = .ok (.aload_n 0, 1) := by decide +kernel
theorem dX0_tell_22 : decode cX0_tell 22 = .ok (.iload_n 1, 1) := by decide +kernel
theorem dX0_tell_23 : decode cX0_tell 23 = .ok (.iconst 2, 1) := by decide +kernel
theorem dX0_tell_24 : decode cX0_tell 24 = .ok (.if_icmp .ne 7, 3) := by decide +kernel
theorem dX0_tell_27 : decode cX0_tell 27 = .ok (.iconst 0, 1) := by decide +kernel
theorem dX0_tell_28 : decode cX0_tell 28 = .ok (.goto 5, 3) := by decide +kernel
theorem dX0_tell_31 : decode cX0_tell 31 = .ok (.iload 5, 2) := by decide +kernel
theorem dX0_tell_33 : decode cX0_tell 33 = .ok (.putfield 41, 3) := by decide +kernel
theorem dX0_tell_36 : decode cX0_tell 36 = .ok (.aload_n 0, 1) := by decide +kernel
theorem dX0_tell_37 : decode cX0_tell 37 = .ok (.iload_n 1, 1) := by decide +kernel
theorem dX0_tell_38 : decode cX0_tell 38 = .ok (.iconst 2, 1) := by decide +kernel
theorem dX0_tell_39 : decode cX0_tell 39 = .ok (.if_icmp .ne 7, 3) := by decide +kernel
theorem dX0_tell_42 : decode cX0_tell 42 = .ok (.iconst 1, 1) := by decide +kernel
theorem dX0_tell_43 : decode cX0_tell 43 = .ok (.goto 4, 3) := by decide +kernel
theorem dX0_tell_46 : decode cX0_tell 46 = .ok (.iload_n 1, 1) := by decide +kernel
theorem dX0_tell_47 : decode cX0_tell 47 = .ok (.putfield 32, 3) := by decide +kernel
theorem dX0_tell_50 : decode cX0_tell 50 = .ok (.aload_n 0, 1) := by decide +kernel
theorem dX0_tell_51 : decode cX0_tell 51 = .ok (.invokevirtual 44, 3) := by decide +kernel
theorem dX0_tell_54 : decode cX0_tell 54 = .ok (.aload_n 0, 1) := by decide +kernel
theorem dX0_tell_55 : decode cX0_tell 55 = .ok (.invokevirtual 47, 3) := by decide +kernel
theorem dX0_tell_58 : decode cX0_tell 58 = .ok (.return_, 1) := by decide +kernel
theorem dX0_makeRoom_0 : decode cX0_makeRoom 0 = .ok (.aload_n 0, 1) := by decide +kernel
theorem dX0_makeRoom_1 : decode cX0_makeRoom 1 = .ok (.getfield 35, 3) := by decide +kernel
theorem dX0_makeRoom_4 : decode cX0_makeRoom 4 = .ok (.iconst 1, 1) := by decide +kernel
theorem dX0_makeRoom_5 : decode cX0_makeRoom 5 = .ok (.isub, 1) := by decide +kernel
theorem dX0_makeRoom_6 : decode cX0_makeRoom 6 = .ok (.aload_n 0, 1) := by decide +kernel
theorem dX0_makeRoom_7 : decode cX0_makeRoom 7 = .ok (.getfield 25, 3) := by decide +kernel
theorem dX0_makeRoom_10 : decode cX0_makeRoom 10 = .ok (.imul, 1) := by decide +kernel
theorem dX0_makeRoom_11 : decode cX0_makeRoom 11 = .ok (.aload_n 0, 1) := by decide +kernel
theorem dX0_makeRoom_12 : decode cX0_makeRoom 12 = .ok (.getfield 29, 3) := by decide +kernel
theorem dX0_makeRoom_15 : decode cX0_makeRoom 15 = .ok (.imul, 1) := by decide +kernel
theorem dX0_makeRoom_16 : decode cX0_makeRoom 16 = .ok (.aload_n 0, 1) := by decide +kernel
theorem dX0_makeRoom_17 : decode cX0_makeRoom 17 = .ok (.getfield 32, 3) := by decide +kernel
theorem dX0_makeRoom_20 : decode cX0_makeRoom 20 = .ok (.imul, 1) := by decide +kernel
theorem dX0_makeRoom_21 : decode cX0_makeRoom 21 = .ok (.istore_n 1, 1) := by decide +kernel
theorem dX0_makeRoom_22 : decode cX0_makeRoom 22 = .ok (.iload_n 1, 1) := by decide +kernel
theorem dX0_makeRoom_23 : decode cX0_makeRoom 23 = .ok (.aload_n 0, 1) := by decide +kernel
theorem dX0_makeRoom_24 : decode cX0_makeRoom 24 = .ok (.getfield 21, 3) := by decide +kernel
theorem dX0_makeRoom_27 : decode cX0_makeRoom 27 = .ok (.arraylength, 1) := by decide +kernel
theorem dX0_makeRoom_28 : decode cX0_makeRoom 28 = .ok (.if_icmp .le 26, 3) := by decide +kernel
theorem dX0_makeRoom_31 : decode cX0_makeRoom 31 = .ok (.aload_n 0, 1) := by decide +kernel
theorem dX0_makeRoom_32 : decode cX0_makeRoom 32 = .ok (.iload_n 1, 1) := by decide +kernel
theorem dX0_makeRoom_33 : decode cX0_makeRoom 33 = .ok (.iconst 2, 1) := by decide +kernel
theorem dX0_makeRoom_34 : decode cX0_makeRoom 34 = .ok (.aload_n 0, 1) := by decide +kernel
theorem dX0_makeRoom_35 : decode cX0_makeRoom 35 = .ok (.getfield 21, 3) := by decide +kernel
theorem dX0_makeRoom_38 : decode cX0_makeRoom 38 = .ok (.arraylength, 1) := by decide +kernel
theorem dX0_makeRoom_39 : decode cX0_makeRoom 39 = .ok (.imul, 1) := by decide +kernel
theorem dX0_makeRoom_40 : decode cX0_makeRoom 40 = .ok (.sipush 15360, 3) := by decide +kernel
theorem dX0_makeRoom_43 : decode cX0_makeRoom 43 = .ok (.invokestatic 50, 3) := by decide +kernel
theorem dX0_makeRoom_46 : decode cX0_makeRoom 46 = .ok (.invokestatic 56, 3) := by decide +kernel
theorem dX0_makeRoom_49 : decode cX0_makeRoom 49 = .ok (.newarray .int, 2) := by decide +kernel
theorem dX0_makeRoom_51 : decode cX0_makeRoom 51 = .ok (.putfield 21, 3) := by decide +kernel
theorem dX0_makeRoom_54 : decode cX0_makeRoom 54 = .ok (.return_, 1) := by decide +kernel
theorem dX0_countWays_0 : decode cX0_countWays 0 = .ok (.aload_n 0, 1) := by decide +kernel
theorem dX0_countWays_1 : decode cX0_countWays 1 = .ok (.getfield 35, 3) := by decide +kernel
theorem dX0_countWays_4 : decode cX0_countWays 4 = .ok (.iconst 1, 1) := by decide +kernel
theorem dX0_countWays_5 : decode cX0_countWays 5 = .ok (.isub, 1) := by decide +kernel
theorem dX0_countWays_6 : decode cX0_countWays 6 = .ok (.istore_n 1, 1) := by decide +kernel
theorem dX0_countWays_7 : decode cX0_countWays 7 = .ok (.iload_n 1, 1) := by decide +kernel
theorem dX0_countWays_8 : decode cX0_countWays 8 = .ok (.iconst 1, 1) := by decide +kernel
theorem dX0_countWays_9 : decode cX0_countWays 9 = .ok (.if_icmp .lt 31, 3) := by decide +kernel
theorem dX0_countWays_12 : decode cX0_countWays 12 = .ok (.iconst 0, 1) := by decide +kernel
theorem dX0_countWays_13 : decode cX0_countWays 13 = .ok (.istore_n 2, 1) := by decide +kernel
theorem dX0_countWays_14 : decode cX0_countWays 14 = .ok (.iload_n 2, 1) := by decide +kernel
theorem dX0_countWays_15 : decode cX0_countWays 15 = .ok (.aload_n 0, 1) := by decide +kernel
theorem dX0_countWays_16 : decode cX0_countWays 16 = .ok (.getfield 25, 3) := by decide +kernel
theorem dX0_countWays_19 : decode cX0_countWays 19 = .ok (.if_icmp .ge 15, 3) := by decide +kernel
theorem dX0_countWays_22 : decode cX0_countWays 22 = .ok (.aload_n 0, 1) := by decide +kernel
theorem dX0_countWays_23 : decode cX0_countWays 23 = .ok (.iload_n 1, 1) := by decide +kernel
theorem dX0_countWays_24 : decode cX0_countWays 24 = .ok (.iload_n 2, 1) := by decide +kernel
theorem dX0_countWays_25 : decode cX0_countWays 25 = .ok (.invokevirtual 59, 3) := by decide +kernel
theorem dX0_countWays_28 : decode cX0_countWays 28 = .ok (.iinc 2 1, 3) := by decide +kernel
theorem dX0_countWays_31 : decode cX0_countWays 31 = .ok (.goto (-17), 3) := by decide +kernel
theorem dX0_countWays_34 : decode cX0_countWays 34 = .ok (.iinc 1 (-1), 3) := by decide +kernel
theorem dX0_countWays_37 : decode cX0_countWays 37 = .ok (.goto (-30), 3) := by decide +kernel
theorem dX0_countWays_40 : decode cX0_countWays 40 = .ok (.aload_n 0, 1) := by decide +kernel
theorem dX0_countWays_41 : decode cX0_countWays 41 = .ok (.aload_n 0, 1) := by decide +kernel
theorem dX0_countWays_42 : decode cX0_countWays 42 = .ok (.iconst 0, 1) := by decide +kernel
theorem dX0_countWays_43 : decode cX0_countWays 43 = .ok (.iconst 0, 1) := by decide +kernel
theorem dX0_countWays_44 : decode cX0_countWays 44 = .ok (.iconst 0, 1) := by decide +kernel
theorem dX0_countWays_45 : decode cX0_countWays 45 = .ok (.iconst 0, 1) := by decide +kernel
theorem dX0_countWays_46 : decode cX0_countWays 46 = .ok (.invokevirtual 63, 3) := by decide +kernel
theorem dX0_countWays_49 : decode cX0_countWays 49 = .ok (.putfield 67, 3) := by decide +kernel
theorem dX0_countWays_52 : decode cX0_countWays 52 = .ok (.return_, 1) := by decide +kernel
theorem dX0_countWaysBehind_0 : decode cX0_countWaysBehind 0 = .ok (.iconst 0, 1) := by decide +kernel
theorem dX0_countWaysBehind_1 : decode cX0_countWaysBehind 1 = .ok (.istore_n 3, 1) := by decide +kernel
theorem dX0_countWaysBehind_2 : decode cX0_countWaysBehind 2 = .ok (.iload_n 3, 1) := by decide +kernel
theorem dX0_countWaysBehind_3 : decode cX0_countWaysBehind 3 = .ok (.aload_n 0, 1) := by decide +kernel
theorem dX0_countWaysBehind_4 : decode cX0_countWaysBehind 4 = .ok (.getfield 29, 3) := by decide +kernel
theorem dX0_countWaysBehind_7 : decode cX0_countWaysBehind 7 = .ok (.if_icmp .ge 50, 3) := by decide +kernel
theorem dX0_countWaysBehind_10 : decode cX0_countWaysBehind 10 = .ok (.iconst 0, 1) := by decide +kernel
theorem dX0_countWaysBehind_11 : decode cX0_countWaysBehind 11 = .ok (.istore 4, 2) := by decide +kernel
theorem dX0_countWaysBehind_13 : decode cX0_countWaysBehind 13 = .ok (.iload 4, 2) := by decide +kernel
theorem dX0_countWaysBehind_15 : decode cX0_countWaysBehind 15 = .ok (.aload_n 0, 1) := by decide +kernel
theorem dX0_countWaysBehind_16 : decode cX0_countWaysBehind 16 = .ok (.getfield 32, 3) := by decide +kernel
theorem dX0_countWaysBehind_19 : decode cX0_countWaysBehind 19 = .ok (.if_icmp .ge 32, 3) := by decide +kernel
theorem dX0_countWaysBehind_22 : decode cX0_countWaysBehind 22 = .ok (.aload_n 0, 1) := by decide +kernel
theorem dX0_countWaysBehind_23 : decode cX0_countWaysBehind 23 = .ok (.getfield 21, 3) := by decide +kernel
theorem dX0_countWaysBehind_26 : decode cX0_countWaysBehind 26 = .ok (.aload_n 0, 1) := by decide +kernel
theorem dX0_countWaysBehind_27 : decode cX0_countWaysBehind 27 = .ok (.iload_n 1, 1) := by decide +kernel
theorem dX0_countWaysBehind_28 : decode cX0_countWaysBehind 28 = .ok (.iload_n 2, 1) := by decide +kernel
theorem dX0_countWaysBehind_29 : decode cX0_countWaysBehind 29 = .ok (.iload_n 3, 1) := by decide +kernel
theorem dX0_countWaysBehind_30 : decode cX0_countWaysBehind 30 = .ok (.iload 4, 2) := by decide +kernel
theorem dX0_countWaysBehind_32 : decode cX0_countWaysBehind 32 = .ok (.invokevirtual 70, 3) := by decide +kernel
theorem dX0_countWaysBehind_35 : decode cX0_countWaysBehind 35 = .ok (.aload_n 0, 1) := by decide +kernel
theorem dX0_countWaysBehind_36 : decode cX0_countWaysBehind 36 = .ok (.iload_n 1, 1) := by decide +kernel
theorem dX0_countWaysBehind_37 : decode cX0_countWaysBehind 37 = .ok (.iload_n 2, 1) := by decide +kernel
theorem dX0_countWaysBehind_38 : decode cX0_countWaysBehind 38 = .ok (.iload_n 3, 1) := by decide +kernel
theorem dX0_countWaysBehind_39 : decode cX0_countWaysBehind 39 = .ok (.iload 4, 2) := by decide +kernel
theorem dX0_countWaysBehind_41 : decode cX0_countWaysBehind 41 = .ok (.invokevirtual 63, 3) := by decide +kernel
theorem dX0_countWaysBehind_44 : decode cX0_countWaysBehind 44 = .ok (.iastore, 1) := by decide +kernel
theorem dX0_countWaysBehind_45 : decode cX0_countWaysBehind 45 = .ok (.iinc 4 1, 3) := by decide +kernel
theorem dX0_countWaysBehind_48 : decode cX0_countWaysBehind 48 = .ok (.goto (-35), 3) := by decide +kernel
theorem dX0_countWaysBehind_51 : decode cX0_countWaysBehind 51 = .ok (.iinc 3 1, 3) := by decide +kernel
theorem dX0_countWaysBehind_54 : decode cX0_countWaysBehind 54 = .ok (.goto (-52), 3) := by decide +kernel
theorem dX0_countWaysBehind_57 : decode cX0_countWaysBehind 57 = .ok (.return_, 1) := by decide +kernel
theorem dX0_waysByNext_0 : decode cX0_waysByNext 0 = .ok (.iconst 0, 1) := by decide +kernel
theorem dX0_waysByNext_1 : decode cX0_waysByNext 1 = .ok (.istore 5, 2) := by decide +kernel
theorem dX0_waysByNext_3 : decode cX0_waysByNext 3 = .ok (.iconst 0, 1) := by decide +kernel
theorem dX0_waysByNext_4 : decode cX0_waysByNext 4 = .ok (.istore 6, 2) := by decide +kernel
theorem dX0_waysByNext_6 : decode cX0_waysByNext 6 = .ok (.iload 6, 2) := by decide +kernel
theorem dX0_waysByNext_8 : decode cX0_waysByNext 8 = .ok (.aload_n 0, 1) := by decide +kernel
theorem dX0_waysByNext_9 : decode cX0_waysByNext 9 = .ok (.getfield 25, 3) := by decide +kernel
theorem dX0_waysByNext_12 : decode cX0_waysByNext 12 = .ok (.if_icmp .ge 44, 3) := by decide +kernel
theorem dX0_waysByNext_15 : decode cX0_waysByNext 15 = .ok (.iload 5, 2) := by decide +kernel
theorem dX0_waysByNext_17 : decode cX0_waysByNext 17 = .ok (.aload_n 0, 1) := by decide +kernel
theorem dX0_waysByNext_18 : decode cX0_waysByNext 18 = .ok (.iload_n 1, 1) := by decide +kernel
theorem dX0_waysByNext_19 : decode cX0_waysByNext 19 = .ok (.iconst 1, 1) := by decide +kernel
theorem dX0_waysByNext_20 : decode cX0_waysByNext 20 = .ok (.iadd, 1) := by decide +kernel
theorem dX0_waysByNext_21 : decode cX0_waysByNext 21 = .ok (.iload 6, 2) := by decide +kernel
theorem dX0_waysByNext_23 : decode cX0_waysByNext 23 = .ok (.aload_n 0, 1) := by decide +kernel
theorem dX0_waysByNext_24 : decode cX0_waysByNext 24 = .ok (.iload_n 3, 1) := by decide +kernel
theorem dX0_waysByNext_25 : decode cX0_waysByNext 25 = .ok (.iload_n 1, 1) := by decide +kernel
theorem dX0_waysByNext_26 : decode cX0_waysByNext 26 = .ok (.iconst 1, 1) := by decide +kernel
theorem dX0_waysByNext_27 : decode cX0_waysByNext 27 = .ok (.iadd, 1) := by decide +kernel
theorem dX0_waysByNext_28 : decode cX0_waysByNext 28 = .ok (.iload_n 2, 1) := by decide +kernel
theorem dX0_waysByNext_29 : decode cX0_waysByNext 29 = .ok (.iload 6, 2) := by decide +kernel
theorem dX0_waysByNext_31 : decode cX0_waysByNext 31 = .ok (.invokevirtual 73, 3) := by decide +kernel
theorem dX0_waysByNext_34 : decode cX0_waysByNext 34 = .ok (.iload 4, 2) := by decide +kernel
theorem dX0_waysByNext_36 : decode cX0_waysByNext 36 = .ok (.iload 6, 2) := by decide +kernel
theorem dX0_waysByNext_38 : decode cX0_waysByNext 38 = .ok (.iadd, 1) := by decide +kernel
theorem dX0_waysByNext_39 : decode cX0_waysByNext 39 = .ok (.aload_n 0, 1) := by decide +kernel
theorem dX0_waysByNext_40 : decode cX0_waysByNext 40 = .ok (.getfield 32, 3) := by decide +kernel
theorem dX0_waysByNext_43 : decode cX0_waysByNext 43 = .ok (.irem, 1) := by decide +kernel
theorem dX0_waysByNext_44 : decode cX0_waysByNext 44 = .ok (.invokevirtual 76, 3) := by decide +kernel
theorem dX0_waysByNext_47 : decode cX0_waysByNext 47 = .ok (.iadd, 1) := by decide +kernel
theorem dX0_waysByNext_48 : decode cX0_waysByNext 48 = .ok (.istore 5, 2) := by decide +kernel
theorem dX0_waysByNext_50 : decode cX0_waysByNext 50 = .ok (.iinc 6 1, 3) := by decide +kernel
theorem dX0_waysByNext_53 : decode cX0_waysByNext 53 = .ok (.goto (-47), 3) := by decide +kernel
theorem dX0_waysByNext_56 : decode cX0_waysByNext 56 = .ok (.iload 5, 2) := by decide +kernel
theorem dX0_waysByNext_58 : decode cX0_waysByNext 58 = .ok (.ireturn, 1) := by decide +kernel
theorem dX0_waysToEnd_0 : decode cX0_waysToEnd 0 = .ok (.iload_n 1, 1) := by decide +kernel
theorem dX0_waysToEnd_1 : decode cX0_waysToEnd 1 = .ok (.aload_n 0, 1) := by decide +kernel
theorem dX0_waysToEnd_2 : decode cX0_waysToEnd 2 = .ok (.getfield 35, 3) := by decide +kernel
theorem dX0_waysToEnd_5 : decode cX0_waysToEnd 5 = .ok (.if_icmp .lt 26, 3) := by decide +kernel
theorem dX0_waysToEnd_8 : decode cX0_waysToEnd 8 = .ok (.iload_n 3, 1) := by decide +kernel
theorem dX0_waysToEnd_9 : decode cX0_waysToEnd 9 = .ok (.aload_n 0, 1) := by decide +kernel
theorem dX0_waysToEnd_10 : decode cX0_waysToEnd 10 = .ok (.getfield 38, 3) := by decide +kernel
theorem dX0_waysToEnd_13 : decode cX0_waysToEnd 13 = .ok (.if_icmp .ne 16, 3) := by decide +kernel
theorem dX0_waysToEnd_16 : decode cX0_waysToEnd 16 = .ok (.iload 4, 2) := by decide +kernel
theorem dX0_waysToEnd_18 : decode cX0_waysToEnd 18 = .ok (.aload_n 0, 1) := by decide +kernel
theorem dX0_waysToEnd_19 : decode cX0_waysToEnd 19 = .ok (.getfield 41, 3) := by decide +kernel
theorem dX0_waysToEnd_22 : decode cX0_waysToEnd 22 = .ok (.if_icmp .ne 7, 3) := by decide +kernel
theorem dX0_waysToEnd_25 : decode cX0_waysToEnd 25 = .ok (.iconst 1, 1) := by decide +kernel
theorem dX0_waysToEnd_26 : decode cX0_waysToEnd 26 = .ok (.goto 4, 3) := by decide +kernel
theorem dX0_waysToEnd_29 : decode cX0_waysToEnd 29 = .ok (.iconst 0, 1) := by decide +kernel
theorem dX0_waysToEnd_30 : decode cX0_waysToEnd 30 = .ok (.ireturn, 1) := by decide +kernel
theorem dX0_waysToEnd_31 : decode cX0_waysToEnd 31 = .ok (.aload_n 0, 1) := by decide +kernel
theorem dX0_waysToEnd_32 : decode cX0_waysToEnd 32 = .ok (.getfield 21, 3) := by decide +kernel
theorem dX0_waysToEnd_35 : decode cX0_waysToEnd 35 = .ok (.aload_n 0, 1) := by decide +kernel
theorem dX0_waysToEnd_36 : decode cX0_waysToEnd 36 = .ok (.iload_n 1, 1) := by decide +kernel
theorem dX0_waysToEnd_37 : decode cX0_waysToEnd 37 = .ok (.iload_n 2, 1) := by decide +kernel
theorem dX0_waysToEnd_38 : decode cX0_waysToEnd 38 = .ok (.iload_n 3, 1) := by decide +kernel
theorem dX0_waysToEnd_39 : decode cX0_waysToEnd 39 = .ok (.iload 4, 2) := by decide +kernel
theorem dX0_waysToEnd_41 : decode cX0_waysToEnd 41 = .ok (.invokevirtual 70, 3) := by decide +kernel
theorem dX0_waysToEnd_44 : decode cX0_waysToEnd 44 = .ok (.iaload, 1) := by decide +kernel
theorem dX0_waysToEnd_45 : decode cX0_waysToEnd 45 = .ok (.ireturn, 1) := by decide +kernel
theorem dX0_cell_0 : decode cX0_cell 0 = .ok (.iload_n 1, 1) := by decide +kernel
theorem dX0_cell_1 : decode cX0_cell 1 = .ok (.iconst 1, 1) := by decide +kernel
theorem dX0_cell_2 : decode cX0_cell 2 = .ok (.isub, 1) := by decide +kernel
theorem dX0_cell_3 : decode cX0_cell 3 = .ok (.aload_n 0, 1) := by decide +kernel
theorem dX0_cell_4 : decode cX0_cell 4 = .ok (.getfield 25, 3) := by decide +kernel
theorem dX0_cell_7 : decode cX0_cell 7 = .ok (.imul, 1) := by decide +kernel
theorem dX0_cell_8 : decode cX0_cell 8 = .ok (.iload_n 2, 1) := by decide +kernel
theorem dX0_cell_9 : decode cX0_cell 9 = .ok (.iadd, 1) := by decide +kernel
theorem dX0_cell_10 : decode cX0_cell 10 = .ok (.aload_n 0, 1) := by decide +kernel
theorem dX0_cell_11 : decode cX0_cell 11 = .ok (.getfield 29, 3) := by decide +kernel
theorem dX0_cell_14 : decode cX0_cell 14 = .ok (.imul, 1) := by decide +kernel
theorem dX0_cell_15 : decode cX0_cell 15 = .ok (.iload_n 3, 1) := by decide +kernel
theorem dX0_cell_16 : decode cX0_cell 16 = .ok (.iadd, 1) := by decide +kernel
theorem dX0_cell_17 : decode cX0_cell 17 = .ok (.aload_n 0, 1) := by decide +kernel
theorem dX0_cell_18 : decode cX0_cell 18 = .ok (.getfield 32, 3) := by decide +kernel
theorem dX0_cell_21 : decode cX0_cell 21 = .ok (.imul, 1) := by decide +kernel
theorem dX0_cell_22 : decode cX0_cell 22 = .ok (.iload 4, 2) := by decide +kernel
theorem dX0_cell_24 : decode cX0_cell 24 = .ok (.iadd, 1) := by decide +kernel
theorem dX0_cell_25 : decode cX0_cell 25 = .ok (.ireturn, 1) := by decide +kernel
theorem dX0_sumWith_0 : decode cX0_sumWith 0 = .ok (.aload_n 0, 1) := by decide +kernel
theorem dX0_sumWith_1 : decode cX0_sumWith 1 = .ok (.getfield 25, 3) := by decide +kernel
theorem dX0_sumWith_4 : decode cX0_sumWith 4 = .ok (.iconst 2, 1) := by decide +kernel
theorem dX0_sumWith_5 : decode cX0_sumWith 5 = .ok (.if_icmp .ne 15, 3) := by decide +kernel
theorem dX0_sumWith_8 : decode cX0_sumWith 8 = .ok (.iload_n 1, 1) := by decide +kernel
theorem dX0_sumWith_9 : decode cX0_sumWith 9 = .ok (.iload_n 2, 1) := by decide +kernel
theorem dX0_sumWith_10 : decode cX0_sumWith 10 = .ok (.iload 4, 2) := by decide +kernel
theorem dX0_sumWith_12 : decode cX0_sumWith 12 = .ok (.imul, 1) := by decide +kernel
theorem dX0_sumWith_13 : decode cX0_sumWith 13 = .ok (.iadd, 1) := by decide +kernel
theorem dX0_sumWith_14 : decode cX0_sumWith 14 = .ok (.aload_n 0, 1) := by decide +kernel
theorem dX0_sumWith_15 : decode cX0_sumWith 15 = .ok (.getfield 29, 3) := by decide +kernel
theorem dX0_sumWith_18 : decode cX0_sumWith 18 = .ok (.irem, 1) := by decide +kernel
theorem dX0_sumWith_19 : decode cX0_sumWith 19 = .ok (.ireturn, 1) := by decide +kernel
theorem dX0_sumWith_20 : decode cX0_sumWith 20 = .ok (.iload_n 2, 1) := by decide +kernel
theorem dX0_sumWith_21 : decode cX0_sumWith 21 = .ok (.iconst 1, 1) := by decide +kernel
theorem dX0_sumWith_22 : decode cX0_sumWith 22 = .ok (.if_icmp .le 22, 3) := by decide +kernel
theorem dX0_sumWith_25 : decode cX0_sumWith 25 = .ok (.iload 4, 2) := by decide +kernel
theorem dX0_sumWith_27 : decode cX0_sumWith 27 = .ok (.iload_n 3, 1) := by decide +kernel
theorem dX0_sumWith_28 : decode cX0_sumWith 28 = .ok (.if_icmp .lt 16, 3) := by decide +kernel
theorem dX0_sumWith_31 : decode cX0_sumWith 31 = .ok (.iload_n 1, 1) := by decide +kernel
theorem dX0_sumWith_32 : decode cX0_sumWith 32 = .ok (.iload_n 2, 1) := by decide +kernel
theorem dX0_sumWith_33 : decode cX0_sumWith 33 = .ok (.iadd, 1) := by decide +kernel
theorem dX0_sumWith_34 : decode cX0_sumWith 34 = .ok (.iconst 1, 1) := by decide +kernel
theorem dX0_sumWith_35 : decode cX0_sumWith 35 = .ok (.isub, 1) := by decide +kernel
theorem dX0_sumWith_36 : decode cX0_sumWith 36 = .ok (.aload_n 0, 1) := by decide +kernel
theorem dX0_sumWith_37 : decode cX0_sumWith 37 = .ok (.getfield 29, 3) := by decide +kernel
theorem dX0_sumWith_40 : decode cX0_sumWith 40 = .ok (.irem, 1) := by decide +kernel
theorem dX0_sumWith_41 : decode cX0_sumWith 41 = .ok (.goto 4, 3) := by decide +kernel
theorem dX0_sumWith_44 : decode cX0_sumWith 44 = .ok (.iload_n 1, 1) := by decide +kernel
theorem dX0_sumWith_45 : decode cX0_sumWith 45 = .ok (.ireturn, 1) := by decide +kernel
theorem dX0_sumOf_0 : decode cX0_sumOf 0 = .ok (.iconst 0, 1) := by decide +kernel
theorem dX0_sumOf_1 : decode cX0_sumOf 1 = .ok (.istore_n 2, 1) := by decide +kernel
theorem dX0_sumOf_2 : decode cX0_sumOf 2 = .ok (.iconst 0, 1) := by decide +kernel
theorem dX0_sumOf_3 : decode cX0_sumOf 3 = .ok (.istore_n 3, 1) := by decide +kernel
theorem dX0_sumOf_4 : decode cX0_sumOf 4 = .ok (.iconst 0, 1) := by decide +kernel
theorem dX0_sumOf_5 : decode cX0_sumOf 5 = .ok (.istore 4, 2) := by decide +kernel
theorem dX0_sumOf_7 : decode cX0_sumOf 7 = .ok (.iload 4, 2) := by decide +kernel
theorem dX0_sumOf_9 : decode cX0_sumOf 9 = .ok (.aload_n 1, 1) := by decide +kernel
theorem dX0_sumOf_10 : decode cX0_sumOf 10 = .ok (.getfield 79, 3) := by decide +kernel
theorem dX0_sumOf_13 : decode cX0_sumOf 13 = .ok (.if_icmp .ge 33, 3) := by decide +kernel
theorem dX0_sumOf_16 : decode cX0_sumOf 16 = .ok (.aload_n 1, 1) := by decide +kernel
theorem dX0_sumOf_17 : decode cX0_sumOf 17 = .ok (.iload 4, 2) := by decide +kernel
theorem dX0_sumOf_19 : decode cX0_sumOf 19 = .ok (.invokevirtual 80, 3) := by decide +kernel
theorem dX0_sumOf_22 : decode cX0_sumOf 22 = .ok (.istore 5, 2) := by decide +kernel
theorem dX0_sumOf_24 : decode cX0_sumOf 24 = .ok (.aload_n 0, 1) := by decide +kernel
theorem dX0_sumOf_25 : decode cX0_sumOf 25 = .ok (.iload_n 2, 1) := by decide +kernel
theorem dX0_sumOf_26 : decode cX0_sumOf 26 = .ok (.iload 4, 2) := by decide +kernel
theorem dX0_sumOf_28 : decode cX0_sumOf 28 = .ok (.iconst 1, 1) := by decide +kernel
theorem dX0_sumOf_29 : decode cX0_sumOf 29 = .ok (.iadd, 1) := by decide +kernel
theorem dX0_sumOf_30 : decode cX0_sumOf 30 = .ok (.iload_n 3, 1) := by decide +kernel
theorem dX0_sumOf_31 : decode cX0_sumOf 31 = .ok (.iload 5, 2) := by decide +kernel
theorem dX0_sumOf_33 : decode cX0_sumOf 33 = .ok (.invokevirtual 73, 3) := by decide +kernel
theorem dX0_sumOf_36 : decode cX0_sumOf 36 = .ok (.istore_n 2, 1) := by decide +kernel
theorem dX0_sumOf_37 : decode cX0_sumOf 37 = .ok (.iload 5, 2) := by decide +kernel
theorem dX0_sumOf_39 : decode cX0_sumOf 39 = .ok (.istore_n 3, 1) := by decide +kernel
theorem dX0_sumOf_40 : decode cX0_sumOf 40 = .ok (.iinc 4 1, 3) := by decide +kernel
theorem dX0_sumOf_43 : decode cX0_sumOf 43 = .ok (.goto (-36), 3) := by decide +kernel
theorem dX0_sumOf_46 : decode cX0_sumOf 46 = .ok (.iload_n 2, 1) := by decide +kernel
theorem dX0_sumOf_47 : decode cX0_sumOf 47 = .ok (.ireturn, 1) := by decide +kernel
theorem dX0_holds_0 : decode cX0_holds 0 = .ok (.aload_n 1, 1) := by decide +kernel
theorem dX0_holds_1 : decode cX0_holds 1 = .ok (.getfield 79, 3) := by decide +kernel
theorem dX0_holds_4 : decode cX0_holds 4 = .ok (.aload_n 0, 1) := by decide +kernel
theorem dX0_holds_5 : decode cX0_holds 5 = .ok (.getfield 35, 3) := by decide +kernel
theorem dX0_holds_8 : decode cX0_holds 8 = .ok (.if_icmp .ne 15, 3) := by decide +kernel
theorem dX0_holds_11 : decode cX0_holds 11 = .ok (.aload_n 0, 1) := by decide +kernel
theorem dX0_holds_12 : decode cX0_holds 12 = .ok (.aload_n 1, 1) := by decide +kernel
theorem dX0_holds_13 : decode cX0_holds 13 = .ok (.invokevirtual 84, 3) := by decide +kernel
theorem dX0_holds_16 : decode cX0_holds 16 = .ok (.aload_n 0, 1) := by decide +kernel
theorem dX0_holds_17 : decode cX0_holds 17 = .ok (.getfield 38, 3) := by decide +kernel
theorem dX0_holds_20 : decode cX0_holds 20 = .ok (.if_icmp .eq 5, 3) := by decide +kernel
theorem dX0_holds_23 : decode cX0_holds 23 = .ok (.iconst 0, 1) := by decide +kernel
theorem dX0_holds_24 : decode cX0_holds 24 = .ok (.ireturn, 1) := by decide +kernel
theorem dX0_holds_25 : decode cX0_holds 25 = .ok (.iconst 0, 1) := by decide +kernel
theorem dX0_holds_26 : decode cX0_holds 26 = .ok (.istore_n 2, 1) := by decide +kernel
theorem dX0_holds_27 : decode cX0_holds 27 = .ok (.iconst 0, 1) := by decide +kernel
theorem dX0_holds_28 : decode cX0_holds 28 = .ok (.istore_n 3, 1) := by decide +kernel
theorem dX0_holds_29 : decode cX0_holds 29 = .ok (.iload_n 3, 1) := by decide +kernel
theorem dX0_holds_30 : decode cX0_holds 30 = .ok (.aload_n 0, 1) := by decide +kernel
theorem dX0_holds_31 : decode cX0_holds 31 = .ok (.getfield 35, 3) := by decide +kernel
theorem dX0_holds_34 : decode cX0_holds 34 = .ok (.if_icmp .ge 17, 3) := by decide +kernel
theorem dX0_holds_37 : decode cX0_holds 37 = .ok (.iload_n 2, 1) := by decide +kernel
theorem dX0_holds_38 : decode cX0_holds 38 = .ok (.aload_n 1, 1) := by decide +kernel
theorem dX0_holds_39 : decode cX0_holds 39 = .ok (.iload_n 3, 1) := by decide +kernel
theorem dX0_holds_40 : decode cX0_holds 40 = .ok (.invokevirtual 80, 3) := by decide +kernel
theorem dX0_holds_43 : decode cX0_holds 43 = .ok (.iadd, 1) := by decide +kernel
theorem dX0_holds_44 : decode cX0_holds 44 = .ok (.istore_n 2, 1) := by decide +kernel
theorem dX0_holds_45 : decode cX0_holds 45 = .ok (.iinc 3 1, 3) := by decide +kernel
theorem dX0_holds_48 : decode cX0_holds 48 = .ok (.goto (-19), 3) := by decide +kernel
theorem dX0_holds_51 : decode cX0_holds 51 = .ok (.iload_n 2, 1) := by decide +kernel
theorem dX0_holds_52 : decode cX0_holds 52 = .ok (.aload_n 0, 1) := by decide +kernel
theorem dX0_holds_53 : decode cX0_holds 53 = .ok (.getfield 32, 3) := by decide +kernel
theorem dX0_holds_56 : decode cX0_holds 56 = .ok (.irem, 1) := by decide +kernel
theorem dX0_holds_57 : decode cX0_holds 57 = .ok (.aload_n 0, 1) := by decide +kernel
theorem dX0_holds_58 : decode cX0_holds 58 = .ok (.getfield 41, 3) := by decide +kernel
theorem dX0_holds_61 : decode cX0_holds 61 = .ok (.if_icmp .ne 7, 3) := by decide +kernel
theorem dX0_holds_64 : decode cX0_holds 64 = .ok (.iconst 1, 1) := by decide +kernel
theorem dX0_holds_65 : decode cX0_holds 65 = .ok (.goto 4, 3) := by decide +kernel
theorem dX0_holds_68 : decode cX0_holds 68 = .ok (.iconst 0, 1) := by decide +kernel
theorem dX0_holds_69 : decode cX0_holds 69 = .ok (.ireturn, 1) := by decide +kernel
theorem dX0_write_0 : decode cX0_write 0 = .ok (.iload_n 1, 1) := by decide +kernel
theorem dX0_write_1 : decode cX0_write 1 = .ok (.istore_n 3, 1) := by decide +kernel
theorem dX0_write_2 : decode cX0_write 2 = .ok (.iconst 0, 1) := by decide +kernel
theorem dX0_write_3 : decode cX0_write 3 = .ok (.istore 4, 2) := by decide +kernel
theorem dX0_write_5 : decode cX0_write 5 = .ok (.iconst 0, 1) := by decide +kernel
theorem dX0_write_6 : decode cX0_write 6 = .ok (.istore 5, 2) := by decide +kernel
theorem dX0_write_8 : decode cX0_write 8 = .ok (.iconst 0, 1) := by decide +kernel
theorem dX0_write_9 : decode cX0_write 9 = .ok (.istore 6, 2) := by decide +kernel
theorem dX0_write_11 : decode cX0_write 11 = .ok (.aload_n 2, 1) := by decide +kernel
theorem dX0_write_12 : decode cX0_write 12 = .ok (.invokevirtual 88, 3) := by decide +kernel
theorem dX0_write_15 : decode cX0_write 15 = .ok (.iconst 1, 1) := by decide +kernel
theorem dX0_write_16 : decode cX0_write 16 = .ok (.istore 7, 2) := by decide +kernel
theorem dX0_write_18 : decode cX0_write 18 = .ok (.iload 7, 2) := by decide +kernel
theorem dX0_write_20 : decode cX0_write 20 = .ok (.aload_n 0, 1) := by decide +kernel
theorem dX0_write_21 : decode cX0_write 21 = .ok (.getfield 35, 3) := by decide +kernel
theorem dX0_write_24 : decode cX0_write 24 = .ok (.if_icmp .gt 132, 3) := by decide +kernel
theorem dX0_write_27 : decode cX0_write 27 = .ok (.iconst 0, 1) := by decide +kernel
theorem dX0_write_28 : decode cX0_write 28 = .ok (.istore 8, 2) := by decide +kernel
theorem dX0_write_30 : decode cX0_write 30 = .ok (.aload_n 0, 1) := by decide +kernel
theorem dX0_write_31 : decode cX0_write 31 = .ok (.iload 7, 2) := by decide +kernel
theorem dX0_write_33 : decode cX0_write 33 = .ok (.iload 8, 2) := by decide +kernel
theorem dX0_write_35 : decode cX0_write 35 = .ok (.aload_n 0, 1) := by decide +kernel
theorem dX0_write_36 : decode cX0_write 36 = .ok (.iload 5, 2) := by decide +kernel
theorem dX0_write_38 : decode cX0_write 38 = .ok (.iload 7, 2) := by decide +kernel
theorem dX0_write_40 : decode cX0_write 40 = .ok (.iload 4, 2) := by decide +kernel
theorem dX0_write_42 : decode cX0_write 42 = .ok (.iload 8, 2) := by decide +kernel
theorem dX0_write_44 : decode cX0_write 44 = .ok (.invokevirtual 73, 3) := by decide +kernel
theorem dX0_write_47 : decode cX0_write 47 = .ok (.iload 6, 2) := by decide +kernel
theorem dX0_write_49 : decode cX0_write 49 = .ok (.invokevirtual 76, 3) := by decide +kernel
theorem dX0_write_52 : decode cX0_write 52 = .ok (.istore 9, 2) := by decide +kernel
theorem dX0_write_54 : decode cX0_write 54 = .ok (.iload 8, 2) := by decide +kernel
theorem dX0_write_56 : decode cX0_write 56 = .ok (.aload_n 0, 1) := by decide +kernel
theorem dX0_write_57 : decode cX0_write 57 = .ok (.getfield 25, 3) := by decide +kernel
theorem dX0_write_60 : decode cX0_write 60 = .ok (.iconst 1, 1) := by decide +kernel
theorem dX0_write_61 : decode cX0_write 61 = .ok (.isub, 1) := by decide +kernel
theorem dX0_write_62 : decode cX0_write 62 = .ok (.if_icmp .ge 52, 3) := by decide +kernel
theorem dX0_write_65 : decode cX0_write 65 = .ok (.iload_n 3, 1) := by decide +kernel
theorem dX0_write_66 : decode cX0_write 66 = .ok (.iload 9, 2) := by decide +kernel
theorem dX0_write_68 : decode cX0_write 68 = .ok (.if_icmp .lt 46, 3) := by decide +kernel
theorem dX0_write_71 : decode cX0_write 71 = .ok (.iload_n 3, 1) := by decide +kernel
theorem dX0_write_72 : decode cX0_write 72 = .ok (.iload 9, 2) := by decide +kernel
theorem dX0_write_74 : decode cX0_write 74 = .ok (.isub, 1) := by decide +kernel
theorem dX0_write_75 : decode cX0_write 75 = .ok (.istore_n 3, 1) := by decide +kernel
theorem dX0_write_76 : decode cX0_write 76 = .ok (.iinc 8 1, 3) := by decide +kernel
theorem dX0_write_79 : decode cX0_write 79 = .ok (.aload_n 0, 1) := by decide +kernel
theorem dX0_write_80 : decode cX0_write 80 = .ok (.iload 7, 2) := by decide +kernel
theorem dX0_write_82 : decode cX0_write 82 = .ok (.iload 8, 2) := by decide +kernel
theorem dX0_write_84 : decode cX0_write 84 = .ok (.aload_n 0, 1) := by decide +kernel
theorem dX0_write_85 : decode cX0_write 85 = .ok (.iload 5, 2) := by decide +kernel
theorem dX0_write_87 : decode cX0_write 87 = .ok (.iload 7, 2) := by decide +kernel
theorem dX0_write_89 : decode cX0_write 89 = .ok (.iload 4, 2) := by decide +kernel
theorem dX0_write_91 : decode cX0_write 91 = .ok (.iload 8, 2) := by decide +kernel
theorem dX0_write_93 : decode cX0_write 93 = .ok (.invokevirtual 73, 3) := by decide +kernel
theorem dX0_write_96 : decode cX0_write 96 = .ok (.iload 6, 2) := by decide +kernel
theorem dX0_write_98 : decode cX0_write 98 = .ok (.iload 8, 2) := by decide +kernel
theorem dX0_write_100 : decode cX0_write 100 = .ok (.iadd, 1) := by decide +kernel
theorem dX0_write_101 : decode cX0_write 101 = .ok (.aload_n 0, 1) := by decide +kernel
theorem dX0_write_102 : decode cX0_write 102 = .ok (.getfield 32, 3) := by decide +kernel
theorem dX0_write_105 : decode cX0_write 105 = .ok (.irem, 1) := by decide +kernel
theorem dX0_write_106 : decode cX0_write 106 = .ok (.invokevirtual 76, 3) := by decide +kernel
theorem dX0_write_109 : decode cX0_write 109 = .ok (.istore 9, 2) := by decide +kernel
theorem dX0_write_111 : decode cX0_write 111 = .ok (.goto (-57), 3) := by decide +kernel
theorem dX0_write_114 : decode cX0_write 114 = .ok (.aload_n 2, 1) := by decide +kernel
theorem dX0_write_115 : decode cX0_write 115 = .ok (.iload 8, 2) := by decide +kernel
theorem dX0_write_117 : decode cX0_write 117 = .ok (.invokevirtual 91, 3) := by decide +kernel
theorem dX0_write_120 : decode cX0_write 120 = .ok (.aload_n 0, 1) := by decide +kernel
theorem dX0_write_121 : decode cX0_write 121 = .ok (.iload 5, 2) := by decide +kernel
theorem dX0_write_123 : decode cX0_write 123 = .ok (.iload 7, 2) := by decide +kernel
theorem dX0_write_125 : decode cX0_write 125 = .ok (.iload 4, 2) := by decide +kernel
theorem dX0_write_127 : decode cX0_write 127 = .ok (.iload 8, 2) := by decide +kernel
theorem dX0_write_129 : decode cX0_write 129 = .ok (.invokevirtual 73, 3) := by decide +kernel
theorem dX0_write_132 : decode cX0_write 132 = .ok (.istore 5, 2) := by decide +kernel
theorem dX0_write_134 : decode cX0_write 134 = .ok (.iload 6, 2) := by decide +kernel
theorem dX0_write_136 : decode cX0_write 136 = .ok (.iload 8, 2) := by decide +kernel
theorem dX0_write_138 : decode cX0_write 138 = .ok (.iadd, 1) := by decide +kernel
theorem dX0_write_139 : decode cX0_write 139 = .ok (.aload_n 0, 1) := by decide +kernel
theorem dX0_write_140 : decode cX0_write 140 = .ok (.getfield 32, 3) := by decide +kernel
theorem dX0_write_143 : decode cX0_write 143 = .ok (.irem, 1) := by decide +kernel
theorem dX0_write_144 : decode cX0_write 144 = .ok (.istore 6, 2) := by decide +kernel
theorem dX0_write_146 : decode cX0_write 146 = .ok (.iload 8, 2) := by decide +kernel
theorem dX0_write_148 : decode cX0_write 148 = .ok (.istore 4, 2) := by decide +kernel
theorem dX0_write_150 : decode cX0_write 150 = .ok (.iinc 7 1, 3) := by decide +kernel
theorem dX0_write_153 : decode cX0_write 153 = .ok (.goto (-135), 3) := by decide +kernel
theorem dX0_write_156 : decode cX0_write 156 = .ok (.return_, 1) := by decide +kernel
theorem dX0_neighbours_0 : decode cX0_neighbours 0 = .ok (.aload_n 1, 1) := by decide +kernel
theorem dX0_neighbours_1 : decode cX0_neighbours 1 = .ok (.getfield 79, 3) := by decide +kernel
theorem dX0_neighbours_4 : decode cX0_neighbours 4 = .ok (.aload_n 0, 1) := by decide +kernel
theorem dX0_neighbours_5 : decode cX0_neighbours 5 = .ok (.getfield 35, 3) := by decide +kernel
theorem dX0_neighbours_8 : decode cX0_neighbours 8 = .ok (.if_icmp .ne 9, 3) := by decide +kernel
theorem dX0_neighbours_11 : decode cX0_neighbours 11 = .ok (.aload_n 0, 1) := by decide +kernel
theorem dX0_neighbours_12 : decode cX0_neighbours 12 = .ok (.aload_n 1, 1) := by decide +kernel
theorem dX0_neighbours_13 : decode cX0_neighbours 13 = .ok (.invokevirtual 95, 3) := by decide +kernel
theorem dX0_neighbours_16 : decode cX0_neighbours 16 = .ok (.ireturn, 1) := by decide +kernel
theorem dX0_neighbours_17 : decode cX0_neighbours 17 = .ok (.aload_n 1, 1) := by decide +kernel
theorem dX0_neighbours_18 : decode cX0_neighbours 18 = .ok (.getfield 79, 3) := by decide +kernel
theorem dX0_neighbours_21 : decode cX0_neighbours 21 = .ok (.aload_n 0, 1) := by decide +kernel
theorem dX0_neighbours_22 : decode cX0_neighbours 22 = .ok (.getfield 35, 3) := by decide +kernel
theorem dX0_neighbours_25 : decode cX0_neighbours 25 = .ok (.iconst 1, 1) := by decide +kernel
theorem dX0_neighbours_26 : decode cX0_neighbours 26 = .ok (.iadd, 1) := by decide +kernel
theorem dX0_neighbours_27 : decode cX0_neighbours 27 = .ok (.if_icmp .ne 9, 3) := by decide +kernel
theorem dX0_neighbours_30 : decode cX0_neighbours 30 = .ok (.aload_n 0, 1) := by decide +kernel
theorem dX0_neighbours_31 : decode cX0_neighbours 31 = .ok (.aload_n 1, 1) := by decide +kernel
theorem dX0_neighbours_32 : decode cX0_neighbours 32 = .ok (.invokevirtual 98, 3) := by decide +kernel
theorem dX0_neighbours_35 : decode cX0_neighbours 35 = .ok (.ireturn, 1) := by decide +kernel
theorem dX0_neighbours_36 : decode cX0_neighbours 36 = .ok (.aload_n 1, 1) := by decide +kernel
theorem dX0_neighbours_37 : decode cX0_neighbours 37 = .ok (.getfield 79, 3) := by decide +kernel
theorem dX0_neighbours_40 : decode cX0_neighbours 40 = .ok (.aload_n 0, 1) := by decide +kernel
theorem dX0_neighbours_41 : decode cX0_neighbours 41 = .ok (.getfield 35, 3) := by decide +kernel
theorem dX0_neighbours_44 : decode cX0_neighbours 44 = .ok (.iconst 1, 1) := by decide +kernel
theorem dX0_neighbours_45 : decode cX0_neighbours 45 = .ok (.isub, 1) := by decide +kernel
theorem dX0_neighbours_46 : decode cX0_neighbours 46 = .ok (.if_icmp .ne 11, 3) := by decide +kernel
theorem dX0_neighbours_49 : decode cX0_neighbours 49 = .ok (.aload_n 0, 1) := by decide +kernel
theorem dX0_neighbours_50 : decode cX0_neighbours 50 = .ok (.aload_n 1, 1) := by decide +kernel
theorem dX0_neighbours_51 : decode cX0_neighbours 51 = .ok (.invokevirtual 101, 3) := by decide +kernel
theorem dX0_neighbours_54 : decode cX0_neighbours 54 = .ok (.goto 4, 3) := by decide +kernel
theorem dX0_neighbours_57 : decode cX0_neighbours 57 = .ok (.iconst 0, 1) := by decide +kernel
theorem dX0_neighbours_58 : decode cX0_neighbours 58 = .ok (.ireturn, 1) := by decide +kernel
theorem dX0_neighboursByTurn_0 : decode cX0_neighboursByTurn 0 = .ok (.iconst 0, 1) := by decide +kernel
theorem dX0_neighboursByTurn_1 : decode cX0_neighboursByTurn 1 = .ok (.istore_n 2, 1) := by decide +kernel
theorem dX0_neighboursByTurn_2 : decode cX0_neighboursByTurn 2 = .ok (.iconst 0, 1) := by decide +kernel
theorem dX0_neighboursByTurn_3 : decode cX0_neighboursByTurn 3 = .ok (.istore_n 3, 1) := by decide +kernel
theorem dX0_neighboursByTurn_4 : decode cX0_neighboursByTurn 4 = .ok (.iload_n 3, 1) := by decide +kernel
theorem dX0_neighboursByTurn_5 : decode cX0_neighboursByTurn 5 = .ok (.aload_n 1, 1) := by decide +kernel
theorem dX0_neighboursByTurn_6 : decode cX0_neighboursByTurn 6 = .ok (.getfield 79, 3) := by decide +kernel
theorem dX0_neighboursByTurn_9 : decode cX0_neighboursByTurn 9 = .ok (.if_icmp .ge 62, 3) := by decide +kernel
theorem dX0_neighboursByTurn_12 : decode cX0_neighboursByTurn 12 = .ok (.iconst 0, 1) := by decide +kernel
theorem dX0_neighboursByTurn_13 : decode cX0_neighboursByTurn 13 = .ok (.istore 4, 2) := by decide +kernel
theorem dX0_neighboursByTurn_15 : decode cX0_neighboursByTurn 15 = .ok (.iload 4, 2) := by decide +kernel
theorem dX0_neighboursByTurn_17 : decode cX0_neighboursByTurn 17 = .ok (.aload_n 0, 1) := by decide +kernel
theorem dX0_neighboursByTurn_18 : decode cX0_neighboursByTurn 18 = .ok (.getfield 25, 3) := by decide +kernel
theorem dX0_neighboursByTurn_21 : decode cX0_neighboursByTurn 21 = .ok (.if_icmp .ge 44, 3) := by decide +kernel
theorem dX0_neighboursByTurn_24 : decode cX0_neighboursByTurn 24 = .ok (.iload 4, 2) := by decide +kernel
theorem dX0_neighboursByTurn_26 : decode cX0_neighboursByTurn 26 = .ok (.aload_n 1, 1) := by decide +kernel
theorem dX0_neighboursByTurn_27 : decode cX0_neighboursByTurn 27 = .ok (.iload_n 3, 1) := by decide +kernel
theorem dX0_neighboursByTurn_28 : decode cX0_neighboursByTurn 28 = .ok (.invokevirtual 80, 3) := by decide +kernel
theorem dX0_neighboursByTurn_31 : decode cX0_neighboursByTurn 31 = .ok (.if_icmp .eq 28, 3) := by decide +kernel
theorem dX0_neighboursByTurn_34 : decode cX0_neighboursByTurn 34 = .ok (.aload_n 0, 1) := by decide +kernel
theorem dX0_neighboursByTurn_35 : decode cX0_neighboursByTurn 35 = .ok (.getfield 12, 3) := by decide +kernel
theorem dX0_neighboursByTurn_38 : decode cX0_neighboursByTurn 38 = .ok (.aload_n 1, 1) := by decide +kernel
theorem dX0_neighboursByTurn_39 : decode cX0_neighboursByTurn 39 = .ok (.invokevirtual 104, 3) := by decide +kernel
theorem dX0_neighboursByTurn_42 : decode cX0_neighboursByTurn 42 = .ok (.aload_n 0, 1) := by decide +kernel
theorem dX0_neighboursByTurn_43 : decode cX0_neighboursByTurn 43 = .ok (.getfield 12, 3) := by decide +kernel
theorem dX0_neighboursByTurn_46 : decode cX0_neighboursByTurn 46 = .ok (.iload_n 3, 1) := by decide +kernel
theorem dX0_neighboursByTurn_47 : decode cX0_neighboursByTurn 47 = .ok (.iload 4, 2) := by decide +kernel
theorem dX0_neighboursByTurn_49 : decode cX0_neighboursByTurn 49 = .ok (.invokevirtual 108, 3) := by decide +kernel
theorem dX0_neighboursByTurn_52 : decode cX0_neighboursByTurn 52 = .ok (.iload_n 2, 1) := by decide +kernel
theorem dX0_neighboursByTurn_53 : decode cX0_neighboursByTurn 53 = .ok (.aload_n 0, 1) := by decide +kernel
theorem dX0_neighboursByTurn_54 : decode cX0_neighboursByTurn 54 = .ok (.invokevirtual 111, 3) := by decide +kernel
theorem dX0_neighboursByTurn_57 : decode cX0_neighboursByTurn 57 = .ok (.iadd, 1) := by decide +kernel
theorem dX0_neighboursByTurn_58 : decode cX0_neighboursByTurn 58 = .ok (.istore_n 2, 1) := by decide +kernel
theorem dX0_neighboursByTurn_59 : decode cX0_neighboursByTurn 59 = .ok (.iinc 4 1, 3) := by decide +kernel
theorem dX0_neighboursByTurn_62 : decode cX0_neighboursByTurn 62 = .ok (.goto (-47), 3) := by decide +kernel
theorem dX0_neighboursByTurn_65 : decode cX0_neighboursByTurn 65 = .ok (.iinc 3 1, 3) := by decide +kernel
theorem dX0_neighboursByTurn_68 : decode cX0_neighboursByTurn 68 = .ok (.goto (-64), 3) := by decide +kernel
theorem dX0_neighboursByTurn_71 : decode cX0_neighboursByTurn 71 = .ok (.iload_n 2, 1) := by decide +kernel
theorem dX0_neighboursByTurn_72 : decode cX0_neighboursByTurn 72 = .ok (.ireturn, 1) := by decide +kernel
theorem dX0_neighboursByGain_0 : decode cX0_neighboursByGain 0 = .ok (.iconst 0, 1) := by decide +kernel
theorem dX0_neighboursByGain_1 : decode cX0_neighboursByGain 1 = .ok (.istore_n 2, 1) := by decide +kernel
theorem dX0_neighboursByGain_2 : decode cX0_neighboursByGain 2 = .ok (.iconst 0, 1) := by decide +kernel
theorem dX0_neighboursByGain_3 : decode cX0_neighboursByGain 3 = .ok (.istore_n 3, 1) := by decide +kernel
theorem dX0_neighboursByGain_4 : decode cX0_neighboursByGain 4 = .ok (.iload_n 3, 1) := by decide +kernel
theorem dX0_neighboursByGain_5 : decode cX0_neighboursByGain 5 = .ok (.aload_n 1, 1) := by decide +kernel
theorem dX0_neighboursByGain_6 : decode cX0_neighboursByGain 6 = .ok (.getfield 79, 3) := by decide +kernel
theorem dX0_neighboursByGain_9 : decode cX0_neighboursByGain 9 = .ok (.if_icmp .ge 51, 3) := by decide +kernel
theorem dX0_neighboursByGain_12 : decode cX0_neighboursByGain 12 = .ok (.iload_n 3, 1) := by decide +kernel
theorem dX0_neighboursByGain_13 : decode cX0_neighboursByGain 13 = .ok (.ifCond .eq 18, 3) := by decide +kernel
theorem dX0_neighboursByGain_16 : decode cX0_neighboursByGain 16 = .ok (.aload_n 1, 1) := by decide +kernel
theorem dX0_neighboursByGain_17 : decode cX0_neighboursByGain 17 = .ok (.iload_n 3, 1) := by decide +kernel
theorem dX0_neighboursByGain_18 : decode cX0_neighboursByGain 18 = .ok (.invokevirtual 80, 3) := by decide +kernel
theorem dX0_neighboursByGain_21 : decode cX0_neighboursByGain 21 = .ok (.aload_n 1, 1) := by decide +kernel
theorem dX0_neighboursByGain_22 : decode cX0_neighboursByGain 22 = .ok (.iload_n 3, 1) := by decide +kernel
theorem dX0_neighboursByGain_23 : decode cX0_neighboursByGain 23 = .ok (.iconst 1, 1) := by decide +kernel
theorem dX0_neighboursByGain_24 : decode cX0_neighboursByGain 24 = .ok (.isub, 1) := by decide +kernel
theorem dX0_neighboursByGain_25 : decode cX0_neighboursByGain 25 = .ok (.invokevirtual 80, 3) := by decide +kernel
theorem dX0_neighboursByGain_28 : decode cX0_neighboursByGain 28 = .ok (.if_icmp .eq 26, 3) := by decide +kernel
theorem dX0_neighboursByGain_31 : decode cX0_neighboursByGain 31 = .ok (.aload_n 0, 1) := by decide +kernel
theorem dX0_neighboursByGain_32 : decode cX0_neighboursByGain 32 = .ok (.getfield 12, 3) := by decide +kernel
theorem dX0_neighboursByGain_35 : decode cX0_neighboursByGain 35 = .ok (.aload_n 1, 1) := by decide +kernel
theorem dX0_neighboursByGain_36 : decode cX0_neighboursByGain 36 = .ok (.invokevirtual 104, 3) := by decide +kernel
theorem dX0_neighboursByGain_39 : decode cX0_neighboursByGain 39 = .ok (.aload_n 0, 1) := by decide +kernel
theorem dX0_neighboursByGain_40 : decode cX0_neighboursByGain 40 = .ok (.getfield 12, 3) := by decide +kernel
theorem dX0_neighboursByGain_43 : decode cX0_neighboursByGain 43 = .ok (.iload_n 3, 1) := by decide +kernel
theorem dX0_neighboursByGain_44 : decode cX0_neighboursByGain 44 = .ok (.invokevirtual 115, 3) := by decide +kernel
theorem dX0_neighboursByGain_47 : decode cX0_neighboursByGain 47 = .ok (.iload_n 2, 1) := by decide +kernel
theorem dX0_neighboursByGain_48 : decode cX0_neighboursByGain 48 = .ok (.aload_n 0, 1) := by decide +kernel
theorem dX0_neighboursByGain_49 : decode cX0_neighboursByGain 49 = .ok (.invokevirtual 111, 3) := by decide +kernel
theorem dX0_neighboursByGain_52 : decode cX0_neighboursByGain 52 = .ok (.iadd, 1) := by decide +kernel
theorem dX0_neighboursByGain_53 : decode cX0_neighboursByGain 53 = .ok (.istore_n 2, 1) := by decide +kernel
theorem dX0_neighboursByGain_54 : decode cX0_neighboursByGain 54 = .ok (.iinc 3 1, 3) := by decide +kernel
theorem dX0_neighboursByGain_57 : decode cX0_neighboursByGain 57 = .ok (.goto (-53), 3) := by decide +kernel
theorem dX0_neighboursByGain_60 : decode cX0_neighboursByGain 60 = .ok (.iload_n 2, 1) := by decide +kernel
theorem dX0_neighboursByGain_61 : decode cX0_neighboursByGain 61 = .ok (.ireturn, 1) := by decide +kernel
theorem dX0_neighboursByLoss_0 : decode cX0_neighboursByLoss 0 = .ok (.iconst 0, 1) := by decide +kernel
theorem dX0_neighboursByLoss_1 : decode cX0_neighboursByLoss 1 = .ok (.istore_n 2, 1) := by decide +kernel
theorem dX0_neighboursByLoss_2 : decode cX0_neighboursByLoss 2 = .ok (.iconst 0, 1) := by decide +kernel
theorem dX0_neighboursByLoss_3 : decode cX0_neighboursByLoss 3 = .ok (.istore_n 3, 1) := by decide +kernel
theorem dX0_neighboursByLoss_4 : decode cX0_neighboursByLoss 4 = .ok (.iload_n 3, 1) := by decide +kernel
theorem dX0_neighboursByLoss_5 : decode cX0_neighboursByLoss 5 = .ok (.aload_n 1, 1) := by decide +kernel
theorem dX0_neighboursByLoss_6 : decode cX0_neighboursByLoss 6 = .ok (.getfield 79, 3) := by decide +kernel
theorem dX0_neighboursByLoss_9 : decode cX0_neighboursByLoss 9 = .ok (.if_icmp .gt 70, 3) := by decide +kernel
theorem dX0_neighboursByLoss_12 : decode cX0_neighboursByLoss 12 = .ok (.iconst 0, 1) := by decide +kernel
theorem dX0_neighboursByLoss_13 : decode cX0_neighboursByLoss 13 = .ok (.istore 4, 2) := by decide +kernel
theorem dX0_neighboursByLoss_15 : decode cX0_neighboursByLoss 15 = .ok (.iload 4, 2) := by decide +kernel
theorem dX0_neighboursByLoss_17 : decode cX0_neighboursByLoss 17 = .ok (.aload_n 0, 1) := by decide +kernel
theorem dX0_neighboursByLoss_18 : decode cX0_neighboursByLoss 18 = .ok (.getfield 25, 3) := by decide +kernel
theorem dX0_neighboursByLoss_21 : decode cX0_neighboursByLoss 21 = .ok (.if_icmp .ge 52, 3) := by decide +kernel
theorem dX0_neighboursByLoss_24 : decode cX0_neighboursByLoss 24 = .ok (.iload_n 3, 1) := by decide +kernel
theorem dX0_neighboursByLoss_25 : decode cX0_neighboursByLoss 25 = .ok (.aload_n 1, 1) := by decide +kernel
theorem dX0_neighboursByLoss_26 : decode cX0_neighboursByLoss 26 = .ok (.getfield 79, 3) := by decide +kernel
theorem dX0_neighboursByLoss_29 : decode cX0_neighboursByLoss 29 = .ok (.if_icmp .eq 13, 3) := by decide +kernel
theorem dX0_neighboursByLoss_32 : decode cX0_neighboursByLoss 32 = .ok (.iload 4, 2) := by decide +kernel
theorem dX0_neighboursByLoss_34 : decode cX0_neighboursByLoss 34 = .ok (.aload_n 1, 1) := by decide +kernel
theorem dX0_neighboursByLoss_35 : decode cX0_neighboursByLoss 35 = .ok (.iload_n 3, 1) := by decide +kernel
theorem dX0_neighboursByLoss_36 : decode cX0_neighboursByLoss 36 = .ok (.invokevirtual 80, 3) := by decide +kernel
theorem dX0_neighboursByLoss_39 : decode cX0_neighboursByLoss 39 = .ok (.if_icmp .eq 28, 3) := by decide +kernel
theorem dX0_neighboursByLoss_42 : decode cX0_neighboursByLoss 42 = .ok (.aload_n 0, 1) := by decide +kernel
theorem dX0_neighboursByLoss_43 : decode cX0_neighboursByLoss 43 = .ok (.getfield 12, 3) := by decide +kernel
theorem dX0_neighboursByLoss_46 : decode cX0_neighboursByLoss 46 = .ok (.aload_n 1, 1) := by decide +kernel
theorem dX0_neighboursByLoss_47 : decode cX0_neighboursByLoss 47 = .ok (.invokevirtual 104, 3) := by decide +kernel
theorem dX0_neighboursByLoss_50 : decode cX0_neighboursByLoss 50 = .ok (.aload_n 0, 1) := by decide +kernel
theorem dX0_neighboursByLoss_51 : decode cX0_neighboursByLoss 51 = .ok (.getfield 12, 3) := by decide +kernel
theorem dX0_neighboursByLoss_54 : decode cX0_neighboursByLoss 54 = .ok (.iload_n 3, 1) := by decide +kernel
theorem dX0_neighboursByLoss_55 : decode cX0_neighboursByLoss 55 = .ok (.iload 4, 2) := by decide +kernel
theorem dX0_neighboursByLoss_57 : decode cX0_neighboursByLoss 57 = .ok (.invokevirtual 118, 3) := by decide +kernel
theorem dX0_neighboursByLoss_60 : decode cX0_neighboursByLoss 60 = .ok (.iload_n 2, 1) := by decide +kernel
theorem dX0_neighboursByLoss_61 : decode cX0_neighboursByLoss 61 = .ok (.aload_n 0, 1) := by decide +kernel
theorem dX0_neighboursByLoss_62 : decode cX0_neighboursByLoss 62 = .ok (.invokevirtual 111, 3) := by decide +kernel
theorem dX0_neighboursByLoss_65 : decode cX0_neighboursByLoss 65 = .ok (.iadd, 1) := by decide +kernel
theorem dX0_neighboursByLoss_66 : decode cX0_neighboursByLoss 66 = .ok (.istore_n 2, 1) := by decide +kernel
theorem dX0_neighboursByLoss_67 : decode cX0_neighboursByLoss 67 = .ok (.iinc 4 1, 3) := by decide +kernel
theorem dX0_neighboursByLoss_70 : decode cX0_neighboursByLoss 70 = .ok (.goto (-55), 3) := by decide +kernel
theorem dX0_neighboursByLoss_73 : decode cX0_neighboursByLoss 73 = .ok (.iinc 3 1, 3) := by decide +kernel
theorem dX0_neighboursByLoss_76 : decode cX0_neighboursByLoss 76 = .ok (.goto (-72), 3) := by decide +kernel
theorem dX0_neighboursByLoss_79 : decode cX0_neighboursByLoss 79 = .ok (.iload_n 2, 1) := by decide +kernel
theorem dX0_neighboursByLoss_80 : decode cX0_neighboursByLoss 80 = .ok (.ireturn, 1) := by decide +kernel
theorem dX0_take_0 : decode cX0_take 0 = .ok (.aload_n 0, 1) := by decide +kernel
theorem dX0_take_1 : decode cX0_take 1 = .ok (.aload_n 0, 1) := by decide +kernel
theorem dX0_take_2 : decode cX0_take 2 = .ok (.getfield 12, 3) := by decide +kernel
theorem dX0_take_5 : decode cX0_take 5 = .ok (.invokevirtual 121, 3) := by decide +kernel
theorem dX0_take_8 : decode cX0_take 8 = .ok (.ifCond .ne 5, 3) := by decide +kernel
theorem dX0_take_11 : decode cX0_take 11 = .ok (.iconst 0, 1) := by decide +kernel
theorem dX0_take_12 : decode cX0_take 12 = .ok (.ireturn, 1) := by decide +kernel
theorem dX0_take_13 : decode cX0_take 13 = .ok (.aload_n 0, 1) := by decide +kernel
theorem dX0_take_14 : decode cX0_take 14 = .ok (.getfield 18, 3) := by decide +kernel
theorem dX0_take_17 : decode cX0_take 17 = .ok (.aload_n 0, 1) := by decide +kernel
theorem dX0_take_18 : decode cX0_take 18 = .ok (.getfield 12, 3) := by decide +kernel
theorem dX0_take_21 : decode cX0_take 21 = .ok (.invokevirtual 104, 3) := by decide +kernel
theorem dX0_take_24 : decode cX0_take 24 = .ok (.iconst 1, 1) := by decide +kernel
theorem dX0_take_25 : decode cX0_take 25 = .ok (.ireturn, 1) := by decide +kernel
theorem dX1_init_0 : decode cX1_init 0 = .ok (.aload_n 0, 1) := by decide +kernel
theorem dX1_init_1 : decode cX1_init 1 = .ok (.invokespecial 1, 3) := by decide +kernel
theorem dX1_init_4 : decode cX1_init 4 = .ok (.aload_n 0, 1) := by decide +kernel
theorem dX1_init_5 : decode cX1_init 5 = .ok (.new 7, 3) := by decide +kernel
theorem dX1_init_8 : decode cX1_init 8 = .ok (.dup, 1) := by decide +kernel
theorem dX1_init_9 : decode cX1_init 9 = .ok (.invokespecial 9, 3) := by decide +kernel
theorem dX1_init_12 : decode cX1_init 12 = .ok (.putfield 10, 3) := by decide +kernel
theorem dX1_init_15 : decode cX1_init 15 = .ok (.aload_n 0, 1) := by decide +kernel
theorem dX1_init_16 : decode cX1_init 16 = .ok (.lconst 1, 1) := by decide +kernel
theorem dX1_init_17 : decode cX1_init 17 = .ok (.putfield 16, 3) := by decide +kernel
theorem dX1_init_20 : decode cX1_init 20 = .ok (.return_, 1) := by decide +kernel
theorem dX1_tell_0 : decode cX1_tell 0 = .ok (.aload_n 0, 1) := by decide +kernel
theorem dX1_tell_1 : decode cX1_tell 1 = .ok (.iload_n 1, 1) := by decide +kernel
theorem dX1_tell_2 : decode cX1_tell 2 = .ok (.putfield 20, 3) := by decide +kernel
theorem dX1_tell_5 : decode cX1_tell 5 = .ok (.aload_n 0, 1) := by decide +kernel
theorem dX1_tell_6 : decode cX1_tell 6 = .ok (.iload_n 1, 1) := by decide +kernel
theorem dX1_tell_7 : decode cX1_tell 7 = .ok (.iload_n 2, 1) := by decide +kernel
theorem dX1_tell_8 : decode cX1_tell 8 = .ok (.iadd, 1) := by decide +kernel
theorem dX1_tell_9 : decode cX1_tell 9 = .ok (.putfield 24, 3) := by decide +kernel
theorem dX1_tell_12 : decode cX1_tell 12 = .ok (.aload_n 0, 1) := by decide +kernel
theorem dX1_tell_13 : decode cX1_tell 13 = .ok (.iload_n 1, 1) := by decide +kernel
theorem dX1_tell_14 : decode cX1_tell 14 = .ok (.iload_n 2, 1) := by decide +kernel
theorem dX1_tell_15 : decode cX1_tell 15 = .ok (.iadd, 1) := by decide +kernel
theorem dX1_tell_16 : decode cX1_tell 16 = .ok (.iload_n 3, 1) := by decide +kernel
theorem dX1_tell_17 : decode cX1_tell 17 = .ok (.iadd, 1) := by decide +kernel
theorem dX1_tell_18 : decode cX1_tell 18 = .ok (.putfield 27, 3) := by decide +kernel
theorem dX1_tell_21 : decode cX1_tell 21 = .ok (.return_, 1) := by decide +kernel
theorem dX1_carry_0 : decode cX1_carry 0 = .ok (.aload_n 0, 1) := by decide +kernel
theorem dX1_carry_1 : decode cX1_carry 1 = .ok (.getfield 16, 3) := by decide +kernel
theorem dX1_carry_4 : decode cX1_carry 4 = .ok (.lstore_n 3, 1) := by decide +kernel
theorem dX1_carry_5 : decode cX1_carry 5 = .ok (.aload_n 0, 1) := by decide +kernel
theorem dX1_carry_6 : decode cX1_carry 6 = .ok (.getfield 10, 3) := by decide +kernel
theorem dX1_carry_9 : decode cX1_carry 9 = .ok (.invokevirtual 30, 3) := by decide +kernel
theorem dX1_carry_12 : decode cX1_carry 12 = .ok (.iconst 0, 1) := by decide +kernel
theorem dX1_carry_13 : decode cX1_carry 13 = .ok (.istore 5, 2) := by decide +kernel
theorem dX1_carry_15 : decode cX1_carry 15 = .ok (.iload 5, 2) := by decide +kernel
theorem dX1_carry_17 : decode cX1_carry 17 = .ok (.aload_n 1, 1) := by decide +kernel
theorem dX1_carry_18 : decode cX1_carry 18 = .ok (.getfield 33, 3) := by decide +kernel
theorem dX1_carry_21 : decode cX1_carry 21 = .ok (.if_icmp .ge 44, 3) := by decide +kernel
theorem dX1_carry_24 : decode cX1_carry 24 = .ok (.lload_n 3, 1) := by decide +kernel
theorem dX1_carry_25 : decode cX1_carry 25 = .ok (.ldc2_w 36, 3) := by decide +kernel
theorem dX1_carry_28 : decode cX1_carry 28 = .ok (.lmul, 1) := by decide +kernel
theorem dX1_carry_29 : decode cX1_carry 29 = .ok (.ldc2_w 38, 3) := by decide +kernel
theorem dX1_carry_32 : decode cX1_carry 32 = .ok (.ladd, 1) := by decide +kernel
theorem dX1_carry_33 : decode cX1_carry 33 = .ok (.ldc2_w 40, 3) := by decide +kernel
theorem dX1_carry_36 : decode cX1_carry 36 = .ok (.land, 1) := by decide +kernel
theorem dX1_carry_37 : decode cX1_carry 37 = .ok (.lstore_n 3, 1) := by decide +kernel
theorem dX1_carry_38 : decode cX1_carry 38 = .ok (.aload_n 0, 1) := by decide +kernel
theorem dX1_carry_39 : decode cX1_carry 39 = .ok (.aload_n 1, 1) := by decide +kernel
theorem dX1_carry_40 : decode cX1_carry 40 = .ok (.iload 5, 2) := by decide +kernel
theorem dX1_carry_42 : decode cX1_carry 42 = .ok (.invokevirtual 42, 3) := by decide +kernel
theorem dX1_carry_45 : decode cX1_carry 45 = .ok (.lload_n 3, 1) := by decide +kernel
theorem dX1_carry_46 : decode cX1_carry 46 = .ok (.bipush 42, 2) := by decide +kernel
theorem dX1_carry_48 : decode cX1_carry 48 = .ok (.lushr, 1) := by decide +kernel
theorem dX1_carry_49 : decode cX1_carry 49 = .ok (.l2i, 1) := by decide +kernel
theorem dX1_carry_50 : decode cX1_carry 50 = .ok (.iload_n 2, 1) := by decide +kernel
theorem dX1_carry_51 : decode cX1_carry 51 = .ok (.invokevirtual 46, 3) := by decide +kernel
theorem dX1_carry_54 : decode cX1_carry 54 = .ok (.ifCond .ne 5, 3) := by decide +kernel
theorem dX1_carry_57 : decode cX1_carry 57 = .ok (.iconst 0, 1) := by decide +kernel
theorem dX1_carry_58 : decode cX1_carry 58 = .ok (.ireturn, 1) := by decide +kernel
theorem dX1_carry_59 : decode cX1_carry 59 = .ok (.iinc 5 1, 3) := by decide +kernel
theorem dX1_carry_62 : decode cX1_carry 62 = .ok (.goto (-47), 3) := by decide +kernel
theorem dX1_carry_65 : decode cX1_carry 65 = .ok (.aload_n 0, 1) := by decide +kernel
theorem dX1_carry_66 : decode cX1_carry 66 = .ok (.lload_n 3, 1) := by decide +kernel
theorem dX1_carry_67 : decode cX1_carry 67 = .ok (.putfield 16, 3) := by decide +kernel
theorem dX1_carry_70 : decode cX1_carry 70 = .ok (.iconst 1, 1) := by decide +kernel
theorem dX1_carry_71 : decode cX1_carry 71 = .ok (.ireturn, 1) := by decide +kernel
theorem dX1_carryLetter_0 : decode cX1_carryLetter 0 = .ok (.iload_n 2, 1) := by decide +kernel
theorem dX1_carryLetter_1 : decode cX1_carryLetter 1 = .ok (.aload_n 0, 1) := by decide +kernel
theorem dX1_carryLetter_2 : decode cX1_carryLetter 2 = .ok (.getfield 20, 3) := by decide +kernel
theorem dX1_carryLetter_5 : decode cX1_carryLetter 5 = .ok (.if_icmp .ge 5, 3) := by decide +kernel
theorem dX1_carryLetter_8 : decode cX1_carryLetter 8 = .ok (.iconst 1, 1) := by decide +kernel
theorem dX1_carryLetter_9 : decode cX1_carryLetter 9 = .ok (.ireturn, 1) := by decide +kernel
theorem dX1_carryLetter_10 : decode cX1_carryLetter 10 = .ok (.iload_n 2, 1) := by decide +kernel
theorem dX1_carryLetter_11 : decode cX1_carryLetter 11 = .ok (.aload_n 0, 1) := by decide +kernel
theorem dX1_carryLetter_12 : decode cX1_carryLetter 12 = .ok (.getfield 24, 3) := by decide +kernel
theorem dX1_carryLetter_15 : decode cX1_carryLetter 15 = .ok (.if_icmp .ge 27, 3) := by decide +kernel
theorem dX1_carryLetter_18 : decode cX1_carryLetter 18 = .ok (.aload_n 0, 1) := by decide +kernel
theorem dX1_carryLetter_19 : decode cX1_carryLetter 19 = .ok (.iload_n 2, 1) := by decide +kernel
theorem dX1_carryLetter_20 : decode cX1_carryLetter 20 = .ok (.iload_n 3, 1) := by decide +kernel
theorem dX1_carryLetter_21 : decode cX1_carryLetter 21 = .ok (.irem, 1) := by decide +kernel
theorem dX1_carryLetter_22 : decode cX1_carryLetter 22 = .ok (.invokevirtual 50, 3) := by decide +kernel
theorem dX1_carryLetter_25 : decode cX1_carryLetter 25 = .ok (.ifCond .eq 15, 3) := by decide +kernel
theorem dX1_carryLetter_28 : decode cX1_carryLetter 28 = .ok (.aload_n 0, 1) := by decide +kernel
theorem dX1_carryLetter_29 : decode cX1_carryLetter 29 = .ok (.iload_n 1, 1) := by decide +kernel
theorem dX1_carryLetter_30 : decode cX1_carryLetter 30 = .ok (.invokevirtual 50, 3) := by decide +kernel
theorem dX1_carryLetter_33 : decode cX1_carryLetter 33 = .ok (.ifCond .eq 7, 3) := by decide +kernel
theorem dX1_carryLetter_36 : decode cX1_carryLetter 36 = .ok (.iconst 1, 1) := by decide +kernel
theorem dX1_carryLetter_37 : decode cX1_carryLetter 37 = .ok (.goto 4, 3) := by decide +kernel
theorem dX1_carryLetter_40 : decode cX1_carryLetter 40 = .ok (.iconst 0, 1) := by decide +kernel
theorem dX1_carryLetter_41 : decode cX1_carryLetter 41 = .ok (.ireturn, 1) := by decide +kernel
theorem dX1_carryLetter_42 : decode cX1_carryLetter 42 = .ok (.aload_n 0, 1) := by decide +kernel
theorem dX1_carryLetter_43 : decode cX1_carryLetter 43 = .ok (.iload_n 2, 1) := by decide +kernel
theorem dX1_carryLetter_44 : decode cX1_carryLetter 44 = .ok (.aload_n 0, 1) := by decide +kernel
theorem dX1_carryLetter_45 : decode cX1_carryLetter 45 = .ok (.getfield 27, 3) := by decide +kernel
theorem dX1_carryLetter_48 : decode cX1_carryLetter 48 = .ok (.if_icmp .ge 17, 3) := by decide +kernel
theorem dX1_carryLetter_51 : decode cX1_carryLetter 51 = .ok (.iload_n 1, 1) := by decide +kernel
theorem dX1_carryLetter_52 : decode cX1_carryLetter 52 = .ok (.iload_n 2, 1) := by decide +kernel
theorem dX1_carryLetter_53 : decode cX1_carryLetter 53 = .ok (.iload_n 3, 1) := by decide +kernel
theorem dX1_carryLetter_54 : decode cX1_carryLetter 54 = .ok (.iconst 1, 1) := by decide +kernel
theorem dX1_carryLetter_55 : decode cX1_carryLetter 55 = .ok (.isub, 1) := by decide +kernel
theorem dX1_carryLetter_56 : decode cX1_carryLetter 56 = .ok (.irem, 1) := by decide +kernel
theorem dX1_carryLetter_57 : decode cX1_carryLetter 57 = .ok (.iadd, 1) := by decide +kernel
theorem dX1_carryLetter_58 : decode cX1_carryLetter 58 = .ok (.iconst 1, 1) := by decide +kernel
theorem dX1_carryLetter_59 : decode cX1_carryLetter 59 = .ok (.iadd, 1) := by decide +kernel
theorem dX1_carryLetter_60 : decode cX1_carryLetter 60 = .ok (.iload_n 3, 1) := by decide +kernel
theorem dX1_carryLetter_61 : decode cX1_carryLetter 61 = .ok (.irem, 1) := by decide +kernel
theorem dX1_carryLetter_62 : decode cX1_carryLetter 62 = .ok (.goto 4, 3) := by decide +kernel
theorem dX1_carryLetter_65 : decode cX1_carryLetter 65 = .ok (.iload_n 1, 1) := by decide +kernel
theorem dX1_carryLetter_66 : decode cX1_carryLetter 66 = .ok (.invokevirtual 50, 3) := by decide +kernel
theorem dX1_carryLetter_69 : decode cX1_carryLetter 69 = .ok (.ireturn, 1) := by decide +kernel
theorem dX1_takeUp_0 : decode cX1_takeUp 0 = .ok (.aload_n 0, 1) := by decide +kernel
theorem dX1_takeUp_1 : decode cX1_takeUp 1 = .ok (.getfield 10, 3) := by decide +kernel
theorem dX1_takeUp_4 : decode cX1_takeUp 4 = .ok (.invokevirtual 54, 3) := by decide +kernel
theorem dX1_takeUp_7 : decode cX1_takeUp 7 = .ok (.ifCond .eq 5, 3) := by decide +kernel
theorem dX1_takeUp_10 : decode cX1_takeUp 10 = .ok (.iconst 0, 1) := by decide +kernel
theorem dX1_takeUp_11 : decode cX1_takeUp 11 = .ok (.ireturn, 1) := by decide +kernel
theorem dX1_takeUp_12 : decode cX1_takeUp 12 = .ok (.aload_n 0, 1) := by decide +kernel
theorem dX1_takeUp_13 : decode cX1_takeUp 13 = .ok (.getfield 10, 3) := by decide +kernel
theorem dX1_takeUp_16 : decode cX1_takeUp 16 = .ok (.iload_n 1, 1) := by decide +kernel
theorem dX1_takeUp_17 : decode cX1_takeUp 17 = .ok (.invokevirtual 58, 3) := by decide +kernel
theorem dX1_takeUp_20 : decode cX1_takeUp 20 = .ok (.iconst 1, 1) := by decide +kernel
theorem dX1_takeUp_21 : decode cX1_takeUp 21 = .ok (.ireturn, 1) := by decide +kernel
theorem dX2_init_0 : decode cX2_init 0 = .ok (.aload_n 0, 1) := by decide +kernel
theorem dX2_init_1 : decode cX2_init 1 = .ok (.invokespecial 3, 3) := by decide +kernel
theorem dX2_init_4 : decode cX2_init 4 = .ok (.aload_n 0, 1) := by decide +kernel
theorem dX2_init_5 : decode cX2_init 5 = .ok (.sipush 625, 3) := by decide +kernel
theorem dX2_init_8 : decode cX2_init 8 = .ok (.newarray .int, 2) := by decide +kernel
theorem dX2_init_10 : decode cX2_init 10 = .ok (.putfield 11, 3) := by decide +kernel
theorem dX2_init_13 : decode cX2_init 13 = .ok (.aload_n 0, 1) := by decide +kernel
theorem dX2_init_14 : decode cX2_init 14 = .ok (.sipush 625, 3) := by decide +kernel
theorem dX2_init_17 : decode cX2_init 17 = .ok (.newarray .long, 2) := by decide +kernel
theorem dX2_init_19 : decode cX2_init 19 = .ok (.putfield 15, 3) := by decide +kernel
theorem dX2_init_22 : decode cX2_init 22 = .ok (.aload_n 0, 1) := by decide +kernel
theorem dX2_init_23 : decode cX2_init 23 = .ok (.new 19, 3) := by decide +kernel
theorem dX2_init_26 : decode cX2_init 26 = .ok (.dup, 1) := by decide +kernel
theorem dX2_init_27 : decode cX2_init 27 = .ok (.invokespecial 21, 3) := by decide +kernel
theorem dX2_init_30 : decode cX2_init 30 = .ok (.putfield 22, 3) := by decide +kernel
theorem dX2_init_33 : decode cX2_init 33 = .ok (.return_, 1) := by decide +kernel
theorem dX2_cell_0 : decode cX2_cell 0 = .ok (.iload_n 0, 1) := by decide +kernel
theorem dX2_cell_1 : decode cX2_cell 1 = .ok (.bipush 25, 2) := by decide +kernel
theorem dX2_cell_3 : decode cX2_cell 3 = .ok (.imul, 1) := by decide +kernel
theorem dX2_cell_4 : decode cX2_cell 4 = .ok (.iload_n 1, 1) := by decide +kernel
theorem dX2_cell_5 : decode cX2_cell 5 = .ok (.iadd, 1) := by decide +kernel
theorem dX2_cell_6 : decode cX2_cell 6 = .ok (.ireturn, 1) := by decide +kernel
theorem dX2_longest_0 : decode cX2_longest 0 = .ok (.aload_n 1, 1) := by decide +kernel
theorem dX2_longest_1 : decode cX2_longest 1 = .ok (.getfield 26, 3) := by decide +kernel
theorem dX2_longest_4 : decode cX2_longest 4 = .ok (.istore_n 3, 1) := by decide +kernel
theorem dX2_longest_5 : decode cX2_longest 5 = .ok (.iload_n 3, 1) := by decide +kernel
theorem dX2_longest_6 : decode cX2_longest 6 = .ok (.ifCond .lt 46, 3) := by decide +kernel
theorem dX2_longest_9 : decode cX2_longest 9 = .ok (.aload_n 2, 1) := by decide +kernel
theorem dX2_longest_10 : decode cX2_longest 10 = .ok (.getfield 26, 3) := by decide +kernel
theorem dX2_longest_13 : decode cX2_longest 13 = .ok (.istore 4, 2) := by decide +kernel
theorem dX2_longest_15 : decode cX2_longest 15 = .ok (.iload 4, 2) := by decide +kernel
theorem dX2_longest_17 : decode cX2_longest 17 = .ok (.ifCond .lt 29, 3) := by decide +kernel
theorem dX2_longest_20 : decode cX2_longest 20 = .ok (.aload_n 0, 1) := by decide +kernel
theorem dX2_longest_21 : decode cX2_longest 21 = .ok (.getfield 11, 3) := by decide +kernel
theorem dX2_longest_24 : decode cX2_longest 24 = .ok (.iload_n 3, 1) := by decide +kernel
theorem dX2_longest_25 : decode cX2_longest 25 = .ok (.iload 4, 2) := by decide +kernel
theorem dX2_longest_27 : decode cX2_longest 27 = .ok (.invokestatic 30, 3) := by decide +kernel
theorem dX2_longest_30 : decode cX2_longest 30 = .ok (.aload_n 0, 1) := by decide +kernel
theorem dX2_longest_31 : decode cX2_longest 31 = .ok (.aload_n 1, 1) := by decide +kernel
theorem dX2_longest_32 : decode cX2_longest 32 = .ok (.iload_n 3, 1) := by decide +kernel
theorem dX2_longest_33 : decode cX2_longest 33 = .ok (.aload_n 2, 1) := by decide +kernel
theorem dX2_longest_34 : decode cX2_longest 34 = .ok (.iload 4, 2) := by decide +kernel
theorem dX2_longest_36 : decode cX2_longest 36 = .ok (.invokevirtual 34, 3) := by decide +kernel
theorem dX2_longest_39 : decode cX2_longest 39 = .ok (.iastore, 1) := by decide +kernel
theorem dX2_longest_40 : decode cX2_longest 40 = .ok (.iinc 4 (-1), 3) := by decide +kernel
theorem dX2_longest_43 : decode cX2_longest 43 = .ok (.goto (-28), 3) := by decide +kernel
theorem dX2_longest_46 : decode cX2_longest 46 = .ok (.iinc 3 (-1), 3) := by decide +kernel
theorem dX2_longest_49 : decode cX2_longest 49 = .ok (.goto (-44), 3) := by decide +kernel
theorem dX2_longest_52 : decode cX2_longest 52 = .ok (.aload_n 0, 1) := by decide +kernel
theorem dX2_longest_53 : decode cX2_longest 53 = .ok (.getfield 11, 3) := by decide +kernel
theorem dX2_longest_56 : decode cX2_longest 56 = .ok (.iconst 0, 1) := by decide +kernel
theorem dX2_longest_57 : decode cX2_longest 57 = .ok (.iaload, 1) := by decide +kernel
theorem dX2_longest_58 : decode cX2_longest 58 = .ok (.ireturn, 1) := by decide +kernel
theorem dX2_longestFrom_0 : decode cX2_longestFrom 0 = .ok (.iload_n 2, 1) := by decide +kernel
theorem dX2_longestFrom_1 : decode cX2_longestFrom 1 = .ok (.aload_n 1, 1) := by decide +kernel
theorem dX2_longestFrom_2 : decode cX2_longestFrom 2 = .ok (.getfield 26, 3) := by decide +kernel
theorem dX2_longestFrom_5 : decode cX2_longestFrom 5 = .ok (.if_icmp .ge 12, 3) := by decide +kernel
theorem dX2_longestFrom_8 : decode cX2_longestFrom 8 = .ok (.iload 4, 2) := by decide +kernel
theorem dX2_longestFrom_10 : decode cX2_longestFrom 10 = .ok (.aload_n 3, 1) := by decide +kernel
theorem dX2_longestFrom_11 : decode cX2_longestFrom 11 = .ok (.getfield 26, 3) := by decide +kernel
theorem dX2_longestFrom_14 : decode cX2_longestFrom 14 = .ok (.if_icmp .lt 5, 3) := by decide +kernel
theorem dX2_longestFrom_17 : decode cX2_longestFrom 17 = .ok (.iconst 0, 1) := by decide +kernel
theorem dX2_longestFrom_18 : decode cX2_longestFrom 18 = .ok (.ireturn, 1) := by decide +kernel
theorem dX2_longestFrom_19 : decode cX2_longestFrom 19 = .ok (.aload_n 1, 1) := by decide +kernel
theorem dX2_longestFrom_20 : decode cX2_longestFrom 20 = .ok (.iload_n 2, 1) := by decide +kernel
theorem dX2_longestFrom_21 : decode cX2_longestFrom 21 = .ok (.invokevirtual 38, 3) := by decide +kernel
theorem dX2_longestFrom_24 : decode cX2_longestFrom 24 = .ok (.aload_n 3, 1) := by decide +kernel
theorem dX2_longestFrom_25 : decode cX2_longestFrom 25 = .ok (.iload 4, 2) := by decide +kernel
theorem dX2_longestFrom_27 : decode cX2_longestFrom 27 = .ok (.invokevirtual 38, 3) := by decide +kernel
theorem dX2_longestFrom_30 : decode cX2_longestFrom 30 = .ok (.if_icmp .ne 21, 3) := by decide +kernel
theorem dX2_longestFrom_33 : decode cX2_longestFrom 33 = .ok (.aload_n 0, 1) := by decide +kernel
theorem dX2_longestFrom_34 : decode cX2_longestFrom 34 = .ok (.getfield 11, 3) := by decide +kernel
theorem dX2_longestFrom_37 : decode cX2_longestFrom 37 = .ok (.iload_n 2, 1) := by decide +kernel
theorem dX2_longestFrom_38 : decode cX2_longestFrom 38 = .ok (.iconst 1, 1) := by decide +kernel
theorem dX2_longestFrom_39 : decode cX2_longestFrom 39 = .ok (.iadd, 1) := by decide +kernel
theorem dX2_longestFrom_40 : decode cX2_longestFrom 40 = .ok (.iload 4, 2) := by decide +kernel
theorem dX2_longestFrom_42 : decode cX2_longestFrom 42 = .ok (.iconst 1, 1) := by decide +kernel
theorem dX2_longestFrom_43 : decode cX2_longestFrom 43 = .ok (.iadd, 1) := by decide +kernel
theorem dX2_longestFrom_44 : decode cX2_longestFrom 44 = .ok (.invokestatic 30, 3) := by decide +kernel
theorem dX2_longestFrom_47 : decode cX2_longestFrom 47 = .ok (.iaload, 1) := by decide +kernel
theorem dX2_longestFrom_48 : decode cX2_longestFrom 48 = .ok (.iconst 1, 1) := by decide +kernel
theorem dX2_longestFrom_49 : decode cX2_longestFrom 49 = .ok (.iadd, 1) := by decide +kernel
theorem dX2_longestFrom_50 : decode cX2_longestFrom 50 = .ok (.ireturn, 1) := by decide +kernel
theorem dX2_longestFrom_51 : decode cX2_longestFrom 51 = .ok (.aload_n 0, 1) := by decide +kernel
theorem dX2_longestFrom_52 : decode cX2_longestFrom 52 = .ok (.getfield 11, 3) := by decide +kernel
theorem dX2_longestFrom_55 : decode cX2_longestFrom 55 = .ok (.iload_n 2, 1) := by decide +kernel
theorem dX2_longestFrom_56 : decode cX2_longestFrom 56 = .ok (.iconst 1, 1) := by decide +kernel
theorem dX2_longestFrom_57 : decode cX2_longestFrom 57 = .ok (.iadd, 1) := by decide +kernel
theorem dX2_longestFrom_58 : decode cX2_longestFrom 58 = .ok (.iload 4, 2) := by decide +kernel
theorem dX2_longestFrom_60 : decode cX2_longestFrom 60 = .ok (.invokestatic 30, 3) := by decide +kernel
theorem dX2_longestFrom_63 : decode cX2_longestFrom 63 = .ok (.iaload, 1) := by decide +kernel
theorem dX2_longestFrom_64 : decode cX2_longestFrom 64 = .ok (.aload_n 0, 1) := by decide +kernel
theorem dX2_longestFrom_65 : decode cX2_longestFrom 65 = .ok (.getfield 11, 3) := by decide +kernel
theorem dX2_longestFrom_68 : decode cX2_longestFrom 68 = .ok (.iload_n 2, 1) := by decide +kernel
theorem dX2_longestFrom_69 : decode cX2_longestFrom 69 = .ok (.iload 4, 2) := by decide +kernel
theorem dX2_longestFrom_71 : decode cX2_longestFrom 71 = .ok (.iconst 1, 1) := by decide +kernel
theorem dX2_longestFrom_72 : decode cX2_longestFrom 72 = .ok (.iadd, 1) := by decide +kernel
theorem dX2_longestFrom_73 : decode cX2_longestFrom 73 = .ok (.invokestatic 30, 3) := by decide +kernel
theorem dX2_longestFrom_76 : decode cX2_longestFrom 76 = .ok (.iaload, 1) := by decide +kernel
theorem dX2_longestFrom_77 : decode cX2_longestFrom 77 = .ok (.invokestatic 42, 3) := by decide +kernel
theorem dX2_longestFrom_80 : decode cX2_longestFrom 80 = .ok (.ireturn, 1) := by decide +kernel
theorem dX2_goesOn_0 : decode cX2_goesOn 0 = .ok (.iload_n 2, 1) := by decide +kernel
theorem dX2_goesOn_1 : decode cX2_goesOn 1 = .ok (.aload_n 1, 1) := by decide +kernel
theorem dX2_goesOn_2 : decode cX2_goesOn 2 = .ok (.getfield 26, 3) := by decide +kernel
theorem dX2_goesOn_5 : decode cX2_goesOn 5 = .ok (.if_icmp .ge 38, 3) := by decide +kernel
theorem dX2_goesOn_8 : decode cX2_goesOn 8 = .ok (.iload 4, 2) := by decide +kernel
theorem dX2_goesOn_10 : decode cX2_goesOn 10 = .ok (.aload_n 3, 1) := by decide +kernel
theorem dX2_goesOn_11 : decode cX2_goesOn 11 = .ok (.getfield 26, 3) := by decide +kernel
theorem dX2_goesOn_14 : decode cX2_goesOn 14 = .ok (.if_icmp .ge 29, 3) := by decide +kernel
theorem dX2_goesOn_17 : decode cX2_goesOn 17 = .ok (.aload_n 0, 1) := by decide +kernel
theorem dX2_goesOn_18 : decode cX2_goesOn 18 = .ok (.getfield 11, 3) := by decide +kernel
theorem dX2_goesOn_21 : decode cX2_goesOn 21 = .ok (.iload_n 2, 1) := by decide +kernel
theorem dX2_goesOn_22 : decode cX2_goesOn 22 = .ok (.iconst 1, 1) := by decide +kernel
theorem dX2_goesOn_23 : decode cX2_goesOn 23 = .ok (.iadd, 1) := by decide +kernel
theorem dX2_goesOn_24 : decode cX2_goesOn 24 = .ok (.iload 4, 2) := by decide +kernel
theorem dX2_goesOn_26 : decode cX2_goesOn 26 = .ok (.iconst 1, 1) := by decide +kernel
theorem dX2_goesOn_27 : decode cX2_goesOn 27 = .ok (.iadd, 1) := by decide +kernel
theorem dX2_goesOn_28 : decode cX2_goesOn 28 = .ok (.invokestatic 30, 3) := by decide +kernel
theorem dX2_goesOn_31 : decode cX2_goesOn 31 = .ok (.iaload, 1) := by decide +kernel
theorem dX2_goesOn_32 : decode cX2_goesOn 32 = .ok (.iconst 1, 1) := by decide +kernel
theorem dX2_goesOn_33 : decode cX2_goesOn 33 = .ok (.iadd, 1) := by decide +kernel
theorem dX2_goesOn_34 : decode cX2_goesOn 34 = .ok (.iload 5, 2) := by decide +kernel
theorem dX2_goesOn_36 : decode cX2_goesOn 36 = .ok (.if_icmp .ne 7, 3) := by decide +kernel
theorem dX2_goesOn_39 : decode cX2_goesOn 39 = .ok (.iconst 1, 1) := by decide +kernel
theorem dX2_goesOn_40 : decode cX2_goesOn 40 = .ok (.goto 4, 3) := by decide +kernel
theorem dX2_goesOn_43 : decode cX2_goesOn 43 = .ok (.iconst 0, 1) := by decide +kernel
theorem dX2_goesOn_44 : decode cX2_goesOn 44 = .ok (.ireturn, 1) := by decide +kernel
theorem dX2_firstLongest_0 : decode cX2_firstLongest 0 = .ok (.aload_n 0, 1) := by decide +kernel
theorem dX2_firstLongest_1 : decode cX2_firstLongest 1 = .ok (.getfield 22, 3) := by decide +kernel
theorem dX2_firstLongest_4 : decode cX2_firstLongest 4 = .ok (.invokevirtual 47, 3) := by decide +kernel
theorem dX2_firstLongest_7 : decode cX2_firstLongest 7 = .ok (.iconst 0, 1) := by decide +kernel
theorem dX2_firstLongest_8 : decode cX2_firstLongest 8 = .ok (.istore 4, 2) := by decide +kernel
theorem dX2_firstLongest_10 : decode cX2_firstLongest 10 = .ok (.iconst 0, 1) := by decide +kernel
theorem dX2_firstLongest_11 : decode cX2_firstLongest 11 = .ok (.istore 5, 2) := by decide +kernel
theorem dX2_firstLongest_13 : decode cX2_firstLongest 13 = .ok (.aload_n 0, 1) := by decide +kernel
theorem dX2_firstLongest_14 : decode cX2_firstLongest 14 = .ok (.getfield 11, 3) := by decide +kernel
theorem dX2_firstLongest_17 : decode cX2_firstLongest 17 = .ok (.iconst 0, 1) := by decide +kernel
theorem dX2_firstLongest_18 : decode cX2_firstLongest 18 = .ok (.iaload, 1) := by decide +kernel
theorem dX2_firstLongest_19 : decode cX2_firstLongest 19 = .ok (.istore 6, 2) := by decide +kernel
theorem dX2_firstLongest_21 : decode cX2_firstLongest 21 = .ok (.iload 6, 2) := by decide +kernel
theorem dX2_firstLongest_23 : decode cX2_firstLongest 23 = .ok (.ifCond .le 86, 3) := by decide +kernel
theorem dX2_firstLongest_26 : decode cX2_firstLongest 26 = .ok (.iconst 0, 1) := by decide +kernel
theorem dX2_firstLongest_27 : decode cX2_firstLongest 27 = .ok (.istore 7, 2) := by decide +kernel
theorem dX2_firstLongest_29 : decode cX2_firstLongest 29 = .ok (.iload 7, 2) := by decide +kernel
theorem dX2_firstLongest_31 : decode cX2_firstLongest 31 = .ok (.iload_n 3, 1) := by decide +kernel
theorem dX2_firstLongest_32 : decode cX2_firstLongest 32 = .ok (.iconst 1, 1) := by decide +kernel
theorem dX2_firstLongest_33 : decode cX2_firstLongest 33 = .ok (.isub, 1) := by decide +kernel
theorem dX2_firstLongest_34 : decode cX2_firstLongest 34 = .ok (.if_icmp .ge 36, 3) := by decide +kernel
theorem dX2_firstLongest_37 : decode cX2_firstLongest 37 = .ok (.aload_n 0, 1) := by decide +kernel
theorem dX2_firstLongest_38 : decode cX2_firstLongest 38 = .ok (.aload_n 1, 1) := by decide +kernel
theorem dX2_firstLongest_39 : decode cX2_firstLongest 39 = .ok (.aload_n 1, 1) := by decide +kernel
theorem dX2_firstLongest_40 : decode cX2_firstLongest 40 = .ok (.iload 7, 2) := by decide +kernel
theorem dX2_firstLongest_42 : decode cX2_firstLongest 42 = .ok (.iload 4, 2) := by decide +kernel
theorem dX2_firstLongest_44 : decode cX2_firstLongest 44 = .ok (.invokevirtual 50, 3) := by decide +kernel
theorem dX2_firstLongest_47 : decode cX2_firstLongest 47 = .ok (.aload_n 2, 1) := by decide +kernel
theorem dX2_firstLongest_48 : decode cX2_firstLongest 48 = .ok (.aload_n 2, 1) := by decide +kernel
theorem dX2_firstLongest_49 : decode cX2_firstLongest 49 = .ok (.iload 7, 2) := by decide +kernel
theorem dX2_firstLongest_51 : decode cX2_firstLongest 51 = .ok (.iload 5, 2) := by decide +kernel
theorem dX2_firstLongest_53 : decode cX2_firstLongest 53 = .ok (.invokevirtual 50, 3) := by decide +kernel
theorem dX2_firstLongest_56 : decode cX2_firstLongest 56 = .ok (.iload 6, 2) := by decide +kernel
theorem dX2_firstLongest_58 : decode cX2_firstLongest 58 = .ok (.invokevirtual 53, 3) := by decide +kernel
theorem dX2_firstLongest_61 : decode cX2_firstLongest 61 = .ok (.ifCond .ne 9, 3) := by decide +kernel
theorem dX2_firstLongest_64 : decode cX2_firstLongest 64 = .ok (.iinc 7 1, 3) := by decide +kernel
theorem dX2_firstLongest_67 : decode cX2_firstLongest 67 = .ok (.goto (-38), 3) := by decide +kernel
theorem dX2_firstLongest_70 : decode cX2_firstLongest 70 = .ok (.aload_n 0, 1) := by decide +kernel
theorem dX2_firstLongest_71 : decode cX2_firstLongest 71 = .ok (.getfield 22, 3) := by decide +kernel
theorem dX2_firstLongest_74 : decode cX2_firstLongest 74 = .ok (.iload 7, 2) := by decide +kernel
theorem dX2_firstLongest_76 : decode cX2_firstLongest 76 = .ok (.invokevirtual 57, 3) := by decide +kernel
theorem dX2_firstLongest_79 : decode cX2_firstLongest 79 = .ok (.aload_n 1, 1) := by decide +kernel
theorem dX2_firstLongest_80 : decode cX2_firstLongest 80 = .ok (.iload 7, 2) := by decide +kernel
theorem dX2_firstLongest_82 : decode cX2_firstLongest 82 = .ok (.iload 4, 2) := by decide +kernel
theorem dX2_firstLongest_84 : decode cX2_firstLongest 84 = .ok (.invokevirtual 50, 3) := by decide +kernel
theorem dX2_firstLongest_87 : decode cX2_firstLongest 87 = .ok (.iconst 1, 1) := by decide +kernel
theorem dX2_firstLongest_88 : decode cX2_firstLongest 88 = .ok (.iadd, 1) := by decide +kernel
theorem dX2_firstLongest_89 : decode cX2_firstLongest 89 = .ok (.istore 4, 2) := by decide +kernel
theorem dX2_firstLongest_91 : decode cX2_firstLongest 91 = .ok (.aload_n 2, 1) := by decide +kernel
theorem dX2_firstLongest_92 : decode cX2_firstLongest 92 = .ok (.iload 7, 2) := by decide +kernel
theorem dX2_firstLongest_94 : decode cX2_firstLongest 94 = .ok (.iload 5, 2) := by decide +kernel
theorem dX2_firstLongest_96 : decode cX2_firstLongest 96 = .ok (.invokevirtual 50, 3) := by decide +kernel
theorem dX2_firstLongest_99 : decode cX2_firstLongest 99 = .ok (.iconst 1, 1) := by decide +kernel
theorem dX2_firstLongest_100 : decode cX2_firstLongest 100 = .ok (.iadd, 1) := by decide +kernel
theorem dX2_firstLongest_101 : decode cX2_firstLongest 101 = .ok (.istore 5, 2) := by decide +kernel
theorem dX2_firstLongest_103 : decode cX2_firstLongest 103 = .ok (.iinc 6 (-1), 3) := by decide +kernel
theorem dX2_firstLongest_106 : decode cX2_firstLongest 106 = .ok (.goto (-85), 3) := by decide +kernel
theorem dX2_firstLongest_109 : decode cX2_firstLongest 109 = .ok (.aload_n 0, 1) := by decide +kernel
theorem dX2_firstLongest_110 : decode cX2_firstLongest 110 = .ok (.getfield 22, 3) := by decide +kernel
theorem dX2_firstLongest_113 : decode cX2_firstLongest 113 = .ok (.areturn, 1) := by decide +kernel
theorem dX2_howManyLongest_0 : decode cX2_howManyLongest 0 = .ok (.aload_n 1, 1) := by decide +kernel
theorem dX2_howManyLongest_1 : decode cX2_howManyLongest 1 = .ok (.getfield 26, 3) := by decide +kernel
theorem dX2_howManyLongest_4 : decode cX2_howManyLongest 4 = .ok (.istore 4, 2) := by decide +kernel
theorem dX2_howManyLongest_6 : decode cX2_howManyLongest 6 = .ok (.iload 4, 2) := by decide +kernel
theorem dX2_howManyLongest_8 : decode cX2_howManyLongest 8 = .ok (.ifCond .lt 49, 3) := by decide +kernel
theorem dX2_howManyLongest_11 : decode cX2_howManyLongest 11 = .ok (.aload_n 2, 1) := by decide +kernel
theorem dX2_howManyLongest_12 : decode cX2_howManyLongest 12 = .ok (.getfield 26, 3) := by decide +kernel
theorem dX2_howManyLongest_15 : decode cX2_howManyLongest 15 = .ok (.istore 5, 2) := by decide +kernel
theorem dX2_howManyLongest_17 : decode cX2_howManyLongest 17 = .ok (.iload 5, 2) := by decide +kernel
theorem dX2_howManyLongest_19 : decode cX2_howManyLongest 19 = .ok (.ifCond .lt 32, 3) := by decide +kernel
theorem dX2_howManyLongest_22 : decode cX2_howManyLongest 22 = .ok (.aload_n 0, 1) := by decide +kernel
theorem dX2_howManyLongest_23 : decode cX2_howManyLongest 23 = .ok (.getfield 15, 3) := by decide +kernel
theorem dX2_howManyLongest_26 : decode cX2_howManyLongest 26 = .ok (.iload 4, 2) := by decide +kernel
theorem dX2_howManyLongest_28 : decode cX2_howManyLongest 28 = .ok (.iload 5, 2) := by decide +kernel
theorem dX2_howManyLongest_30 : decode cX2_howManyLongest 30 = .ok (.invokestatic 30, 3) := by decide +kernel
theorem dX2_howManyLongest_33 : decode cX2_howManyLongest 33 = .ok (.aload_n 0, 1) := by decide +kernel
theorem dX2_howManyLongest_34 : decode cX2_howManyLongest 34 = .ok (.aload_n 1, 1) := by decide +kernel
theorem dX2_howManyLongest_35 : decode cX2_howManyLongest 35 = .ok (.iload 4, 2) := by decide +kernel
theorem dX2_howManyLongest_37 : decode cX2_howManyLongest 37 = .ok (.aload_n 2, 1) := by decide +kernel
theorem dX2_howManyLongest_38 : decode cX2_howManyLongest 38 = .ok (.iload 5, 2) := by decide +kernel
theorem dX2_howManyLongest_40 : decode cX2_howManyLongest 40 = .ok (.iload_n 3, 1) := by decide +kernel
theorem dX2_howManyLongest_41 : decode cX2_howManyLongest 41 = .ok (.invokevirtual 61, 3) := by decide +kernel
theorem dX2_howManyLongest_44 : decode cX2_howManyLongest 44 = .ok (.lastore, 1) := by decide +kernel
theorem dX2_howManyLongest_45 : decode cX2_howManyLongest 45 = .ok (.iinc 5 (-1), 3) := by decide +kernel
theorem dX2_howManyLongest_48 : decode cX2_howManyLongest 48 = .ok (.goto (-31), 3) := by decide +kernel
theorem dX2_howManyLongest_51 : decode cX2_howManyLongest 51 = .ok (.iinc 4 (-1), 3) := by decide +kernel
theorem dX2_howManyLongest_54 : decode cX2_howManyLongest 54 = .ok (.goto (-48), 3) := by decide +kernel
theorem dX2_howManyLongest_57 : decode cX2_howManyLongest 57 = .ok (.aload_n 0, 1) := by decide +kernel
theorem dX2_howManyLongest_58 : decode cX2_howManyLongest 58 = .ok (.getfield 15, 3) := by decide +kernel
theorem dX2_howManyLongest_61 : decode cX2_howManyLongest 61 = .ok (.iconst 0, 1) := by decide +kernel
theorem dX2_howManyLongest_62 : decode cX2_howManyLongest 62 = .ok (.laload, 1) := by decide +kernel
theorem dX2_howManyLongest_63 : decode cX2_howManyLongest 63 = .ok (.lreturn, 1) := by decide +kernel
theorem dX2_howManyFrom_0 : decode cX2_howManyFrom 0 = .ok (.aload_n 0, 1) := by decide +kernel
theorem dX2_howManyFrom_1 : decode cX2_howManyFrom 1 = .ok (.getfield 11, 3) := by decide +kernel
theorem dX2_howManyFrom_4 : decode cX2_howManyFrom 4 = .ok (.iload_n 2, 1) := by decide +kernel
theorem dX2_howManyFrom_5 : decode cX2_howManyFrom 5 = .ok (.iload 4, 2) := by decide +kernel
theorem dX2_howManyFrom_7 : decode cX2_howManyFrom 7 = .ok (.invokestatic 30, 3) := by decide +kernel
theorem dX2_howManyFrom_10 : decode cX2_howManyFrom 10 = .ok (.iaload, 1) := by decide +kernel
theorem dX2_howManyFrom_11 : decode cX2_howManyFrom 11 = .ok (.istore 6, 2) := by decide +kernel
theorem dX2_howManyFrom_13 : decode cX2_howManyFrom 13 = .ok (.iload 6, 2) := by decide +kernel
theorem dX2_howManyFrom_15 : decode cX2_howManyFrom 15 = .ok (.ifCond .ne 5, 3) := by decide +kernel
theorem dX2_howManyFrom_18 : decode cX2_howManyFrom 18 = .ok (.lconst 1, 1) := by decide +kernel
theorem dX2_howManyFrom_19 : decode cX2_howManyFrom 19 = .ok (.lreturn, 1) := by decide +kernel
theorem dX2_howManyFrom_20 : decode cX2_howManyFrom 20 = .ok (.lconst 0, 1) := by decide +kernel
theorem dX2_howManyFrom_21 : decode cX2_howManyFrom 21 = .ok (.lstore 7, 2) := by decide +kernel
theorem dX2_howManyFrom_23 : decode cX2_howManyFrom 23 = .ok (.iconst 0, 1) := by decide +kernel
theorem dX2_howManyFrom_24 : decode cX2_howManyFrom 24 = .ok (.istore 9, 2) := by decide +kernel
theorem dX2_howManyFrom_26 : decode cX2_howManyFrom 26 = .ok (.iload 9, 2) := by decide +kernel
theorem dX2_howManyFrom_28 : decode cX2_howManyFrom 28 = .ok (.iload 5, 2) := by decide +kernel
theorem dX2_howManyFrom_30 : decode cX2_howManyFrom 30 = .ok (.if_icmp .ge 64, 3) := by decide +kernel
theorem dX2_howManyFrom_33 : decode cX2_howManyFrom 33 = .ok (.aload_n 1, 1) := by decide +kernel
theorem dX2_howManyFrom_34 : decode cX2_howManyFrom 34 = .ok (.iload 9, 2) := by decide +kernel
theorem dX2_howManyFrom_36 : decode cX2_howManyFrom 36 = .ok (.iload_n 2, 1) := by decide +kernel
theorem dX2_howManyFrom_37 : decode cX2_howManyFrom 37 = .ok (.invokevirtual 50, 3) := by decide +kernel
theorem dX2_howManyFrom_40 : decode cX2_howManyFrom 40 = .ok (.istore 10, 2) := by decide +kernel
theorem dX2_howManyFrom_42 : decode cX2_howManyFrom 42 = .ok (.aload_n 3, 1) := by decide +kernel
theorem dX2_howManyFrom_43 : decode cX2_howManyFrom 43 = .ok (.iload 9, 2) := by decide +kernel
theorem dX2_howManyFrom_45 : decode cX2_howManyFrom 45 = .ok (.iload 4, 2) := by decide +kernel
theorem dX2_howManyFrom_47 : decode cX2_howManyFrom 47 = .ok (.invokevirtual 50, 3) := by decide +kernel
theorem dX2_howManyFrom_50 : decode cX2_howManyFrom 50 = .ok (.istore 11, 2) := by decide +kernel
theorem dX2_howManyFrom_52 : decode cX2_howManyFrom 52 = .ok (.aload_n 0, 1) := by decide +kernel
theorem dX2_howManyFrom_53 : decode cX2_howManyFrom 53 = .ok (.aload_n 1, 1) := by decide +kernel
theorem dX2_howManyFrom_54 : decode cX2_howManyFrom 54 = .ok (.iload 10, 2) := by decide +kernel
theorem dX2_howManyFrom_56 : decode cX2_howManyFrom 56 = .ok (.aload_n 3, 1) := by decide +kernel
theorem dX2_howManyFrom_57 : decode cX2_howManyFrom 57 = .ok (.iload 11, 2) := by decide +kernel
theorem dX2_howManyFrom_59 : decode cX2_howManyFrom 59 = .ok (.iload 6, 2) := by decide +kernel
theorem dX2_howManyFrom_61 : decode cX2_howManyFrom 61 = .ok (.invokevirtual 53, 3) := by decide +kernel
theorem dX2_howManyFrom_64 : decode cX2_howManyFrom 64 = .ok (.ifCond .eq 24, 3) := by decide +kernel
theorem dX2_howManyFrom_67 : decode cX2_howManyFrom 67 = .ok (.lload 7, 2) := by decide +kernel
theorem dX2_howManyFrom_69 : decode cX2_howManyFrom 69 = .ok (.aload_n 0, 1) := by decide +kernel
theorem dX2_howManyFrom_70 : decode cX2_howManyFrom 70 = .ok (.getfield 15, 3) := by decide +kernel
theorem dX2_howManyFrom_73 : decode cX2_howManyFrom 73 = .ok (.iload 10, 2) := by decide +kernel
theorem dX2_howManyFrom_75 : decode cX2_howManyFrom 75 = .ok (.iconst 1, 1) := by decide +kernel
theorem dX2_howManyFrom_76 : decode cX2_howManyFrom 76 = .ok (.iadd, 1) := by decide +kernel
theorem dX2_howManyFrom_77 : decode cX2_howManyFrom 77 = .ok (.iload 11, 2) := by decide +kernel
theorem dX2_howManyFrom_79 : decode cX2_howManyFrom 79 = .ok (.iconst 1, 1) := by decide +kernel
theorem dX2_howManyFrom_80 : decode cX2_howManyFrom 80 = .ok (.iadd, 1) := by decide +kernel
theorem dX2_howManyFrom_81 : decode cX2_howManyFrom 81 = .ok (.invokestatic 30, 3) := by decide +kernel
theorem dX2_howManyFrom_84 : decode cX2_howManyFrom 84 = .ok (.laload, 1) := by decide +kernel
theorem dX2_howManyFrom_85 : decode cX2_howManyFrom 85 = .ok (.ladd, 1) := by decide +kernel
theorem dX2_howManyFrom_86 : decode cX2_howManyFrom 86 = .ok (.lstore 7, 2) := by decide +kernel
theorem dX2_howManyFrom_88 : decode cX2_howManyFrom 88 = .ok (.iinc 9 1, 3) := by decide +kernel
theorem dX2_howManyFrom_91 : decode cX2_howManyFrom 91 = .ok (.goto (-65), 3) := by decide +kernel
theorem dX2_howManyFrom_94 : decode cX2_howManyFrom 94 = .ok (.lload 7, 2) := by decide +kernel
theorem dX2_howManyFrom_96 : decode cX2_howManyFrom 96 = .ok (.lreturn, 1) := by decide +kernel
theorem dX2_edits_0 : decode cX2_edits 0 = .ok (.aload_n 1, 1) := by decide +kernel
theorem dX2_edits_1 : decode cX2_edits 1 = .ok (.getfield 26, 3) := by decide +kernel
theorem dX2_edits_4 : decode cX2_edits 4 = .ok (.istore_n 3, 1) := by decide +kernel
theorem dX2_edits_5 : decode cX2_edits 5 = .ok (.iload_n 3, 1) := by decide +kernel
theorem dX2_edits_6 : decode cX2_edits 6 = .ok (.ifCond .lt 46, 3) := by decide +kernel
theorem dX2_edits_9 : decode cX2_edits 9 = .ok (.aload_n 2, 1) := by decide +kernel
theorem dX2_edits_10 : decode cX2_edits 10 = .ok (.getfield 26, 3) := by decide +kernel
theorem dX2_edits_13 : decode cX2_edits 13 = .ok (.istore 4, 2) := by decide +kernel
theorem dX2_edits_15 : decode cX2_edits 15 = .ok (.iload 4, 2) := by decide +kernel
theorem dX2_edits_17 : decode cX2_edits 17 = .ok (.ifCond .lt 29, 3) := by decide +kernel
theorem dX2_edits_20 : decode cX2_edits 20 = .ok (.aload_n 0, 1) := by decide +kernel
theorem dX2_edits_21 : decode cX2_edits 21 = .ok (.getfield 11, 3) := by decide +kernel
