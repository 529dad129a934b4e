theorem dX7_sumOf_6 : decode cX7_sumOf 6 = .ok (.getfield 13, 3) := by decide +kernel
theorem dX7_sumOf_9 : decode cX7_sumOf 9 = .ok (.iload_n 1, 1) := by decide +kernel
theorem dX7_sumOf_10 : decode cX7_sumOf 10 = .ok (.iaload, 1) := by decide +kernel
theorem dX7_sumOf_11 : decode cX7_sumOf 11 = .ok (.if_icmp .gt 78, 3) := by decide +kernel
theorem dX7_sumOf_14 : decode cX7_sumOf 14 = .ok (.aload_n 0, 1) := by decide +kernel
theorem dX7_sumOf_15 : decode cX7_sumOf 15 = .ok (.getfield 7, 3) := by decide +kernel
theorem dX7_sumOf_18 : decode cX7_sumOf 18 = .ok (.iconst 2, 1) := by decide +kernel
theorem dX7_sumOf_19 : decode cX7_sumOf 19 = .ok (.if_icmp .ne 24, 3) := by decide +kernel
theorem dX7_sumOf_22 : decode cX7_sumOf 22 = .ok (.iload_n 2, 1) := by decide +kernel
theorem dX7_sumOf_23 : decode cX7_sumOf 23 = .ok (.iload_n 3, 1) := by decide +kernel
theorem dX7_sumOf_24 : decode cX7_sumOf 24 = .ok (.aload_n 0, 1) := by decide +kernel
theorem dX7_sumOf_25 : decode cX7_sumOf 25 = .ok (.getfield 17, 3) := by decide +kernel
theorem dX7_sumOf_28 : decode cX7_sumOf 28 = .ok (.bipush 30, 2) := by decide +kernel
theorem dX7_sumOf_30 : decode cX7_sumOf 30 = .ok (.iload_n 1, 1) := by decide +kernel
theorem dX7_sumOf_31 : decode cX7_sumOf 31 = .ok (.imul, 1) := by decide +kernel
theorem dX7_sumOf_32 : decode cX7_sumOf 32 = .ok (.iload_n 3, 1) := by decide +kernel
theorem dX7_sumOf_33 : decode cX7_sumOf 33 = .ok (.iadd, 1) := by decide +kernel
theorem dX7_sumOf_34 : decode cX7_sumOf 34 = .ok (.iconst 1, 1) := by decide +kernel
theorem dX7_sumOf_35 : decode cX7_sumOf 35 = .ok (.isub, 1) := by decide +kernel
theorem dX7_sumOf_36 : decode cX7_sumOf 36 = .ok (.iaload, 1) := by decide +kernel
theorem dX7_sumOf_37 : decode cX7_sumOf 37 = .ok (.imul, 1) := by decide +kernel
theorem dX7_sumOf_38 : decode cX7_sumOf 38 = .ok (.iadd, 1) := by decide +kernel
theorem dX7_sumOf_39 : decode cX7_sumOf 39 = .ok (.istore_n 2, 1) := by decide +kernel
theorem dX7_sumOf_40 : decode cX7_sumOf 40 = .ok (.goto 43, 3) := by decide +kernel
theorem dX7_sumOf_43 : decode cX7_sumOf 43 = .ok (.iload_n 3, 1) := by decide +kernel
theorem dX7_sumOf_44 : decode cX7_sumOf 44 = .ok (.iconst 1, 1) := by decide +kernel
theorem dX7_sumOf_45 : decode cX7_sumOf 45 = .ok (.if_icmp .le 38, 3) := by decide +kernel
theorem dX7_sumOf_48 : decode cX7_sumOf 48 = .ok (.aload_n 0, 1) := by decide +kernel
theorem dX7_sumOf_49 : decode cX7_sumOf 49 = .ok (.getfield 17, 3) := by decide +kernel
theorem dX7_sumOf_52 : decode cX7_sumOf 52 = .ok (.bipush 30, 2) := by decide +kernel
theorem dX7_sumOf_54 : decode cX7_sumOf 54 = .ok (.iload_n 1, 1) := by decide +kernel
theorem dX7_sumOf_55 : decode cX7_sumOf 55 = .ok (.imul, 1) := by decide +kernel
theorem dX7_sumOf_56 : decode cX7_sumOf 56 = .ok (.iload_n 3, 1) := by decide +kernel
theorem dX7_sumOf_57 : decode cX7_sumOf 57 = .ok (.iadd, 1) := by decide +kernel
theorem dX7_sumOf_58 : decode cX7_sumOf 58 = .ok (.iconst 1, 1) := by decide +kernel
theorem dX7_sumOf_59 : decode cX7_sumOf 59 = .ok (.isub, 1) := by decide +kernel
theorem dX7_sumOf_60 : decode cX7_sumOf 60 = .ok (.iaload, 1) := by decide +kernel
theorem dX7_sumOf_61 : decode cX7_sumOf 61 = .ok (.aload_n 0, 1) := by decide +kernel
theorem dX7_sumOf_62 : decode cX7_sumOf 62 = .ok (.getfield 17, 3) := by decide +kernel
theorem dX7_sumOf_65 : decode cX7_sumOf 65 = .ok (.bipush 30, 2) := by decide +kernel
theorem dX7_sumOf_67 : decode cX7_sumOf 67 = .ok (.iload_n 1, 1) := by decide +kernel
theorem dX7_sumOf_68 : decode cX7_sumOf 68 = .ok (.imul, 1) := by decide +kernel
theorem dX7_sumOf_69 : decode cX7_sumOf 69 = .ok (.iload_n 3, 1) := by decide +kernel
theorem dX7_sumOf_70 : decode cX7_sumOf 70 = .ok (.iadd, 1) := by decide +kernel
theorem dX7_sumOf_71 : decode cX7_sumOf 71 = .ok (.iconst 2, 1) := by decide +kernel
theorem dX7_sumOf_72 : decode cX7_sumOf 72 = .ok (.isub, 1) := by decide +kernel
theorem dX7_sumOf_73 : decode cX7_sumOf 73 = .ok (.iaload, 1) := by decide +kernel
theorem dX7_sumOf_74 : decode cX7_sumOf 74 = .ok (.if_icmp .lt 9, 3) := by decide +kernel
theorem dX7_sumOf_77 : decode cX7_sumOf 77 = .ok (.iload_n 2, 1) := by decide +kernel
theorem dX7_sumOf_78 : decode cX7_sumOf 78 = .ok (.iload_n 3, 1) := by decide +kernel
theorem dX7_sumOf_79 : decode cX7_sumOf 79 = .ok (.iconst 1, 1) := by decide +kernel
theorem dX7_sumOf_80 : decode cX7_sumOf 80 = .ok (.isub, 1) := by decide +kernel
theorem dX7_sumOf_81 : decode cX7_sumOf 81 = .ok (.iadd, 1) := by decide +kernel
theorem dX7_sumOf_82 : decode cX7_sumOf 82 = .ok (.istore_n 2, 1) := by decide +kernel
theorem dX7_sumOf_83 : decode cX7_sumOf 83 = .ok (.iinc 3 1, 3) := by decide +kernel
theorem dX7_sumOf_86 : decode cX7_sumOf 86 = .ok (.goto (-82), 3) := by decide +kernel
theorem dX7_sumOf_89 : decode cX7_sumOf 89 = .ok (.iload_n 2, 1) := by decide +kernel
theorem dX7_sumOf_90 : decode cX7_sumOf 90 = .ok (.ireturn, 1) := by decide +kernel
theorem dX7_lettersOf_0 : decode cX7_lettersOf 0 = .ok (.iconst 0, 1) := by decide +kernel
theorem dX7_lettersOf_1 : decode cX7_lettersOf 1 = .ok (.istore_n 2, 1) := by decide +kernel
theorem dX7_lettersOf_2 : decode cX7_lettersOf 2 = .ok (.iconst 0, 1) := by decide +kernel
theorem dX7_lettersOf_3 : decode cX7_lettersOf 3 = .ok (.istore_n 3, 1) := by decide +kernel
theorem dX7_lettersOf_4 : decode cX7_lettersOf 4 = .ok (.iload_n 3, 1) := by decide +kernel
theorem dX7_lettersOf_5 : decode cX7_lettersOf 5 = .ok (.aload_n 0, 1) := by decide +kernel
theorem dX7_lettersOf_6 : decode cX7_lettersOf 6 = .ok (.getfield 13, 3) := by decide +kernel
theorem dX7_lettersOf_9 : decode cX7_lettersOf 9 = .ok (.iload_n 1, 1) := by decide +kernel
theorem dX7_lettersOf_10 : decode cX7_lettersOf 10 = .ok (.iaload, 1) := by decide +kernel
theorem dX7_lettersOf_11 : decode cX7_lettersOf 11 = .ok (.if_icmp .ge 23, 3) := by decide +kernel
theorem dX7_lettersOf_14 : decode cX7_lettersOf 14 = .ok (.iload_n 2, 1) := by decide +kernel
theorem dX7_lettersOf_15 : decode cX7_lettersOf 15 = .ok (.aload_n 0, 1) := by decide +kernel
theorem dX7_lettersOf_16 : decode cX7_lettersOf 16 = .ok (.getfield 17, 3) := by decide +kernel
theorem dX7_lettersOf_19 : decode cX7_lettersOf 19 = .ok (.bipush 30, 2) := by decide +kernel
theorem dX7_lettersOf_21 : decode cX7_lettersOf 21 = .ok (.iload_n 1, 1) := by decide +kernel
theorem dX7_lettersOf_22 : decode cX7_lettersOf 22 = .ok (.imul, 1) := by decide +kernel
theorem dX7_lettersOf_23 : decode cX7_lettersOf 23 = .ok (.iload_n 3, 1) := by decide +kernel
theorem dX7_lettersOf_24 : decode cX7_lettersOf 24 = .ok (.iadd, 1) := by decide +kernel
theorem dX7_lettersOf_25 : decode cX7_lettersOf 25 = .ok (.iaload, 1) := by decide +kernel
theorem dX7_lettersOf_26 : decode cX7_lettersOf 26 = .ok (.iadd, 1) := by decide +kernel
theorem dX7_lettersOf_27 : decode cX7_lettersOf 27 = .ok (.istore_n 2, 1) := by decide +kernel
theorem dX7_lettersOf_28 : decode cX7_lettersOf 28 = .ok (.iinc 3 1, 3) := by decide +kernel
theorem dX7_lettersOf_31 : decode cX7_lettersOf 31 = .ok (.goto (-27), 3) := by decide +kernel
theorem dX7_lettersOf_34 : decode cX7_lettersOf 34 = .ok (.iload_n 2, 1) := by decide +kernel
theorem dX7_lettersOf_35 : decode cX7_lettersOf 35 = .ok (.ireturn, 1) := by decide +kernel
theorem dX7_isCode_0 : decode cX7_isCode 0 = .ok (.aload_n 0, 1) := by decide +kernel
theorem dX7_isCode_1 : decode cX7_isCode 1 = .ok (.getfield 13, 3) := by decide +kernel
theorem dX7_isCode_4 : decode cX7_isCode 4 = .ok (.iload_n 1, 1) := by decide +kernel
theorem dX7_isCode_5 : decode cX7_isCode 5 = .ok (.iaload, 1) := by decide +kernel
theorem dX7_isCode_6 : decode cX7_isCode 6 = .ok (.aload_n 0, 1) := by decide +kernel
theorem dX7_isCode_7 : decode cX7_isCode 7 = .ok (.getfield 47, 3) := by decide +kernel
theorem dX7_isCode_10 : decode cX7_isCode 10 = .ok (.if_icmp .ne 49, 3) := by decide +kernel
theorem dX7_isCode_13 : decode cX7_isCode 13 = .ok (.aload_n 0, 1) := by decide +kernel
theorem dX7_isCode_14 : decode cX7_isCode 14 = .ok (.iload_n 1, 1) := by decide +kernel
theorem dX7_isCode_15 : decode cX7_isCode 15 = .ok (.invokevirtual 72, 3) := by decide +kernel
theorem dX7_isCode_18 : decode cX7_isCode 18 = .ok (.aload_n 0, 1) := by decide +kernel
theorem dX7_isCode_19 : decode cX7_isCode 19 = .ok (.getfield 76, 3) := by decide +kernel
theorem dX7_isCode_22 : decode cX7_isCode 22 = .ok (.irem, 1) := by decide +kernel
theorem dX7_isCode_23 : decode cX7_isCode 23 = .ok (.aload_n 0, 1) := by decide +kernel
theorem dX7_isCode_24 : decode cX7_isCode 24 = .ok (.getfield 79, 3) := by decide +kernel
theorem dX7_isCode_27 : decode cX7_isCode 27 = .ok (.if_icmp .ne 32, 3) := by decide +kernel
theorem dX7_isCode_30 : decode cX7_isCode 30 = .ok (.aload_n 0, 1) := by decide +kernel
theorem dX7_isCode_31 : decode cX7_isCode 31 = .ok (.getfield 7, 3) := by decide +kernel
theorem dX7_isCode_34 : decode cX7_isCode 34 = .ok (.iconst 2, 1) := by decide +kernel
theorem dX7_isCode_35 : decode cX7_isCode 35 = .ok (.if_icmp .eq 20, 3) := by decide +kernel
theorem dX7_isCode_38 : decode cX7_isCode 38 = .ok (.aload_n 0, 1) := by decide +kernel
theorem dX7_isCode_39 : decode cX7_isCode 39 = .ok (.iload_n 1, 1) := by decide +kernel
theorem dX7_isCode_40 : decode cX7_isCode 40 = .ok (.invokevirtual 82, 3) := by decide +kernel
theorem dX7_isCode_43 : decode cX7_isCode 43 = .ok (.aload_n 0, 1) := by decide +kernel
theorem dX7_isCode_44 : decode cX7_isCode 44 = .ok (.getfield 7, 3) := by decide +kernel
theorem dX7_isCode_47 : decode cX7_isCode 47 = .ok (.irem, 1) := by decide +kernel
theorem dX7_isCode_48 : decode cX7_isCode 48 = .ok (.aload_n 0, 1) := by decide +kernel
theorem dX7_isCode_49 : decode cX7_isCode 49 = .ok (.getfield 85, 3) := by decide +kernel
theorem dX7_isCode_52 : decode cX7_isCode 52 = .ok (.if_icmp .ne 7, 3) := by decide +kernel
theorem dX7_isCode_55 : decode cX7_isCode 55 = .ok (.iconst 1, 1) := by decide +kernel
theorem dX7_isCode_56 : decode cX7_isCode 56 = .ok (.goto 4, 3) := by decide +kernel
theorem dX7_isCode_59 : decode cX7_isCode 59 = .ok (.iconst 0, 1) := by decide +kernel
theorem dX7_isCode_60 : decode cX7_isCode 60 = .ok (.ireturn, 1) := by decide +kernel
theorem dX7_state_0 : decode cX7_state 0 = .ok (.sipush 1024, 3) := by decide +kernel
theorem dX7_state_3 : decode cX7_state 3 = .ok (.iload_n 0, 1) := by decide +kernel
theorem dX7_state_4 : decode cX7_state 4 = .ok (.imul, 1) := by decide +kernel
theorem dX7_state_5 : decode cX7_state 5 = .ok (.sipush 256, 3) := by decide +kernel
theorem dX7_state_8 : decode cX7_state 8 = .ok (.iload_n 1, 1) := by decide +kernel
theorem dX7_state_9 : decode cX7_state 9 = .ok (.imul, 1) := by decide +kernel
theorem dX7_state_10 : decode cX7_state 10 = .ok (.iadd, 1) := by decide +kernel
theorem dX7_state_11 : decode cX7_state 11 = .ok (.iconst 4, 1) := by decide +kernel
theorem dX7_state_12 : decode cX7_state 12 = .ok (.iload_n 2, 1) := by decide +kernel
theorem dX7_state_13 : decode cX7_state 13 = .ok (.imul, 1) := by decide +kernel
theorem dX7_state_14 : decode cX7_state 14 = .ok (.iadd, 1) := by decide +kernel
theorem dX7_state_15 : decode cX7_state 15 = .ok (.iload_n 3, 1) := by decide +kernel
theorem dX7_state_16 : decode cX7_state 16 = .ok (.iadd, 1) := by decide +kernel
theorem dX7_state_17 : decode cX7_state 17 = .ok (.ireturn, 1) := by decide +kernel
theorem dX7_step_0 : decode cX7_step 0 = .ok (.aload_n 0, 1) := by decide +kernel
theorem dX7_step_1 : decode cX7_step 1 = .ok (.getfield 7, 3) := by decide +kernel
theorem dX7_step_4 : decode cX7_step 4 = .ok (.iconst 2, 1) := by decide +kernel
theorem dX7_step_5 : decode cX7_step 5 = .ok (.if_icmp .ne 11, 3) := by decide +kernel
theorem dX7_step_8 : decode cX7_step 8 = .ok (.iload_n 1, 1) := by decide +kernel
theorem dX7_step_9 : decode cX7_step 9 = .ok (.iconst 1, 1) := by decide +kernel
theorem dX7_step_10 : decode cX7_step 10 = .ok (.iadd, 1) := by decide +kernel
theorem dX7_step_11 : decode cX7_step 11 = .ok (.iload_n 3, 1) := by decide +kernel
theorem dX7_step_12 : decode cX7_step 12 = .ok (.imul, 1) := by decide +kernel
theorem dX7_step_13 : decode cX7_step 13 = .ok (.goto 17, 3) := by decide +kernel
theorem dX7_step_16 : decode cX7_step 16 = .ok (.iload_n 1, 1) := by decide +kernel
theorem dX7_step_17 : decode cX7_step 17 = .ok (.ifCond .le 12, 3) := by decide +kernel
theorem dX7_step_20 : decode cX7_step 20 = .ok (.iload_n 3, 1) := by decide +kernel
theorem dX7_step_21 : decode cX7_step 21 = .ok (.iload_n 2, 1) := by decide +kernel
theorem dX7_step_22 : decode cX7_step 22 = .ok (.if_icmp .lt 7, 3) := by decide +kernel
theorem dX7_step_25 : decode cX7_step 25 = .ok (.iload_n 1, 1) := by decide +kernel
theorem dX7_step_26 : decode cX7_step 26 = .ok (.goto 4, 3) := by decide +kernel
theorem dX7_step_29 : decode cX7_step 29 = .ok (.iconst 0, 1) := by decide +kernel
theorem dX7_step_30 : decode cX7_step 30 = .ok (.ireturn, 1) := by decide +kernel
theorem dX7_counts_0 : decode cX7_counts 0 = .ok (.aload_n 0, 1) := by decide +kernel
theorem dX7_counts_1 : decode cX7_counts 1 = .ok (.getfield 47, 3) := by decide +kernel
theorem dX7_counts_4 : decode cX7_counts 4 = .ok (.istore_n 1, 1) := by decide +kernel
theorem dX7_counts_5 : decode cX7_counts 5 = .ok (.iload_n 1, 1) := by decide +kernel
theorem dX7_counts_6 : decode cX7_counts 6 = .ok (.ifCond .lt 183, 3) := by decide +kernel
theorem dX7_counts_9 : decode cX7_counts 9 = .ok (.iconst 0, 1) := by decide +kernel
theorem dX7_counts_10 : decode cX7_counts 10 = .ok (.istore_n 2, 1) := by decide +kernel
theorem dX7_counts_11 : decode cX7_counts 11 = .ok (.iload_n 2, 1) := by decide +kernel
theorem dX7_counts_12 : decode cX7_counts 12 = .ok (.aload_n 0, 1) := by decide +kernel
theorem dX7_counts_13 : decode cX7_counts 13 = .ok (.getfield 7, 3) := by decide +kernel
theorem dX7_counts_16 : decode cX7_counts 16 = .ok (.if_icmp .ge 167, 3) := by decide +kernel
theorem dX7_counts_19 : decode cX7_counts 19 = .ok (.iconst 0, 1) := by decide +kernel
theorem dX7_counts_20 : decode cX7_counts 20 = .ok (.istore_n 3, 1) := by decide +kernel
theorem dX7_counts_21 : decode cX7_counts 21 = .ok (.iload_n 3, 1) := by decide +kernel
theorem dX7_counts_22 : decode cX7_counts 22 = .ok (.aload_n 0, 1) := by decide +kernel
theorem dX7_counts_23 : decode cX7_counts 23 = .ok (.getfield 76, 3) := by decide +kernel
theorem dX7_counts_26 : decode cX7_counts 26 = .ok (.if_icmp .ge 151, 3) := by decide +kernel
theorem dX7_counts_29 : decode cX7_counts 29 = .ok (.iconst 0, 1) := by decide +kernel
theorem dX7_counts_30 : decode cX7_counts 30 = .ok (.istore 4, 2) := by decide +kernel
theorem dX7_counts_32 : decode cX7_counts 32 = .ok (.iload 4, 2) := by decide +kernel
theorem dX7_counts_34 : decode cX7_counts 34 = .ok (.aload_n 0, 1) := by decide +kernel
theorem dX7_counts_35 : decode cX7_counts 35 = .ok (.getfield 7, 3) := by decide +kernel
theorem dX7_counts_38 : decode cX7_counts 38 = .ok (.if_icmp .ge 133, 3) := by decide +kernel
theorem dX7_counts_41 : decode cX7_counts 41 = .ok (.iload_n 1, 1) := by decide +kernel
theorem dX7_counts_42 : decode cX7_counts 42 = .ok (.aload_n 0, 1) := by decide +kernel
theorem dX7_counts_43 : decode cX7_counts 43 = .ok (.getfield 47, 3) := by decide +kernel
theorem dX7_counts_46 : decode cX7_counts 46 = .ok (.if_icmp .ne 32, 3) := by decide +kernel
theorem dX7_counts_49 : decode cX7_counts 49 = .ok (.iload_n 3, 1) := by decide +kernel
theorem dX7_counts_50 : decode cX7_counts 50 = .ok (.aload_n 0, 1) := by decide +kernel
theorem dX7_counts_51 : decode cX7_counts 51 = .ok (.getfield 79, 3) := by decide +kernel
theorem dX7_counts_54 : decode cX7_counts 54 = .ok (.if_icmp .ne 24, 3) := by decide +kernel
theorem dX7_counts_57 : decode cX7_counts 57 = .ok (.aload_n 0, 1) := by decide +kernel
theorem dX7_counts_58 : decode cX7_counts 58 = .ok (.getfield 7, 3) := by decide +kernel
theorem dX7_counts_61 : decode cX7_counts 61 = .ok (.iconst 2, 1) := by decide +kernel
theorem dX7_counts_62 : decode cX7_counts 62 = .ok (.if_icmp .eq 12, 3) := by decide +kernel
theorem dX7_counts_65 : decode cX7_counts 65 = .ok (.iload 4, 2) := by decide +kernel
theorem dX7_counts_67 : decode cX7_counts 67 = .ok (.aload_n 0, 1) := by decide +kernel
theorem dX7_counts_68 : decode cX7_counts 68 = .ok (.getfield 85, 3) := by decide +kernel
theorem dX7_counts_71 : decode cX7_counts 71 = .ok (.if_icmp .ne 7, 3) := by decide +kernel
theorem dX7_counts_74 : decode cX7_counts 74 = .ok (.iconst 1, 1) := by decide +kernel
theorem dX7_counts_75 : decode cX7_counts 75 = .ok (.goto 4, 3) := by decide +kernel
theorem dX7_counts_78 : decode cX7_counts 78 = .ok (.iconst 0, 1) := by decide +kernel
theorem dX7_counts_79 : decode cX7_counts 79 = .ok (.istore 5, 2) := by decide +kernel
theorem dX7_counts_81 : decode cX7_counts 81 = .ok (.iconst 0, 1) := by decide +kernel
theorem dX7_counts_82 : decode cX7_counts 82 = .ok (.istore 6, 2) := by decide +kernel
theorem dX7_counts_84 : decode cX7_counts 84 = .ok (.iload 6, 2) := by decide +kernel
theorem dX7_counts_86 : decode cX7_counts 86 = .ok (.aload_n 0, 1) := by decide +kernel
theorem dX7_counts_87 : decode cX7_counts 87 = .ok (.getfield 7, 3) := by decide +kernel
theorem dX7_counts_90 : decode cX7_counts 90 = .ok (.if_icmp .ge 60, 3) := by decide +kernel
theorem dX7_counts_93 : decode cX7_counts 93 = .ok (.iload_n 1, 1) := by decide +kernel
theorem dX7_counts_94 : decode cX7_counts 94 = .ok (.aload_n 0, 1) := by decide +kernel
theorem dX7_counts_95 : decode cX7_counts 95 = .ok (.getfield 47, 3) := by decide +kernel
theorem dX7_counts_98 : decode cX7_counts 98 = .ok (.if_icmp .ge 52, 3) := by decide +kernel
theorem dX7_counts_101 : decode cX7_counts 101 = .ok (.iload 5, 2) := by decide +kernel
theorem dX7_counts_103 : decode cX7_counts 103 = .ok (.aload_n 0, 1) := by decide +kernel
theorem dX7_counts_104 : decode cX7_counts 104 = .ok (.getfield 24, 3) := by decide +kernel
theorem dX7_counts_107 : decode cX7_counts 107 = .ok (.iload_n 1, 1) := by decide +kernel
theorem dX7_counts_108 : decode cX7_counts 108 = .ok (.iconst 1, 1) := by decide +kernel
theorem dX7_counts_109 : decode cX7_counts 109 = .ok (.iadd, 1) := by decide +kernel
theorem dX7_counts_110 : decode cX7_counts 110 = .ok (.iload 6, 2) := by decide +kernel
theorem dX7_counts_112 : decode cX7_counts 112 = .ok (.iload_n 3, 1) := by decide +kernel
theorem dX7_counts_113 : decode cX7_counts 113 = .ok (.aload_n 0, 1) := by decide +kernel
theorem dX7_counts_114 : decode cX7_counts 114 = .ok (.iload_n 1, 1) := by decide +kernel
theorem dX7_counts_115 : decode cX7_counts 115 = .ok (.iload_n 2, 1) := by decide +kernel
theorem dX7_counts_116 : decode cX7_counts 116 = .ok (.iload 6, 2) := by decide +kernel
theorem dX7_counts_118 : decode cX7_counts 118 = .ok (.invokevirtual 88, 3) := by decide +kernel
theorem dX7_counts_121 : decode cX7_counts 121 = .ok (.iadd, 1) := by decide +kernel
theorem dX7_counts_122 : decode cX7_counts 122 = .ok (.aload_n 0, 1) := by decide +kernel
theorem dX7_counts_123 : decode cX7_counts 123 = .ok (.getfield 76, 3) := by decide +kernel
theorem dX7_counts_126 : decode cX7_counts 126 = .ok (.irem, 1) := by decide +kernel
theorem dX7_counts_127 : decode cX7_counts 127 = .ok (.iload 4, 2) := by decide +kernel
theorem dX7_counts_129 : decode cX7_counts 129 = .ok (.iload 6, 2) := by decide +kernel
theorem dX7_counts_131 : decode cX7_counts 131 = .ok (.iadd, 1) := by decide +kernel
theorem dX7_counts_132 : decode cX7_counts 132 = .ok (.aload_n 0, 1) := by decide +kernel
theorem dX7_counts_133 : decode cX7_counts 133 = .ok (.getfield 7, 3) := by decide +kernel
theorem dX7_counts_136 : decode cX7_counts 136 = .ok (.irem, 1) := by decide +kernel
theorem dX7_counts_137 : decode cX7_counts 137 = .ok (.invokestatic 92, 3) := by decide +kernel
theorem dX7_counts_140 : decode cX7_counts 140 = .ok (.iaload, 1) := by decide +kernel
theorem dX7_counts_141 : decode cX7_counts 141 = .ok (.iadd, 1) := by decide +kernel
theorem dX7_counts_142 : decode cX7_counts 142 = .ok (.istore 5, 2) := by decide +kernel
theorem dX7_counts_144 : decode cX7_counts 144 = .ok (.iinc 6 1, 3) := by decide +kernel
theorem dX7_counts_147 : decode cX7_counts 147 = .ok (.goto (-63), 3) := by decide +kernel
theorem dX7_counts_150 : decode cX7_counts 150 = .ok (.aload_n 0, 1) := by decide +kernel
theorem dX7_counts_151 : decode cX7_counts 151 = .ok (.getfield 24, 3) := by decide +kernel
theorem dX7_counts_154 : decode cX7_counts 154 = .ok (.iload_n 1, 1) := by decide +kernel
theorem dX7_counts_155 : decode cX7_counts 155 = .ok (.iload_n 2, 1) := by decide +kernel
theorem dX7_counts_156 : decode cX7_counts 156 = .ok (.iload_n 3, 1) := by decide +kernel
theorem dX7_counts_157 : decode cX7_counts 157 = .ok (.iload 4, 2) := by decide +kernel
theorem dX7_counts_159 : decode cX7_counts 159 = .ok (.invokestatic 92, 3) := by decide +kernel
theorem dX7_counts_162 : decode cX7_counts 162 = .ok (.iload 5, 2) := by decide +kernel
theorem dX7_counts_164 : decode cX7_counts 164 = .ok (.iastore, 1) := by decide +kernel
theorem dX7_counts_165 : decode cX7_counts 165 = .ok (.iinc 4 1, 3) := by decide +kernel
theorem dX7_counts_168 : decode cX7_counts 168 = .ok (.goto (-136), 3) := by decide +kernel
theorem dX7_counts_171 : decode cX7_counts 171 = .ok (.iinc 3 1, 3) := by decide +kernel
theorem dX7_counts_174 : decode cX7_counts 174 = .ok (.goto (-153), 3) := by decide +kernel
theorem dX7_counts_177 : decode cX7_counts 177 = .ok (.iinc 2 1, 3) := by decide +kernel
theorem dX7_counts_180 : decode cX7_counts 180 = .ok (.goto (-169), 3) := by decide +kernel
theorem dX7_counts_183 : decode cX7_counts 183 = .ok (.iinc 1 (-1), 3) := by decide +kernel
theorem dX7_counts_186 : decode cX7_counts 186 = .ok (.goto (-181), 3) := by decide +kernel
theorem dX7_counts_189 : decode cX7_counts 189 = .ok (.return_, 1) := by decide +kernel
theorem dX7_code_0 : decode cX7_code 0 = .ok (.iload_n 1, 1) := by decide +kernel
theorem dX7_code_1 : decode cX7_code 1 = .ok (.i2l, 1) := by decide +kernel
theorem dX7_code_2 : decode cX7_code 2 = .ok (.lconst 1, 1) := by decide +kernel
theorem dX7_code_3 : decode cX7_code 3 = .ok (.ldc2_w 96, 3) := by decide +kernel
theorem dX7_code_6 : decode cX7_code 6 = .ok (.invokestatic 39, 3) := by decide +kernel
theorem dX7_code_9 : decode cX7_code 9 = .ok (.ifCond .eq 53, 3) := by decide +kernel
theorem dX7_code_12 : decode cX7_code 12 = .ok (.iload_n 2, 1) := by decide +kernel
theorem dX7_code_13 : decode cX7_code 13 = .ok (.i2l, 1) := by decide +kernel
theorem dX7_code_14 : decode cX7_code 14 = .ok (.lconst 1, 1) := by decide +kernel
theorem dX7_code_15 : decode cX7_code 15 = .ok (.ldc2_w 98, 3) := by decide +kernel
theorem dX7_code_18 : decode cX7_code 18 = .ok (.invokestatic 39, 3) := by decide +kernel
theorem dX7_code_21 : decode cX7_code 21 = .ok (.ifCond .eq 41, 3) := by decide +kernel
theorem dX7_code_24 : decode cX7_code 24 = .ok (.iload_n 3, 1) := by decide +kernel
theorem dX7_code_25 : decode cX7_code 25 = .ok (.i2l, 1) := by decide +kernel
theorem dX7_code_26 : decode cX7_code 26 = .ok (.lconst 0, 1) := by decide +kernel
theorem dX7_code_27 : decode cX7_code 27 = .ok (.iload_n 2, 1) := by decide +kernel
theorem dX7_code_28 : decode cX7_code 28 = .ok (.iconst 1, 1) := by decide +kernel
theorem dX7_code_29 : decode cX7_code 29 = .ok (.isub, 1) := by decide +kernel
theorem dX7_code_30 : decode cX7_code 30 = .ok (.i2l, 1) := by decide +kernel
theorem dX7_code_31 : decode cX7_code 31 = .ok (.invokestatic 39, 3) := by decide +kernel
theorem dX7_code_34 : decode cX7_code 34 = .ok (.ifCond .eq 28, 3) := by decide +kernel
theorem dX7_code_37 : decode cX7_code 37 = .ok (.aload_n 0, 1) := by decide +kernel
theorem dX7_code_38 : decode cX7_code 38 = .ok (.getfield 7, 3) := by decide +kernel
theorem dX7_code_41 : decode cX7_code 41 = .ok (.iconst 2, 1) := by decide +kernel
theorem dX7_code_42 : decode cX7_code 42 = .ok (.if_icmp .le 22, 3) := by decide +kernel
theorem dX7_code_45 : decode cX7_code 45 = .ok (.iload 4, 2) := by decide +kernel
theorem dX7_code_47 : decode cX7_code 47 = .ok (.i2l, 1) := by decide +kernel
theorem dX7_code_48 : decode cX7_code 48 = .ok (.lconst 0, 1) := by decide +kernel
theorem dX7_code_49 : decode cX7_code 49 = .ok (.aload_n 0, 1) := by decide +kernel
theorem dX7_code_50 : decode cX7_code 50 = .ok (.getfield 7, 3) := by decide +kernel
theorem dX7_code_53 : decode cX7_code 53 = .ok (.iconst 1, 1) := by decide +kernel
theorem dX7_code_54 : decode cX7_code 54 = .ok (.isub, 1) := by decide +kernel
theorem dX7_code_55 : decode cX7_code 55 = .ok (.i2l, 1) := by decide +kernel
theorem dX7_code_56 : decode cX7_code 56 = .ok (.invokestatic 39, 3) := by decide +kernel
theorem dX7_code_59 : decode cX7_code 59 = .ok (.ifCond .ne 5, 3) := by decide +kernel
theorem dX7_code_62 : decode cX7_code 62 = .ok (.iconst (-1), 1) := by decide +kernel
theorem dX7_code_63 : decode cX7_code 63 = .ok (.ireturn, 1) := by decide +kernel
theorem dX7_code_64 : decode cX7_code 64 = .ok (.aload_n 0, 1) := by decide +kernel
theorem dX7_code_65 : decode cX7_code 65 = .ok (.iload_n 1, 1) := by decide +kernel
theorem dX7_code_66 : decode cX7_code 66 = .ok (.putfield 47, 3) := by decide +kernel
theorem dX7_code_69 : decode cX7_code 69 = .ok (.aload_n 0, 1) := by decide +kernel
theorem dX7_code_70 : decode cX7_code 70 = .ok (.iload_n 2, 1) := by decide +kernel
theorem dX7_code_71 : decode cX7_code 71 = .ok (.putfield 76, 3) := by decide +kernel
theorem dX7_code_74 : decode cX7_code 74 = .ok (.aload_n 0, 1) := by decide +kernel
theorem dX7_code_75 : decode cX7_code 75 = .ok (.iload_n 3, 1) := by decide +kernel
theorem dX7_code_76 : decode cX7_code 76 = .ok (.putfield 79, 3) := by decide +kernel
theorem dX7_code_79 : decode cX7_code 79 = .ok (.aload_n 0, 1) := by decide +kernel
theorem dX7_code_80 : decode cX7_code 80 = .ok (.iload 4, 2) := by decide +kernel
theorem dX7_code_82 : decode cX7_code 82 = .ok (.putfield 85, 3) := by decide +kernel
theorem dX7_code_85 : decode cX7_code 85 = .ok (.aload_n 0, 1) := by decide +kernel
theorem dX7_code_86 : decode cX7_code 86 = .ok (.invokevirtual 100, 3) := by decide +kernel
theorem dX7_code_89 : decode cX7_code 89 = .ok (.aload_n 0, 1) := by decide +kernel
theorem dX7_code_90 : decode cX7_code 90 = .ok (.invokevirtual 103, 3) := by decide +kernel
theorem dX7_code_93 : decode cX7_code 93 = .ok (.ireturn, 1) := by decide +kernel
theorem dX7_codeSize_0 : decode cX7_codeSize 0 = .ok (.aload_n 0, 1) := by decide +kernel
theorem dX7_codeSize_1 : decode cX7_codeSize 1 = .ok (.getfield 24, 3) := by decide +kernel
theorem dX7_codeSize_4 : decode cX7_codeSize 4 = .ok (.iconst 0, 1) := by decide +kernel
theorem dX7_codeSize_5 : decode cX7_codeSize 5 = .ok (.iconst 0, 1) := by decide +kernel
theorem dX7_codeSize_6 : decode cX7_codeSize 6 = .ok (.iconst 0, 1) := by decide +kernel
theorem dX7_codeSize_7 : decode cX7_codeSize 7 = .ok (.iconst 0, 1) := by decide +kernel
theorem dX7_codeSize_8 : decode cX7_codeSize 8 = .ok (.invokestatic 92, 3) := by decide +kernel
theorem dX7_codeSize_11 : decode cX7_codeSize 11 = .ok (.iaload, 1) := by decide +kernel
theorem dX7_codeSize_12 : decode cX7_codeSize 12 = .ok (.ireturn, 1) := by decide +kernel
theorem dX7_sum_0 : decode cX7_sum 0 = .ok (.iload_n 1, 1) := by decide +kernel
theorem dX7_sum_1 : decode cX7_sum 1 = .ok (.invokestatic 53, 3) := by decide +kernel
theorem dX7_sum_4 : decode cX7_sum 4 = .ok (.ifCond .ne 7, 3) := by decide +kernel
theorem dX7_sum_7 : decode cX7_sum 7 = .ok (.iconst (-1), 1) := by decide +kernel
theorem dX7_sum_8 : decode cX7_sum 8 = .ok (.goto 25, 3) := by decide +kernel
theorem dX7_sum_11 : decode cX7_sum 11 = .ok (.aload_n 0, 1) := by decide +kernel
theorem dX7_sum_12 : decode cX7_sum 12 = .ok (.getfield 47, 3) := by decide +kernel
theorem dX7_sum_15 : decode cX7_sum 15 = .ok (.ifCond .ne 8, 3) := by decide +kernel
theorem dX7_sum_18 : decode cX7_sum 18 = .ok (.bipush (-2), 2) := by decide +kernel
theorem dX7_sum_20 : decode cX7_sum 20 = .ok (.goto 13, 3) := by decide +kernel
theorem dX7_sum_23 : decode cX7_sum 23 = .ok (.aload_n 0, 1) := by decide +kernel
theorem dX7_sum_24 : decode cX7_sum 24 = .ok (.iload_n 1, 1) := by decide +kernel
theorem dX7_sum_25 : decode cX7_sum 25 = .ok (.invokevirtual 72, 3) := by decide +kernel
theorem dX7_sum_28 : decode cX7_sum 28 = .ok (.aload_n 0, 1) := by decide +kernel
theorem dX7_sum_29 : decode cX7_sum 29 = .ok (.getfield 76, 3) := by decide +kernel
theorem dX7_sum_32 : decode cX7_sum 32 = .ok (.irem, 1) := by decide +kernel
theorem dX7_sum_33 : decode cX7_sum 33 = .ok (.ireturn, 1) := by decide +kernel
theorem dX7_isOf_0 : decode cX7_isOf 0 = .ok (.iload_n 1, 1) := by decide +kernel
theorem dX7_isOf_1 : decode cX7_isOf 1 = .ok (.invokestatic 53, 3) := by decide +kernel
theorem dX7_isOf_4 : decode cX7_isOf 4 = .ok (.ifCond .ne 7, 3) := by decide +kernel
theorem dX7_isOf_7 : decode cX7_isOf 7 = .ok (.iconst (-1), 1) := by decide +kernel
theorem dX7_isOf_8 : decode cX7_isOf 8 = .ok (.goto 28, 3) := by decide +kernel
theorem dX7_isOf_11 : decode cX7_isOf 11 = .ok (.aload_n 0, 1) := by decide +kernel
theorem dX7_isOf_12 : decode cX7_isOf 12 = .ok (.getfield 47, 3) := by decide +kernel
theorem dX7_isOf_15 : decode cX7_isOf 15 = .ok (.ifCond .ne 8, 3) := by decide +kernel
theorem dX7_isOf_18 : decode cX7_isOf 18 = .ok (.bipush (-2), 2) := by decide +kernel
theorem dX7_isOf_20 : decode cX7_isOf 20 = .ok (.goto 16, 3) := by decide +kernel
theorem dX7_isOf_23 : decode cX7_isOf 23 = .ok (.aload_n 0, 1) := by decide +kernel
theorem dX7_isOf_24 : decode cX7_isOf 24 = .ok (.iload_n 1, 1) := by decide +kernel
theorem dX7_isOf_25 : decode cX7_isOf 25 = .ok (.invokevirtual 107, 3) := by decide +kernel
theorem dX7_isOf_28 : decode cX7_isOf 28 = .ok (.ifCond .eq 7, 3) := by decide +kernel
theorem dX7_isOf_31 : decode cX7_isOf 31 = .ok (.iconst 1, 1) := by decide +kernel
theorem dX7_isOf_32 : decode cX7_isOf 32 = .ok (.goto 4, 3) := by decide +kernel
theorem dX7_isOf_35 : decode cX7_isOf 35 = .ok (.iconst 0, 1) := by decide +kernel
theorem dX7_isOf_36 : decode cX7_isOf 36 = .ok (.ireturn, 1) := by decide +kernel
theorem dX7_listed_0 : decode cX7_listed 0 = .ok (.iload_n 1, 1) := by decide +kernel
theorem dX7_listed_1 : decode cX7_listed 1 = .ok (.invokestatic 53, 3) := by decide +kernel
theorem dX7_listed_4 : decode cX7_listed 4 = .ok (.ifCond .eq 7, 3) := by decide +kernel
theorem dX7_listed_7 : decode cX7_listed 7 = .ok (.iload_n 2, 1) := by decide +kernel
theorem dX7_listed_8 : decode cX7_listed 8 = .ok (.ifCond .ge 5, 3) := by decide +kernel
theorem dX7_listed_11 : decode cX7_listed 11 = .ok (.iconst (-1), 1) := by decide +kernel
theorem dX7_listed_12 : decode cX7_listed 12 = .ok (.ireturn, 1) := by decide +kernel
theorem dX7_listed_13 : decode cX7_listed 13 = .ok (.aload_n 0, 1) := by decide +kernel
theorem dX7_listed_14 : decode cX7_listed 14 = .ok (.getfield 47, 3) := by decide +kernel
theorem dX7_listed_17 : decode cX7_listed 17 = .ok (.ifCond .ne 6, 3) := by decide +kernel
theorem dX7_listed_20 : decode cX7_listed 20 = .ok (.bipush (-2), 2) := by decide +kernel
theorem dX7_listed_22 : decode cX7_listed 22 = .ok (.ireturn, 1) := by decide +kernel
theorem dX7_listed_23 : decode cX7_listed 23 = .ok (.iload_n 2, 1) := by decide +kernel
theorem dX7_listed_24 : decode cX7_listed 24 = .ok (.aload_n 0, 1) := by decide +kernel
theorem dX7_listed_25 : decode cX7_listed 25 = .ok (.invokevirtual 103, 3) := by decide +kernel
theorem dX7_listed_28 : decode cX7_listed 28 = .ok (.if_icmp .lt 6, 3) := by decide +kernel
theorem dX7_listed_31 : decode cX7_listed 31 = .ok (.bipush (-4), 2) := by decide +kernel
theorem dX7_listed_33 : decode cX7_listed 33 = .ok (.ireturn, 1) := by decide +kernel
theorem dX7_listed_34 : decode cX7_listed 34 = .ok (.iload_n 2, 1) := by decide +kernel
theorem dX7_listed_35 : decode cX7_listed 35 = .ok (.istore_n 3, 1) := by decide +kernel
theorem dX7_listed_36 : decode cX7_listed 36 = .ok (.iconst 0, 1) := by decide +kernel
theorem dX7_listed_37 : decode cX7_listed 37 = .ok (.istore 4, 2) := by decide +kernel
theorem dX7_listed_39 : decode cX7_listed 39 = .ok (.iconst 0, 1) := by decide +kernel
theorem dX7_listed_40 : decode cX7_listed 40 = .ok (.istore 5, 2) := by decide +kernel
theorem dX7_listed_42 : decode cX7_listed 42 = .ok (.iconst 0, 1) := by decide +kernel
theorem dX7_listed_43 : decode cX7_listed 43 = .ok (.istore 6, 2) := by decide +kernel
theorem dX7_listed_45 : decode cX7_listed 45 = .ok (.aload_n 0, 1) := by decide +kernel
theorem dX7_listed_46 : decode cX7_listed 46 = .ok (.getfield 13, 3) := by decide +kernel
theorem dX7_listed_49 : decode cX7_listed 49 = .ok (.iload_n 1, 1) := by decide +kernel
theorem dX7_listed_50 : decode cX7_listed 50 = .ok (.iconst 0, 1) := by decide +kernel
theorem dX7_listed_51 : decode cX7_listed 51 = .ok (.iastore, 1) := by decide +kernel
theorem dX7_listed_52 : decode cX7_listed 52 = .ok (.iconst 0, 1) := by decide +kernel
theorem dX7_listed_53 : decode cX7_listed 53 = .ok (.istore 7, 2) := by decide +kernel
theorem dX7_listed_55 : decode cX7_listed 55 = .ok (.iload 7, 2) := by decide +kernel
theorem dX7_listed_57 : decode cX7_listed 57 = .ok (.aload_n 0, 1) := by decide +kernel
theorem dX7_listed_58 : decode cX7_listed 58 = .ok (.getfield 47, 3) := by decide +kernel
theorem dX7_listed_61 : decode cX7_listed 61 = .ok (.if_icmp .ge 150, 3) := by decide +kernel
theorem dX7_listed_64 : decode cX7_listed 64 = .ok (.iconst 0, 1) := by decide +kernel
theorem dX7_listed_65 : decode cX7_listed 65 = .ok (.istore 8, 2) := by decide +kernel
theorem dX7_listed_67 : decode cX7_listed 67 = .ok (.iload 7, 2) := by decide +kernel
theorem dX7_listed_69 : decode cX7_listed 69 = .ok (.iconst 1, 1) := by decide +kernel
theorem dX7_listed_70 : decode cX7_listed 70 = .ok (.iadd, 1) := by decide +kernel
theorem dX7_listed_71 : decode cX7_listed 71 = .ok (.iconst 0, 1) := by decide +kernel
theorem dX7_listed_72 : decode cX7_listed 72 = .ok (.iload 5, 2) := by decide +kernel
theorem dX7_listed_74 : decode cX7_listed 74 = .ok (.aload_n 0, 1) := by decide +kernel
theorem dX7_listed_75 : decode cX7_listed 75 = .ok (.iload 7, 2) := by decide +kernel
theorem dX7_listed_77 : decode cX7_listed 77 = .ok (.iload 4, 2) := by decide +kernel
theorem dX7_listed_79 : decode cX7_listed 79 = .ok (.iconst 0, 1) := by decide +kernel
theorem dX7_listed_80 : decode cX7_listed 80 = .ok (.invokevirtual 88, 3) := by decide +kernel
theorem dX7_listed_83 : decode cX7_listed 83 = .ok (.iadd, 1) := by decide +kernel
theorem dX7_listed_84 : decode cX7_listed 84 = .ok (.aload_n 0, 1) := by decide +kernel
theorem dX7_listed_85 : decode cX7_listed 85 = .ok (.getfield 76, 3) := by decide +kernel
theorem dX7_listed_88 : decode cX7_listed 88 = .ok (.irem, 1) := by decide +kernel
theorem dX7_listed_89 : decode cX7_listed 89 = .ok (.iload 6, 2) := by decide +kernel
theorem dX7_listed_91 : decode cX7_listed 91 = .ok (.invokestatic 92, 3) := by decide +kernel
theorem dX7_listed_94 : decode cX7_listed 94 = .ok (.istore 9, 2) := by decide +kernel
theorem dX7_listed_96 : decode cX7_listed 96 = .ok (.iload_n 3, 1) := by decide +kernel
theorem dX7_listed_97 : decode cX7_listed 97 = .ok (.aload_n 0, 1) := by decide +kernel
theorem dX7_listed_98 : decode cX7_listed 98 = .ok (.getfield 24, 3) := by decide +kernel
theorem dX7_listed_101 : decode cX7_listed 101 = .ok (.iload 9, 2) := by decide +kernel
theorem dX7_listed_103 : decode cX7_listed 103 = .ok (.iaload, 1) := by decide +kernel
theorem dX7_listed_104 : decode cX7_listed 104 = .ok (.if_icmp .lt 58, 3) := by decide +kernel
theorem dX7_listed_107 : decode cX7_listed 107 = .ok (.iload_n 3, 1) := by decide +kernel
theorem dX7_listed_108 : decode cX7_listed 108 = .ok (.aload_n 0, 1) := by decide +kernel
theorem dX7_listed_109 : decode cX7_listed 109 = .ok (.getfield 24, 3) := by decide +kernel
theorem dX7_listed_112 : decode cX7_listed 112 = .ok (.iload 9, 2) := by decide +kernel
theorem dX7_listed_114 : decode cX7_listed 114 = .ok (.iaload, 1) := by decide +kernel
theorem dX7_listed_115 : decode cX7_listed 115 = .ok (.isub, 1) := by decide +kernel
theorem dX7_listed_116 : decode cX7_listed 116 = .ok (.istore_n 3, 1) := by decide +kernel
theorem dX7_listed_117 : decode cX7_listed 117 = .ok (.iinc 8 1, 3) := by decide +kernel
theorem dX7_listed_120 : decode cX7_listed 120 = .ok (.iload 7, 2) := by decide +kernel
theorem dX7_listed_122 : decode cX7_listed 122 = .ok (.iconst 1, 1) := by decide +kernel
theorem dX7_listed_123 : decode cX7_listed 123 = .ok (.iadd, 1) := by decide +kernel
theorem dX7_listed_124 : decode cX7_listed 124 = .ok (.iload 8, 2) := by decide +kernel
theorem dX7_listed_126 : decode cX7_listed 126 = .ok (.iload 5, 2) := by decide +kernel
theorem dX7_listed_128 : decode cX7_listed 128 = .ok (.aload_n 0, 1) := by decide +kernel
theorem dX7_listed_129 : decode cX7_listed 129 = .ok (.iload 7, 2) := by decide +kernel
theorem dX7_listed_131 : decode cX7_listed 131 = .ok (.iload 4, 2) := by decide +kernel
theorem dX7_listed_133 : decode cX7_listed 133 = .ok (.iload 8, 2) := by decide +kernel
theorem dX7_listed_135 : decode cX7_listed 135 = .ok (.invokevirtual 88, 3) := by decide +kernel
theorem dX7_listed_138 : decode cX7_listed 138 = .ok (.iadd, 1) := by decide +kernel
theorem dX7_listed_139 : decode cX7_listed 139 = .ok (.aload_n 0, 1) := by decide +kernel
theorem dX7_listed_140 : decode cX7_listed 140 = .ok (.getfield 76, 3) := by decide +kernel
theorem dX7_listed_143 : decode cX7_listed 143 = .ok (.irem, 1) := by decide +kernel
theorem dX7_listed_144 : decode cX7_listed 144 = .ok (.iload 6, 2) := by decide +kernel
theorem dX7_listed_146 : decode cX7_listed 146 = .ok (.iload 8, 2) := by decide +kernel
theorem dX7_listed_148 : decode cX7_listed 148 = .ok (.iadd, 1) := by decide +kernel
theorem dX7_listed_149 : decode cX7_listed 149 = .ok (.aload_n 0, 1) := by decide +kernel
theorem dX7_listed_150 : decode cX7_listed 150 = .ok (.getfield 7, 3) := by decide +kernel
theorem dX7_listed_153 : decode cX7_listed 153 = .ok (.irem, 1) := by decide +kernel
theorem dX7_listed_154 : decode cX7_listed 154 = .ok (.invokestatic 92, 3) := by decide +kernel
theorem dX7_listed_157 : decode cX7_listed 157 = .ok (.istore 9, 2) := by decide +kernel
theorem dX7_listed_159 : decode cX7_listed 159 = .ok (.goto (-63), 3) := by decide +kernel
theorem dX7_listed_162 : decode cX7_listed 162 = .ok (.aload_n 0, 1) := by decide +kernel
theorem dX7_listed_163 : decode cX7_listed 163 = .ok (.iload_n 1, 1) := by decide +kernel
theorem dX7_listed_164 : decode cX7_listed 164 = .ok (.iload 8, 2) := by decide +kernel
theorem dX7_listed_166 : decode cX7_listed 166 = .ok (.invokevirtual 61, 3) := by decide +kernel
theorem dX7_listed_169 : decode cX7_listed 169 = .ok (.iload 5, 2) := by decide +kernel
theorem dX7_listed_171 : decode cX7_listed 171 = .ok (.aload_n 0, 1) := by decide +kernel
theorem dX7_listed_172 : decode cX7_listed 172 = .ok (.iload 7, 2) := by decide +kernel
theorem dX7_listed_174 : decode cX7_listed 174 = .ok (.iload 4, 2) := by decide +kernel
theorem dX7_listed_176 : decode cX7_listed 176 = .ok (.iload 8, 2) := by decide +kernel
theorem dX7_listed_178 : decode cX7_listed 178 = .ok (.invokevirtual 88, 3) := by decide +kernel
theorem dX7_listed_181 : decode cX7_listed 181 = .ok (.iadd, 1) := by decide +kernel
theorem dX7_listed_182 : decode cX7_listed 182 = .ok (.aload_n 0, 1) := by decide +kernel
theorem dX7_listed_183 : decode cX7_listed 183 = .ok (.getfield 76, 3) := by decide +kernel
theorem dX7_listed_186 : decode cX7_listed 186 = .ok (.irem, 1) := by decide +kernel
theorem dX7_listed_187 : decode cX7_listed 187 = .ok (.istore 5, 2) := by decide +kernel
theorem dX7_listed_189 : decode cX7_listed 189 = .ok (.iload 6, 2) := by decide +kernel
theorem dX7_listed_191 : decode cX7_listed 191 = .ok (.iload 8, 2) := by decide +kernel
theorem dX7_listed_193 : decode cX7_listed 193 = .ok (.iadd, 1) := by decide +kernel
theorem dX7_listed_194 : decode cX7_listed 194 = .ok (.aload_n 0, 1) := by decide +kernel
theorem dX7_listed_195 : decode cX7_listed 195 = .ok (.getfield 7, 3) := by decide +kernel
theorem dX7_listed_198 : decode cX7_listed 198 = .ok (.irem, 1) := by decide +kernel
theorem dX7_listed_199 : decode cX7_listed 199 = .ok (.istore 6, 2) := by decide +kernel
theorem dX7_listed_201 : decode cX7_listed 201 = .ok (.iload 8, 2) := by decide +kernel
theorem dX7_listed_203 : decode cX7_listed 203 = .ok (.istore 4, 2) := by decide +kernel
theorem dX7_listed_205 : decode cX7_listed 205 = .ok (.iinc 7 1, 3) := by decide +kernel
theorem dX7_listed_208 : decode cX7_listed 208 = .ok (.goto (-153), 3) := by decide +kernel
theorem dX7_listed_211 : decode cX7_listed 211 = .ok (.aload_n 0, 1) := by decide +kernel
theorem dX7_listed_212 : decode cX7_listed 212 = .ok (.getfield 47, 3) := by decide +kernel
theorem dX7_listed_215 : decode cX7_listed 215 = .ok (.ireturn, 1) := by decide +kernel
theorem dX7_meets_0 : decode cX7_meets 0 = .ok (.aload_n 0, 1) := by decide +kernel
theorem dX7_meets_1 : decode cX7_meets 1 = .ok (.bipush 21, 2) := by decide +kernel
theorem dX7_meets_3 : decode cX7_meets 3 = .ok (.invokevirtual 107, 3) := by decide +kernel
theorem dX7_meets_6 : decode cX7_meets 6 = .ok (.ifCond .ne 4, 3) := by decide +kernel
theorem dX7_meets_9 : decode cX7_meets 9 = .ok (.return_, 1) := by decide +kernel
theorem dX7_meets_10 : decode cX7_meets 10 = .ok (.iconst 0, 1) := by decide +kernel
theorem dX7_meets_11 : decode cX7_meets 11 = .ok (.istore_n 1, 1) := by decide +kernel
theorem dX7_meets_12 : decode cX7_meets 12 = .ok (.iload_n 1, 1) := by decide +kernel
theorem dX7_meets_13 : decode cX7_meets 13 = .ok (.aload_n 0, 1) := by decide +kernel
theorem dX7_meets_14 : decode cX7_meets 14 = .ok (.getfield 110, 3) := by decide +kernel
theorem dX7_meets_17 : decode cX7_meets 17 = .ok (.if_icmp .ge 66, 3) := by decide +kernel
theorem dX7_meets_20 : decode cX7_meets 20 = .ok (.iconst 1, 1) := by decide +kernel
theorem dX7_meets_21 : decode cX7_meets 21 = .ok (.istore_n 2, 1) := by decide +kernel
theorem dX7_meets_22 : decode cX7_meets 22 = .ok (.iconst 0, 1) := by decide +kernel
theorem dX7_meets_23 : decode cX7_meets 23 = .ok (.istore_n 3, 1) := by decide +kernel
theorem dX7_meets_24 : decode cX7_meets 24 = .ok (.iload_n 3, 1) := by decide +kernel
theorem dX7_meets_25 : decode cX7_meets 25 = .ok (.aload_n 0, 1) := by decide +kernel
theorem dX7_meets_26 : decode cX7_meets 26 = .ok (.getfield 47, 3) := by decide +kernel
theorem dX7_meets_29 : decode cX7_meets 29 = .ok (.if_icmp .ge 43, 3) := by decide +kernel
theorem dX7_meets_32 : decode cX7_meets 32 = .ok (.iload_n 2, 1) := by decide +kernel
theorem dX7_meets_33 : decode cX7_meets 33 = .ok (.ifCond .eq 31, 3) := by decide +kernel
theorem dX7_meets_36 : decode cX7_meets 36 = .ok (.aload_n 0, 1) := by decide +kernel
theorem dX7_meets_37 : decode cX7_meets 37 = .ok (.getfield 27, 3) := by decide +kernel
theorem dX7_meets_40 : decode cX7_meets 40 = .ok (.bipush 16, 2) := by decide +kernel
theorem dX7_meets_42 : decode cX7_meets 42 = .ok (.iload_n 1, 1) := by decide +kernel
theorem dX7_meets_43 : decode cX7_meets 43 = .ok (.imul, 1) := by decide +kernel
theorem dX7_meets_44 : decode cX7_meets 44 = .ok (.iload_n 3, 1) := by decide +kernel
theorem dX7_meets_45 : decode cX7_meets 45 = .ok (.iadd, 1) := by decide +kernel
theorem dX7_meets_46 : decode cX7_meets 46 = .ok (.iaload, 1) := by decide +kernel
theorem dX7_meets_47 : decode cX7_meets 47 = .ok (.aload_n 0, 1) := by decide +kernel
theorem dX7_meets_48 : decode cX7_meets 48 = .ok (.getfield 17, 3) := by decide +kernel
theorem dX7_meets_51 : decode cX7_meets 51 = .ok (.sipush 630, 3) := by decide +kernel
theorem dX7_meets_54 : decode cX7_meets 54 = .ok (.iload_n 3, 1) := by decide +kernel
theorem dX7_meets_55 : decode cX7_meets 55 = .ok (.iadd, 1) := by decide +kernel
theorem dX7_meets_56 : decode cX7_meets 56 = .ok (.iaload, 1) := by decide +kernel
theorem dX7_meets_57 : decode cX7_meets 57 = .ok (.if_icmp .ne 7, 3) := by decide +kernel
theorem dX7_meets_60 : decode cX7_meets 60 = .ok (.iconst 1, 1) := by decide +kernel
theorem dX7_meets_61 : decode cX7_meets 61 = .ok (.goto 4, 3) := by decide +kernel
theorem dX7_meets_64 : decode cX7_meets 64 = .ok (.iconst 0, 1) := by decide +kernel
theorem dX7_meets_65 : decode cX7_meets 65 = .ok (.istore_n 2, 1) := by decide +kernel
theorem dX7_meets_66 : decode cX7_meets 66 = .ok (.iinc 3 1, 3) := by decide +kernel
theorem dX7_meets_69 : decode cX7_meets 69 = .ok (.goto (-45), 3) := by decide +kernel
theorem dX7_meets_72 : decode cX7_meets 72 = .ok (.iload_n 2, 1) := by decide +kernel
theorem dX7_meets_73 : decode cX7_meets 73 = .ok (.ifCond .eq 4, 3) := by decide +kernel
theorem dX7_meets_76 : decode cX7_meets 76 = .ok (.return_, 1) := by decide +kernel
theorem dX7_meets_77 : decode cX7_meets 77 = .ok (.iinc 1 1, 3) := by decide +kernel
theorem dX7_meets_80 : decode cX7_meets 80 = .ok (.goto (-68), 3) := by decide +kernel
theorem dX7_meets_83 : decode cX7_meets 83 = .ok (.iconst 0, 1) := by decide +kernel
theorem dX7_meets_84 : decode cX7_meets 84 = .ok (.istore_n 1, 1) := by decide +kernel
theorem dX7_meets_85 : decode cX7_meets 85 = .ok (.iload_n 1, 1) := by decide +kernel
theorem dX7_meets_86 : decode cX7_meets 86 = .ok (.aload_n 0, 1) := by decide +kernel
theorem dX7_meets_87 : decode cX7_meets 87 = .ok (.getfield 47, 3) := by decide +kernel
theorem dX7_meets_90 : decode cX7_meets 90 = .ok (.if_icmp .ge 33, 3) := by decide +kernel
theorem dX7_meets_93 : decode cX7_meets 93 = .ok (.aload_n 0, 1) := by decide +kernel
theorem dX7_meets_94 : decode cX7_meets 94 = .ok (.getfield 27, 3) := by decide +kernel
theorem dX7_meets_97 : decode cX7_meets 97 = .ok (.bipush 16, 2) := by decide +kernel
theorem dX7_meets_99 : decode cX7_meets 99 = .ok (.aload_n 0, 1) := by decide +kernel
theorem dX7_meets_100 : decode cX7_meets 100 = .ok (.getfield 110, 3) := by decide +kernel
theorem dX7_meets_103 : decode cX7_meets 103 = .ok (.imul, 1) := by decide +kernel
theorem dX7_meets_104 : decode cX7_meets 104 = .ok (.iload_n 1, 1) := by decide +kernel
theorem dX7_meets_105 : decode cX7_meets 105 = .ok (.iadd, 1) := by decide +kernel
theorem dX7_meets_106 : decode cX7_meets 106 = .ok (.aload_n 0, 1) := by decide +kernel
theorem dX7_meets_107 : decode cX7_meets 107 = .ok (.getfield 17, 3) := by decide +kernel
theorem dX7_meets_110 : decode cX7_meets 110 = .ok (.sipush 630, 3) := by decide +kernel
theorem dX7_meets_113 : decode cX7_meets 113 = .ok (.iload_n 1, 1) := by decide +kernel
theorem dX7_meets_114 : decode cX7_meets 114 = .ok (.iadd, 1) := by decide +kernel
theorem dX7_meets_115 : decode cX7_meets 115 = .ok (.iaload, 1) := by decide +kernel
theorem dX7_meets_116 : decode cX7_meets 116 = .ok (.iastore, 1) := by decide +kernel
theorem dX7_meets_117 : decode cX7_meets 117 = .ok (.iinc 1 1, 3) := by decide +kernel
theorem dX7_meets_120 : decode cX7_meets 120 = .ok (.goto (-35), 3) := by decide +kernel
theorem dX7_meets_123 : decode cX7_meets 123 = .ok (.aload_n 0, 1) := by decide +kernel
theorem dX7_meets_124 : decode cX7_meets 124 = .ok (.dup, 1) := by decide +kernel
theorem dX7_meets_125 : decode cX7_meets 125 = .ok (.getfield 110, 3) := by decide +kernel
theorem dX7_meets_128 : decode cX7_meets 128 = .ok (.iconst 1, 1) := by decide +kernel
theorem dX7_meets_129 : decode cX7_meets 129 = .ok (.iadd, 1) := by decide +kernel
theorem dX7_meets_130 : decode cX7_meets 130 = .ok (.putfield 110, 3) := by decide +kernel
theorem dX7_meets_133 : decode cX7_meets 133 = .ok (.return_, 1) := by decide +kernel
theorem dX7_looks_0 : decode cX7_looks 0 = .ok (.aload_n 0, 1) := by decide +kernel
theorem dX7_looks_1 : decode cX7_looks 1 = .ok (.iconst 0, 1) := by decide +kernel
theorem dX7_looks_2 : decode cX7_looks 2 = .ok (.putfield 110, 3) := by decide +kernel
theorem dX7_looks_5 : decode cX7_looks 5 = .ok (.aload_n 0, 1) := by decide +kernel
theorem dX7_looks_6 : decode cX7_looks 6 = .ok (.bipush 21, 2) := by decide +kernel
theorem dX7_looks_8 : decode cX7_looks 8 = .ok (.iload_n 1, 1) := by decide +kernel
theorem dX7_looks_9 : decode cX7_looks 9 = .ok (.invokevirtual 69, 3) := by decide +kernel
theorem dX7_looks_12 : decode cX7_looks 12 = .ok (.aload_n 0, 1) := by decide +kernel
theorem dX7_looks_13 : decode cX7_looks 13 = .ok (.invokevirtual 113, 3) := by decide +kernel
theorem dX7_looks_16 : decode cX7_looks 16 = .ok (.iconst 0, 1) := by decide +kernel
theorem dX7_looks_17 : decode cX7_looks 17 = .ok (.istore_n 2, 1) := by decide +kernel
theorem dX7_looks_18 : decode cX7_looks 18 = .ok (.iload_n 2, 1) := by decide +kernel
theorem dX7_looks_19 : decode cX7_looks 19 = .ok (.iconst 3, 1) := by decide +kernel
theorem dX7_looks_20 : decode cX7_looks 20 = .ok (.if_icmp .ge 84, 3) := by decide +kernel
theorem dX7_looks_23 : decode cX7_looks 23 = .ok (.iconst 0, 1) := by decide +kernel
theorem dX7_looks_24 : decode cX7_looks 24 = .ok (.istore_n 3, 1) := by decide +kernel
theorem dX7_looks_25 : decode cX7_looks 25 = .ok (.iload_n 3, 1) := by decide +kernel
theorem dX7_looks_26 : decode cX7_looks 26 = .ok (.iload_n 2, 1) := by decide +kernel
theorem dX7_looks_27 : decode cX7_looks 27 = .ok (.iconst 1, 1) := by decide +kernel
theorem dX7_looks_28 : decode cX7_looks 28 = .ok (.if_icmp .ne 14, 3) := by decide +kernel
theorem dX7_looks_31 : decode cX7_looks 31 = .ok (.aload_n 0, 1) := by decide +kernel
theorem dX7_looks_32 : decode cX7_looks 32 = .ok (.getfield 13, 3) := by decide +kernel
theorem dX7_looks_35 : decode cX7_looks 35 = .ok (.iload_n 1, 1) := by decide +kernel
theorem dX7_looks_36 : decode cX7_looks 36 = .ok (.iaload, 1) := by decide +kernel
theorem dX7_looks_37 : decode cX7_looks 37 = .ok (.iconst 1, 1) := by decide +kernel
theorem dX7_looks_38 : decode cX7_looks 38 = .ok (.iadd, 1) := by decide +kernel
theorem dX7_looks_39 : decode cX7_looks 39 = .ok (.goto 9, 3) := by decide +kernel
theorem dX7_looks_42 : decode cX7_looks 42 = .ok (.aload_n 0, 1) := by decide +kernel
theorem dX7_looks_43 : decode cX7_looks 43 = .ok (.getfield 13, 3) := by decide +kernel
theorem dX7_looks_46 : decode cX7_looks 46 = .ok (.iload_n 1, 1) := by decide +kernel
theorem dX7_looks_47 : decode cX7_looks 47 = .ok (.iaload, 1) := by decide +kernel
theorem dX7_looks_48 : decode cX7_looks 48 = .ok (.if_icmp .ge 50, 3) := by decide +kernel
theorem dX7_looks_51 : decode cX7_looks 51 = .ok (.iconst 0, 1) := by decide +kernel
theorem dX7_looks_52 : decode cX7_looks 52 = .ok (.istore 4, 2) := by decide +kernel
theorem dX7_looks_54 : decode cX7_looks 54 = .ok (.iload 4, 2) := by decide +kernel
theorem dX7_looks_56 : decode cX7_looks 56 = .ok (.iload_n 2, 1) := by decide +kernel
theorem dX7_looks_57 : decode cX7_looks 57 = .ok (.ifCond .ne 7, 3) := by decide +kernel
theorem dX7_looks_60 : decode cX7_looks 60 = .ok (.iconst 1, 1) := by decide +kernel
theorem dX7_looks_61 : decode cX7_looks 61 = .ok (.goto 7, 3) := by decide +kernel
theorem dX7_looks_64 : decode cX7_looks 64 = .ok (.aload_n 0, 1) := by decide +kernel
theorem dX7_looks_65 : decode cX7_looks 65 = .ok (.getfield 7, 3) := by decide +kernel
theorem dX7_looks_68 : decode cX7_looks 68 = .ok (.if_icmp .ge 24, 3) := by decide +kernel
theorem dX7_looks_71 : decode cX7_looks 71 = .ok (.aload_n 0, 1) := by decide +kernel
theorem dX7_looks_72 : decode cX7_looks 72 = .ok (.bipush 21, 2) := by decide +kernel
theorem dX7_looks_74 : decode cX7_looks 74 = .ok (.iload_n 1, 1) := by decide +kernel
theorem dX7_looks_75 : decode cX7_looks 75 = .ok (.iload_n 2, 1) := by decide +kernel
theorem dX7_looks_76 : decode cX7_looks 76 = .ok (.iload_n 3, 1) := by decide +kernel
theorem dX7_looks_77 : decode cX7_looks 77 = .ok (.iload 4, 2) := by decide +kernel
theorem dX7_looks_79 : decode cX7_looks 79 = .ok (.invokevirtual 65, 3) := by decide +kernel
theorem dX7_looks_82 : decode cX7_looks 82 = .ok (.aload_n 0, 1) := by decide +kernel
theorem dX7_looks_83 : decode cX7_looks 83 = .ok (.invokevirtual 113, 3) := by decide +kernel
theorem dX7_looks_86 : decode cX7_looks 86 = .ok (.iinc 4 1, 3) := by decide +kernel
theorem dX7_looks_89 : decode cX7_looks 89 = .ok (.goto (-35), 3) := by decide +kernel
theorem dX7_looks_92 : decode cX7_looks 92 = .ok (.iinc 3 1, 3) := by decide +kernel
theorem dX7_looks_95 : decode cX7_looks 95 = .ok (.goto (-70), 3) := by decide +kernel
theorem dX7_looks_98 : decode cX7_looks 98 = .ok (.iinc 2 1, 3) := by decide +kernel
theorem dX7_looks_101 : decode cX7_looks 101 = .ok (.goto (-83), 3) := by decide +kernel
theorem dX7_looks_104 : decode cX7_looks 104 = .ok (.return_, 1) := by decide +kernel
theorem dX7_near_0 : decode cX7_near 0 = .ok (.iload_n 1, 1) := by decide +kernel
theorem dX7_near_1 : decode cX7_near 1 = .ok (.invokestatic 53, 3) := by decide +kernel
theorem dX7_near_4 : decode cX7_near 4 = .ok (.ifCond .ne 5, 3) := by decide +kernel
theorem dX7_near_7 : decode cX7_near 7 = .ok (.iconst (-1), 1) := by decide +kernel
theorem dX7_near_8 : decode cX7_near 8 = .ok (.ireturn, 1) := by decide +kernel
theorem dX7_near_9 : decode cX7_near 9 = .ok (.aload_n 0, 1) := by decide +kernel
theorem dX7_near_10 : decode cX7_near 10 = .ok (.getfield 47, 3) := by decide +kernel
theorem dX7_near_13 : decode cX7_near 13 = .ok (.ifCond .ne 6, 3) := by decide +kernel
theorem dX7_near_16 : decode cX7_near 16 = .ok (.bipush (-2), 2) := by decide +kernel
theorem dX7_near_18 : decode cX7_near 18 = .ok (.ireturn, 1) := by decide +kernel
theorem dX7_near_19 : decode cX7_near 19 = .ok (.aload_n 0, 1) := by decide +kernel
theorem dX7_near_20 : decode cX7_near 20 = .ok (.iload_n 1, 1) := by decide +kernel
theorem dX7_near_21 : decode cX7_near 21 = .ok (.invokevirtual 116, 3) := by decide +kernel
theorem dX7_near_24 : decode cX7_near 24 = .ok (.aload_n 0, 1) := by decide +kernel
theorem dX7_near_25 : decode cX7_near 25 = .ok (.getfield 110, 3) := by decide +kernel
theorem dX7_near_28 : decode cX7_near 28 = .ok (.ireturn, 1) := by decide +kernel
theorem dX7_mend_0 : decode cX7_mend 0 = .ok (.iload_n 1, 1) := by decide +kernel
theorem dX7_mend_1 : decode cX7_mend 1 = .ok (.invokestatic 53, 3) := by decide +kernel
theorem dX7_mend_4 : decode cX7_mend 4 = .ok (.ifCond .eq 10, 3) := by decide +kernel
theorem dX7_mend_7 : decode cX7_mend 7 = .ok (.iload_n 2, 1) := by decide +kernel
theorem dX7_mend_8 : decode cX7_mend 8 = .ok (.invokestatic 53, 3) := by decide +kernel
theorem dX7_mend_11 : decode cX7_mend 11 = .ok (.ifCond .ne 5, 3) := by decide +kernel
theorem dX7_mend_14 : decode cX7_mend 14 = .ok (.iconst (-1), 1) := by decide +kernel
theorem dX7_mend_15 : decode cX7_mend 15 = .ok (.ireturn, 1) := by decide +kernel
theorem dX7_mend_16 : decode cX7_mend 16 = .ok (.aload_n 0, 1) := by decide +kernel
theorem dX7_mend_17 : decode cX7_mend 17 = .ok (.getfield 47, 3) := by decide +kernel
theorem dX7_mend_20 : decode cX7_mend 20 = .ok (.ifCond .ne 6, 3) := by decide +kernel
theorem dX7_mend_23 : decode cX7_mend 23 = .ok (.bipush (-2), 2) := by decide +kernel
theorem dX7_mend_25 : decode cX7_mend 25 = .ok (.ireturn, 1) := by decide +kernel
theorem dX7_mend_26 : decode cX7_mend 26 = .ok (.aload_n 0, 1) := by decide +kernel
theorem dX7_mend_27 : decode cX7_mend 27 = .ok (.iload_n 2, 1) := by decide +kernel
theorem dX7_mend_28 : decode cX7_mend 28 = .ok (.invokevirtual 107, 3) := by decide +kernel
theorem dX7_mend_31 : decode cX7_mend 31 = .ok (.ifCond .eq 11, 3) := by decide +kernel
theorem dX7_mend_34 : decode cX7_mend 34 = .ok (.aload_n 0, 1) := by decide +kernel
theorem dX7_mend_35 : decode cX7_mend 35 = .ok (.iload_n 1, 1) := by decide +kernel
theorem dX7_mend_36 : decode cX7_mend 36 = .ok (.iload_n 2, 1) := by decide +kernel
theorem dX7_mend_37 : decode cX7_mend 37 = .ok (.invokevirtual 69, 3) := by decide +kernel
theorem dX7_mend_40 : decode cX7_mend 40 = .ok (.iconst 0, 1) := by decide +kernel
theorem dX7_mend_41 : decode cX7_mend 41 = .ok (.ireturn, 1) := by decide +kernel
theorem dX7_mend_42 : decode cX7_mend 42 = .ok (.aload_n 0, 1) := by decide +kernel
theorem dX7_mend_43 : decode cX7_mend 43 = .ok (.iload_n 2, 1) := by decide +kernel
theorem dX7_mend_44 : decode cX7_mend 44 = .ok (.invokevirtual 116, 3) := by decide +kernel
theorem dX7_mend_47 : decode cX7_mend 47 = .ok (.aload_n 0, 1) := by decide +kernel
theorem dX7_mend_48 : decode cX7_mend 48 = .ok (.getfield 110, 3) := by decide +kernel
theorem dX7_mend_51 : decode cX7_mend 51 = .ok (.iconst 1, 1) := by decide +kernel
theorem dX7_mend_52 : decode cX7_mend 52 = .ok (.if_icmp .eq 6, 3) := by decide +kernel
theorem dX7_mend_55 : decode cX7_mend 55 = .ok (.bipush (-4), 2) := by decide +kernel
theorem dX7_mend_57 : decode cX7_mend 57 = .ok (.ireturn, 1) := by decide +kernel
theorem dX7_mend_58 : decode cX7_mend 58 = .ok (.aload_n 0, 1) := by decide +kernel
theorem dX7_mend_59 : decode cX7_mend 59 = .ok (.getfield 13, 3) := by decide +kernel
theorem dX7_mend_62 : decode cX7_mend 62 = .ok (.iload_n 1, 1) := by decide +kernel
theorem dX7_mend_63 : decode cX7_mend 63 = .ok (.iconst 0, 1) := by decide +kernel
theorem dX7_mend_64 : decode cX7_mend 64 = .ok (.iastore, 1) := by decide +kernel
theorem dX7_mend_65 : decode cX7_mend 65 = .ok (.iconst 0, 1) := by decide +kernel
theorem dX7_mend_66 : decode cX7_mend 66 = .ok (.istore_n 3, 1) := by decide +kernel
theorem dX7_mend_67 : decode cX7_mend 67 = .ok (.iload_n 3, 1) := by decide +kernel
theorem dX7_mend_68 : decode cX7_mend 68 = .ok (.aload_n 0, 1) := by decide +kernel
theorem dX7_mend_69 : decode cX7_mend 69 = .ok (.getfield 47, 3) := by decide +kernel
theorem dX7_mend_72 : decode cX7_mend 72 = .ok (.if_icmp .ge 20, 3) := by decide +kernel
theorem dX7_mend_75 : decode cX7_mend 75 = .ok (.aload_n 0, 1) := by decide +kernel
theorem dX7_mend_76 : decode cX7_mend 76 = .ok (.iload_n 1, 1) := by decide +kernel
theorem dX7_mend_77 : decode cX7_mend 77 = .ok (.aload_n 0, 1) := by decide +kernel
theorem dX7_mend_78 : decode cX7_mend 78 = .ok (.getfield 27, 3) := by decide +kernel
theorem dX7_mend_81 : decode cX7_mend 81 = .ok (.iload_n 3, 1) := by decide +kernel
theorem dX7_mend_82 : decode cX7_mend 82 = .ok (.iaload, 1) := by decide +kernel
theorem dX7_mend_83 : decode cX7_mend 83 = .ok (.invokevirtual 61, 3) := by decide +kernel
theorem dX7_mend_86 : decode cX7_mend 86 = .ok (.iinc 3 1, 3) := by decide +kernel
theorem dX7_mend_89 : decode cX7_mend 89 = .ok (.goto (-22), 3) := by decide +kernel
theorem dX7_mend_92 : decode cX7_mend 92 = .ok (.iconst 1, 1) := by decide +kernel
theorem dX7_mend_93 : decode cX7_mend 93 = .ok (.ireturn, 1) := by decide +kernel
theorem dX7_lies_0 : decode cX7_lies 0 = .ok (.aload_n 0, 1) := by decide +kernel
theorem dX7_lies_1 : decode cX7_lies 1 = .ok (.getfield 13, 3) := by decide +kernel
theorem dX7_lies_4 : decode cX7_lies 4 = .ok (.iload_n 1, 1) := by decide +kernel
theorem dX7_lies_5 : decode cX7_lies 5 = .ok (.iaload, 1) := by decide +kernel
theorem dX7_lies_6 : decode cX7_lies 6 = .ok (.istore_n 3, 1) := by decide +kernel
theorem dX7_lies_7 : decode cX7_lies 7 = .ok (.iload_n 3, 1) := by decide +kernel
theorem dX7_lies_8 : decode cX7_lies 8 = .ok (.ifCond .lt 144, 3) := by decide +kernel
theorem dX7_lies_11 : decode cX7_lies 11 = .ok (.aload_n 0, 1) := by decide +kernel
theorem dX7_lies_12 : decode cX7_lies 12 = .ok (.getfield 13, 3) := by decide +kernel
theorem dX7_lies_15 : decode cX7_lies 15 = .ok (.iload_n 2, 1) := by decide +kernel
theorem dX7_lies_16 : decode cX7_lies 16 = .ok (.iaload, 1) := by decide +kernel
theorem dX7_lies_17 : decode cX7_lies 17 = .ok (.istore 4, 2) := by decide +kernel
theorem dX7_lies_19 : decode cX7_lies 19 = .ok (.iload 4, 2) := by decide +kernel
theorem dX7_lies_21 : decode cX7_lies 21 = .ok (.ifCond .lt 125, 3) := by decide +kernel
theorem dX7_lies_24 : decode cX7_lies 24 = .ok (.iload_n 3, 1) := by decide +kernel
theorem dX7_lies_25 : decode cX7_lies 25 = .ok (.aload_n 0, 1) := by decide +kernel
theorem dX7_lies_26 : decode cX7_lies 26 = .ok (.getfield 13, 3) := by decide +kernel
theorem dX7_lies_29 : decode cX7_lies 29 = .ok (.iload_n 1, 1) := by decide +kernel
theorem dX7_lies_30 : decode cX7_lies 30 = .ok (.iaload, 1) := by decide +kernel
theorem dX7_lies_31 : decode cX7_lies 31 = .ok (.if_icmp .ne 7, 3) := by decide +kernel
theorem dX7_lies_34 : decode cX7_lies 34 = .ok (.lconst 1, 1) := by decide +kernel
theorem dX7_lies_35 : decode cX7_lies 35 = .ok (.goto 4, 3) := by decide +kernel
theorem dX7_lies_38 : decode cX7_lies 38 = .ok (.lconst 0, 1) := by decide +kernel
theorem dX7_lies_39 : decode cX7_lies 39 = .ok (.lstore 5, 2) := by decide +kernel
theorem dX7_lies_41 : decode cX7_lies 41 = .ok (.iload_n 3, 1) := by decide +kernel
theorem dX7_lies_42 : decode cX7_lies 42 = .ok (.aload_n 0, 1) := by decide +kernel
theorem dX7_lies_43 : decode cX7_lies 43 = .ok (.getfield 13, 3) := by decide +kernel
theorem dX7_lies_46 : decode cX7_lies 46 = .ok (.iload_n 1, 1) := by decide +kernel
theorem dX7_lies_47 : decode cX7_lies 47 = .ok (.iaload, 1) := by decide +kernel
theorem dX7_lies_48 : decode cX7_lies 48 = .ok (.if_icmp .ge 78, 3) := by decide +kernel
theorem dX7_lies_51 : decode cX7_lies 51 = .ok (.iload 4, 2) := by decide +kernel
theorem dX7_lies_53 : decode cX7_lies 53 = .ok (.aload_n 0, 1) := by decide +kernel
theorem dX7_lies_54 : decode cX7_lies 54 = .ok (.getfield 13, 3) := by decide +kernel
theorem dX7_lies_57 : decode cX7_lies 57 = .ok (.iload_n 2, 1) := by decide +kernel
theorem dX7_lies_58 : decode cX7_lies 58 = .ok (.iaload, 1) := by decide +kernel
theorem dX7_lies_59 : decode cX7_lies 59 = .ok (.if_icmp .ge 67, 3) := by decide +kernel
theorem dX7_lies_62 : decode cX7_lies 62 = .ok (.aload_n 0, 1) := by decide +kernel
theorem dX7_lies_63 : decode cX7_lies 63 = .ok (.getfield 30, 3) := by decide +kernel
theorem dX7_lies_66 : decode cX7_lies 66 = .ok (.bipush 30, 2) := by decide +kernel
theorem dX7_lies_68 : decode cX7_lies 68 = .ok (.iload_n 3, 1) := by decide +kernel
theorem dX7_lies_69 : decode cX7_lies 69 = .ok (.imul, 1) := by decide +kernel
theorem dX7_lies_70 : decode cX7_lies 70 = .ok (.iload 4, 2) := by decide +kernel
theorem dX7_lies_72 : decode cX7_lies 72 = .ok (.iadd, 1) := by decide +kernel
theorem dX7_lies_73 : decode cX7_lies 73 = .ok (.iconst 1, 1) := by decide +kernel
theorem dX7_lies_74 : decode cX7_lies 74 = .ok (.iadd, 1) := by decide +kernel
theorem dX7_lies_75 : decode cX7_lies 75 = .ok (.laload, 1) := by decide +kernel
theorem dX7_lies_76 : decode cX7_lies 76 = .ok (.aload_n 0, 1) := by decide +kernel
theorem dX7_lies_77 : decode cX7_lies 77 = .ok (.getfield 17, 3) := by decide +kernel
theorem dX7_lies_80 : decode cX7_lies 80 = .ok (.bipush 30, 2) := by decide +kernel
theorem dX7_lies_82 : decode cX7_lies 82 = .ok (.iload_n 1, 1) := by decide +kernel
theorem dX7_lies_83 : decode cX7_lies 83 = .ok (.imul, 1) := by decide +kernel
theorem dX7_lies_84 : decode cX7_lies 84 = .ok (.iload_n 3, 1) := by decide +kernel
theorem dX7_lies_85 : decode cX7_lies 85 = .ok (.iadd, 1) := by decide +kernel
theorem dX7_lies_86 : decode cX7_lies 86 = .ok (.iaload, 1) := by decide +kernel
theorem dX7_lies_87 : decode cX7_lies 87 = .ok (.aload_n 0, 1) := by decide +kernel
theorem dX7_lies_88 : decode cX7_lies 88 = .ok (.getfield 17, 3) := by decide +kernel
theorem dX7_lies_91 : decode cX7_lies 91 = .ok (.bipush 30, 2) := by decide +kernel
theorem dX7_lies_93 : decode cX7_lies 93 = .ok (.iload_n 2, 1) := by decide +kernel
theorem dX7_lies_94 : decode cX7_lies 94 = .ok (.imul, 1) := by decide +kernel
theorem dX7_lies_95 : decode cX7_lies 95 = .ok (.iload 4, 2) := by decide +kernel
theorem dX7_lies_97 : decode cX7_lies 97 = .ok (.iadd, 1) := by decide +kernel
theorem dX7_lies_98 : decode cX7_lies 98 = .ok (.iaload, 1) := by decide +kernel
theorem dX7_lies_99 : decode cX7_lies 99 = .ok (.if_icmp .ne 23, 3) := by decide +kernel
theorem dX7_lies_102 : decode cX7_lies 102 = .ok (.aload_n 0, 1) := by decide +kernel
theorem dX7_lies_103 : decode cX7_lies 103 = .ok (.getfield 30, 3) := by decide +kernel
theorem dX7_lies_106 : decode cX7_lies 106 = .ok (.bipush 30, 2) := by decide +kernel
theorem dX7_lies_108 : decode cX7_lies 108 = .ok (.iload_n 3, 1) := by decide +kernel
theorem dX7_lies_109 : decode cX7_lies 109 = .ok (.imul, 1) := by decide +kernel
theorem dX7_lies_110 : decode cX7_lies 110 = .ok (.bipush 30, 2) := by decide +kernel
theorem dX7_lies_112 : decode cX7_lies 112 = .ok (.iadd, 1) := by decide +kernel
theorem dX7_lies_113 : decode cX7_lies 113 = .ok (.iload 4, 2) := by decide +kernel
theorem dX7_lies_115 : decode cX7_lies 115 = .ok (.iadd, 1) := by decide +kernel
theorem dX7_lies_116 : decode cX7_lies 116 = .ok (.iconst 1, 1) := by decide +kernel
theorem dX7_lies_117 : decode cX7_lies 117 = .ok (.iadd, 1) := by decide +kernel
theorem dX7_lies_118 : decode cX7_lies 118 = .ok (.laload, 1) := by decide +kernel
theorem dX7_lies_119 : decode cX7_lies 119 = .ok (.goto 4, 3) := by decide +kernel
theorem dX7_lies_122 : decode cX7_lies 122 = .ok (.lconst 0, 1) := by decide +kernel
theorem dX7_lies_123 : decode cX7_lies 123 = .ok (.ladd, 1) := by decide +kernel
theorem dX7_lies_124 : decode cX7_lies 124 = .ok (.lstore 5, 2) := by decide +kernel
theorem dX7_lies_126 : decode cX7_lies 126 = .ok (.aload_n 0, 1) := by decide +kernel
theorem dX7_lies_127 : decode cX7_lies 127 = .ok (.getfield 30, 3) := by decide +kernel
theorem dX7_lies_130 : decode cX7_lies 130 = .ok (.bipush 30, 2) := by decide +kernel
theorem dX7_lies_132 : decode cX7_lies 132 = .ok (.iload_n 3, 1) := by decide +kernel
theorem dX7_lies_133 : decode cX7_lies 133 = .ok (.imul, 1) := by decide +kernel
theorem dX7_lies_134 : decode cX7_lies 134 = .ok (.iload 4, 2) := by decide +kernel
theorem dX7_lies_136 : decode cX7_lies 136 = .ok (.iadd, 1) := by decide +kernel
theorem dX7_lies_137 : decode cX7_lies 137 = .ok (.lload 5, 2) := by decide +kernel
theorem dX7_lies_139 : decode cX7_lies 139 = .ok (.lastore, 1) := by decide +kernel
theorem dX7_lies_140 : decode cX7_lies 140 = .ok (.iinc 4 (-1), 3) := by decide +kernel
theorem dX7_lies_143 : decode cX7_lies 143 = .ok (.goto (-124), 3) := by decide +kernel
theorem dX7_lies_146 : decode cX7_lies 146 = .ok (.iinc 3 (-1), 3) := by decide +kernel
theorem dX7_lies_149 : decode cX7_lies 149 = .ok (.goto (-142), 3) := by decide +kernel
theorem dX7_lies_152 : decode cX7_lies 152 = .ok (.aload_n 0, 1) := by decide +kernel
theorem dX7_lies_153 : decode cX7_lies 153 = .ok (.getfield 30, 3) := by decide +kernel
theorem dX7_lies_156 : decode cX7_lies 156 = .ok (.iconst 0, 1) := by decide +kernel
theorem dX7_lies_157 : decode cX7_lies 157 = .ok (.laload, 1) := by decide +kernel
theorem dX7_lies_158 : decode cX7_lies 158 = .ok (.lreturn, 1) := by decide +kernel
theorem dX7_liesIn_0 : decode cX7_liesIn 0 = .ok (.iload_n 1, 1) := by decide +kernel
theorem dX7_liesIn_1 : decode cX7_liesIn 1 = .ok (.invokestatic 53, 3) := by decide +kernel
theorem dX7_liesIn_4 : decode cX7_liesIn 4 = .ok (.ifCond .eq 19, 3) := by decide +kernel
theorem dX7_liesIn_7 : decode cX7_liesIn 7 = .ok (.iload_n 2, 1) := by decide +kernel
theorem dX7_liesIn_8 : decode cX7_liesIn 8 = .ok (.invokestatic 53, 3) := by decide +kernel
theorem dX7_liesIn_11 : decode cX7_liesIn 11 = .ok (.ifCond .eq 12, 3) := by decide +kernel
theorem dX7_liesIn_14 : decode cX7_liesIn 14 = .ok (.aload_n 0, 1) := by decide +kernel
theorem dX7_liesIn_15 : decode cX7_liesIn 15 = .ok (.iload_n 1, 1) := by decide +kernel
theorem dX7_liesIn_16 : decode cX7_liesIn 16 = .ok (.iload_n 2, 1) := by decide +kernel
theorem dX7_liesIn_17 : decode cX7_liesIn 17 = .ok (.invokevirtual 120, 3) := by decide +kernel
theorem dX7_liesIn_20 : decode cX7_liesIn 20 = .ok (.goto 6, 3) := by decide +kernel
theorem dX7_liesIn_23 : decode cX7_liesIn 23 = .ok (.ldc2_w 124, 3) := by decide +kernel
theorem dX7_liesIn_26 : decode cX7_liesIn 26 = .ok (.lreturn, 1) := by decide +kernel
theorem dX7_longests_0 : decode cX7_longests 0 = .ok (.aload_n 0, 1) := by decide +kernel
theorem dX7_longests_1 : decode cX7_longests 1 = .ok (.getfield 13, 3) := by decide +kernel
theorem dX7_longests_4 : decode cX7_longests 4 = .ok (.iload_n 1, 1) := by decide +kernel
theorem dX7_longests_5 : decode cX7_longests 5 = .ok (.iaload, 1) := by decide +kernel
theorem dX7_longests_6 : decode cX7_longests 6 = .ok (.istore_n 3, 1) := by decide +kernel
theorem dX7_longests_7 : decode cX7_longests 7 = .ok (.iload_n 3, 1) := by decide +kernel
theorem dX7_longests_8 : decode cX7_longests 8 = .ok (.ifCond .lt 163, 3) := by decide +kernel
theorem dX7_longests_11 : decode cX7_longests 11 = .ok (.aload_n 0, 1) := by decide +kernel
theorem dX7_longests_12 : decode cX7_longests 12 = .ok (.getfield 13, 3) := by decide +kernel
theorem dX7_longests_15 : decode cX7_longests 15 = .ok (.iload_n 2, 1) := by decide +kernel
theorem dX7_longests_16 : decode cX7_longests 16 = .ok (.iaload, 1) := by decide +kernel
theorem dX7_longests_17 : decode cX7_longests 17 = .ok (.istore 4, 2) := by decide +kernel
theorem dX7_longests_19 : decode cX7_longests 19 = .ok (.iload 4, 2) := by decide +kernel
theorem dX7_longests_21 : decode cX7_longests 21 = .ok (.ifCond .lt 144, 3) := by decide +kernel
theorem dX7_longests_24 : decode cX7_longests 24 = .ok (.iconst 0, 1) := by decide +kernel
theorem dX7_longests_25 : decode cX7_longests 25 = .ok (.istore 5, 2) := by decide +kernel
theorem dX7_longests_27 : decode cX7_longests 27 = .ok (.iload_n 3, 1) := by decide +kernel
theorem dX7_longests_28 : decode cX7_longests 28 = .ok (.aload_n 0, 1) := by decide +kernel
theorem dX7_longests_29 : decode cX7_longests 29 = .ok (.getfield 13, 3) := by decide +kernel
theorem dX7_longests_32 : decode cX7_longests 32 = .ok (.iload_n 1, 1) := by decide +kernel
theorem dX7_longests_33 : decode cX7_longests 33 = .ok (.iaload, 1) := by decide +kernel
theorem dX7_longests_34 : decode cX7_longests 34 = .ok (.if_icmp .ge 111, 3) := by decide +kernel
theorem dX7_longests_37 : decode cX7_longests 37 = .ok (.iload 4, 2) := by decide +kernel
theorem dX7_longests_39 : decode cX7_longests 39 = .ok (.aload_n 0, 1) := by decide +kernel
theorem dX7_longests_40 : decode cX7_longests 40 = .ok (.getfield 13, 3) := by decide +kernel
theorem dX7_longests_43 : decode cX7_longests 43 = .ok (.iload_n 2, 1) := by decide +kernel
theorem dX7_longests_44 : decode cX7_longests 44 = .ok (.iaload, 1) := by decide +kernel
theorem dX7_longests_45 : decode cX7_longests 45 = .ok (.if_icmp .ge 100, 3) := by decide +kernel
theorem dX7_longests_48 : decode cX7_longests 48 = .ok (.aload_n 0, 1) := by decide +kernel
theorem dX7_longests_49 : decode cX7_longests 49 = .ok (.getfield 34, 3) := by decide +kernel
theorem dX7_longests_52 : decode cX7_longests 52 = .ok (.bipush 30, 2) := by decide +kernel
theorem dX7_longests_54 : decode cX7_longests 54 = .ok (.iload_n 3, 1) := by decide +kernel
theorem dX7_longests_55 : decode cX7_longests 55 = .ok (.imul, 1) := by decide +kernel
theorem dX7_longests_56 : decode cX7_longests 56 = .ok (.bipush 30, 2) := by decide +kernel
theorem dX7_longests_58 : decode cX7_longests 58 = .ok (.iadd, 1) := by decide +kernel
theorem dX7_longests_59 : decode cX7_longests 59 = .ok (.iload 4, 2) := by decide +kernel
theorem dX7_longests_61 : decode cX7_longests 61 = .ok (.iadd, 1) := by decide +kernel
theorem dX7_longests_62 : decode cX7_longests 62 = .ok (.iaload, 1) := by decide +kernel
theorem dX7_longests_63 : decode cX7_longests 63 = .ok (.istore 6, 2) := by decide +kernel
theorem dX7_longests_65 : decode cX7_longests 65 = .ok (.aload_n 0, 1) := by decide +kernel
theorem dX7_longests_66 : decode cX7_longests 66 = .ok (.getfield 34, 3) := by decide +kernel
theorem dX7_longests_69 : decode cX7_longests 69 = .ok (.bipush 30, 2) := by decide +kernel
theorem dX7_longests_71 : decode cX7_longests 71 = .ok (.iload_n 3, 1) := by decide +kernel
theorem dX7_longests_72 : decode cX7_longests 72 = .ok (.imul, 1) := by decide +kernel
theorem dX7_longests_73 : decode cX7_longests 73 = .ok (.iload 4, 2) := by decide +kernel
theorem dX7_longests_75 : decode cX7_longests 75 = .ok (.iadd, 1) := by decide +kernel
theorem dX7_longests_76 : decode cX7_longests 76 = .ok (.iconst 1, 1) := by decide +kernel
theorem dX7_longests_77 : decode cX7_longests 77 = .ok (.iadd, 1) := by decide +kernel
theorem dX7_longests_78 : decode cX7_longests 78 = .ok (.iaload, 1) := by decide +kernel
theorem dX7_longests_79 : decode cX7_longests 79 = .ok (.istore 7, 2) := by decide +kernel
theorem dX7_longests_81 : decode cX7_longests 81 = .ok (.aload_n 0, 1) := by decide +kernel
theorem dX7_longests_82 : decode cX7_longests 82 = .ok (.getfield 17, 3) := by decide +kernel
theorem dX7_longests_85 : decode cX7_longests 85 = .ok (.bipush 30, 2) := by decide +kernel
theorem dX7_longests_87 : decode cX7_longests 87 = .ok (.iload_n 1, 1) := by decide +kernel
theorem dX7_longests_88 : decode cX7_longests 88 = .ok (.imul, 1) := by decide +kernel
theorem dX7_longests_89 : decode cX7_longests 89 = .ok (.iload_n 3, 1) := by decide +kernel
theorem dX7_longests_90 : decode cX7_longests 90 = .ok (.iadd, 1) := by decide +kernel
theorem dX7_longests_91 : decode cX7_longests 91 = .ok (.iaload, 1) := by decide +kernel
theorem dX7_longests_92 : decode cX7_longests 92 = .ok (.aload_n 0, 1) := by decide +kernel
theorem dX7_longests_93 : decode cX7_longests 93 = .ok (.getfield 17, 3) := by decide +kernel
theorem dX7_longests_96 : decode cX7_longests 96 = .ok (.bipush 30, 2) := by decide +kernel
theorem dX7_longests_98 : decode cX7_longests 98 = .ok (.iload_n 2, 1) := by decide +kernel
theorem dX7_longests_99 : decode cX7_longests 99 = .ok (.imul, 1) := by decide +kernel
theorem dX7_longests_100 : decode cX7_longests 100 = .ok (.iload 4, 2) := by decide +kernel
theorem dX7_longests_102 : decode cX7_longests 102 = .ok (.iadd, 1) := by decide +kernel
theorem dX7_longests_103 : decode cX7_longests 103 = .ok (.iaload, 1) := by decide +kernel
theorem dX7_longests_104 : decode cX7_longests 104 = .ok (.if_icmp .ne 25, 3) := by decide +kernel
theorem dX7_longests_107 : decode cX7_longests 107 = .ok (.aload_n 0, 1) := by decide +kernel
theorem dX7_longests_108 : decode cX7_longests 108 = .ok (.getfield 34, 3) := by decide +kernel
theorem dX7_longests_111 : decode cX7_longests 111 = .ok (.bipush 30, 2) := by decide +kernel
theorem dX7_longests_113 : decode cX7_longests 113 = .ok (.iload_n 3, 1) := by decide +kernel
theorem dX7_longests_114 : decode cX7_longests 114 = .ok (.imul, 1) := by decide +kernel
theorem dX7_longests_115 : decode cX7_longests 115 = .ok (.bipush 30, 2) := by decide +kernel
theorem dX7_longests_117 : decode cX7_longests 117 = .ok (.iadd, 1) := by decide +kernel
theorem dX7_longests_118 : decode cX7_longests 118 = .ok (.iload 4, 2) := by decide +kernel
theorem dX7_longests_120 : decode cX7_longests 120 = .ok (.iadd, 1) := by decide +kernel
theorem dX7_longests_121 : decode cX7_longests 121 = .ok (.iconst 1, 1) := by decide +kernel
theorem dX7_longests_122 : decode cX7_longests 122 = .ok (.iadd, 1) := by decide +kernel
theorem dX7_longests_123 : decode cX7_longests 123 = .ok (.iaload, 1) := by decide +kernel
theorem dX7_longests_124 : decode cX7_longests 124 = .ok (.iconst 1, 1) := by decide +kernel
theorem dX7_longests_125 : decode cX7_longests 125 = .ok (.iadd, 1) := by decide +kernel
theorem dX7_longests_126 : decode cX7_longests 126 = .ok (.goto 17, 3) := by decide +kernel
theorem dX7_longests_129 : decode cX7_longests 129 = .ok (.iload 6, 2) := by decide +kernel
theorem dX7_longests_131 : decode cX7_longests 131 = .ok (.iload 7, 2) := by decide +kernel
theorem dX7_longests_133 : decode cX7_longests 133 = .ok (.if_icmp .le 8, 3) := by decide +kernel
theorem dX7_longests_136 : decode cX7_longests 136 = .ok (.iload 6, 2) := by decide +kernel
theorem dX7_longests_138 : decode cX7_longests 138 = .ok (.goto 5, 3) := by decide +kernel
theorem dX7_longests_141 : decode cX7_longests 141 = .ok (.iload 7, 2) := by decide +kernel
theorem dX7_longests_143 : decode cX7_longests 143 = .ok (.istore 5, 2) := by decide +kernel
theorem dX7_longests_145 : decode cX7_longests 145 = .ok (.aload_n 0, 1) := by decide +kernel
theorem dX7_longests_146 : decode cX7_longests 146 = .ok (.getfield 34, 3) := by decide +kernel
theorem dX7_longests_149 : decode cX7_longests 149 = .ok (.bipush 30, 2) := by decide +kernel
theorem dX7_longests_151 : decode cX7_longests 151 = .ok (.iload_n 3, 1) := by decide +kernel
theorem dX7_longests_152 : decode cX7_longests 152 = .ok (.imul, 1) := by decide +kernel
theorem dX7_longests_153 : decode cX7_longests 153 = .ok (.iload 4, 2) := by decide +kernel
theorem dX7_longests_155 : decode cX7_longests 155 = .ok (.iadd, 1) := by decide +kernel
theorem dX7_longests_156 : decode cX7_longests 156 = .ok (.iload 5, 2) := by decide +kernel
theorem dX7_longests_158 : decode cX7_longests 158 = .ok (.iastore, 1) := by decide +kernel
theorem dX7_longests_159 : decode cX7_longests 159 = .ok (.iinc 4 (-1), 3) := by decide +kernel
theorem dX7_longests_162 : decode cX7_longests 162 = .ok (.goto (-143), 3) := by decide +kernel
theorem dX7_longests_165 : decode cX7_longests 165 = .ok (.iinc 3 (-1), 3) := by decide +kernel
theorem dX7_longests_168 : decode cX7_longests 168 = .ok (.goto (-161), 3) := by decide +kernel
theorem dX7_longests_171 : decode cX7_longests 171 = .ok (.return_, 1) := by decide +kernel
theorem dX7_next_0 : decode cX7_next 0 = .ok (.iload_n 2, 1) := by decide +kernel
theorem dX7_next_1 : decode cX7_next 1 = .ok (.istore 4, 2) := by decide +kernel
theorem dX7_next_3 : decode cX7_next 3 = .ok (.iload 4, 2) := by decide +kernel
theorem dX7_next_5 : decode cX7_next 5 = .ok (.aload_n 0, 1) := by decide +kernel
theorem dX7_next_6 : decode cX7_next 6 = .ok (.getfield 13, 3) := by decide +kernel
theorem dX7_next_9 : decode cX7_next 9 = .ok (.iload_n 1, 1) := by decide +kernel
theorem dX7_next_10 : decode cX7_next 10 = .ok (.iaload, 1) := by decide +kernel
theorem dX7_next_11 : decode cX7_next 11 = .ok (.if_icmp .ge 25, 3) := by decide +kernel
theorem dX7_next_14 : decode cX7_next 14 = .ok (.aload_n 0, 1) := by decide +kernel
theorem dX7_next_15 : decode cX7_next 15 = .ok (.getfield 17, 3) := by decide +kernel
theorem dX7_next_18 : decode cX7_next 18 = .ok (.bipush 30, 2) := by decide +kernel
theorem dX7_next_20 : decode cX7_next 20 = .ok (.iload_n 1, 1) := by decide +kernel
theorem dX7_next_21 : decode cX7_next 21 = .ok (.imul, 1) := by decide +kernel
theorem dX7_next_22 : decode cX7_next 22 = .ok (.iload 4, 2) := by decide +kernel
theorem dX7_next_24 : decode cX7_next 24 = .ok (.iadd, 1) := by decide +kernel
theorem dX7_next_25 : decode cX7_next 25 = .ok (.iaload, 1) := by decide +kernel
theorem dX7_next_26 : decode cX7_next 26 = .ok (.iload_n 3, 1) := by decide +kernel
theorem dX7_next_27 : decode cX7_next 27 = .ok (.if_icmp .eq 9, 3) := by decide +kernel
theorem dX7_next_30 : decode cX7_next 30 = .ok (.iinc 4 1, 3) := by decide +kernel
theorem dX7_next_33 : decode cX7_next 33 = .ok (.goto (-30), 3) := by decide +kernel
theorem dX7_next_36 : decode cX7_next 36 = .ok (.iload 4, 2) := by decide +kernel
theorem dX7_next_38 : decode cX7_next 38 = .ok (.ireturn, 1) := by decide +kernel
theorem dX7_common_0 : decode cX7_common 0 = .ok (.iload_n 1, 1) := by decide +kernel
theorem dX7_common_1 : decode cX7_common 1 = .ok (.invokestatic 53, 3) := by decide +kernel
theorem dX7_common_4 : decode cX7_common 4 = .ok (.ifCond .eq 17, 3) := by decide +kernel
theorem dX7_common_7 : decode cX7_common 7 = .ok (.iload_n 2, 1) := by decide +kernel
theorem dX7_common_8 : decode cX7_common 8 = .ok (.invokestatic 53, 3) := by decide +kernel
theorem dX7_common_11 : decode cX7_common 11 = .ok (.ifCond .eq 10, 3) := by decide +kernel
theorem dX7_common_14 : decode cX7_common 14 = .ok (.iload_n 3, 1) := by decide +kernel
theorem dX7_common_15 : decode cX7_common 15 = .ok (.invokestatic 53, 3) := by decide +kernel
theorem dX7_common_18 : decode cX7_common 18 = .ok (.ifCond .ne 5, 3) := by decide +kernel
theorem dX7_common_21 : decode cX7_common 21 = .ok (.iconst (-1), 1) := by decide +kernel
theorem dX7_common_22 : decode cX7_common 22 = .ok (.ireturn, 1) := by decide +kernel
theorem dX7_common_23 : decode cX7_common 23 = .ok (.aload_n 0, 1) := by decide +kernel
theorem dX7_common_24 : decode cX7_common 24 = .ok (.iload_n 2, 1) := by decide +kernel
theorem dX7_common_25 : decode cX7_common 25 = .ok (.iload_n 3, 1) := by decide +kernel
theorem dX7_common_26 : decode cX7_common 26 = .ok (.invokevirtual 126, 3) := by decide +kernel
theorem dX7_common_29 : decode cX7_common 29 = .ok (.aload_n 0, 1) := by decide +kernel
theorem dX7_common_30 : decode cX7_common 30 = .ok (.getfield 13, 3) := by decide +kernel
theorem dX7_common_33 : decode cX7_common 33 = .ok (.bipush 20, 2) := by decide +kernel
theorem dX7_common_35 : decode cX7_common 35 = .ok (.iconst 0, 1) := by decide +kernel
theorem dX7_common_36 : decode cX7_common 36 = .ok (.iastore, 1) := by decide +kernel
theorem dX7_common_37 : decode cX7_common 37 = .ok (.iconst 0, 1) := by decide +kernel
theorem dX7_common_38 : decode cX7_common 38 = .ok (.istore 4, 2) := by decide +kernel
theorem dX7_common_40 : decode cX7_common 40 = .ok (.iconst 0, 1) := by decide +kernel
theorem dX7_common_41 : decode cX7_common 41 = .ok (.istore 5, 2) := by decide +kernel
theorem dX7_common_43 : decode cX7_common 43 = .ok (.aload_n 0, 1) := by decide +kernel
theorem dX7_common_44 : decode cX7_common 44 = .ok (.getfield 34, 3) := by decide +kernel
theorem dX7_common_47 : decode cX7_common 47 = .ok (.bipush 30, 2) := by decide +kernel
theorem dX7_common_49 : decode cX7_common 49 = .ok (.iload 4, 2) := by decide +kernel
theorem dX7_common_51 : decode cX7_common 51 = .ok (.imul, 1) := by decide +kernel
theorem dX7_common_52 : decode cX7_common 52 = .ok (.iload 5, 2) := by decide +kernel
theorem dX7_common_54 : decode cX7_common 54 = .ok (.iadd, 1) := by decide +kernel
theorem dX7_common_55 : decode cX7_common 55 = .ok (.iaload, 1) := by decide +kernel
theorem dX7_common_56 : decode cX7_common 56 = .ok (.ifCond .le 137, 3) := by decide +kernel
theorem dX7_common_59 : decode cX7_common 59 = .ok (.iconst 0, 1) := by decide +kernel
theorem dX7_common_60 : decode cX7_common 60 = .ok (.istore 6, 2) := by decide +kernel
theorem dX7_common_62 : decode cX7_common 62 = .ok (.aload_n 0, 1) := by decide +kernel
theorem dX7_common_63 : decode cX7_common 63 = .ok (.iload_n 2, 1) := by decide +kernel
theorem dX7_common_64 : decode cX7_common 64 = .ok (.iload 4, 2) := by decide +kernel
theorem dX7_common_66 : decode cX7_common 66 = .ok (.iload 6, 2) := by decide +kernel
theorem dX7_common_68 : decode cX7_common 68 = .ok (.invokevirtual 129, 3) := by decide +kernel
theorem dX7_common_71 : decode cX7_common 71 = .ok (.istore 7, 2) := by decide +kernel
theorem dX7_common_73 : decode cX7_common 73 = .ok (.aload_n 0, 1) := by decide +kernel
theorem dX7_common_74 : decode cX7_common 74 = .ok (.iload_n 3, 1) := by decide +kernel
theorem dX7_common_75 : decode cX7_common 75 = .ok (.iload 5, 2) := by decide +kernel
theorem dX7_common_77 : decode cX7_common 77 = .ok (.iload 6, 2) := by decide +kernel
theorem dX7_common_79 : decode cX7_common 79 = .ok (.invokevirtual 129, 3) := by decide +kernel
theorem dX7_common_82 : decode cX7_common 82 = .ok (.istore 8, 2) := by decide +kernel
theorem dX7_common_84 : decode cX7_common 84 = .ok (.iload 7, 2) := by decide +kernel
theorem dX7_common_86 : decode cX7_common 86 = .ok (.aload_n 0, 1) := by decide +kernel
theorem dX7_common_87 : decode cX7_common 87 = .ok (.getfield 13, 3) := by decide +kernel
theorem dX7_common_90 : decode cX7_common 90 = .ok (.iload_n 2, 1) := by decide +kernel
theorem dX7_common_91 : decode cX7_common 91 = .ok (.iaload, 1) := by decide +kernel
theorem dX7_common_92 : decode cX7_common 92 = .ok (.if_icmp .eq 50, 3) := by decide +kernel
theorem dX7_common_95 : decode cX7_common 95 = .ok (.iload 8, 2) := by decide +kernel
theorem dX7_common_97 : decode cX7_common 97 = .ok (.aload_n 0, 1) := by decide +kernel
theorem dX7_common_98 : decode cX7_common 98 = .ok (.getfield 13, 3) := by decide +kernel
theorem dX7_common_101 : decode cX7_common 101 = .ok (.iload_n 3, 1) := by decide +kernel
theorem dX7_common_102 : decode cX7_common 102 = .ok (.iaload, 1) := by decide +kernel
theorem dX7_common_103 : decode cX7_common 103 = .ok (.if_icmp .eq 39, 3) := by decide +kernel
theorem dX7_common_106 : decode cX7_common 106 = .ok (.aload_n 0, 1) := by decide +kernel
theorem dX7_common_107 : decode cX7_common 107 = .ok (.getfield 34, 3) := by decide +kernel
theorem dX7_common_110 : decode cX7_common 110 = .ok (.bipush 30, 2) := by decide +kernel
theorem dX7_common_112 : decode cX7_common 112 = .ok (.iload 7, 2) := by decide +kernel
theorem dX7_common_114 : decode cX7_common 114 = .ok (.imul, 1) := by decide +kernel
theorem dX7_common_115 : decode cX7_common 115 = .ok (.bipush 30, 2) := by decide +kernel
theorem dX7_common_117 : decode cX7_common 117 = .ok (.iadd, 1) := by decide +kernel
theorem dX7_common_118 : decode cX7_common 118 = .ok (.iload 8, 2) := by decide +kernel
theorem dX7_common_120 : decode cX7_common 120 = .ok (.iadd, 1) := by decide +kernel
theorem dX7_common_121 : decode cX7_common 121 = .ok (.iconst 1, 1) := by decide +kernel
theorem dX7_common_122 : decode cX7_common 122 = .ok (.iadd, 1) := by decide +kernel
theorem dX7_common_123 : decode cX7_common 123 = .ok (.iaload, 1) := by decide +kernel
theorem dX7_common_124 : decode cX7_common 124 = .ok (.iconst 1, 1) := by decide +kernel
theorem dX7_common_125 : decode cX7_common 125 = .ok (.iadd, 1) := by decide +kernel
theorem dX7_common_126 : decode cX7_common 126 = .ok (.aload_n 0, 1) := by decide +kernel
theorem dX7_common_127 : decode cX7_common 127 = .ok (.getfield 34, 3) := by decide +kernel
theorem dX7_common_130 : decode cX7_common 130 = .ok (.bipush 30, 2) := by decide +kernel
theorem dX7_common_132 : decode cX7_common 132 = .ok (.iload 4, 2) := by decide +kernel
theorem dX7_common_134 : decode cX7_common 134 = .ok (.imul, 1) := by decide +kernel
theorem dX7_common_135 : decode cX7_common 135 = .ok (.iload 5, 2) := by decide +kernel
theorem dX7_common_137 : decode cX7_common 137 = .ok (.iadd, 1) := by decide +kernel
theorem dX7_common_138 : decode cX7_common 138 = .ok (.iaload, 1) := by decide +kernel
theorem dX7_common_139 : decode cX7_common 139 = .ok (.if_icmp .eq 31, 3) := by decide +kernel
theorem dX7_common_142 : decode cX7_common 142 = .ok (.iinc 6 1, 3) := by decide +kernel
theorem dX7_common_145 : decode cX7_common 145 = .ok (.aload_n 0, 1) := by decide +kernel
theorem dX7_common_146 : decode cX7_common 146 = .ok (.iload_n 2, 1) := by decide +kernel
theorem dX7_common_147 : decode cX7_common 147 = .ok (.iload 4, 2) := by decide +kernel
theorem dX7_common_149 : decode cX7_common 149 = .ok (.iload 6, 2) := by decide +kernel
theorem dX7_common_151 : decode cX7_common 151 = .ok (.invokevirtual 129, 3) := by decide +kernel
theorem dX7_common_154 : decode cX7_common 154 = .ok (.istore 7, 2) := by decide +kernel
theorem dX7_common_156 : decode cX7_common 156 = .ok (.aload_n 0, 1) := by decide +kernel
theorem dX7_common_157 : decode cX7_common 157 = .ok (.iload_n 3, 1) := by decide +kernel
