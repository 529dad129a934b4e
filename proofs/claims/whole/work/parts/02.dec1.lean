theorem dX2_edits_24 : decode cX2_edits 24 = .ok (.iload_n 3, 1) := by decide +kernel
theorem dX2_edits_25 : decode cX2_edits 25 = .ok (.iload 4, 2) := by decide +kernel
theorem dX2_edits_27 : decode cX2_edits 27 = .ok (.invokestatic 30, 3) := by decide +kernel
theorem dX2_edits_30 : decode cX2_edits 30 = .ok (.aload_n 0, 1) := by decide +kernel
theorem dX2_edits_31 : decode cX2_edits 31 = .ok (.aload_n 1, 1) := by decide +kernel
theorem dX2_edits_32 : decode cX2_edits 32 = .ok (.iload_n 3, 1) := by decide +kernel
theorem dX2_edits_33 : decode cX2_edits 33 = .ok (.aload_n 2, 1) := by decide +kernel
theorem dX2_edits_34 : decode cX2_edits 34 = .ok (.iload 4, 2) := by decide +kernel
theorem dX2_edits_36 : decode cX2_edits 36 = .ok (.invokevirtual 65, 3) := by decide +kernel
theorem dX2_edits_39 : decode cX2_edits 39 = .ok (.iastore, 1) := by decide +kernel
theorem dX2_edits_40 : decode cX2_edits 40 = .ok (.iinc 4 (-1), 3) := by decide +kernel
theorem dX2_edits_43 : decode cX2_edits 43 = .ok (.goto (-28), 3) := by decide +kernel
theorem dX2_edits_46 : decode cX2_edits 46 = .ok (.iinc 3 (-1), 3) := by decide +kernel
theorem dX2_edits_49 : decode cX2_edits 49 = .ok (.goto (-44), 3) := by decide +kernel
theorem dX2_edits_52 : decode cX2_edits 52 = .ok (.aload_n 0, 1) := by decide +kernel
theorem dX2_edits_53 : decode cX2_edits 53 = .ok (.getfield 11, 3) := by decide +kernel
theorem dX2_edits_56 : decode cX2_edits 56 = .ok (.iconst 0, 1) := by decide +kernel
theorem dX2_edits_57 : decode cX2_edits 57 = .ok (.iaload, 1) := by decide +kernel
theorem dX2_edits_58 : decode cX2_edits 58 = .ok (.ireturn, 1) := by decide +kernel
theorem dX2_editsFrom_0 : decode cX2_editsFrom 0 = .ok (.iload_n 2, 1) := by decide +kernel
theorem dX2_editsFrom_1 : decode cX2_editsFrom 1 = .ok (.aload_n 1, 1) := by decide +kernel
theorem dX2_editsFrom_2 : decode cX2_editsFrom 2 = .ok (.getfield 26, 3) := by decide +kernel
theorem dX2_editsFrom_5 : decode cX2_editsFrom 5 = .ok (.if_icmp .ge 12, 3) := by decide +kernel
theorem dX2_editsFrom_8 : decode cX2_editsFrom 8 = .ok (.iload 4, 2) := by decide +kernel
theorem dX2_editsFrom_10 : decode cX2_editsFrom 10 = .ok (.aload_n 3, 1) := by decide +kernel
theorem dX2_editsFrom_11 : decode cX2_editsFrom 11 = .ok (.getfield 26, 3) := by decide +kernel
theorem dX2_editsFrom_14 : decode cX2_editsFrom 14 = .ok (.if_icmp .lt 18, 3) := by decide +kernel
theorem dX2_editsFrom_17 : decode cX2_editsFrom 17 = .ok (.aload_n 1, 1) := by decide +kernel
theorem dX2_editsFrom_18 : decode cX2_editsFrom 18 = .ok (.getfield 26, 3) := by decide +kernel
theorem dX2_editsFrom_21 : decode cX2_editsFrom 21 = .ok (.iload_n 2, 1) := by decide +kernel
theorem dX2_editsFrom_22 : decode cX2_editsFrom 22 = .ok (.isub, 1) := by decide +kernel
theorem dX2_editsFrom_23 : decode cX2_editsFrom 23 = .ok (.aload_n 3, 1) := by decide +kernel
theorem dX2_editsFrom_24 : decode cX2_editsFrom 24 = .ok (.getfield 26, 3) := by decide +kernel
theorem dX2_editsFrom_27 : decode cX2_editsFrom 27 = .ok (.iadd, 1) := by decide +kernel
theorem dX2_editsFrom_28 : decode cX2_editsFrom 28 = .ok (.iload 4, 2) := by decide +kernel
theorem dX2_editsFrom_30 : decode cX2_editsFrom 30 = .ok (.isub, 1) := by decide +kernel
theorem dX2_editsFrom_31 : decode cX2_editsFrom 31 = .ok (.ireturn, 1) := by decide +kernel
theorem dX2_editsFrom_32 : decode cX2_editsFrom 32 = .ok (.aload_n 0, 1) := by decide +kernel
theorem dX2_editsFrom_33 : decode cX2_editsFrom 33 = .ok (.getfield 11, 3) := by decide +kernel
theorem dX2_editsFrom_36 : decode cX2_editsFrom 36 = .ok (.iload_n 2, 1) := by decide +kernel
theorem dX2_editsFrom_37 : decode cX2_editsFrom 37 = .ok (.iconst 1, 1) := by decide +kernel
theorem dX2_editsFrom_38 : decode cX2_editsFrom 38 = .ok (.iadd, 1) := by decide +kernel
theorem dX2_editsFrom_39 : decode cX2_editsFrom 39 = .ok (.iload 4, 2) := by decide +kernel
theorem dX2_editsFrom_41 : decode cX2_editsFrom 41 = .ok (.iconst 1, 1) := by decide +kernel
theorem dX2_editsFrom_42 : decode cX2_editsFrom 42 = .ok (.iadd, 1) := by decide +kernel
theorem dX2_editsFrom_43 : decode cX2_editsFrom 43 = .ok (.invokestatic 30, 3) := by decide +kernel
theorem dX2_editsFrom_46 : decode cX2_editsFrom 46 = .ok (.iaload, 1) := by decide +kernel
theorem dX2_editsFrom_47 : decode cX2_editsFrom 47 = .ok (.istore 5, 2) := by decide +kernel
theorem dX2_editsFrom_49 : decode cX2_editsFrom 49 = .ok (.aload_n 1, 1) := by decide +kernel
theorem dX2_editsFrom_50 : decode cX2_editsFrom 50 = .ok (.iload_n 2, 1) := by decide +kernel
theorem dX2_editsFrom_51 : decode cX2_editsFrom 51 = .ok (.invokevirtual 38, 3) := by decide +kernel
theorem dX2_editsFrom_54 : decode cX2_editsFrom 54 = .ok (.aload_n 3, 1) := by decide +kernel
theorem dX2_editsFrom_55 : decode cX2_editsFrom 55 = .ok (.iload 4, 2) := by decide +kernel
theorem dX2_editsFrom_57 : decode cX2_editsFrom 57 = .ok (.invokevirtual 38, 3) := by decide +kernel
theorem dX2_editsFrom_60 : decode cX2_editsFrom 60 = .ok (.if_icmp .ne 6, 3) := by decide +kernel
theorem dX2_editsFrom_63 : decode cX2_editsFrom 63 = .ok (.iload 5, 2) := by decide +kernel
theorem dX2_editsFrom_65 : decode cX2_editsFrom 65 = .ok (.ireturn, 1) := by decide +kernel
theorem dX2_editsFrom_66 : decode cX2_editsFrom 66 = .ok (.iconst 1, 1) := by decide +kernel
theorem dX2_editsFrom_67 : decode cX2_editsFrom 67 = .ok (.iload 5, 2) := by decide +kernel
theorem dX2_editsFrom_69 : decode cX2_editsFrom 69 = .ok (.aload_n 0, 1) := by decide +kernel
theorem dX2_editsFrom_70 : decode cX2_editsFrom 70 = .ok (.getfield 11, 3) := by decide +kernel
theorem dX2_editsFrom_73 : decode cX2_editsFrom 73 = .ok (.iload_n 2, 1) := by decide +kernel
theorem dX2_editsFrom_74 : decode cX2_editsFrom 74 = .ok (.iconst 1, 1) := by decide +kernel
theorem dX2_editsFrom_75 : decode cX2_editsFrom 75 = .ok (.iadd, 1) := by decide +kernel
theorem dX2_editsFrom_76 : decode cX2_editsFrom 76 = .ok (.iload 4, 2) := by decide +kernel
theorem dX2_editsFrom_78 : decode cX2_editsFrom 78 = .ok (.invokestatic 30, 3) := by decide +kernel
theorem dX2_editsFrom_81 : decode cX2_editsFrom 81 = .ok (.iaload, 1) := by decide +kernel
theorem dX2_editsFrom_82 : decode cX2_editsFrom 82 = .ok (.aload_n 0, 1) := by decide +kernel
theorem dX2_editsFrom_83 : decode cX2_editsFrom 83 = .ok (.getfield 11, 3) := by decide +kernel
theorem dX2_editsFrom_86 : decode cX2_editsFrom 86 = .ok (.iload_n 2, 1) := by decide +kernel
theorem dX2_editsFrom_87 : decode cX2_editsFrom 87 = .ok (.iload 4, 2) := by decide +kernel
theorem dX2_editsFrom_89 : decode cX2_editsFrom 89 = .ok (.iconst 1, 1) := by decide +kernel
theorem dX2_editsFrom_90 : decode cX2_editsFrom 90 = .ok (.iadd, 1) := by decide +kernel
theorem dX2_editsFrom_91 : decode cX2_editsFrom 91 = .ok (.invokestatic 30, 3) := by decide +kernel
theorem dX2_editsFrom_94 : decode cX2_editsFrom 94 = .ok (.iaload, 1) := by decide +kernel
theorem dX2_editsFrom_95 : decode cX2_editsFrom 95 = .ok (.invokestatic 68, 3) := by decide +kernel
theorem dX2_editsFrom_98 : decode cX2_editsFrom 98 = .ok (.invokestatic 68, 3) := by decide +kernel
theorem dX2_editsFrom_101 : decode cX2_editsFrom 101 = .ok (.iadd, 1) := by decide +kernel
theorem dX2_editsFrom_102 : decode cX2_editsFrom 102 = .ok (.ireturn, 1) := by decide +kernel
theorem dX3_init_0 : decode cX3_init 0 = .ok (.aload_n 0, 1) := by decide +kernel
theorem dX3_init_1 : decode cX3_init 1 = .ok (.invokespecial 3, 3) := by decide +kernel
theorem dX3_init_4 : decode cX3_init 4 = .ok (.aload_n 0, 1) := by decide +kernel
theorem dX3_init_5 : decode cX3_init 5 = .ok (.bipush 25, 2) := by decide +kernel
theorem dX3_init_7 : decode cX3_init 7 = .ok (.newarray .long, 2) := by decide +kernel
theorem dX3_init_9 : decode cX3_init 9 = .ok (.putfield 9, 3) := by decide +kernel
theorem dX3_init_12 : decode cX3_init 12 = .ok (.aload_n 0, 1) := by decide +kernel
theorem dX3_init_13 : decode cX3_init 13 = .ok (.sipush 175, 3) := by decide +kernel
theorem dX3_init_16 : decode cX3_init 16 = .ok (.newarray .long, 2) := by decide +kernel
theorem dX3_init_18 : decode cX3_init 18 = .ok (.putfield 15, 3) := by decide +kernel
theorem dX3_init_21 : decode cX3_init 21 = .ok (.return_, 1) := by decide +kernel
theorem dX3_howOften_0 : decode cX3_howOften 0 = .ok (.aload_n 0, 1) := by decide +kernel
theorem dX3_howOften_1 : decode cX3_howOften 1 = .ok (.getfield 9, 3) := by decide +kernel
theorem dX3_howOften_4 : decode cX3_howOften 4 = .ok (.iconst 0, 1) := by decide +kernel
theorem dX3_howOften_5 : decode cX3_howOften 5 = .ok (.lconst 1, 1) := by decide +kernel
theorem dX3_howOften_6 : decode cX3_howOften 6 = .ok (.lastore, 1) := by decide +kernel
theorem dX3_howOften_7 : decode cX3_howOften 7 = .ok (.iconst 1, 1) := by decide +kernel
theorem dX3_howOften_8 : decode cX3_howOften 8 = .ok (.istore_n 3, 1) := by decide +kernel
theorem dX3_howOften_9 : decode cX3_howOften 9 = .ok (.iload_n 3, 1) := by decide +kernel
theorem dX3_howOften_10 : decode cX3_howOften 10 = .ok (.aload_n 1, 1) := by decide +kernel
theorem dX3_howOften_11 : decode cX3_howOften 11 = .ok (.getfield 18, 3) := by decide +kernel
theorem dX3_howOften_14 : decode cX3_howOften 14 = .ok (.if_icmp .gt 16, 3) := by decide +kernel
theorem dX3_howOften_17 : decode cX3_howOften 17 = .ok (.aload_n 0, 1) := by decide +kernel
theorem dX3_howOften_18 : decode cX3_howOften 18 = .ok (.getfield 9, 3) := by decide +kernel
theorem dX3_howOften_21 : decode cX3_howOften 21 = .ok (.iload_n 3, 1) := by decide +kernel
theorem dX3_howOften_22 : decode cX3_howOften 22 = .ok (.lconst 0, 1) := by decide +kernel
theorem dX3_howOften_23 : decode cX3_howOften 23 = .ok (.lastore, 1) := by decide +kernel
theorem dX3_howOften_24 : decode cX3_howOften 24 = .ok (.iinc 3 1, 3) := by decide +kernel
theorem dX3_howOften_27 : decode cX3_howOften 27 = .ok (.goto (-18), 3) := by decide +kernel
theorem dX3_howOften_30 : decode cX3_howOften 30 = .ok (.iconst 0, 1) := by decide +kernel
theorem dX3_howOften_31 : decode cX3_howOften 31 = .ok (.istore_n 3, 1) := by decide +kernel
theorem dX3_howOften_32 : decode cX3_howOften 32 = .ok (.iload_n 3, 1) := by decide +kernel
theorem dX3_howOften_33 : decode cX3_howOften 33 = .ok (.aload_n 2, 1) := by decide +kernel
theorem dX3_howOften_34 : decode cX3_howOften 34 = .ok (.getfield 18, 3) := by decide +kernel
theorem dX3_howOften_37 : decode cX3_howOften 37 = .ok (.if_icmp .ge 66, 3) := by decide +kernel
theorem dX3_howOften_40 : decode cX3_howOften 40 = .ok (.aload_n 2, 1) := by decide +kernel
theorem dX3_howOften_41 : decode cX3_howOften 41 = .ok (.iload_n 3, 1) := by decide +kernel
theorem dX3_howOften_42 : decode cX3_howOften 42 = .ok (.invokevirtual 24, 3) := by decide +kernel
theorem dX3_howOften_45 : decode cX3_howOften 45 = .ok (.istore 4, 2) := by decide +kernel
theorem dX3_howOften_47 : decode cX3_howOften 47 = .ok (.aload_n 1, 1) := by decide +kernel
theorem dX3_howOften_48 : decode cX3_howOften 48 = .ok (.getfield 18, 3) := by decide +kernel
theorem dX3_howOften_51 : decode cX3_howOften 51 = .ok (.istore 5, 2) := by decide +kernel
theorem dX3_howOften_53 : decode cX3_howOften 53 = .ok (.iload 5, 2) := by decide +kernel
theorem dX3_howOften_55 : decode cX3_howOften 55 = .ok (.iconst 1, 1) := by decide +kernel
theorem dX3_howOften_56 : decode cX3_howOften 56 = .ok (.if_icmp .lt 41, 3) := by decide +kernel
theorem dX3_howOften_59 : decode cX3_howOften 59 = .ok (.aload_n 1, 1) := by decide +kernel
theorem dX3_howOften_60 : decode cX3_howOften 60 = .ok (.iload 5, 2) := by decide +kernel
theorem dX3_howOften_62 : decode cX3_howOften 62 = .ok (.iconst 1, 1) := by decide +kernel
theorem dX3_howOften_63 : decode cX3_howOften 63 = .ok (.isub, 1) := by decide +kernel
theorem dX3_howOften_64 : decode cX3_howOften 64 = .ok (.invokevirtual 24, 3) := by decide +kernel
theorem dX3_howOften_67 : decode cX3_howOften 67 = .ok (.iload 4, 2) := by decide +kernel
theorem dX3_howOften_69 : decode cX3_howOften 69 = .ok (.if_icmp .ne 22, 3) := by decide +kernel
theorem dX3_howOften_72 : decode cX3_howOften 72 = .ok (.aload_n 0, 1) := by decide +kernel
theorem dX3_howOften_73 : decode cX3_howOften 73 = .ok (.getfield 9, 3) := by decide +kernel
theorem dX3_howOften_76 : decode cX3_howOften 76 = .ok (.iload 5, 2) := by decide +kernel
theorem dX3_howOften_78 : decode cX3_howOften 78 = .ok (.dup2, 1) := by decide +kernel
theorem dX3_howOften_79 : decode cX3_howOften 79 = .ok (.laload, 1) := by decide +kernel
theorem dX3_howOften_80 : decode cX3_howOften 80 = .ok (.aload_n 0, 1) := by decide +kernel
theorem dX3_howOften_81 : decode cX3_howOften 81 = .ok (.getfield 9, 3) := by decide +kernel
theorem dX3_howOften_84 : decode cX3_howOften 84 = .ok (.iload 5, 2) := by decide +kernel
theorem dX3_howOften_86 : decode cX3_howOften 86 = .ok (.iconst 1, 1) := by decide +kernel
theorem dX3_howOften_87 : decode cX3_howOften 87 = .ok (.isub, 1) := by decide +kernel
theorem dX3_howOften_88 : decode cX3_howOften 88 = .ok (.laload, 1) := by decide +kernel
theorem dX3_howOften_89 : decode cX3_howOften 89 = .ok (.ladd, 1) := by decide +kernel
theorem dX3_howOften_90 : decode cX3_howOften 90 = .ok (.lastore, 1) := by decide +kernel
theorem dX3_howOften_91 : decode cX3_howOften 91 = .ok (.iinc 5 (-1), 3) := by decide +kernel
theorem dX3_howOften_94 : decode cX3_howOften 94 = .ok (.goto (-41), 3) := by decide +kernel
theorem dX3_howOften_97 : decode cX3_howOften 97 = .ok (.iinc 3 1, 3) := by decide +kernel
theorem dX3_howOften_100 : decode cX3_howOften 100 = .ok (.goto (-68), 3) := by decide +kernel
theorem dX3_howOften_103 : decode cX3_howOften 103 = .ok (.aload_n 0, 1) := by decide +kernel
theorem dX3_howOften_104 : decode cX3_howOften 104 = .ok (.getfield 9, 3) := by decide +kernel
theorem dX3_howOften_107 : decode cX3_howOften 107 = .ok (.aload_n 1, 1) := by decide +kernel
theorem dX3_howOften_108 : decode cX3_howOften 108 = .ok (.getfield 18, 3) := by decide +kernel
theorem dX3_howOften_111 : decode cX3_howOften 111 = .ok (.laload, 1) := by decide +kernel
theorem dX3_howOften_112 : decode cX3_howOften 112 = .ok (.lreturn, 1) := by decide +kernel
theorem dX3_byLosing_0 : decode cX3_byLosing 0 = .ok (.aload_n 1, 1) := by decide +kernel
theorem dX3_byLosing_1 : decode cX3_byLosing 1 = .ok (.getfield 18, 3) := by decide +kernel
theorem dX3_byLosing_4 : decode cX3_byLosing 4 = .ok (.istore 4, 2) := by decide +kernel
theorem dX3_byLosing_6 : decode cX3_byLosing 6 = .ok (.iload 4, 2) := by decide +kernel
theorem dX3_byLosing_8 : decode cX3_byLosing 8 = .ok (.ifCond .lt 47, 3) := by decide +kernel
theorem dX3_byLosing_11 : decode cX3_byLosing 11 = .ok (.iconst 0, 1) := by decide +kernel
theorem dX3_byLosing_12 : decode cX3_byLosing 12 = .ok (.istore 5, 2) := by decide +kernel
theorem dX3_byLosing_14 : decode cX3_byLosing 14 = .ok (.iload 5, 2) := by decide +kernel
theorem dX3_byLosing_16 : decode cX3_byLosing 16 = .ok (.iload_n 2, 1) := by decide +kernel
theorem dX3_byLosing_17 : decode cX3_byLosing 17 = .ok (.if_icmp .gt 32, 3) := by decide +kernel
theorem dX3_byLosing_20 : decode cX3_byLosing 20 = .ok (.aload_n 0, 1) := by decide +kernel
theorem dX3_byLosing_21 : decode cX3_byLosing 21 = .ok (.getfield 15, 3) := by decide +kernel
theorem dX3_byLosing_24 : decode cX3_byLosing 24 = .ok (.iload 4, 2) := by decide +kernel
theorem dX3_byLosing_26 : decode cX3_byLosing 26 = .ok (.bipush 7, 2) := by decide +kernel
theorem dX3_byLosing_28 : decode cX3_byLosing 28 = .ok (.imul, 1) := by decide +kernel
theorem dX3_byLosing_29 : decode cX3_byLosing 29 = .ok (.iload 5, 2) := by decide +kernel
theorem dX3_byLosing_31 : decode cX3_byLosing 31 = .ok (.iadd, 1) := by decide +kernel
theorem dX3_byLosing_32 : decode cX3_byLosing 32 = .ok (.aload_n 0, 1) := by decide +kernel
theorem dX3_byLosing_33 : decode cX3_byLosing 33 = .ok (.aload_n 1, 1) := by decide +kernel
theorem dX3_byLosing_34 : decode cX3_byLosing 34 = .ok (.iload 4, 2) := by decide +kernel
theorem dX3_byLosing_36 : decode cX3_byLosing 36 = .ok (.iload 5, 2) := by decide +kernel
theorem dX3_byLosing_38 : decode cX3_byLosing 38 = .ok (.iload_n 3, 1) := by decide +kernel
theorem dX3_byLosing_39 : decode cX3_byLosing 39 = .ok (.invokevirtual 28, 3) := by decide +kernel
theorem dX3_byLosing_42 : decode cX3_byLosing 42 = .ok (.lastore, 1) := by decide +kernel
theorem dX3_byLosing_43 : decode cX3_byLosing 43 = .ok (.iinc 5 1, 3) := by decide +kernel
theorem dX3_byLosing_46 : decode cX3_byLosing 46 = .ok (.goto (-32), 3) := by decide +kernel
theorem dX3_byLosing_49 : decode cX3_byLosing 49 = .ok (.iinc 4 (-1), 3) := by decide +kernel
theorem dX3_byLosing_52 : decode cX3_byLosing 52 = .ok (.goto (-46), 3) := by decide +kernel
theorem dX3_byLosing_55 : decode cX3_byLosing 55 = .ok (.aload_n 0, 1) := by decide +kernel
theorem dX3_byLosing_56 : decode cX3_byLosing 56 = .ok (.getfield 15, 3) := by decide +kernel
theorem dX3_byLosing_59 : decode cX3_byLosing 59 = .ok (.iload_n 2, 1) := by decide +kernel
theorem dX3_byLosing_60 : decode cX3_byLosing 60 = .ok (.laload, 1) := by decide +kernel
theorem dX3_byLosing_61 : decode cX3_byLosing 61 = .ok (.lreturn, 1) := by decide +kernel
theorem dX3_leftFrom_0 : decode cX3_leftFrom 0 = .ok (.aload_n 1, 1) := by decide +kernel
theorem dX3_leftFrom_1 : decode cX3_leftFrom 1 = .ok (.getfield 18, 3) := by decide +kernel
theorem dX3_leftFrom_4 : decode cX3_leftFrom 4 = .ok (.iload_n 2, 1) := by decide +kernel
theorem dX3_leftFrom_5 : decode cX3_leftFrom 5 = .ok (.isub, 1) := by decide +kernel
theorem dX3_leftFrom_6 : decode cX3_leftFrom 6 = .ok (.iload_n 3, 1) := by decide +kernel
theorem dX3_leftFrom_7 : decode cX3_leftFrom 7 = .ok (.if_icmp .gt 19, 3) := by decide +kernel
theorem dX3_leftFrom_10 : decode cX3_leftFrom 10 = .ok (.aload_n 1, 1) := by decide +kernel
theorem dX3_leftFrom_11 : decode cX3_leftFrom 11 = .ok (.getfield 18, 3) := by decide +kernel
theorem dX3_leftFrom_14 : decode cX3_leftFrom 14 = .ok (.iload_n 2, 1) := by decide +kernel
theorem dX3_leftFrom_15 : decode cX3_leftFrom 15 = .ok (.isub, 1) := by decide +kernel
theorem dX3_leftFrom_16 : decode cX3_leftFrom 16 = .ok (.iload_n 3, 1) := by decide +kernel
theorem dX3_leftFrom_17 : decode cX3_leftFrom 17 = .ok (.if_icmp .ne 7, 3) := by decide +kernel
theorem dX3_leftFrom_20 : decode cX3_leftFrom 20 = .ok (.lconst 1, 1) := by decide +kernel
theorem dX3_leftFrom_21 : decode cX3_leftFrom 21 = .ok (.goto 4, 3) := by decide +kernel
theorem dX3_leftFrom_24 : decode cX3_leftFrom 24 = .ok (.lconst 0, 1) := by decide +kernel
theorem dX3_leftFrom_25 : decode cX3_leftFrom 25 = .ok (.lreturn, 1) := by decide +kernel
theorem dX3_leftFrom_26 : decode cX3_leftFrom 26 = .ok (.lconst 0, 1) := by decide +kernel
theorem dX3_leftFrom_27 : decode cX3_leftFrom 27 = .ok (.lstore 5, 2) := by decide +kernel
theorem dX3_leftFrom_29 : decode cX3_leftFrom 29 = .ok (.iconst 0, 1) := by decide +kernel
theorem dX3_leftFrom_30 : decode cX3_leftFrom 30 = .ok (.istore 7, 2) := by decide +kernel
theorem dX3_leftFrom_32 : decode cX3_leftFrom 32 = .ok (.iload 7, 2) := by decide +kernel
theorem dX3_leftFrom_34 : decode cX3_leftFrom 34 = .ok (.iload 4, 2) := by decide +kernel
theorem dX3_leftFrom_36 : decode cX3_leftFrom 36 = .ok (.if_icmp .ge 59, 3) := by decide +kernel
theorem dX3_leftFrom_39 : decode cX3_leftFrom 39 = .ok (.aload_n 1, 1) := by decide +kernel
theorem dX3_leftFrom_40 : decode cX3_leftFrom 40 = .ok (.iload 7, 2) := by decide +kernel
theorem dX3_leftFrom_42 : decode cX3_leftFrom 42 = .ok (.iload_n 2, 1) := by decide +kernel
theorem dX3_leftFrom_43 : decode cX3_leftFrom 43 = .ok (.invokevirtual 32, 3) := by decide +kernel
theorem dX3_leftFrom_46 : decode cX3_leftFrom 46 = .ok (.istore 8, 2) := by decide +kernel
theorem dX3_leftFrom_48 : decode cX3_leftFrom 48 = .ok (.iload 8, 2) := by decide +kernel
theorem dX3_leftFrom_50 : decode cX3_leftFrom 50 = .ok (.aload_n 1, 1) := by decide +kernel
theorem dX3_leftFrom_51 : decode cX3_leftFrom 51 = .ok (.getfield 18, 3) := by decide +kernel
theorem dX3_leftFrom_54 : decode cX3_leftFrom 54 = .ok (.if_icmp .ge 35, 3) := by decide +kernel
theorem dX3_leftFrom_57 : decode cX3_leftFrom 57 = .ok (.iload 8, 2) := by decide +kernel
theorem dX3_leftFrom_59 : decode cX3_leftFrom 59 = .ok (.iload_n 2, 1) := by decide +kernel
theorem dX3_leftFrom_60 : decode cX3_leftFrom 60 = .ok (.isub, 1) := by decide +kernel
theorem dX3_leftFrom_61 : decode cX3_leftFrom 61 = .ok (.iload_n 3, 1) := by decide +kernel
theorem dX3_leftFrom_62 : decode cX3_leftFrom 62 = .ok (.if_icmp .gt 27, 3) := by decide +kernel
theorem dX3_leftFrom_65 : decode cX3_leftFrom 65 = .ok (.lload 5, 2) := by decide +kernel
theorem dX3_leftFrom_67 : decode cX3_leftFrom 67 = .ok (.aload_n 0, 1) := by decide +kernel
theorem dX3_leftFrom_68 : decode cX3_leftFrom 68 = .ok (.getfield 15, 3) := by decide +kernel
theorem dX3_leftFrom_71 : decode cX3_leftFrom 71 = .ok (.iload 8, 2) := by decide +kernel
theorem dX3_leftFrom_73 : decode cX3_leftFrom 73 = .ok (.iconst 1, 1) := by decide +kernel
theorem dX3_leftFrom_74 : decode cX3_leftFrom 74 = .ok (.iadd, 1) := by decide +kernel
theorem dX3_leftFrom_75 : decode cX3_leftFrom 75 = .ok (.bipush 7, 2) := by decide +kernel
theorem dX3_leftFrom_77 : decode cX3_leftFrom 77 = .ok (.imul, 1) := by decide +kernel
theorem dX3_leftFrom_78 : decode cX3_leftFrom 78 = .ok (.iload_n 3, 1) := by decide +kernel
theorem dX3_leftFrom_79 : decode cX3_leftFrom 79 = .ok (.iadd, 1) := by decide +kernel
theorem dX3_leftFrom_80 : decode cX3_leftFrom 80 = .ok (.iload 8, 2) := by decide +kernel
theorem dX3_leftFrom_82 : decode cX3_leftFrom 82 = .ok (.iload_n 2, 1) := by decide +kernel
theorem dX3_leftFrom_83 : decode cX3_leftFrom 83 = .ok (.isub, 1) := by decide +kernel
theorem dX3_leftFrom_84 : decode cX3_leftFrom 84 = .ok (.isub, 1) := by decide +kernel
theorem dX3_leftFrom_85 : decode cX3_leftFrom 85 = .ok (.laload, 1) := by decide +kernel
theorem dX3_leftFrom_86 : decode cX3_leftFrom 86 = .ok (.ladd, 1) := by decide +kernel
theorem dX3_leftFrom_87 : decode cX3_leftFrom 87 = .ok (.lstore 5, 2) := by decide +kernel
theorem dX3_leftFrom_89 : decode cX3_leftFrom 89 = .ok (.iinc 7 1, 3) := by decide +kernel
theorem dX3_leftFrom_92 : decode cX3_leftFrom 92 = .ok (.goto (-60), 3) := by decide +kernel
theorem dX3_leftFrom_95 : decode cX3_leftFrom 95 = .ok (.lload 5, 2) := by decide +kernel
theorem dX3_leftFrom_97 : decode cX3_leftFrom 97 = .ok (.lreturn, 1) := by decide +kernel
theorem dX3_byGaining_0 : decode cX3_byGaining 0 = .ok (.aload_n 1, 1) := by decide +kernel
theorem dX3_byGaining_1 : decode cX3_byGaining 1 = .ok (.getfield 18, 3) := by decide +kernel
theorem dX3_byGaining_4 : decode cX3_byGaining 4 = .ok (.iload_n 2, 1) := by decide +kernel
theorem dX3_byGaining_5 : decode cX3_byGaining 5 = .ok (.iadd, 1) := by decide +kernel
theorem dX3_byGaining_6 : decode cX3_byGaining 6 = .ok (.istore 4, 2) := by decide +kernel
theorem dX3_byGaining_8 : decode cX3_byGaining 8 = .ok (.lconst 1, 1) := by decide +kernel
theorem dX3_byGaining_9 : decode cX3_byGaining 9 = .ok (.lstore 5, 2) := by decide +kernel
theorem dX3_byGaining_11 : decode cX3_byGaining 11 = .ok (.lconst 1, 1) := by decide +kernel
theorem dX3_byGaining_12 : decode cX3_byGaining 12 = .ok (.lstore 7, 2) := by decide +kernel
theorem dX3_byGaining_14 : decode cX3_byGaining 14 = .ok (.lconst 0, 1) := by decide +kernel
theorem dX3_byGaining_15 : decode cX3_byGaining 15 = .ok (.lstore 9, 2) := by decide +kernel
theorem dX3_byGaining_17 : decode cX3_byGaining 17 = .ok (.iconst 0, 1) := by decide +kernel
theorem dX3_byGaining_18 : decode cX3_byGaining 18 = .ok (.istore 11, 2) := by decide +kernel
theorem dX3_byGaining_20 : decode cX3_byGaining 20 = .ok (.iload 11, 2) := by decide +kernel
theorem dX3_byGaining_22 : decode cX3_byGaining 22 = .ok (.iload_n 2, 1) := by decide +kernel
theorem dX3_byGaining_23 : decode cX3_byGaining 23 = .ok (.if_icmp .gt 45, 3) := by decide +kernel
theorem dX3_byGaining_26 : decode cX3_byGaining 26 = .ok (.lload 9, 2) := by decide +kernel
theorem dX3_byGaining_28 : decode cX3_byGaining 28 = .ok (.lload 5, 2) := by decide +kernel
theorem dX3_byGaining_30 : decode cX3_byGaining 30 = .ok (.lload 7, 2) := by decide +kernel
theorem dX3_byGaining_32 : decode cX3_byGaining 32 = .ok (.lmul, 1) := by decide +kernel
theorem dX3_byGaining_33 : decode cX3_byGaining 33 = .ok (.ladd, 1) := by decide +kernel
theorem dX3_byGaining_34 : decode cX3_byGaining 34 = .ok (.lstore 9, 2) := by decide +kernel
theorem dX3_byGaining_36 : decode cX3_byGaining 36 = .ok (.lload 5, 2) := by decide +kernel
theorem dX3_byGaining_38 : decode cX3_byGaining 38 = .ok (.iload 4, 2) := by decide +kernel
theorem dX3_byGaining_40 : decode cX3_byGaining 40 = .ok (.iload 11, 2) := by decide +kernel
theorem dX3_byGaining_42 : decode cX3_byGaining 42 = .ok (.isub, 1) := by decide +kernel
theorem dX3_byGaining_43 : decode cX3_byGaining 43 = .ok (.i2l, 1) := by decide +kernel
theorem dX3_byGaining_44 : decode cX3_byGaining 44 = .ok (.lmul, 1) := by decide +kernel
theorem dX3_byGaining_45 : decode cX3_byGaining 45 = .ok (.iload 11, 2) := by decide +kernel
theorem dX3_byGaining_47 : decode cX3_byGaining 47 = .ok (.iconst 1, 1) := by decide +kernel
theorem dX3_byGaining_48 : decode cX3_byGaining 48 = .ok (.iadd, 1) := by decide +kernel
theorem dX3_byGaining_49 : decode cX3_byGaining 49 = .ok (.i2l, 1) := by decide +kernel
theorem dX3_byGaining_50 : decode cX3_byGaining 50 = .ok (.ldiv, 1) := by decide +kernel
theorem dX3_byGaining_51 : decode cX3_byGaining 51 = .ok (.lstore 5, 2) := by decide +kernel
theorem dX3_byGaining_53 : decode cX3_byGaining 53 = .ok (.lload 7, 2) := by decide +kernel
theorem dX3_byGaining_55 : decode cX3_byGaining 55 = .ok (.iload_n 3, 1) := by decide +kernel
theorem dX3_byGaining_56 : decode cX3_byGaining 56 = .ok (.iconst 1, 1) := by decide +kernel
theorem dX3_byGaining_57 : decode cX3_byGaining 57 = .ok (.isub, 1) := by decide +kernel
theorem dX3_byGaining_58 : decode cX3_byGaining 58 = .ok (.i2l, 1) := by decide +kernel
theorem dX3_byGaining_59 : decode cX3_byGaining 59 = .ok (.lmul, 1) := by decide +kernel
theorem dX3_byGaining_60 : decode cX3_byGaining 60 = .ok (.lstore 7, 2) := by decide +kernel
theorem dX3_byGaining_62 : decode cX3_byGaining 62 = .ok (.iinc 11 1, 3) := by decide +kernel
theorem dX3_byGaining_65 : decode cX3_byGaining 65 = .ok (.goto (-45), 3) := by decide +kernel
theorem dX3_byGaining_68 : decode cX3_byGaining 68 = .ok (.lload 9, 2) := by decide +kernel
theorem dX3_byGaining_70 : decode cX3_byGaining 70 = .ok (.lreturn, 1) := by decide +kernel
theorem dX4_init_0 : decode cX4_init 0 = .ok (.aload_n 0, 1) := by decide +kernel
theorem dX4_init_1 : decode cX4_init 1 = .ok (.invokespecial 3, 3) := by decide +kernel
theorem dX4_init_4 : decode cX4_init 4 = .ok (.return_, 1) := by decide +kernel
theorem dX4_clear_0 : decode cX4_clear 0 = .ok (.aload_n 0, 1) := by decide +kernel
theorem dX4_clear_1 : decode cX4_clear 1 = .ok (.iconst 0, 1) := by decide +kernel
theorem dX4_clear_2 : decode cX4_clear 2 = .ok (.lconst 0, 1) := by decide +kernel
theorem dX4_clear_3 : decode cX4_clear 3 = .ok (.invokevirtual 9, 3) := by decide +kernel
theorem dX4_clear_6 : decode cX4_clear 6 = .ok (.return_, 1) := by decide +kernel
theorem dX4_put_0 : decode cX4_put 0 = .ok (.aload_n 0, 1) := by decide +kernel
theorem dX4_put_1 : decode cX4_put 1 = .ok (.iload_n 1, 1) := by decide +kernel
theorem dX4_put_2 : decode cX4_put 2 = .ok (.putfield 15, 3) := by decide +kernel
theorem dX4_put_5 : decode cX4_put 5 = .ok (.aload_n 0, 1) := by decide +kernel
theorem dX4_put_6 : decode cX4_put 6 = .ok (.lload_n 2, 1) := by decide +kernel
theorem dX4_put_7 : decode cX4_put 7 = .ok (.putfield 19, 3) := by decide +kernel
theorem dX4_put_10 : decode cX4_put 10 = .ok (.return_, 1) := by decide +kernel
theorem dX4_become_0 : decode cX4_become 0 = .ok (.aload_n 0, 1) := by decide +kernel
theorem dX4_become_1 : decode cX4_become 1 = .ok (.aload_n 1, 1) := by decide +kernel
theorem dX4_become_2 : decode cX4_become 2 = .ok (.getfield 15, 3) := by decide +kernel
theorem dX4_become_5 : decode cX4_become 5 = .ok (.aload_n 1, 1) := by decide +kernel
theorem dX4_become_6 : decode cX4_become 6 = .ok (.getfield 19, 3) := by decide +kernel
theorem dX4_become_9 : decode cX4_become 9 = .ok (.invokevirtual 9, 3) := by decide +kernel
theorem dX4_become_12 : decode cX4_become 12 = .ok (.return_, 1) := by decide +kernel
theorem dX4_isFull_0 : decode cX4_isFull 0 = .ok (.aload_n 0, 1) := by decide +kernel
theorem dX4_isFull_1 : decode cX4_isFull 1 = .ok (.getfield 15, 3) := by decide +kernel
theorem dX4_isFull_4 : decode cX4_isFull 4 = .ok (.bipush 24, 2) := by decide +kernel
theorem dX4_isFull_6 : decode cX4_isFull 6 = .ok (.if_icmp .lt 7, 3) := by decide +kernel
theorem dX4_isFull_9 : decode cX4_isFull 9 = .ok (.iconst 1, 1) := by decide +kernel
theorem dX4_isFull_10 : decode cX4_isFull 10 = .ok (.goto 4, 3) := by decide +kernel
theorem dX4_isFull_13 : decode cX4_isFull 13 = .ok (.iconst 0, 1) := by decide +kernel
theorem dX4_isFull_14 : decode cX4_isFull 14 = .ok (.ireturn, 1) := by decide +kernel
theorem dX4_letter_0 : decode cX4_letter 0 = .ok (.aload_n 0, 1) := by decide +kernel
theorem dX4_letter_1 : decode cX4_letter 1 = .ok (.getfield 19, 3) := by decide +kernel
theorem dX4_letter_4 : decode cX4_letter 4 = .ok (.iconst 2, 1) := by decide +kernel
theorem dX4_letter_5 : decode cX4_letter 5 = .ok (.iload_n 1, 1) := by decide +kernel
theorem dX4_letter_6 : decode cX4_letter 6 = .ok (.imul, 1) := by decide +kernel
theorem dX4_letter_7 : decode cX4_letter 7 = .ok (.lushr, 1) := by decide +kernel
theorem dX4_letter_8 : decode cX4_letter 8 = .ok (.l2i, 1) := by decide +kernel
theorem dX4_letter_9 : decode cX4_letter 9 = .ok (.iconst 3, 1) := by decide +kernel
theorem dX4_letter_10 : decode cX4_letter 10 = .ok (.iand, 1) := by decide +kernel
theorem dX4_letter_11 : decode cX4_letter 11 = .ok (.ireturn, 1) := by decide +kernel
theorem dX4_turn_0 : decode cX4_turn 0 = .ok (.aload_n 0, 1) := by decide +kernel
theorem dX4_turn_1 : decode cX4_turn 1 = .ok (.aload_n 0, 1) := by decide +kernel
theorem dX4_turn_2 : decode cX4_turn 2 = .ok (.getfield 19, 3) := by decide +kernel
theorem dX4_turn_5 : decode cX4_turn 5 = .ok (.ldc2_w 23, 3) := by decide +kernel
theorem dX4_turn_8 : decode cX4_turn 8 = .ok (.iconst 2, 1) := by decide +kernel
theorem dX4_turn_9 : decode cX4_turn 9 = .ok (.iload_n 1, 1) := by decide +kernel
theorem dX4_turn_10 : decode cX4_turn 10 = .ok (.imul, 1) := by decide +kernel
theorem dX4_turn_11 : decode cX4_turn 11 = .ok (.lshl, 1) := by decide +kernel
theorem dX4_turn_12 : decode cX4_turn 12 = .ok (.ldc2_w 25, 3) := by decide +kernel
theorem dX4_turn_15 : decode cX4_turn 15 = .ok (.lxor, 1) := by decide +kernel
theorem dX4_turn_16 : decode cX4_turn 16 = .ok (.land, 1) := by decide +kernel
theorem dX4_turn_17 : decode cX4_turn 17 = .ok (.iload_n 2, 1) := by decide +kernel
theorem dX4_turn_18 : decode cX4_turn 18 = .ok (.i2l, 1) := by decide +kernel
theorem dX4_turn_19 : decode cX4_turn 19 = .ok (.iconst 2, 1) := by decide +kernel
theorem dX4_turn_20 : decode cX4_turn 20 = .ok (.iload_n 1, 1) := by decide +kernel
theorem dX4_turn_21 : decode cX4_turn 21 = .ok (.imul, 1) := by decide +kernel
theorem dX4_turn_22 : decode cX4_turn 22 = .ok (.lshl, 1) := by decide +kernel
theorem dX4_turn_23 : decode cX4_turn 23 = .ok (.lor, 1) := by decide +kernel
theorem dX4_turn_24 : decode cX4_turn 24 = .ok (.putfield 19, 3) := by decide +kernel
theorem dX4_turn_27 : decode cX4_turn 27 = .ok (.return_, 1) := by decide +kernel
theorem dX4_lose_0 : decode cX4_lose 0 = .ok (.aload_n 0, 1) := by decide +kernel
theorem dX4_lose_1 : decode cX4_lose 1 = .ok (.aload_n 0, 1) := by decide +kernel
theorem dX4_lose_2 : decode cX4_lose 2 = .ok (.iload_n 1, 1) := by decide +kernel
theorem dX4_lose_3 : decode cX4_lose 3 = .ok (.invokevirtual 27, 3) := by decide +kernel
theorem dX4_lose_6 : decode cX4_lose 6 = .ok (.aload_n 0, 1) := by decide +kernel
theorem dX4_lose_7 : decode cX4_lose 7 = .ok (.getfield 19, 3) := by decide +kernel
theorem dX4_lose_10 : decode cX4_lose 10 = .ok (.iconst 2, 1) := by decide +kernel
theorem dX4_lose_11 : decode cX4_lose 11 = .ok (.iload_n 1, 1) := by decide +kernel
theorem dX4_lose_12 : decode cX4_lose 12 = .ok (.imul, 1) := by decide +kernel
theorem dX4_lose_13 : decode cX4_lose 13 = .ok (.iconst 2, 1) := by decide +kernel
theorem dX4_lose_14 : decode cX4_lose 14 = .ok (.iadd, 1) := by decide +kernel
theorem dX4_lose_15 : decode cX4_lose 15 = .ok (.lushr, 1) := by decide +kernel
theorem dX4_lose_16 : decode cX4_lose 16 = .ok (.iconst 2, 1) := by decide +kernel
theorem dX4_lose_17 : decode cX4_lose 17 = .ok (.iload_n 1, 1) := by decide +kernel
theorem dX4_lose_18 : decode cX4_lose 18 = .ok (.imul, 1) := by decide +kernel
theorem dX4_lose_19 : decode cX4_lose 19 = .ok (.lshl, 1) := by decide +kernel
theorem dX4_lose_20 : decode cX4_lose 20 = .ok (.lor, 1) := by decide +kernel
theorem dX4_lose_21 : decode cX4_lose 21 = .ok (.putfield 19, 3) := by decide +kernel
theorem dX4_lose_24 : decode cX4_lose 24 = .ok (.aload_n 0, 1) := by decide +kernel
theorem dX4_lose_25 : decode cX4_lose 25 = .ok (.dup, 1) := by decide +kernel
theorem dX4_lose_26 : decode cX4_lose 26 = .ok (.getfield 15, 3) := by decide +kernel
theorem dX4_lose_29 : decode cX4_lose 29 = .ok (.iconst 1, 1) := by decide +kernel
theorem dX4_lose_30 : decode cX4_lose 30 = .ok (.isub, 1) := by decide +kernel
theorem dX4_lose_31 : decode cX4_lose 31 = .ok (.putfield 15, 3) := by decide +kernel
theorem dX4_lose_34 : decode cX4_lose 34 = .ok (.return_, 1) := by decide +kernel
theorem dX4_gain_0 : decode cX4_gain 0 = .ok (.aload_n 0, 1) := by decide +kernel
theorem dX4_gain_1 : decode cX4_gain 1 = .ok (.aload_n 0, 1) := by decide +kernel
theorem dX4_gain_2 : decode cX4_gain 2 = .ok (.iload_n 1, 1) := by decide +kernel
theorem dX4_gain_3 : decode cX4_gain 3 = .ok (.invokevirtual 27, 3) := by decide +kernel
theorem dX4_gain_6 : decode cX4_gain 6 = .ok (.iload_n 2, 1) := by decide +kernel
theorem dX4_gain_7 : decode cX4_gain 7 = .ok (.i2l, 1) := by decide +kernel
theorem dX4_gain_8 : decode cX4_gain 8 = .ok (.iconst 2, 1) := by decide +kernel
theorem dX4_gain_9 : decode cX4_gain 9 = .ok (.iload_n 1, 1) := by decide +kernel
theorem dX4_gain_10 : decode cX4_gain 10 = .ok (.imul, 1) := by decide +kernel
theorem dX4_gain_11 : decode cX4_gain 11 = .ok (.lshl, 1) := by decide +kernel
theorem dX4_gain_12 : decode cX4_gain 12 = .ok (.lor, 1) := by decide +kernel
theorem dX4_gain_13 : decode cX4_gain 13 = .ok (.aload_n 0, 1) := by decide +kernel
theorem dX4_gain_14 : decode cX4_gain 14 = .ok (.getfield 19, 3) := by decide +kernel
theorem dX4_gain_17 : decode cX4_gain 17 = .ok (.iconst 2, 1) := by decide +kernel
theorem dX4_gain_18 : decode cX4_gain 18 = .ok (.iload_n 1, 1) := by decide +kernel
theorem dX4_gain_19 : decode cX4_gain 19 = .ok (.imul, 1) := by decide +kernel
theorem dX4_gain_20 : decode cX4_gain 20 = .ok (.lushr, 1) := by decide +kernel
theorem dX4_gain_21 : decode cX4_gain 21 = .ok (.iconst 2, 1) := by decide +kernel
theorem dX4_gain_22 : decode cX4_gain 22 = .ok (.iload_n 1, 1) := by decide +kernel
theorem dX4_gain_23 : decode cX4_gain 23 = .ok (.imul, 1) := by decide +kernel
theorem dX4_gain_24 : decode cX4_gain 24 = .ok (.iconst 2, 1) := by decide +kernel
theorem dX4_gain_25 : decode cX4_gain 25 = .ok (.iadd, 1) := by decide +kernel
theorem dX4_gain_26 : decode cX4_gain 26 = .ok (.lshl, 1) := by decide +kernel
theorem dX4_gain_27 : decode cX4_gain 27 = .ok (.lor, 1) := by decide +kernel
theorem dX4_gain_28 : decode cX4_gain 28 = .ok (.putfield 19, 3) := by decide +kernel
theorem dX4_gain_31 : decode cX4_gain 31 = .ok (.aload_n 0, 1) := by decide +kernel
theorem dX4_gain_32 : decode cX4_gain 32 = .ok (.dup, 1) := by decide +kernel
theorem dX4_gain_33 : decode cX4_gain 33 = .ok (.getfield 15, 3) := by decide +kernel
theorem dX4_gain_36 : decode cX4_gain 36 = .ok (.iconst 1, 1) := by decide +kernel
theorem dX4_gain_37 : decode cX4_gain 37 = .ok (.iadd, 1) := by decide +kernel
theorem dX4_gain_38 : decode cX4_gain 38 = .ok (.putfield 15, 3) := by decide +kernel
theorem dX4_gain_41 : decode cX4_gain 41 = .ok (.return_, 1) := by decide +kernel
theorem dX4_append_0 : decode cX4_append 0 = .ok (.aload_n 0, 1) := by decide +kernel
theorem dX4_append_1 : decode cX4_append 1 = .ok (.aload_n 0, 1) := by decide +kernel
theorem dX4_append_2 : decode cX4_append 2 = .ok (.getfield 15, 3) := by decide +kernel
theorem dX4_append_5 : decode cX4_append 5 = .ok (.iload_n 1, 1) := by decide +kernel
theorem dX4_append_6 : decode cX4_append 6 = .ok (.invokevirtual 31, 3) := by decide +kernel
theorem dX4_append_9 : decode cX4_append 9 = .ok (.return_, 1) := by decide +kernel
theorem dX4_ahead_0 : decode cX4_ahead 0 = .ok (.aload_n 0, 1) := by decide +kernel
theorem dX4_ahead_1 : decode cX4_ahead 1 = .ok (.getfield 19, 3) := by decide +kernel
theorem dX4_ahead_4 : decode cX4_ahead 4 = .ok (.lconst 1, 1) := by decide +kernel
theorem dX4_ahead_5 : decode cX4_ahead 5 = .ok (.iconst 2, 1) := by decide +kernel
theorem dX4_ahead_6 : decode cX4_ahead 6 = .ok (.iload_n 1, 1) := by decide +kernel
theorem dX4_ahead_7 : decode cX4_ahead 7 = .ok (.imul, 1) := by decide +kernel
theorem dX4_ahead_8 : decode cX4_ahead 8 = .ok (.lshl, 1) := by decide +kernel
theorem dX4_ahead_9 : decode cX4_ahead 9 = .ok (.lconst 1, 1) := by decide +kernel
theorem dX4_ahead_10 : decode cX4_ahead 10 = .ok (.lsub, 1) := by decide +kernel
theorem dX4_ahead_11 : decode cX4_ahead 11 = .ok (.land, 1) := by decide +kernel
theorem dX4_ahead_12 : decode cX4_ahead 12 = .ok (.lreturn, 1) := by decide +kernel
theorem dX4_next_0 : decode cX4_next 0 = .ok (.iload_n 2, 1) := by decide +kernel
theorem dX4_next_1 : decode cX4_next 1 = .ok (.istore_n 3, 1) := by decide +kernel
theorem dX4_next_2 : decode cX4_next 2 = .ok (.iload_n 3, 1) := by decide +kernel
theorem dX4_next_3 : decode cX4_next 3 = .ok (.aload_n 0, 1) := by decide +kernel
theorem dX4_next_4 : decode cX4_next 4 = .ok (.getfield 15, 3) := by decide +kernel
theorem dX4_next_7 : decode cX4_next 7 = .ok (.if_icmp .ge 18, 3) := by decide +kernel
theorem dX4_next_10 : decode cX4_next 10 = .ok (.aload_n 0, 1) := by decide +kernel
theorem dX4_next_11 : decode cX4_next 11 = .ok (.iload_n 3, 1) := by decide +kernel
theorem dX4_next_12 : decode cX4_next 12 = .ok (.invokevirtual 35, 3) := by decide +kernel
theorem dX4_next_15 : decode cX4_next 15 = .ok (.iload_n 1, 1) := by decide +kernel
theorem dX4_next_16 : decode cX4_next 16 = .ok (.if_icmp .eq 9, 3) := by decide +kernel
theorem dX4_next_19 : decode cX4_next 19 = .ok (.iinc 3 1, 3) := by decide +kernel
theorem dX4_next_22 : decode cX4_next 22 = .ok (.goto (-20), 3) := by decide +kernel
theorem dX4_next_25 : decode cX4_next 25 = .ok (.iload_n 3, 1) := by decide +kernel
theorem dX4_next_26 : decode cX4_next 26 = .ok (.ireturn, 1) := by decide +kernel
theorem dX5_init_0 : decode cX5_init 0 = .ok (.aload_n 0, 1) := by decide +kernel
theorem dX5_init_1 : decode cX5_init 1 = .ok (.invokespecial 3, 3) := by decide +kernel
theorem dX5_init_4 : decode cX5_init 4 = .ok (.aload_n 0, 1) := by decide +kernel
theorem dX5_init_5 : decode cX5_init 5 = .ok (.bipush 8, 2) := by decide +kernel
theorem dX5_init_7 : decode cX5_init 7 = .ok (.anewarray 9, 3) := by decide +kernel
theorem dX5_init_10 : decode cX5_init 10 = .ok (.putfield 11, 3) := by decide +kernel
theorem dX5_init_13 : decode cX5_init 13 = .ok (.iconst 0, 1) := by decide +kernel
theorem dX5_init_14 : decode cX5_init 14 = .ok (.istore_n 1, 1) := by decide +kernel
theorem dX5_init_15 : decode cX5_init 15 = .ok (.iload_n 1, 1) := by decide +kernel
theorem dX5_init_16 : decode cX5_init 16 = .ok (.bipush 8, 2) := by decide +kernel
theorem dX5_init_18 : decode cX5_init 18 = .ok (.if_icmp .ge 22, 3) := by decide +kernel
theorem dX5_init_21 : decode cX5_init 21 = .ok (.aload_n 0, 1) := by decide +kernel
theorem dX5_init_22 : decode cX5_init 22 = .ok (.getfield 11, 3) := by decide +kernel
theorem dX5_init_25 : decode cX5_init 25 = .ok (.iload_n 1, 1) := by decide +kernel
theorem dX5_init_26 : decode cX5_init 26 = .ok (.new 9, 3) := by decide +kernel
theorem dX5_init_29 : decode cX5_init 29 = .ok (.dup, 1) := by decide +kernel
theorem dX5_init_30 : decode cX5_init 30 = .ok (.invokespecial 17, 3) := by decide +kernel
theorem dX5_init_33 : decode cX5_init 33 = .ok (.aastore, 1) := by decide +kernel
theorem dX5_init_34 : decode cX5_init 34 = .ok (.iinc 1 1, 3) := by decide +kernel
theorem dX5_init_37 : decode cX5_init 37 = .ok (.goto (-22), 3) := by decide +kernel
theorem dX5_init_40 : decode cX5_init 40 = .ok (.aload_n 0, 1) := by decide +kernel
theorem dX5_init_41 : decode cX5_init 41 = .ok (.sipush 1352, 3) := by decide +kernel
theorem dX5_init_44 : decode cX5_init 44 = .ok (.newarray .int, 2) := by decide +kernel
theorem dX5_init_46 : decode cX5_init 46 = .ok (.putfield 18, 3) := by decide +kernel
theorem dX5_init_49 : decode cX5_init 49 = .ok (.aload_n 0, 1) := by decide +kernel
theorem dX5_init_50 : decode cX5_init 50 = .ok (.new 9, 3) := by decide +kernel
theorem dX5_init_53 : decode cX5_init 53 = .ok (.dup, 1) := by decide +kernel
theorem dX5_init_54 : decode cX5_init 54 = .ok (.invokespecial 17, 3) := by decide +kernel
theorem dX5_init_57 : decode cX5_init 57 = .ok (.putfield 22, 3) := by decide +kernel
theorem dX5_init_60 : decode cX5_init 60 = .ok (.aload_n 0, 1) := by decide +kernel
theorem dX5_init_61 : decode cX5_init 61 = .ok (.new 9, 3) := by decide +kernel
theorem dX5_init_64 : decode cX5_init 64 = .ok (.dup, 1) := by decide +kernel
theorem dX5_init_65 : decode cX5_init 65 = .ok (.invokespecial 17, 3) := by decide +kernel
theorem dX5_init_68 : decode cX5_init 68 = .ok (.putfield 26, 3) := by decide +kernel
theorem dX5_init_71 : decode cX5_init 71 = .ok (.return_, 1) := by decide +kernel
theorem dX5_keep_0 : decode cX5_keep 0 = .ok (.aload_n 0, 1) := by decide +kernel
theorem dX5_keep_1 : decode cX5_keep 1 = .ok (.getfield 11, 3) := by decide +kernel
theorem dX5_keep_4 : decode cX5_keep 4 = .ok (.aload_n 0, 1) := by decide +kernel
theorem dX5_keep_5 : decode cX5_keep 5 = .ok (.getfield 29, 3) := by decide +kernel
theorem dX5_keep_8 : decode cX5_keep 8 = .ok (.aaload, 1) := by decide +kernel
theorem dX5_keep_9 : decode cX5_keep 9 = .ok (.aload_n 1, 1) := by decide +kernel
theorem dX5_keep_10 : decode cX5_keep 10 = .ok (.invokevirtual 33, 3) := by decide +kernel
theorem dX5_keep_13 : decode cX5_keep 13 = .ok (.aload_n 0, 1) := by decide +kernel
theorem dX5_keep_14 : decode cX5_keep 14 = .ok (.dup, 1) := by decide +kernel
theorem dX5_keep_15 : decode cX5_keep 15 = .ok (.getfield 29, 3) := by decide +kernel
theorem dX5_keep_18 : decode cX5_keep 18 = .ok (.iconst 1, 1) := by decide +kernel
theorem dX5_keep_19 : decode cX5_keep 19 = .ok (.iadd, 1) := by decide +kernel
theorem dX5_keep_20 : decode cX5_keep 20 = .ok (.putfield 29, 3) := by decide +kernel
theorem dX5_keep_23 : decode cX5_keep 23 = .ok (.return_, 1) := by decide +kernel
theorem dX5_forget_0 : decode cX5_forget 0 = .ok (.aload_n 0, 1) := by decide +kernel
theorem dX5_forget_1 : decode cX5_forget 1 = .ok (.iconst 0, 1) := by decide +kernel
theorem dX5_forget_2 : decode cX5_forget 2 = .ok (.putfield 29, 3) := by decide +kernel
theorem dX5_forget_5 : decode cX5_forget 5 = .ok (.return_, 1) := by decide +kernel
theorem dX5_search_0 : decode cX5_search 0 = .ok (.aload_n 0, 1) := by decide +kernel
theorem dX5_search_1 : decode cX5_search 1 = .ok (.iload_n 1, 1) := by decide +kernel
theorem dX5_search_2 : decode cX5_search 2 = .ok (.putfield 37, 3) := by decide +kernel
theorem dX5_search_5 : decode cX5_search 5 = .ok (.aload_n 0, 1) := by decide +kernel
theorem dX5_search_6 : decode cX5_search 6 = .ok (.iload_n 2, 1) := by decide +kernel
theorem dX5_search_7 : decode cX5_search 7 = .ok (.putfield 40, 3) := by decide +kernel
theorem dX5_search_10 : decode cX5_search 10 = .ok (.aload_n 0, 1) := by decide +kernel
theorem dX5_search_11 : decode cX5_search 11 = .ok (.iconst 0, 1) := by decide +kernel
theorem dX5_search_12 : decode cX5_search 12 = .ok (.putfield 43, 3) := by decide +kernel
theorem dX5_search_15 : decode cX5_search 15 = .ok (.aload_n 0, 1) := by decide +kernel
theorem dX5_search_16 : decode cX5_search 16 = .ok (.lconst 0, 1) := by decide +kernel
theorem dX5_search_17 : decode cX5_search 17 = .ok (.putfield 46, 3) := by decide +kernel
theorem dX5_search_20 : decode cX5_search 20 = .ok (.aload_n 0, 1) := by decide +kernel
theorem dX5_search_21 : decode cX5_search 21 = .ok (.getfield 22, 3) := by decide +kernel
theorem dX5_search_24 : decode cX5_search 24 = .ok (.iload_n 2, 1) := by decide +kernel
theorem dX5_search_25 : decode cX5_search 25 = .ok (.lconst 0, 1) := by decide +kernel
theorem dX5_search_26 : decode cX5_search 26 = .ok (.invokevirtual 50, 3) := by decide +kernel
theorem dX5_search_29 : decode cX5_search 29 = .ok (.iconst 0, 1) := by decide +kernel
theorem dX5_search_30 : decode cX5_search 30 = .ok (.istore_n 3, 1) := by decide +kernel
theorem dX5_search_31 : decode cX5_search 31 = .ok (.iload_n 3, 1) := by decide +kernel
theorem dX5_search_32 : decode cX5_search 32 = .ok (.aload_n 0, 1) := by decide +kernel
theorem dX5_search_33 : decode cX5_search 33 = .ok (.getfield 29, 3) := by decide +kernel
theorem dX5_search_36 : decode cX5_search 36 = .ok (.if_icmp .ge 36, 3) := by decide +kernel
theorem dX5_search_39 : decode cX5_search 39 = .ok (.aload_n 0, 1) := by decide +kernel
theorem dX5_search_40 : decode cX5_search 40 = .ok (.getfield 11, 3) := by decide +kernel
theorem dX5_search_43 : decode cX5_search 43 = .ok (.iload_n 3, 1) := by decide +kernel
theorem dX5_search_44 : decode cX5_search 44 = .ok (.aaload, 1) := by decide +kernel
theorem dX5_search_45 : decode cX5_search 45 = .ok (.getfield 54, 3) := by decide +kernel
theorem dX5_search_48 : decode cX5_search 48 = .ok (.iload_n 2, 1) := by decide +kernel
theorem dX5_search_49 : decode cX5_search 49 = .ok (.if_icmp .le 5, 3) := by decide +kernel
theorem dX5_search_52 : decode cX5_search 52 = .ok (.iconst 0, 1) := by decide +kernel
theorem dX5_search_53 : decode cX5_search 53 = .ok (.ireturn, 1) := by decide +kernel
theorem dX5_search_54 : decode cX5_search 54 = .ok (.aload_n 0, 1) := by decide +kernel
theorem dX5_search_55 : decode cX5_search 55 = .ok (.getfield 18, 3) := by decide +kernel
theorem dX5_search_58 : decode cX5_search 58 = .ok (.iconst 0, 1) := by decide +kernel
theorem dX5_search_59 : decode cX5_search 59 = .ok (.iload_n 3, 1) := by decide +kernel
theorem dX5_search_60 : decode cX5_search 60 = .ok (.iconst 0, 1) := by decide +kernel
theorem dX5_search_61 : decode cX5_search 61 = .ok (.invokestatic 55, 3) := by decide +kernel
theorem dX5_search_64 : decode cX5_search 64 = .ok (.iconst 1, 1) := by decide +kernel
theorem dX5_search_65 : decode cX5_search 65 = .ok (.iastore, 1) := by decide +kernel
theorem dX5_search_66 : decode cX5_search 66 = .ok (.iinc 3 1, 3) := by decide +kernel
theorem dX5_search_69 : decode cX5_search 69 = .ok (.goto (-38), 3) := by decide +kernel
theorem dX5_search_72 : decode cX5_search 72 = .ok (.aload_n 0, 1) := by decide +kernel
theorem dX5_search_73 : decode cX5_search 73 = .ok (.iconst 0, 1) := by decide +kernel
theorem dX5_search_74 : decode cX5_search 74 = .ok (.invokevirtual 59, 3) := by decide +kernel
theorem dX5_search_77 : decode cX5_search 77 = .ok (.aload_n 0, 1) := by decide +kernel
theorem dX5_search_78 : decode cX5_search 78 = .ok (.getfield 43, 3) := by decide +kernel
theorem dX5_search_81 : decode cX5_search 81 = .ok (.ireturn, 1) := by decide +kernel
theorem dX5_cell_0 : decode cX5_cell 0 = .ok (.iload_n 0, 1) := by decide +kernel
theorem dX5_cell_1 : decode cX5_cell 1 = .ok (.bipush 8, 2) := by decide +kernel
theorem dX5_cell_3 : decode cX5_cell 3 = .ok (.imul, 1) := by decide +kernel
theorem dX5_cell_4 : decode cX5_cell 4 = .ok (.iload_n 1, 1) := by decide +kernel
theorem dX5_cell_5 : decode cX5_cell 5 = .ok (.iadd, 1) := by decide +kernel
theorem dX5_cell_6 : decode cX5_cell 6 = .ok (.bipush 13, 2) := by decide +kernel
theorem dX5_cell_8 : decode cX5_cell 8 = .ok (.imul, 1) := by decide +kernel
theorem dX5_cell_9 : decode cX5_cell 9 = .ok (.iload_n 2, 1) := by decide +kernel
theorem dX5_cell_10 : decode cX5_cell 10 = .ok (.iadd, 1) := by decide +kernel
theorem dX5_cell_11 : decode cX5_cell 11 = .ok (.ireturn, 1) := by decide +kernel
theorem dX5_explore_0 : decode cX5_explore 0 = .ok (.iload_n 1, 1) := by decide +kernel
theorem dX5_explore_1 : decode cX5_explore 1 = .ok (.aload_n 0, 1) := by decide +kernel
theorem dX5_explore_2 : decode cX5_explore 2 = .ok (.getfield 40, 3) := by decide +kernel
theorem dX5_explore_5 : decode cX5_explore 5 = .ok (.if_icmp .lt 8, 3) := by decide +kernel
theorem dX5_explore_8 : decode cX5_explore 8 = .ok (.aload_n 0, 1) := by decide +kernel
theorem dX5_explore_9 : decode cX5_explore 9 = .ok (.invokevirtual 63, 3) := by decide +kernel
theorem dX5_explore_12 : decode cX5_explore 12 = .ok (.return_, 1) := by decide +kernel
theorem dX5_explore_13 : decode cX5_explore 13 = .ok (.iconst 0, 1) := by decide +kernel
theorem dX5_explore_14 : decode cX5_explore 14 = .ok (.istore_n 2, 1) := by decide +kernel
theorem dX5_explore_15 : decode cX5_explore 15 = .ok (.iload_n 2, 1) := by decide +kernel
theorem dX5_explore_16 : decode cX5_explore 16 = .ok (.aload_n 0, 1) := by decide +kernel
theorem dX5_explore_17 : decode cX5_explore 17 = .ok (.getfield 37, 3) := by decide +kernel
theorem dX5_explore_20 : decode cX5_explore 20 = .ok (.if_icmp .ge 34, 3) := by decide +kernel
theorem dX5_explore_23 : decode cX5_explore 23 = .ok (.aload_n 0, 1) := by decide +kernel
theorem dX5_explore_24 : decode cX5_explore 24 = .ok (.iload_n 1, 1) := by decide +kernel
theorem dX5_explore_25 : decode cX5_explore 25 = .ok (.iload_n 2, 1) := by decide +kernel
theorem dX5_explore_26 : decode cX5_explore 26 = .ok (.invokevirtual 66, 3) := by decide +kernel
theorem dX5_explore_29 : decode cX5_explore 29 = .ok (.ifCond .eq 19, 3) := by decide +kernel
theorem dX5_explore_32 : decode cX5_explore 32 = .ok (.aload_n 0, 1) := by decide +kernel
theorem dX5_explore_33 : decode cX5_explore 33 = .ok (.getfield 22, 3) := by decide +kernel
theorem dX5_explore_36 : decode cX5_explore 36 = .ok (.iload_n 1, 1) := by decide +kernel
theorem dX5_explore_37 : decode cX5_explore 37 = .ok (.iload_n 2, 1) := by decide +kernel
theorem dX5_explore_38 : decode cX5_explore 38 = .ok (.invokevirtual 70, 3) := by decide +kernel
theorem dX5_explore_41 : decode cX5_explore 41 = .ok (.aload_n 0, 1) := by decide +kernel
theorem dX5_explore_42 : decode cX5_explore 42 = .ok (.iload_n 1, 1) := by decide +kernel
theorem dX5_explore_43 : decode cX5_explore 43 = .ok (.iconst 1, 1) := by decide +kernel
theorem dX5_explore_44 : decode cX5_explore 44 = .ok (.iadd, 1) := by decide +kernel
theorem dX5_explore_45 : decode cX5_explore 45 = .ok (.invokevirtual 59, 3) := by decide +kernel
theorem dX5_explore_48 : decode cX5_explore 48 = .ok (.iinc 2 1, 3) := by decide +kernel
theorem dX5_explore_51 : decode cX5_explore 51 = .ok (.goto (-36), 3) := by decide +kernel
theorem dX5_explore_54 : decode cX5_explore 54 = .ok (.return_, 1) := by decide +kernel
theorem dX5_allFollow_0 : decode cX5_allFollow 0 = .ok (.iconst 0, 1) := by decide +kernel
theorem dX5_allFollow_1 : decode cX5_allFollow 1 = .ok (.istore_n 3, 1) := by decide +kernel
theorem dX5_allFollow_2 : decode cX5_allFollow 2 = .ok (.iload_n 3, 1) := by decide +kernel
theorem dX5_allFollow_3 : decode cX5_allFollow 3 = .ok (.aload_n 0, 1) := by decide +kernel
theorem dX5_allFollow_4 : decode cX5_allFollow 4 = .ok (.getfield 29, 3) := by decide +kernel
theorem dX5_allFollow_7 : decode cX5_allFollow 7 = .ok (.if_icmp .ge 21, 3) := by decide +kernel
theorem dX5_allFollow_10 : decode cX5_allFollow 10 = .ok (.aload_n 0, 1) := by decide +kernel
theorem dX5_allFollow_11 : decode cX5_allFollow 11 = .ok (.iload_n 3, 1) := by decide +kernel
theorem dX5_allFollow_12 : decode cX5_allFollow 12 = .ok (.iload_n 1, 1) := by decide +kernel
theorem dX5_allFollow_13 : decode cX5_allFollow 13 = .ok (.iload_n 2, 1) := by decide +kernel
theorem dX5_allFollow_14 : decode cX5_allFollow 14 = .ok (.invokevirtual 74, 3) := by decide +kernel
theorem dX5_allFollow_17 : decode cX5_allFollow 17 = .ok (.ifCond .ne 5, 3) := by decide +kernel
theorem dX5_allFollow_20 : decode cX5_allFollow 20 = .ok (.iconst 0, 1) := by decide +kernel
theorem dX5_allFollow_21 : decode cX5_allFollow 21 = .ok (.ireturn, 1) := by decide +kernel
theorem dX5_allFollow_22 : decode cX5_allFollow 22 = .ok (.iinc 3 1, 3) := by decide +kernel
theorem dX5_allFollow_25 : decode cX5_allFollow 25 = .ok (.goto (-23), 3) := by decide +kernel
theorem dX5_allFollow_28 : decode cX5_allFollow 28 = .ok (.iconst 1, 1) := by decide +kernel
theorem dX5_allFollow_29 : decode cX5_allFollow 29 = .ok (.ireturn, 1) := by decide +kernel
theorem dX5_follows_0 : decode cX5_follows 0 = .ok (.aload_n 0, 1) := by decide +kernel
theorem dX5_follows_1 : decode cX5_follows 1 = .ok (.getfield 11, 3) := by decide +kernel
theorem dX5_follows_4 : decode cX5_follows 4 = .ok (.iload_n 1, 1) := by decide +kernel
theorem dX5_follows_5 : decode cX5_follows 5 = .ok (.aaload, 1) := by decide +kernel
theorem dX5_follows_6 : decode cX5_follows 6 = .ok (.astore 4, 2) := by decide +kernel
theorem dX5_follows_8 : decode cX5_follows 8 = .ok (.iconst 0, 1) := by decide +kernel
theorem dX5_follows_9 : decode cX5_follows 9 = .ok (.aload 4, 2) := by decide +kernel
theorem dX5_follows_11 : decode cX5_follows 11 = .ok (.getfield 54, 3) := by decide +kernel
theorem dX5_follows_14 : decode cX5_follows 14 = .ok (.aload_n 0, 1) := by decide +kernel
theorem dX5_follows_15 : decode cX5_follows 15 = .ok (.getfield 40, 3) := by decide +kernel
theorem dX5_follows_18 : decode cX5_follows 18 = .ok (.iload_n 2, 1) := by decide +kernel
theorem dX5_follows_19 : decode cX5_follows 19 = .ok (.isub, 1) := by decide +kernel
theorem dX5_follows_20 : decode cX5_follows 20 = .ok (.iconst 1, 1) := by decide +kernel
theorem dX5_follows_21 : decode cX5_follows 21 = .ok (.isub, 1) := by decide +kernel
theorem dX5_follows_22 : decode cX5_follows 22 = .ok (.isub, 1) := by decide +kernel
theorem dX5_follows_23 : decode cX5_follows 23 = .ok (.invokestatic 78, 3) := by decide +kernel
theorem dX5_follows_26 : decode cX5_follows 26 = .ok (.istore 5, 2) := by decide +kernel
theorem dX5_follows_28 : decode cX5_follows 28 = .ok (.aload 4, 2) := by decide +kernel
theorem dX5_follows_30 : decode cX5_follows 30 = .ok (.getfield 54, 3) := by decide +kernel
theorem dX5_follows_33 : decode cX5_follows 33 = .ok (.iload_n 2, 1) := by decide +kernel
theorem dX5_follows_34 : decode cX5_follows 34 = .ok (.iconst 1, 1) := by decide +kernel
theorem dX5_follows_35 : decode cX5_follows 35 = .ok (.iadd, 1) := by decide +kernel
theorem dX5_follows_36 : decode cX5_follows 36 = .ok (.invokestatic 84, 3) := by decide +kernel
theorem dX5_follows_39 : decode cX5_follows 39 = .ok (.istore 6, 2) := by decide +kernel
theorem dX5_follows_41 : decode cX5_follows 41 = .ok (.iload_n 2, 1) := by decide +kernel
theorem dX5_follows_42 : decode cX5_follows 42 = .ok (.iload_n 1, 1) := by decide +kernel
theorem dX5_follows_43 : decode cX5_follows 43 = .ok (.iconst 0, 1) := by decide +kernel
theorem dX5_follows_44 : decode cX5_follows 44 = .ok (.invokestatic 55, 3) := by decide +kernel
theorem dX5_follows_47 : decode cX5_follows 47 = .ok (.istore 7, 2) := by decide +kernel
theorem dX5_follows_49 : decode cX5_follows 49 = .ok (.iload_n 2, 1) := by decide +kernel
theorem dX5_follows_50 : decode cX5_follows 50 = .ok (.iconst 1, 1) := by decide +kernel
theorem dX5_follows_51 : decode cX5_follows 51 = .ok (.iadd, 1) := by decide +kernel
theorem dX5_follows_52 : decode cX5_follows 52 = .ok (.iload_n 1, 1) := by decide +kernel
theorem dX5_follows_53 : decode cX5_follows 53 = .ok (.iconst 0, 1) := by decide +kernel
theorem dX5_follows_54 : decode cX5_follows 54 = .ok (.invokestatic 55, 3) := by decide +kernel
theorem dX5_follows_57 : decode cX5_follows 57 = .ok (.istore 8, 2) := by decide +kernel
theorem dX5_follows_59 : decode cX5_follows 59 = .ok (.iload 5, 2) := by decide +kernel
theorem dX5_follows_61 : decode cX5_follows 61 = .ok (.istore 9, 2) := by decide +kernel
theorem dX5_follows_63 : decode cX5_follows 63 = .ok (.iload 9, 2) := by decide +kernel
theorem dX5_follows_65 : decode cX5_follows 65 = .ok (.iload 6, 2) := by decide +kernel
theorem dX5_follows_67 : decode cX5_follows 67 = .ok (.if_icmp .gt 78, 3) := by decide +kernel
theorem dX5_follows_70 : decode cX5_follows 70 = .ok (.iload 9, 2) := by decide +kernel
theorem dX5_follows_72 : decode cX5_follows 72 = .ok (.iload_n 2, 1) := by decide +kernel
theorem dX5_follows_73 : decode cX5_follows 73 = .ok (.if_icmp .gt 16, 3) := by decide +kernel
theorem dX5_follows_76 : decode cX5_follows 76 = .ok (.aload_n 0, 1) := by decide +kernel
theorem dX5_follows_77 : decode cX5_follows 77 = .ok (.getfield 18, 3) := by decide +kernel
theorem dX5_follows_80 : decode cX5_follows 80 = .ok (.iload 7, 2) := by decide +kernel
theorem dX5_follows_82 : decode cX5_follows 82 = .ok (.iload 9, 2) := by decide +kernel
theorem dX5_follows_84 : decode cX5_follows 84 = .ok (.iadd, 1) := by decide +kernel
theorem dX5_follows_85 : decode cX5_follows 85 = .ok (.iaload, 1) := by decide +kernel
theorem dX5_follows_86 : decode cX5_follows 86 = .ok (.goto 4, 3) := by decide +kernel
theorem dX5_follows_89 : decode cX5_follows 89 = .ok (.iconst 0, 1) := by decide +kernel
theorem dX5_follows_90 : decode cX5_follows 90 = .ok (.istore 10, 2) := by decide +kernel
theorem dX5_follows_92 : decode cX5_follows 92 = .ok (.iload 9, 2) := by decide +kernel
theorem dX5_follows_94 : decode cX5_follows 94 = .ok (.ifCond .le 33, 3) := by decide +kernel
theorem dX5_follows_97 : decode cX5_follows 97 = .ok (.aload 4, 2) := by decide +kernel
theorem dX5_follows_99 : decode cX5_follows 99 = .ok (.iload 9, 2) := by decide +kernel
theorem dX5_follows_101 : decode cX5_follows 101 = .ok (.iconst 1, 1) := by decide +kernel
theorem dX5_follows_102 : decode cX5_follows 102 = .ok (.isub, 1) := by decide +kernel
theorem dX5_follows_103 : decode cX5_follows 103 = .ok (.invokevirtual 87, 3) := by decide +kernel
theorem dX5_follows_106 : decode cX5_follows 106 = .ok (.iload_n 3, 1) := by decide +kernel
theorem dX5_follows_107 : decode cX5_follows 107 = .ok (.if_icmp .ne 20, 3) := by decide +kernel
theorem dX5_follows_110 : decode cX5_follows 110 = .ok (.iload 10, 2) := by decide +kernel
theorem dX5_follows_112 : decode cX5_follows 112 = .ok (.aload_n 0, 1) := by decide +kernel
theorem dX5_follows_113 : decode cX5_follows 113 = .ok (.getfield 18, 3) := by decide +kernel
theorem dX5_follows_116 : decode cX5_follows 116 = .ok (.iload 7, 2) := by decide +kernel
theorem dX5_follows_118 : decode cX5_follows 118 = .ok (.iload 9, 2) := by decide +kernel
theorem dX5_follows_120 : decode cX5_follows 120 = .ok (.iadd, 1) := by decide +kernel
theorem dX5_follows_121 : decode cX5_follows 121 = .ok (.iconst 1, 1) := by decide +kernel
theorem dX5_follows_122 : decode cX5_follows 122 = .ok (.isub, 1) := by decide +kernel
theorem dX5_follows_123 : decode cX5_follows 123 = .ok (.iaload, 1) := by decide +kernel
theorem dX5_follows_124 : decode cX5_follows 124 = .ok (.iadd, 1) := by decide +kernel
theorem dX5_follows_125 : decode cX5_follows 125 = .ok (.istore 10, 2) := by decide +kernel
theorem dX5_follows_127 : decode cX5_follows 127 = .ok (.aload_n 0, 1) := by decide +kernel
theorem dX5_follows_128 : decode cX5_follows 128 = .ok (.getfield 18, 3) := by decide +kernel
theorem dX5_follows_131 : decode cX5_follows 131 = .ok (.iload 8, 2) := by decide +kernel
theorem dX5_follows_133 : decode cX5_follows 133 = .ok (.iload 9, 2) := by decide +kernel
theorem dX5_follows_135 : decode cX5_follows 135 = .ok (.iadd, 1) := by decide +kernel
theorem dX5_follows_136 : decode cX5_follows 136 = .ok (.iload 10, 2) := by decide +kernel
theorem dX5_follows_138 : decode cX5_follows 138 = .ok (.iastore, 1) := by decide +kernel
theorem dX5_follows_139 : decode cX5_follows 139 = .ok (.iinc 9 1, 3) := by decide +kernel
theorem dX5_follows_142 : decode cX5_follows 142 = .ok (.goto (-79), 3) := by decide +kernel
theorem dX5_follows_145 : decode cX5_follows 145 = .ok (.aload_n 0, 1) := by decide +kernel
theorem dX5_follows_146 : decode cX5_follows 146 = .ok (.getfield 18, 3) := by decide +kernel
theorem dX5_follows_149 : decode cX5_follows 149 = .ok (.iload 8, 2) := by decide +kernel
theorem dX5_follows_151 : decode cX5_follows 151 = .ok (.iload 5, 2) := by decide +kernel
theorem dX5_follows_153 : decode cX5_follows 153 = .ok (.iadd, 1) := by decide +kernel
theorem dX5_follows_154 : decode cX5_follows 154 = .ok (.iaload, 1) := by decide +kernel
theorem dX5_follows_155 : decode cX5_follows 155 = .ok (.ifCond .le 7, 3) := by decide +kernel
theorem dX5_follows_158 : decode cX5_follows 158 = .ok (.iconst 1, 1) := by decide +kernel
theorem dX5_follows_159 : decode cX5_follows 159 = .ok (.goto 4, 3) := by decide +kernel
theorem dX5_follows_162 : decode cX5_follows 162 = .ok (.iconst 0, 1) := by decide +kernel
theorem dX5_follows_163 : decode cX5_follows 163 = .ok (.ireturn, 1) := by decide +kernel
theorem dX5_weigh_0 : decode cX5_weigh 0 = .ok (.aload_n 0, 1) := by decide +kernel
theorem dX5_weigh_1 : decode cX5_weigh 1 = .ok (.dup, 1) := by decide +kernel
theorem dX5_weigh_2 : decode cX5_weigh 2 = .ok (.getfield 43, 3) := by decide +kernel
theorem dX5_weigh_5 : decode cX5_weigh 5 = .ok (.iconst 1, 1) := by decide +kernel
theorem dX5_weigh_6 : decode cX5_weigh 6 = .ok (.iadd, 1) := by decide +kernel
theorem dX5_weigh_7 : decode cX5_weigh 7 = .ok (.putfield 43, 3) := by decide +kernel
theorem dX5_weigh_10 : decode cX5_weigh 10 = .ok (.lconst 1, 1) := by decide +kernel
theorem dX5_weigh_11 : decode cX5_weigh 11 = .ok (.lstore_n 1, 1) := by decide +kernel
theorem dX5_weigh_12 : decode cX5_weigh 12 = .ok (.iconst 0, 1) := by decide +kernel
theorem dX5_weigh_13 : decode cX5_weigh 13 = .ok (.istore_n 3, 1) := by decide +kernel
theorem dX5_weigh_14 : decode cX5_weigh 14 = .ok (.iload_n 3, 1) := by decide +kernel
theorem dX5_weigh_15 : decode cX5_weigh 15 = .ok (.aload_n 0, 1) := by decide +kernel
theorem dX5_weigh_16 : decode cX5_weigh 16 = .ok (.getfield 29, 3) := by decide +kernel
theorem dX5_weigh_19 : decode cX5_weigh 19 = .ok (.if_icmp .ge 41, 3) := by decide +kernel
theorem dX5_weigh_22 : decode cX5_weigh 22 = .ok (.ldc2_w 91, 3) := by decide +kernel
theorem dX5_weigh_25 : decode cX5_weigh 25 = .ok (.lload_n 1, 1) := by decide +kernel
theorem dX5_weigh_26 : decode cX5_weigh 26 = .ok (.aload_n 0, 1) := by decide +kernel
theorem dX5_weigh_27 : decode cX5_weigh 27 = .ok (.getfield 18, 3) := by decide +kernel
theorem dX5_weigh_30 : decode cX5_weigh 30 = .ok (.aload_n 0, 1) := by decide +kernel
theorem dX5_weigh_31 : decode cX5_weigh 31 = .ok (.getfield 40, 3) := by decide +kernel
theorem dX5_weigh_34 : decode cX5_weigh 34 = .ok (.iload_n 3, 1) := by decide +kernel
theorem dX5_weigh_35 : decode cX5_weigh 35 = .ok (.aload_n 0, 1) := by decide +kernel
theorem dX5_weigh_36 : decode cX5_weigh 36 = .ok (.getfield 11, 3) := by decide +kernel
theorem dX5_weigh_39 : decode cX5_weigh 39 = .ok (.iload_n 3, 1) := by decide +kernel
theorem dX5_weigh_40 : decode cX5_weigh 40 = .ok (.aaload, 1) := by decide +kernel
theorem dX5_weigh_41 : decode cX5_weigh 41 = .ok (.getfield 54, 3) := by decide +kernel
theorem dX5_weigh_44 : decode cX5_weigh 44 = .ok (.invokestatic 55, 3) := by decide +kernel
theorem dX5_weigh_47 : decode cX5_weigh 47 = .ok (.iaload, 1) := by decide +kernel
theorem dX5_weigh_48 : decode cX5_weigh 48 = .ok (.i2l, 1) := by decide +kernel
theorem dX5_weigh_49 : decode cX5_weigh 49 = .ok (.lmul, 1) := by decide +kernel
theorem dX5_weigh_50 : decode cX5_weigh 50 = .ok (.invokestatic 93, 3) := by decide +kernel
theorem dX5_weigh_53 : decode cX5_weigh 53 = .ok (.lstore_n 1, 1) := by decide +kernel
theorem dX5_weigh_54 : decode cX5_weigh 54 = .ok (.iinc 3 1, 3) := by decide +kernel
theorem dX5_weigh_57 : decode cX5_weigh 57 = .ok (.goto (-43), 3) := by decide +kernel
theorem dX5_weigh_60 : decode cX5_weigh 60 = .ok (.lload_n 1, 1) := by decide +kernel
theorem dX5_weigh_61 : decode cX5_weigh 61 = .ok (.aload_n 0, 1) := by decide +kernel
theorem dX5_weigh_62 : decode cX5_weigh 62 = .ok (.getfield 46, 3) := by decide +kernel
theorem dX5_weigh_65 : decode cX5_weigh 65 = .ok (.lcmp, 1) := by decide +kernel
theorem dX5_weigh_66 : decode cX5_weigh 66 = .ok (.ifCond .le 19, 3) := by decide +kernel
theorem dX5_weigh_69 : decode cX5_weigh 69 = .ok (.aload_n 0, 1) := by decide +kernel
theorem dX5_weigh_70 : decode cX5_weigh 70 = .ok (.lload_n 1, 1) := by decide +kernel
theorem dX5_weigh_71 : decode cX5_weigh 71 = .ok (.putfield 46, 3) := by decide +kernel
theorem dX5_weigh_74 : decode cX5_weigh 74 = .ok (.aload_n 0, 1) := by decide +kernel
theorem dX5_weigh_75 : decode cX5_weigh 75 = .ok (.getfield 26, 3) := by decide +kernel
theorem dX5_weigh_78 : decode cX5_weigh 78 = .ok (.aload_n 0, 1) := by decide +kernel
theorem dX5_weigh_79 : decode cX5_weigh 79 = .ok (.getfield 22, 3) := by decide +kernel
theorem dX5_weigh_82 : decode cX5_weigh 82 = .ok (.invokevirtual 33, 3) := by decide +kernel
theorem dX5_weigh_85 : decode cX5_weigh 85 = .ok (.return_, 1) := by decide +kernel
theorem dX6_init_0 : decode cX6_init 0 = .ok (.aload_n 0, 1) := by decide +kernel
theorem dX6_init_1 : decode cX6_init 1 = .ok (.invokespecial 1, 3) := by decide +kernel
theorem dX6_init_4 : decode cX6_init 4 = .ok (.aload_n 0, 1) := by decide +kernel
theorem dX6_init_5 : decode cX6_init 5 = .ok (.iconst 2, 1) := by decide +kernel
theorem dX6_init_6 : decode cX6_init 6 = .ok (.putfield 9, 3) := by decide +kernel
theorem dX6_init_9 : decode cX6_init 9 = .ok (.aload_n 0, 1) := by decide +kernel
theorem dX6_init_10 : decode cX6_init 10 = .ok (.bipush 12, 2) := by decide +kernel
theorem dX6_init_12 : decode cX6_init 12 = .ok (.anewarray 13, 3) := by decide +kernel
theorem dX6_init_15 : decode cX6_init 15 = .ok (.putfield 15, 3) := by decide +kernel
theorem dX6_init_18 : decode cX6_init 18 = .ok (.iconst 0, 1) := by decide +kernel
theorem dX6_init_19 : decode cX6_init 19 = .ok (.istore_n 1, 1) := by decide +kernel
theorem dX6_init_20 : decode cX6_init 20 = .ok (.iload_n 1, 1) := by decide +kernel
theorem dX6_init_21 : decode cX6_init 21 = .ok (.bipush 12, 2) := by decide +kernel
theorem dX6_init_23 : decode cX6_init 23 = .ok (.if_icmp .ge 22, 3) := by decide +kernel
theorem dX6_init_26 : decode cX6_init 26 = .ok (.aload_n 0, 1) := by decide +kernel
theorem dX6_init_27 : decode cX6_init 27 = .ok (.getfield 15, 3) := by decide +kernel
theorem dX6_init_30 : decode cX6_init 30 = .ok (.iload_n 1, 1) := by decide +kernel
theorem dX6_init_31 : decode cX6_init 31 = .ok (.new 13, 3) := by decide +kernel
theorem dX6_init_34 : decode cX6_init 34 = .ok (.dup, 1) := by decide +kernel
theorem dX6_init_35 : decode cX6_init 35 = .ok (.invokespecial 19, 3) := by decide +kernel
theorem dX6_init_38 : decode cX6_init 38 = .ok (.aastore, 1) := by decide +kernel
theorem dX6_init_39 : decode cX6_init 39 = .ok (.iinc 1 1, 3) := by decide +kernel
theorem dX6_init_42 : decode cX6_init 42 = .ok (.goto (-22), 3) := by decide +kernel
theorem dX6_init_45 : decode cX6_init 45 = .ok (.aload_n 0, 1) := by decide +kernel
theorem dX6_init_46 : decode cX6_init 46 = .ok (.new 20, 3) := by decide +kernel
theorem dX6_init_49 : decode cX6_init 49 = .ok (.dup, 1) := by decide +kernel
theorem dX6_init_50 : decode cX6_init 50 = .ok (.invokespecial 22, 3) := by decide +kernel
theorem dX6_init_53 : decode cX6_init 53 = .ok (.putfield 23, 3) := by decide +kernel
theorem dX6_init_56 : decode cX6_init 56 = .ok (.aload_n 0, 1) := by decide +kernel
theorem dX6_init_57 : decode cX6_init 57 = .ok (.new 27, 3) := by decide +kernel
theorem dX6_init_60 : decode cX6_init 60 = .ok (.dup, 1) := by decide +kernel
theorem dX6_init_61 : decode cX6_init 61 = .ok (.invokespecial 29, 3) := by decide +kernel
theorem dX6_init_64 : decode cX6_init 64 = .ok (.putfield 30, 3) := by decide +kernel
theorem dX6_init_67 : decode cX6_init 67 = .ok (.aload_n 0, 1) := by decide +kernel
theorem dX6_init_68 : decode cX6_init 68 = .ok (.new 34, 3) := by decide +kernel
theorem dX6_init_71 : decode cX6_init 71 = .ok (.dup, 1) := by decide +kernel
theorem dX6_init_72 : decode cX6_init 72 = .ok (.invokespecial 36, 3) := by decide +kernel
theorem dX6_init_75 : decode cX6_init 75 = .ok (.putfield 37, 3) := by decide +kernel
theorem dX6_init_78 : decode cX6_init 78 = .ok (.aload_n 0, 1) := by decide +kernel
theorem dX6_init_79 : decode cX6_init 79 = .ok (.new 41, 3) := by decide +kernel
theorem dX6_init_82 : decode cX6_init 82 = .ok (.dup, 1) := by decide +kernel
theorem dX6_init_83 : decode cX6_init 83 = .ok (.invokespecial 43, 3) := by decide +kernel
theorem dX6_init_86 : decode cX6_init 86 = .ok (.putfield 44, 3) := by decide +kernel
theorem dX6_init_89 : decode cX6_init 89 = .ok (.aload_n 0, 1) := by decide +kernel
theorem dX6_init_90 : decode cX6_init 90 = .ok (.new 48, 3) := by decide +kernel
theorem dX6_init_93 : decode cX6_init 93 = .ok (.dup, 1) := by decide +kernel
theorem dX6_init_94 : decode cX6_init 94 = .ok (.invokespecial 50, 3) := by decide +kernel
theorem dX6_init_97 : decode cX6_init 97 = .ok (.putfield 51, 3) := by decide +kernel
theorem dX6_init_100 : decode cX6_init 100 = .ok (.return_, 1) := by decide +kernel
theorem dX6_letters_0 : decode cX6_letters 0 = .ok (.iload_n 1, 1) := by decide +kernel
theorem dX6_letters_1 : decode cX6_letters 1 = .ok (.iconst 2, 1) := by decide +kernel
theorem dX6_letters_2 : decode cX6_letters 2 = .ok (.if_icmp .lt 8, 3) := by decide +kernel
theorem dX6_letters_5 : decode cX6_letters 5 = .ok (.iload_n 1, 1) := by decide +kernel
theorem dX6_letters_6 : decode cX6_letters 6 = .ok (.iconst 4, 1) := by decide +kernel
theorem dX6_letters_7 : decode cX6_letters 7 = .ok (.if_icmp .le 5, 3) := by decide +kernel
theorem dX6_letters_10 : decode cX6_letters 10 = .ok (.iconst (-1), 1) := by decide +kernel
theorem dX6_letters_11 : decode cX6_letters 11 = .ok (.ireturn, 1) := by decide +kernel
theorem dX6_letters_12 : decode cX6_letters 12 = .ok (.aload_n 0, 1) := by decide +kernel
theorem dX6_letters_13 : decode cX6_letters 13 = .ok (.iload_n 1, 1) := by decide +kernel
theorem dX6_letters_14 : decode cX6_letters 14 = .ok (.putfield 9, 3) := by decide +kernel
theorem dX6_letters_17 : decode cX6_letters 17 = .ok (.iconst 0, 1) := by decide +kernel
theorem dX6_letters_18 : decode cX6_letters 18 = .ok (.istore_n 2, 1) := by decide +kernel
theorem dX6_letters_19 : decode cX6_letters 19 = .ok (.iload_n 2, 1) := by decide +kernel
theorem dX6_letters_20 : decode cX6_letters 20 = .ok (.bipush 12, 2) := by decide +kernel
theorem dX6_letters_22 : decode cX6_letters 22 = .ok (.if_icmp .ge 18, 3) := by decide +kernel
theorem dX6_letters_25 : decode cX6_letters 25 = .ok (.aload_n 0, 1) := by decide +kernel
theorem dX6_letters_26 : decode cX6_letters 26 = .ok (.getfield 15, 3) := by decide +kernel
theorem dX6_letters_29 : decode cX6_letters 29 = .ok (.iload_n 2, 1) := by decide +kernel
theorem dX6_letters_30 : decode cX6_letters 30 = .ok (.aaload, 1) := by decide +kernel
theorem dX6_letters_31 : decode cX6_letters 31 = .ok (.invokevirtual 55, 3) := by decide +kernel
theorem dX6_letters_34 : decode cX6_letters 34 = .ok (.iinc 2 1, 3) := by decide +kernel
theorem dX6_letters_37 : decode cX6_letters 37 = .ok (.goto (-18), 3) := by decide +kernel
theorem dX6_letters_40 : decode cX6_letters 40 = .ok (.aload_n 0, 1) := by decide +kernel
theorem dX6_letters_41 : decode cX6_letters 41 = .ok (.getfield 23, 3) := by decide +kernel
theorem dX6_letters_44 : decode cX6_letters 44 = .ok (.invokevirtual 58, 3) := by decide +kernel
theorem dX6_letters_47 : decode cX6_letters 47 = .ok (.aload_n 0, 1) := by decide +kernel
theorem dX6_letters_48 : decode cX6_letters 48 = .ok (.getfield 44, 3) := by decide +kernel
theorem dX6_letters_51 : decode cX6_letters 51 = .ok (.invokevirtual 61, 3) := by decide +kernel
theorem dX6_letters_54 : decode cX6_letters 54 = .ok (.iconst 0, 1) := by decide +kernel
theorem dX6_letters_55 : decode cX6_letters 55 = .ok (.ireturn, 1) := by decide +kernel
theorem dX6_word_0 : decode cX6_word 0 = .ok (.iload_n 1, 1) := by decide +kernel
theorem dX6_word_1 : decode cX6_word 1 = .ok (.invokestatic 62, 3) := by decide +kernel
theorem dX6_word_4 : decode cX6_word 4 = .ok (.ifCond .eq 22, 3) := by decide +kernel
theorem dX6_word_7 : decode cX6_word 7 = .ok (.iload_n 2, 1) := by decide +kernel
theorem dX6_word_8 : decode cX6_word 8 = .ok (.ifCond .lt 18, 3) := by decide +kernel
theorem dX6_word_11 : decode cX6_word 11 = .ok (.iload_n 2, 1) := by decide +kernel
theorem dX6_word_12 : decode cX6_word 12 = .ok (.bipush 24, 2) := by decide +kernel
theorem dX6_word_14 : decode cX6_word 14 = .ok (.if_icmp .gt 12, 3) := by decide +kernel
theorem dX6_word_17 : decode cX6_word 17 = .ok (.aload_n 0, 1) := by decide +kernel
theorem dX6_word_18 : decode cX6_word 18 = .ok (.iload_n 2, 1) := by decide +kernel
theorem dX6_word_19 : decode cX6_word 19 = .ok (.lload_n 3, 1) := by decide +kernel
theorem dX6_word_20 : decode cX6_word 20 = .ok (.invokevirtual 66, 3) := by decide +kernel
theorem dX6_word_23 : decode cX6_word 23 = .ok (.ifCond .ne 5, 3) := by decide +kernel
theorem dX6_word_26 : decode cX6_word 26 = .ok (.iconst (-1), 1) := by decide +kernel
theorem dX6_word_27 : decode cX6_word 27 = .ok (.ireturn, 1) := by decide +kernel
theorem dX6_word_28 : decode cX6_word 28 = .ok (.aload_n 0, 1) := by decide +kernel
theorem dX6_word_29 : decode cX6_word 29 = .ok (.getfield 15, 3) := by decide +kernel
theorem dX6_word_32 : decode cX6_word 32 = .ok (.iload_n 1, 1) := by decide +kernel
theorem dX6_word_33 : decode cX6_word 33 = .ok (.aaload, 1) := by decide +kernel
theorem dX6_word_34 : decode cX6_word 34 = .ok (.iload_n 2, 1) := by decide +kernel
theorem dX6_word_35 : decode cX6_word 35 = .ok (.lload_n 3, 1) := by decide +kernel
theorem dX6_word_36 : decode cX6_word 36 = .ok (.invokevirtual 70, 3) := by decide +kernel
theorem dX6_word_39 : decode cX6_word 39 = .ok (.iload_n 2, 1) := by decide +kernel
theorem dX6_word_40 : decode cX6_word 40 = .ok (.ireturn, 1) := by decide +kernel
theorem dX6_at_0 : decode cX6_at 0 = .ok (.iload_n 1, 1) := by decide +kernel
theorem dX6_at_1 : decode cX6_at 1 = .ok (.invokestatic 62, 3) := by decide +kernel
theorem dX6_at_4 : decode cX6_at 4 = .ok (.ifCond .eq 8, 3) := by decide +kernel
theorem dX6_at_7 : decode cX6_at 7 = .ok (.iload_n 2, 1) := by decide +kernel
theorem dX6_at_8 : decode cX6_at 8 = .ok (.iconst (-1), 1) := by decide +kernel
theorem dX6_at_9 : decode cX6_at 9 = .ok (.if_icmp .ge 5, 3) := by decide +kernel
theorem dX6_at_12 : decode cX6_at 12 = .ok (.iconst (-1), 1) := by decide +kernel
theorem dX6_at_13 : decode cX6_at 13 = .ok (.ireturn, 1) := by decide +kernel
theorem dX6_at_14 : decode cX6_at 14 = .ok (.aload_n 0, 1) := by decide +kernel
theorem dX6_at_15 : decode cX6_at 15 = .ok (.getfield 15, 3) := by decide +kernel
theorem dX6_at_18 : decode cX6_at 18 = .ok (.iload_n 1, 1) := by decide +kernel
theorem dX6_at_19 : decode cX6_at 19 = .ok (.aaload, 1) := by decide +kernel
theorem dX6_at_20 : decode cX6_at 20 = .ok (.astore_n 3, 1) := by decide +kernel
theorem dX6_at_21 : decode cX6_at 21 = .ok (.iload_n 2, 1) := by decide +kernel
theorem dX6_at_22 : decode cX6_at 22 = .ok (.iconst (-1), 1) := by decide +kernel
theorem dX6_at_23 : decode cX6_at 23 = .ok (.if_icmp .ne 8, 3) := by decide +kernel
theorem dX6_at_26 : decode cX6_at 26 = .ok (.aload_n 3, 1) := by decide +kernel
theorem dX6_at_27 : decode cX6_at 27 = .ok (.getfield 74, 3) := by decide +kernel
theorem dX6_at_30 : decode cX6_at 30 = .ok (.ireturn, 1) := by decide +kernel
theorem dX6_at_31 : decode cX6_at 31 = .ok (.iload_n 2, 1) := by decide +kernel
theorem dX6_at_32 : decode cX6_at 32 = .ok (.aload_n 3, 1) := by decide +kernel
theorem dX6_at_33 : decode cX6_at 33 = .ok (.getfield 74, 3) := by decide +kernel
theorem dX6_at_36 : decode cX6_at 36 = .ok (.if_icmp .ge 11, 3) := by decide +kernel
theorem dX6_at_39 : decode cX6_at 39 = .ok (.aload_n 3, 1) := by decide +kernel
theorem dX6_at_40 : decode cX6_at 40 = .ok (.iload_n 2, 1) := by decide +kernel
theorem dX6_at_41 : decode cX6_at 41 = .ok (.invokevirtual 77, 3) := by decide +kernel
theorem dX6_at_44 : decode cX6_at 44 = .ok (.goto 5, 3) := by decide +kernel
theorem dX6_at_47 : decode cX6_at 47 = .ok (.bipush (-4), 2) := by decide +kernel
theorem dX6_at_49 : decode cX6_at 49 = .ok (.ireturn, 1) := by decide +kernel
theorem dX6_edit_0 : decode cX6_edit 0 = .ok (.iload_n 1, 1) := by decide +kernel
theorem dX6_edit_1 : decode cX6_edit 1 = .ok (.invokestatic 62, 3) := by decide +kernel
theorem dX6_edit_4 : decode cX6_edit 4 = .ok (.ifCond .eq 28, 3) := by decide +kernel
theorem dX6_edit_7 : decode cX6_edit 7 = .ok (.iload_n 2, 1) := by decide +kernel
theorem dX6_edit_8 : decode cX6_edit 8 = .ok (.invokestatic 62, 3) := by decide +kernel
theorem dX6_edit_11 : decode cX6_edit 11 = .ok (.ifCond .eq 21, 3) := by decide +kernel
theorem dX6_edit_14 : decode cX6_edit 14 = .ok (.aload_n 0, 1) := by decide +kernel
theorem dX6_edit_15 : decode cX6_edit 15 = .ok (.aload_n 0, 1) := by decide +kernel
theorem dX6_edit_16 : decode cX6_edit 16 = .ok (.getfield 15, 3) := by decide +kernel
theorem dX6_edit_19 : decode cX6_edit 19 = .ok (.iload_n 2, 1) := by decide +kernel
theorem dX6_edit_20 : decode cX6_edit 20 = .ok (.aaload, 1) := by decide +kernel
theorem dX6_edit_21 : decode cX6_edit 21 = .ok (.iload_n 3, 1) := by decide +kernel
theorem dX6_edit_22 : decode cX6_edit 22 = .ok (.iload 4, 2) := by decide +kernel
theorem dX6_edit_24 : decode cX6_edit 24 = .ok (.iload 5, 2) := by decide +kernel
theorem dX6_edit_26 : decode cX6_edit 26 = .ok (.invokevirtual 81, 3) := by decide +kernel
theorem dX6_edit_29 : decode cX6_edit 29 = .ok (.ifCond .ne 5, 3) := by decide +kernel
theorem dX6_edit_32 : decode cX6_edit 32 = .ok (.iconst (-1), 1) := by decide +kernel
theorem dX6_edit_33 : decode cX6_edit 33 = .ok (.ireturn, 1) := by decide +kernel
theorem dX6_edit_34 : decode cX6_edit 34 = .ok (.iload_n 3, 1) := by decide +kernel
theorem dX6_edit_35 : decode cX6_edit 35 = .ok (.iconst 1, 1) := by decide +kernel
theorem dX6_edit_36 : decode cX6_edit 36 = .ok (.if_icmp .ne 18, 3) := by decide +kernel
theorem dX6_edit_39 : decode cX6_edit 39 = .ok (.aload_n 0, 1) := by decide +kernel
theorem dX6_edit_40 : decode cX6_edit 40 = .ok (.getfield 15, 3) := by decide +kernel
theorem dX6_edit_43 : decode cX6_edit 43 = .ok (.iload_n 2, 1) := by decide +kernel
theorem dX6_edit_44 : decode cX6_edit 44 = .ok (.aaload, 1) := by decide +kernel
theorem dX6_edit_45 : decode cX6_edit 45 = .ok (.invokevirtual 85, 3) := by decide +kernel
theorem dX6_edit_48 : decode cX6_edit 48 = .ok (.ifCond .eq 6, 3) := by decide +kernel
theorem dX6_edit_51 : decode cX6_edit 51 = .ok (.bipush (-5), 2) := by decide +kernel
theorem dX6_edit_53 : decode cX6_edit 53 = .ok (.ireturn, 1) := by decide +kernel
theorem dX6_edit_54 : decode cX6_edit 54 = .ok (.aload_n 0, 1) := by decide +kernel
theorem dX6_edit_55 : decode cX6_edit 55 = .ok (.getfield 15, 3) := by decide +kernel
theorem dX6_edit_58 : decode cX6_edit 58 = .ok (.iload_n 1, 1) := by decide +kernel
theorem dX6_edit_59 : decode cX6_edit 59 = .ok (.aaload, 1) := by decide +kernel
theorem dX6_edit_60 : decode cX6_edit 60 = .ok (.astore 6, 2) := by decide +kernel
theorem dX6_edit_62 : decode cX6_edit 62 = .ok (.aload 6, 2) := by decide +kernel
theorem dX6_edit_64 : decode cX6_edit 64 = .ok (.aload_n 0, 1) := by decide +kernel
theorem dX6_edit_65 : decode cX6_edit 65 = .ok (.getfield 15, 3) := by decide +kernel
theorem dX6_edit_68 : decode cX6_edit 68 = .ok (.iload_n 2, 1) := by decide +kernel
theorem dX6_edit_69 : decode cX6_edit 69 = .ok (.aaload, 1) := by decide +kernel
theorem dX6_edit_70 : decode cX6_edit 70 = .ok (.invokevirtual 89, 3) := by decide +kernel
theorem dX6_edit_73 : decode cX6_edit 73 = .ok (.iload_n 3, 1) := by decide +kernel
theorem dX6_edit_74 : decode cX6_edit 74 = .ok (.ifCond .ne 13, 3) := by decide +kernel
theorem dX6_edit_77 : decode cX6_edit 77 = .ok (.aload 6, 2) := by decide +kernel
theorem dX6_edit_79 : decode cX6_edit 79 = .ok (.iload 4, 2) := by decide +kernel
theorem dX6_edit_81 : decode cX6_edit 81 = .ok (.invokevirtual 93, 3) := by decide +kernel
theorem dX6_edit_84 : decode cX6_edit 84 = .ok (.goto 29, 3) := by decide +kernel
theorem dX6_edit_87 : decode cX6_edit 87 = .ok (.iload_n 3, 1) := by decide +kernel
theorem dX6_edit_88 : decode cX6_edit 88 = .ok (.iconst 1, 1) := by decide +kernel
theorem dX6_edit_89 : decode cX6_edit 89 = .ok (.if_icmp .ne 15, 3) := by decide +kernel
theorem dX6_edit_92 : decode cX6_edit 92 = .ok (.aload 6, 2) := by decide +kernel
theorem dX6_edit_94 : decode cX6_edit 94 = .ok (.iload 4, 2) := by decide +kernel
theorem dX6_edit_96 : decode cX6_edit 96 = .ok (.iload 5, 2) := by decide +kernel
theorem dX6_edit_98 : decode cX6_edit 98 = .ok (.invokevirtual 97, 3) := by decide +kernel
theorem dX6_edit_101 : decode cX6_edit 101 = .ok (.goto 12, 3) := by decide +kernel
theorem dX6_edit_104 : decode cX6_edit 104 = .ok (.aload 6, 2) := by decide +kernel
theorem dX6_edit_106 : decode cX6_edit 106 = .ok (.iload 4, 2) := by decide +kernel
theorem dX6_edit_108 : decode cX6_edit 108 = .ok (.iload 5, 2) := by decide +kernel
theorem dX6_edit_110 : decode cX6_edit 110 = .ok (.invokevirtual 101, 3) := by decide +kernel
theorem dX6_edit_113 : decode cX6_edit 113 = .ok (.aload 6, 2) := by decide +kernel
theorem dX6_edit_115 : decode cX6_edit 115 = .ok (.getfield 74, 3) := by decide +kernel
theorem dX6_edit_118 : decode cX6_edit 118 = .ok (.ireturn, 1) := by decide +kernel
theorem dX6_code_0 : decode cX6_code 0 = .ok (.iload_n 1, 1) := by decide +kernel
theorem dX6_code_1 : decode cX6_code 1 = .ok (.iconst 1, 1) := by decide +kernel
theorem dX6_code_2 : decode cX6_code 2 = .ok (.if_icmp .lt 33, 3) := by decide +kernel
theorem dX6_code_5 : decode cX6_code 5 = .ok (.iload_n 1, 1) := by decide +kernel
theorem dX6_code_6 : decode cX6_code 6 = .ok (.bipush 16, 2) := by decide +kernel
theorem dX6_code_8 : decode cX6_code 8 = .ok (.if_icmp .gt 27, 3) := by decide +kernel
theorem dX6_code_11 : decode cX6_code 11 = .ok (.iload_n 2, 1) := by decide +kernel
theorem dX6_code_12 : decode cX6_code 12 = .ok (.iconst 1, 1) := by decide +kernel
theorem dX6_code_13 : decode cX6_code 13 = .ok (.if_icmp .lt 22, 3) := by decide +kernel
theorem dX6_code_16 : decode cX6_code 16 = .ok (.iload_n 2, 1) := by decide +kernel
theorem dX6_code_17 : decode cX6_code 17 = .ok (.bipush 64, 2) := by decide +kernel
theorem dX6_code_19 : decode cX6_code 19 = .ok (.if_icmp .gt 16, 3) := by decide +kernel
theorem dX6_code_22 : decode cX6_code 22 = .ok (.iload_n 3, 1) := by decide +kernel
theorem dX6_code_23 : decode cX6_code 23 = .ok (.ifCond .lt 12, 3) := by decide +kernel
theorem dX6_code_26 : decode cX6_code 26 = .ok (.iload_n 3, 1) := by decide +kernel
theorem dX6_code_27 : decode cX6_code 27 = .ok (.iload_n 2, 1) := by decide +kernel
theorem dX6_code_28 : decode cX6_code 28 = .ok (.if_icmp .ge 7, 3) := by decide +kernel
theorem dX6_code_31 : decode cX6_code 31 = .ok (.iconst 1, 1) := by decide +kernel
theorem dX6_code_32 : decode cX6_code 32 = .ok (.goto 4, 3) := by decide +kernel
theorem dX6_code_35 : decode cX6_code 35 = .ok (.iconst 0, 1) := by decide +kernel
theorem dX6_code_36 : decode cX6_code 36 = .ok (.istore 5, 2) := by decide +kernel
theorem dX6_code_38 : decode cX6_code 38 = .ok (.iload 5, 2) := by decide +kernel
theorem dX6_code_40 : decode cX6_code 40 = .ok (.ifCond .eq 20, 3) := by decide +kernel
theorem dX6_code_43 : decode cX6_code 43 = .ok (.aload_n 0, 1) := by decide +kernel
theorem dX6_code_44 : decode cX6_code 44 = .ok (.getfield 9, 3) := by decide +kernel
theorem dX6_code_47 : decode cX6_code 47 = .ok (.iconst 2, 1) := by decide +kernel
theorem dX6_code_48 : decode cX6_code 48 = .ok (.if_icmp .eq 14, 3) := by decide +kernel
theorem dX6_code_51 : decode cX6_code 51 = .ok (.aload_n 0, 1) := by decide +kernel
theorem dX6_code_52 : decode cX6_code 52 = .ok (.iload 4, 2) := by decide +kernel
theorem dX6_code_54 : decode cX6_code 54 = .ok (.invokevirtual 104, 3) := by decide +kernel
theorem dX6_code_57 : decode cX6_code 57 = .ok (.ifCond .ne 5, 3) := by decide +kernel
theorem dX6_code_60 : decode cX6_code 60 = .ok (.iconst (-1), 1) := by decide +kernel
theorem dX6_code_61 : decode cX6_code 61 = .ok (.ireturn, 1) := by decide +kernel
theorem dX6_code_62 : decode cX6_code 62 = .ok (.aload_n 0, 1) := by decide +kernel
theorem dX6_code_63 : decode cX6_code 63 = .ok (.getfield 23, 3) := by decide +kernel
theorem dX6_code_66 : decode cX6_code 66 = .ok (.aload_n 0, 1) := by decide +kernel
theorem dX6_code_67 : decode cX6_code 67 = .ok (.getfield 9, 3) := by decide +kernel
theorem dX6_code_70 : decode cX6_code 70 = .ok (.iload_n 1, 1) := by decide +kernel
theorem dX6_code_71 : decode cX6_code 71 = .ok (.iload_n 2, 1) := by decide +kernel
theorem dX6_code_72 : decode cX6_code 72 = .ok (.iload_n 3, 1) := by decide +kernel
theorem dX6_code_73 : decode cX6_code 73 = .ok (.iload 4, 2) := by decide +kernel
theorem dX6_code_75 : decode cX6_code 75 = .ok (.invokevirtual 107, 3) := by decide +kernel
theorem dX6_code_78 : decode cX6_code 78 = .ok (.aload_n 0, 1) := by decide +kernel
theorem dX6_code_79 : decode cX6_code 79 = .ok (.getfield 23, 3) := by decide +kernel
theorem dX6_code_82 : decode cX6_code 82 = .ok (.getfield 111, 3) := by decide +kernel
theorem dX6_code_85 : decode cX6_code 85 = .ok (.ireturn, 1) := by decide +kernel
theorem dX6_sum_0 : decode cX6_sum 0 = .ok (.iload_n 1, 1) := by decide +kernel
theorem dX6_sum_1 : decode cX6_sum 1 = .ok (.invokestatic 62, 3) := by decide +kernel
theorem dX6_sum_4 : decode cX6_sum 4 = .ok (.ifCond .ne 5, 3) := by decide +kernel
theorem dX6_sum_7 : decode cX6_sum 7 = .ok (.iconst (-1), 1) := by decide +kernel
theorem dX6_sum_8 : decode cX6_sum 8 = .ok (.ireturn, 1) := by decide +kernel
theorem dX6_sum_9 : decode cX6_sum 9 = .ok (.aload_n 0, 1) := by decide +kernel
theorem dX6_sum_10 : decode cX6_sum 10 = .ok (.getfield 23, 3) := by decide +kernel
theorem dX6_sum_13 : decode cX6_sum 13 = .ok (.invokevirtual 112, 3) := by decide +kernel
theorem dX6_sum_16 : decode cX6_sum 16 = .ok (.ifCond .eq 19, 3) := by decide +kernel
theorem dX6_sum_19 : decode cX6_sum 19 = .ok (.aload_n 0, 1) := by decide +kernel
theorem dX6_sum_20 : decode cX6_sum 20 = .ok (.getfield 23, 3) := by decide +kernel
theorem dX6_sum_23 : decode cX6_sum 23 = .ok (.aload_n 0, 1) := by decide +kernel
theorem dX6_sum_24 : decode cX6_sum 24 = .ok (.getfield 15, 3) := by decide +kernel
theorem dX6_sum_27 : decode cX6_sum 27 = .ok (.iload_n 1, 1) := by decide +kernel
theorem dX6_sum_28 : decode cX6_sum 28 = .ok (.aaload, 1) := by decide +kernel
theorem dX6_sum_29 : decode cX6_sum 29 = .ok (.invokevirtual 115, 3) := by decide +kernel
theorem dX6_sum_32 : decode cX6_sum 32 = .ok (.goto 5, 3) := by decide +kernel
theorem dX6_sum_35 : decode cX6_sum 35 = .ok (.bipush (-2), 2) := by decide +kernel
theorem dX6_sum_37 : decode cX6_sum 37 = .ok (.ireturn, 1) := by decide +kernel
theorem dX6_isOf_0 : decode cX6_isOf 0 = .ok (.iload_n 1, 1) := by decide +kernel
