theorem dX6_isOf_1 : decode cX6_isOf 1 = .ok (.invokestatic 62, 3) := by decide +kernel
theorem dX6_isOf_4 : decode cX6_isOf 4 = .ok (.ifCond .ne 5, 3) := by decide +kernel
theorem dX6_isOf_7 : decode cX6_isOf 7 = .ok (.iconst (-1), 1) := by decide +kernel
theorem dX6_isOf_8 : decode cX6_isOf 8 = .ok (.ireturn, 1) := by decide +kernel
theorem dX6_isOf_9 : decode cX6_isOf 9 = .ok (.aload_n 0, 1) := by decide +kernel
theorem dX6_isOf_10 : decode cX6_isOf 10 = .ok (.getfield 23, 3) := by decide +kernel
theorem dX6_isOf_13 : decode cX6_isOf 13 = .ok (.invokevirtual 112, 3) := by decide +kernel
theorem dX6_isOf_16 : decode cX6_isOf 16 = .ok (.ifCond .ne 6, 3) := by decide +kernel
theorem dX6_isOf_19 : decode cX6_isOf 19 = .ok (.bipush (-2), 2) := by decide +kernel
theorem dX6_isOf_21 : decode cX6_isOf 21 = .ok (.ireturn, 1) := by decide +kernel
theorem dX6_isOf_22 : decode cX6_isOf 22 = .ok (.aload_n 0, 1) := by decide +kernel
theorem dX6_isOf_23 : decode cX6_isOf 23 = .ok (.getfield 23, 3) := by decide +kernel
theorem dX6_isOf_26 : decode cX6_isOf 26 = .ok (.aload_n 0, 1) := by decide +kernel
theorem dX6_isOf_27 : decode cX6_isOf 27 = .ok (.getfield 15, 3) := by decide +kernel
theorem dX6_isOf_30 : decode cX6_isOf 30 = .ok (.iload_n 1, 1) := by decide +kernel
theorem dX6_isOf_31 : decode cX6_isOf 31 = .ok (.aaload, 1) := by decide +kernel
theorem dX6_isOf_32 : decode cX6_isOf 32 = .ok (.invokevirtual 119, 3) := by decide +kernel
theorem dX6_isOf_35 : decode cX6_isOf 35 = .ok (.ifCond .eq 7, 3) := by decide +kernel
theorem dX6_isOf_38 : decode cX6_isOf 38 = .ok (.iconst 1, 1) := by decide +kernel
theorem dX6_isOf_39 : decode cX6_isOf 39 = .ok (.goto 4, 3) := by decide +kernel
theorem dX6_isOf_42 : decode cX6_isOf 42 = .ok (.iconst 0, 1) := by decide +kernel
theorem dX6_isOf_43 : decode cX6_isOf 43 = .ok (.ireturn, 1) := by decide +kernel
theorem dX6_listed_0 : decode cX6_listed 0 = .ok (.iload_n 1, 1) := by decide +kernel
theorem dX6_listed_1 : decode cX6_listed 1 = .ok (.invokestatic 62, 3) := by decide +kernel
theorem dX6_listed_4 : decode cX6_listed 4 = .ok (.ifCond .eq 7, 3) := by decide +kernel
theorem dX6_listed_7 : decode cX6_listed 7 = .ok (.iload_n 2, 1) := by decide +kernel
theorem dX6_listed_8 : decode cX6_listed 8 = .ok (.ifCond .ge 5, 3) := by decide +kernel
theorem dX6_listed_11 : decode cX6_listed 11 = .ok (.iconst (-1), 1) := by decide +kernel
theorem dX6_listed_12 : decode cX6_listed 12 = .ok (.ireturn, 1) := by decide +kernel
theorem dX6_listed_13 : decode cX6_listed 13 = .ok (.aload_n 0, 1) := by decide +kernel
theorem dX6_listed_14 : decode cX6_listed 14 = .ok (.getfield 23, 3) := by decide +kernel
theorem dX6_listed_17 : decode cX6_listed 17 = .ok (.invokevirtual 112, 3) := by decide +kernel
theorem dX6_listed_20 : decode cX6_listed 20 = .ok (.ifCond .ne 6, 3) := by decide +kernel
theorem dX6_listed_23 : decode cX6_listed 23 = .ok (.bipush (-2), 2) := by decide +kernel
theorem dX6_listed_25 : decode cX6_listed 25 = .ok (.ireturn, 1) := by decide +kernel
theorem dX6_listed_26 : decode cX6_listed 26 = .ok (.iload_n 2, 1) := by decide +kernel
theorem dX6_listed_27 : decode cX6_listed 27 = .ok (.aload_n 0, 1) := by decide +kernel
theorem dX6_listed_28 : decode cX6_listed 28 = .ok (.getfield 23, 3) := by decide +kernel
theorem dX6_listed_31 : decode cX6_listed 31 = .ok (.getfield 111, 3) := by decide +kernel
theorem dX6_listed_34 : decode cX6_listed 34 = .ok (.if_icmp .lt 6, 3) := by decide +kernel
theorem dX6_listed_37 : decode cX6_listed 37 = .ok (.bipush (-4), 2) := by decide +kernel
theorem dX6_listed_39 : decode cX6_listed 39 = .ok (.ireturn, 1) := by decide +kernel
theorem dX6_listed_40 : decode cX6_listed 40 = .ok (.aload_n 0, 1) := by decide +kernel
theorem dX6_listed_41 : decode cX6_listed 41 = .ok (.getfield 23, 3) := by decide +kernel
theorem dX6_listed_44 : decode cX6_listed 44 = .ok (.iload_n 2, 1) := by decide +kernel
theorem dX6_listed_45 : decode cX6_listed 45 = .ok (.aload_n 0, 1) := by decide +kernel
theorem dX6_listed_46 : decode cX6_listed 46 = .ok (.getfield 15, 3) := by decide +kernel
theorem dX6_listed_49 : decode cX6_listed 49 = .ok (.iload_n 1, 1) := by decide +kernel
theorem dX6_listed_50 : decode cX6_listed 50 = .ok (.aaload, 1) := by decide +kernel
theorem dX6_listed_51 : decode cX6_listed 51 = .ok (.invokevirtual 123, 3) := by decide +kernel
theorem dX6_listed_54 : decode cX6_listed 54 = .ok (.aload_n 0, 1) := by decide +kernel
theorem dX6_listed_55 : decode cX6_listed 55 = .ok (.getfield 15, 3) := by decide +kernel
theorem dX6_listed_58 : decode cX6_listed 58 = .ok (.iload_n 1, 1) := by decide +kernel
theorem dX6_listed_59 : decode cX6_listed 59 = .ok (.aaload, 1) := by decide +kernel
theorem dX6_listed_60 : decode cX6_listed 60 = .ok (.getfield 74, 3) := by decide +kernel
theorem dX6_listed_63 : decode cX6_listed 63 = .ok (.ireturn, 1) := by decide +kernel
theorem dX6_mend_0 : decode cX6_mend 0 = .ok (.iload_n 1, 1) := by decide +kernel
theorem dX6_mend_1 : decode cX6_mend 1 = .ok (.invokestatic 62, 3) := by decide +kernel
theorem dX6_mend_4 : decode cX6_mend 4 = .ok (.ifCond .eq 10, 3) := by decide +kernel
theorem dX6_mend_7 : decode cX6_mend 7 = .ok (.iload_n 2, 1) := by decide +kernel
theorem dX6_mend_8 : decode cX6_mend 8 = .ok (.invokestatic 62, 3) := by decide +kernel
theorem dX6_mend_11 : decode cX6_mend 11 = .ok (.ifCond .ne 5, 3) := by decide +kernel
theorem dX6_mend_14 : decode cX6_mend 14 = .ok (.iconst (-1), 1) := by decide +kernel
theorem dX6_mend_15 : decode cX6_mend 15 = .ok (.ireturn, 1) := by decide +kernel
theorem dX6_mend_16 : decode cX6_mend 16 = .ok (.aload_n 0, 1) := by decide +kernel
theorem dX6_mend_17 : decode cX6_mend 17 = .ok (.getfield 23, 3) := by decide +kernel
theorem dX6_mend_20 : decode cX6_mend 20 = .ok (.invokevirtual 112, 3) := by decide +kernel
theorem dX6_mend_23 : decode cX6_mend 23 = .ok (.ifCond .ne 6, 3) := by decide +kernel
theorem dX6_mend_26 : decode cX6_mend 26 = .ok (.bipush (-2), 2) := by decide +kernel
theorem dX6_mend_28 : decode cX6_mend 28 = .ok (.ireturn, 1) := by decide +kernel
theorem dX6_mend_29 : decode cX6_mend 29 = .ok (.aload_n 0, 1) := by decide +kernel
theorem dX6_mend_30 : decode cX6_mend 30 = .ok (.getfield 23, 3) := by decide +kernel
theorem dX6_mend_33 : decode cX6_mend 33 = .ok (.aload_n 0, 1) := by decide +kernel
theorem dX6_mend_34 : decode cX6_mend 34 = .ok (.getfield 15, 3) := by decide +kernel
theorem dX6_mend_37 : decode cX6_mend 37 = .ok (.iload_n 2, 1) := by decide +kernel
theorem dX6_mend_38 : decode cX6_mend 38 = .ok (.aaload, 1) := by decide +kernel
theorem dX6_mend_39 : decode cX6_mend 39 = .ok (.invokevirtual 119, 3) := by decide +kernel
theorem dX6_mend_42 : decode cX6_mend 42 = .ok (.ifCond .eq 20, 3) := by decide +kernel
theorem dX6_mend_45 : decode cX6_mend 45 = .ok (.aload_n 0, 1) := by decide +kernel
theorem dX6_mend_46 : decode cX6_mend 46 = .ok (.getfield 15, 3) := by decide +kernel
theorem dX6_mend_49 : decode cX6_mend 49 = .ok (.iload_n 1, 1) := by decide +kernel
theorem dX6_mend_50 : decode cX6_mend 50 = .ok (.aaload, 1) := by decide +kernel
theorem dX6_mend_51 : decode cX6_mend 51 = .ok (.aload_n 0, 1) := by decide +kernel
theorem dX6_mend_52 : decode cX6_mend 52 = .ok (.getfield 15, 3) := by decide +kernel
theorem dX6_mend_55 : decode cX6_mend 55 = .ok (.iload_n 2, 1) := by decide +kernel
theorem dX6_mend_56 : decode cX6_mend 56 = .ok (.aaload, 1) := by decide +kernel
theorem dX6_mend_57 : decode cX6_mend 57 = .ok (.invokevirtual 89, 3) := by decide +kernel
theorem dX6_mend_60 : decode cX6_mend 60 = .ok (.iconst 0, 1) := by decide +kernel
theorem dX6_mend_61 : decode cX6_mend 61 = .ok (.ireturn, 1) := by decide +kernel
theorem dX6_mend_62 : decode cX6_mend 62 = .ok (.aload_n 0, 1) := by decide +kernel
theorem dX6_mend_63 : decode cX6_mend 63 = .ok (.getfield 23, 3) := by decide +kernel
theorem dX6_mend_66 : decode cX6_mend 66 = .ok (.aload_n 0, 1) := by decide +kernel
theorem dX6_mend_67 : decode cX6_mend 67 = .ok (.getfield 15, 3) := by decide +kernel
theorem dX6_mend_70 : decode cX6_mend 70 = .ok (.iload_n 2, 1) := by decide +kernel
theorem dX6_mend_71 : decode cX6_mend 71 = .ok (.aaload, 1) := by decide +kernel
theorem dX6_mend_72 : decode cX6_mend 72 = .ok (.invokevirtual 127, 3) := by decide +kernel
theorem dX6_mend_75 : decode cX6_mend 75 = .ok (.iconst 1, 1) := by decide +kernel
theorem dX6_mend_76 : decode cX6_mend 76 = .ok (.if_icmp .eq 6, 3) := by decide +kernel
theorem dX6_mend_79 : decode cX6_mend 79 = .ok (.bipush (-4), 2) := by decide +kernel
theorem dX6_mend_81 : decode cX6_mend 81 = .ok (.ireturn, 1) := by decide +kernel
theorem dX6_mend_82 : decode cX6_mend 82 = .ok (.aload_n 0, 1) := by decide +kernel
theorem dX6_mend_83 : decode cX6_mend 83 = .ok (.getfield 15, 3) := by decide +kernel
theorem dX6_mend_86 : decode cX6_mend 86 = .ok (.iload_n 1, 1) := by decide +kernel
theorem dX6_mend_87 : decode cX6_mend 87 = .ok (.aaload, 1) := by decide +kernel
theorem dX6_mend_88 : decode cX6_mend 88 = .ok (.aload_n 0, 1) := by decide +kernel
theorem dX6_mend_89 : decode cX6_mend 89 = .ok (.getfield 23, 3) := by decide +kernel
theorem dX6_mend_92 : decode cX6_mend 92 = .ok (.getfield 130, 3) := by decide +kernel
theorem dX6_mend_95 : decode cX6_mend 95 = .ok (.invokevirtual 89, 3) := by decide +kernel
theorem dX6_mend_98 : decode cX6_mend 98 = .ok (.iconst 1, 1) := by decide +kernel
theorem dX6_mend_99 : decode cX6_mend 99 = .ok (.ireturn, 1) := by decide +kernel
theorem dX6_near_0 : decode cX6_near 0 = .ok (.iload_n 1, 1) := by decide +kernel
theorem dX6_near_1 : decode cX6_near 1 = .ok (.invokestatic 62, 3) := by decide +kernel
theorem dX6_near_4 : decode cX6_near 4 = .ok (.ifCond .ne 5, 3) := by decide +kernel
theorem dX6_near_7 : decode cX6_near 7 = .ok (.iconst (-1), 1) := by decide +kernel
theorem dX6_near_8 : decode cX6_near 8 = .ok (.ireturn, 1) := by decide +kernel
theorem dX6_near_9 : decode cX6_near 9 = .ok (.aload_n 0, 1) := by decide +kernel
theorem dX6_near_10 : decode cX6_near 10 = .ok (.getfield 23, 3) := by decide +kernel
theorem dX6_near_13 : decode cX6_near 13 = .ok (.invokevirtual 112, 3) := by decide +kernel
theorem dX6_near_16 : decode cX6_near 16 = .ok (.ifCond .ne 6, 3) := by decide +kernel
theorem dX6_near_19 : decode cX6_near 19 = .ok (.bipush (-2), 2) := by decide +kernel
theorem dX6_near_21 : decode cX6_near 21 = .ok (.ireturn, 1) := by decide +kernel
theorem dX6_near_22 : decode cX6_near 22 = .ok (.aload_n 0, 1) := by decide +kernel
theorem dX6_near_23 : decode cX6_near 23 = .ok (.getfield 23, 3) := by decide +kernel
theorem dX6_near_26 : decode cX6_near 26 = .ok (.aload_n 0, 1) := by decide +kernel
theorem dX6_near_27 : decode cX6_near 27 = .ok (.getfield 15, 3) := by decide +kernel
theorem dX6_near_30 : decode cX6_near 30 = .ok (.iload_n 1, 1) := by decide +kernel
theorem dX6_near_31 : decode cX6_near 31 = .ok (.aaload, 1) := by decide +kernel
theorem dX6_near_32 : decode cX6_near 32 = .ok (.invokevirtual 127, 3) := by decide +kernel
theorem dX6_near_35 : decode cX6_near 35 = .ok (.aload_n 0, 1) := by decide +kernel
theorem dX6_near_36 : decode cX6_near 36 = .ok (.getfield 23, 3) := by decide +kernel
theorem dX6_near_39 : decode cX6_near 39 = .ok (.aload_n 0, 1) := by decide +kernel
theorem dX6_near_40 : decode cX6_near 40 = .ok (.getfield 15, 3) := by decide +kernel
theorem dX6_near_43 : decode cX6_near 43 = .ok (.iload_n 1, 1) := by decide +kernel
theorem dX6_near_44 : decode cX6_near 44 = .ok (.aaload, 1) := by decide +kernel
theorem dX6_near_45 : decode cX6_near 45 = .ok (.invokevirtual 119, 3) := by decide +kernel
theorem dX6_near_48 : decode cX6_near 48 = .ok (.ifCond .eq 7, 3) := by decide +kernel
theorem dX6_near_51 : decode cX6_near 51 = .ok (.iconst 1, 1) := by decide +kernel
theorem dX6_near_52 : decode cX6_near 52 = .ok (.goto 4, 3) := by decide +kernel
theorem dX6_near_55 : decode cX6_near 55 = .ok (.iconst 0, 1) := by decide +kernel
theorem dX6_near_56 : decode cX6_near 56 = .ok (.iadd, 1) := by decide +kernel
theorem dX6_near_57 : decode cX6_near 57 = .ok (.ireturn, 1) := by decide +kernel
theorem dX6_liesIn_0 : decode cX6_liesIn 0 = .ok (.iload_n 1, 1) := by decide +kernel
theorem dX6_liesIn_1 : decode cX6_liesIn 1 = .ok (.invokestatic 62, 3) := by decide +kernel
theorem dX6_liesIn_4 : decode cX6_liesIn 4 = .ok (.ifCond .eq 10, 3) := by decide +kernel
theorem dX6_liesIn_7 : decode cX6_liesIn 7 = .ok (.iload_n 2, 1) := by decide +kernel
theorem dX6_liesIn_8 : decode cX6_liesIn 8 = .ok (.invokestatic 62, 3) := by decide +kernel
theorem dX6_liesIn_11 : decode cX6_liesIn 11 = .ok (.ifCond .ne 7, 3) := by decide +kernel
theorem dX6_liesIn_14 : decode cX6_liesIn 14 = .ok (.ldc2_w 134, 3) := by decide +kernel
theorem dX6_liesIn_17 : decode cX6_liesIn 17 = .ok (.lreturn, 1) := by decide +kernel
theorem dX6_liesIn_18 : decode cX6_liesIn 18 = .ok (.aload_n 0, 1) := by decide +kernel
theorem dX6_liesIn_19 : decode cX6_liesIn 19 = .ok (.getfield 30, 3) := by decide +kernel
theorem dX6_liesIn_22 : decode cX6_liesIn 22 = .ok (.aload_n 0, 1) := by decide +kernel
theorem dX6_liesIn_23 : decode cX6_liesIn 23 = .ok (.getfield 15, 3) := by decide +kernel
theorem dX6_liesIn_26 : decode cX6_liesIn 26 = .ok (.iload_n 1, 1) := by decide +kernel
theorem dX6_liesIn_27 : decode cX6_liesIn 27 = .ok (.aaload, 1) := by decide +kernel
theorem dX6_liesIn_28 : decode cX6_liesIn 28 = .ok (.aload_n 0, 1) := by decide +kernel
theorem dX6_liesIn_29 : decode cX6_liesIn 29 = .ok (.getfield 15, 3) := by decide +kernel
theorem dX6_liesIn_32 : decode cX6_liesIn 32 = .ok (.iload_n 2, 1) := by decide +kernel
theorem dX6_liesIn_33 : decode cX6_liesIn 33 = .ok (.aaload, 1) := by decide +kernel
theorem dX6_liesIn_34 : decode cX6_liesIn 34 = .ok (.invokevirtual 136, 3) := by decide +kernel
theorem dX6_liesIn_37 : decode cX6_liesIn 37 = .ok (.lreturn, 1) := by decide +kernel
theorem dX6_common_0 : decode cX6_common 0 = .ok (.iload_n 1, 1) := by decide +kernel
theorem dX6_common_1 : decode cX6_common 1 = .ok (.invokestatic 62, 3) := by decide +kernel
theorem dX6_common_4 : decode cX6_common 4 = .ok (.ifCond .eq 17, 3) := by decide +kernel
theorem dX6_common_7 : decode cX6_common 7 = .ok (.iload_n 2, 1) := by decide +kernel
theorem dX6_common_8 : decode cX6_common 8 = .ok (.invokestatic 62, 3) := by decide +kernel
theorem dX6_common_11 : decode cX6_common 11 = .ok (.ifCond .eq 10, 3) := by decide +kernel
theorem dX6_common_14 : decode cX6_common 14 = .ok (.iload_n 3, 1) := by decide +kernel
theorem dX6_common_15 : decode cX6_common 15 = .ok (.invokestatic 62, 3) := by decide +kernel
theorem dX6_common_18 : decode cX6_common 18 = .ok (.ifCond .ne 5, 3) := by decide +kernel
theorem dX6_common_21 : decode cX6_common 21 = .ok (.iconst (-1), 1) := by decide +kernel
theorem dX6_common_22 : decode cX6_common 22 = .ok (.ireturn, 1) := by decide +kernel
theorem dX6_common_23 : decode cX6_common 23 = .ok (.aload_n 0, 1) := by decide +kernel
theorem dX6_common_24 : decode cX6_common 24 = .ok (.getfield 37, 3) := by decide +kernel
theorem dX6_common_27 : decode cX6_common 27 = .ok (.aload_n 0, 1) := by decide +kernel
theorem dX6_common_28 : decode cX6_common 28 = .ok (.getfield 15, 3) := by decide +kernel
theorem dX6_common_31 : decode cX6_common 31 = .ok (.iload_n 2, 1) := by decide +kernel
theorem dX6_common_32 : decode cX6_common 32 = .ok (.aaload, 1) := by decide +kernel
theorem dX6_common_33 : decode cX6_common 33 = .ok (.aload_n 0, 1) := by decide +kernel
theorem dX6_common_34 : decode cX6_common 34 = .ok (.getfield 15, 3) := by decide +kernel
theorem dX6_common_37 : decode cX6_common 37 = .ok (.iload_n 3, 1) := by decide +kernel
theorem dX6_common_38 : decode cX6_common 38 = .ok (.aaload, 1) := by decide +kernel
theorem dX6_common_39 : decode cX6_common 39 = .ok (.invokevirtual 140, 3) := by decide +kernel
theorem dX6_common_42 : decode cX6_common 42 = .ok (.istore 4, 2) := by decide +kernel
theorem dX6_common_44 : decode cX6_common 44 = .ok (.aload_n 0, 1) := by decide +kernel
theorem dX6_common_45 : decode cX6_common 45 = .ok (.getfield 15, 3) := by decide +kernel
theorem dX6_common_48 : decode cX6_common 48 = .ok (.iload_n 1, 1) := by decide +kernel
theorem dX6_common_49 : decode cX6_common 49 = .ok (.aaload, 1) := by decide +kernel
theorem dX6_common_50 : decode cX6_common 50 = .ok (.aload_n 0, 1) := by decide +kernel
theorem dX6_common_51 : decode cX6_common 51 = .ok (.getfield 37, 3) := by decide +kernel
theorem dX6_common_54 : decode cX6_common 54 = .ok (.aload_n 0, 1) := by decide +kernel
theorem dX6_common_55 : decode cX6_common 55 = .ok (.getfield 15, 3) := by decide +kernel
theorem dX6_common_58 : decode cX6_common 58 = .ok (.iload_n 2, 1) := by decide +kernel
theorem dX6_common_59 : decode cX6_common 59 = .ok (.aaload, 1) := by decide +kernel
theorem dX6_common_60 : decode cX6_common 60 = .ok (.aload_n 0, 1) := by decide +kernel
theorem dX6_common_61 : decode cX6_common 61 = .ok (.getfield 15, 3) := by decide +kernel
theorem dX6_common_64 : decode cX6_common 64 = .ok (.iload_n 3, 1) := by decide +kernel
theorem dX6_common_65 : decode cX6_common 65 = .ok (.aaload, 1) := by decide +kernel
theorem dX6_common_66 : decode cX6_common 66 = .ok (.aload_n 0, 1) := by decide +kernel
theorem dX6_common_67 : decode cX6_common 67 = .ok (.getfield 9, 3) := by decide +kernel
theorem dX6_common_70 : decode cX6_common 70 = .ok (.invokevirtual 144, 3) := by decide +kernel
theorem dX6_common_73 : decode cX6_common 73 = .ok (.invokevirtual 89, 3) := by decide +kernel
theorem dX6_common_76 : decode cX6_common 76 = .ok (.iload 4, 2) := by decide +kernel
theorem dX6_common_78 : decode cX6_common 78 = .ok (.ireturn, 1) := by decide +kernel
theorem dX6_commons_0 : decode cX6_commons 0 = .ok (.iload_n 1, 1) := by decide +kernel
theorem dX6_commons_1 : decode cX6_commons 1 = .ok (.invokestatic 62, 3) := by decide +kernel
theorem dX6_commons_4 : decode cX6_commons 4 = .ok (.ifCond .eq 10, 3) := by decide +kernel
theorem dX6_commons_7 : decode cX6_commons 7 = .ok (.iload_n 2, 1) := by decide +kernel
theorem dX6_commons_8 : decode cX6_commons 8 = .ok (.invokestatic 62, 3) := by decide +kernel
theorem dX6_commons_11 : decode cX6_commons 11 = .ok (.ifCond .ne 7, 3) := by decide +kernel
theorem dX6_commons_14 : decode cX6_commons 14 = .ok (.ldc2_w 134, 3) := by decide +kernel
theorem dX6_commons_17 : decode cX6_commons 17 = .ok (.lreturn, 1) := by decide +kernel
theorem dX6_commons_18 : decode cX6_commons 18 = .ok (.aload_n 0, 1) := by decide +kernel
theorem dX6_commons_19 : decode cX6_commons 19 = .ok (.getfield 37, 3) := by decide +kernel
theorem dX6_commons_22 : decode cX6_commons 22 = .ok (.aload_n 0, 1) := by decide +kernel
theorem dX6_commons_23 : decode cX6_commons 23 = .ok (.getfield 15, 3) := by decide +kernel
theorem dX6_commons_26 : decode cX6_commons 26 = .ok (.iload_n 1, 1) := by decide +kernel
theorem dX6_commons_27 : decode cX6_commons 27 = .ok (.aaload, 1) := by decide +kernel
theorem dX6_commons_28 : decode cX6_commons 28 = .ok (.aload_n 0, 1) := by decide +kernel
theorem dX6_commons_29 : decode cX6_commons 29 = .ok (.getfield 15, 3) := by decide +kernel
theorem dX6_commons_32 : decode cX6_commons 32 = .ok (.iload_n 2, 1) := by decide +kernel
theorem dX6_commons_33 : decode cX6_commons 33 = .ok (.aaload, 1) := by decide +kernel
theorem dX6_commons_34 : decode cX6_commons 34 = .ok (.invokevirtual 140, 3) := by decide +kernel
theorem dX6_commons_37 : decode cX6_commons 37 = .ok (.pop, 1) := by decide +kernel
theorem dX6_commons_38 : decode cX6_commons 38 = .ok (.aload_n 0, 1) := by decide +kernel
theorem dX6_commons_39 : decode cX6_commons 39 = .ok (.getfield 37, 3) := by decide +kernel
theorem dX6_commons_42 : decode cX6_commons 42 = .ok (.aload_n 0, 1) := by decide +kernel
theorem dX6_commons_43 : decode cX6_commons 43 = .ok (.getfield 15, 3) := by decide +kernel
theorem dX6_commons_46 : decode cX6_commons 46 = .ok (.iload_n 1, 1) := by decide +kernel
theorem dX6_commons_47 : decode cX6_commons 47 = .ok (.aaload, 1) := by decide +kernel
theorem dX6_commons_48 : decode cX6_commons 48 = .ok (.aload_n 0, 1) := by decide +kernel
theorem dX6_commons_49 : decode cX6_commons 49 = .ok (.getfield 15, 3) := by decide +kernel
theorem dX6_commons_52 : decode cX6_commons 52 = .ok (.iload_n 2, 1) := by decide +kernel
theorem dX6_commons_53 : decode cX6_commons 53 = .ok (.aaload, 1) := by decide +kernel
theorem dX6_commons_54 : decode cX6_commons 54 = .ok (.aload_n 0, 1) := by decide +kernel
theorem dX6_commons_55 : decode cX6_commons 55 = .ok (.getfield 9, 3) := by decide +kernel
theorem dX6_commons_58 : decode cX6_commons 58 = .ok (.invokevirtual 148, 3) := by decide +kernel
theorem dX6_commons_61 : decode cX6_commons 61 = .ok (.lreturn, 1) := by decide +kernel
theorem dX6_between_0 : decode cX6_between 0 = .ok (.iload_n 1, 1) := by decide +kernel
theorem dX6_between_1 : decode cX6_between 1 = .ok (.invokestatic 62, 3) := by decide +kernel
theorem dX6_between_4 : decode cX6_between 4 = .ok (.ifCond .eq 17, 3) := by decide +kernel
theorem dX6_between_7 : decode cX6_between 7 = .ok (.iload_n 2, 1) := by decide +kernel
theorem dX6_between_8 : decode cX6_between 8 = .ok (.invokestatic 62, 3) := by decide +kernel
theorem dX6_between_11 : decode cX6_between 11 = .ok (.ifCond .eq 10, 3) := by decide +kernel
theorem dX6_between_14 : decode cX6_between 14 = .ok (.iload_n 3, 1) := by decide +kernel
theorem dX6_between_15 : decode cX6_between 15 = .ok (.invokestatic 152, 3) := by decide +kernel
theorem dX6_between_18 : decode cX6_between 18 = .ok (.ifCond .ne 5, 3) := by decide +kernel
theorem dX6_between_21 : decode cX6_between 21 = .ok (.iconst (-1), 1) := by decide +kernel
theorem dX6_between_22 : decode cX6_between 22 = .ok (.ireturn, 1) := by decide +kernel
theorem dX6_between_23 : decode cX6_between 23 = .ok (.iload_n 3, 1) := by decide +kernel
theorem dX6_between_24 : decode cX6_between 24 = .ok (.ifCond .ne 23, 3) := by decide +kernel
theorem dX6_between_27 : decode cX6_between 27 = .ok (.aload_n 0, 1) := by decide +kernel
theorem dX6_between_28 : decode cX6_between 28 = .ok (.getfield 37, 3) := by decide +kernel
theorem dX6_between_31 : decode cX6_between 31 = .ok (.aload_n 0, 1) := by decide +kernel
theorem dX6_between_32 : decode cX6_between 32 = .ok (.getfield 15, 3) := by decide +kernel
theorem dX6_between_35 : decode cX6_between 35 = .ok (.iload_n 1, 1) := by decide +kernel
theorem dX6_between_36 : decode cX6_between 36 = .ok (.aaload, 1) := by decide +kernel
theorem dX6_between_37 : decode cX6_between 37 = .ok (.aload_n 0, 1) := by decide +kernel
theorem dX6_between_38 : decode cX6_between 38 = .ok (.getfield 15, 3) := by decide +kernel
theorem dX6_between_41 : decode cX6_between 41 = .ok (.iload_n 2, 1) := by decide +kernel
theorem dX6_between_42 : decode cX6_between 42 = .ok (.aaload, 1) := by decide +kernel
theorem dX6_between_43 : decode cX6_between 43 = .ok (.invokevirtual 155, 3) := by decide +kernel
theorem dX6_between_46 : decode cX6_between 46 = .ok (.ireturn, 1) := by decide +kernel
theorem dX6_between_47 : decode cX6_between 47 = .ok (.aload_n 0, 1) := by decide +kernel
theorem dX6_between_48 : decode cX6_between 48 = .ok (.getfield 15, 3) := by decide +kernel
theorem dX6_between_51 : decode cX6_between 51 = .ok (.iload_n 1, 1) := by decide +kernel
theorem dX6_between_52 : decode cX6_between 52 = .ok (.aaload, 1) := by decide +kernel
theorem dX6_between_53 : decode cX6_between 53 = .ok (.getfield 74, 3) := by decide +kernel
theorem dX6_between_56 : decode cX6_between 56 = .ok (.aload_n 0, 1) := by decide +kernel
theorem dX6_between_57 : decode cX6_between 57 = .ok (.getfield 15, 3) := by decide +kernel
theorem dX6_between_60 : decode cX6_between 60 = .ok (.iload_n 2, 1) := by decide +kernel
theorem dX6_between_61 : decode cX6_between 61 = .ok (.aaload, 1) := by decide +kernel
theorem dX6_between_62 : decode cX6_between 62 = .ok (.getfield 74, 3) := by decide +kernel
theorem dX6_between_65 : decode cX6_between 65 = .ok (.iadd, 1) := by decide +kernel
theorem dX6_between_66 : decode cX6_between 66 = .ok (.aload_n 0, 1) := by decide +kernel
theorem dX6_between_67 : decode cX6_between 67 = .ok (.getfield 37, 3) := by decide +kernel
theorem dX6_between_70 : decode cX6_between 70 = .ok (.aload_n 0, 1) := by decide +kernel
theorem dX6_between_71 : decode cX6_between 71 = .ok (.getfield 15, 3) := by decide +kernel
theorem dX6_between_74 : decode cX6_between 74 = .ok (.iload_n 1, 1) := by decide +kernel
theorem dX6_between_75 : decode cX6_between 75 = .ok (.aaload, 1) := by decide +kernel
theorem dX6_between_76 : decode cX6_between 76 = .ok (.aload_n 0, 1) := by decide +kernel
theorem dX6_between_77 : decode cX6_between 77 = .ok (.getfield 15, 3) := by decide +kernel
theorem dX6_between_80 : decode cX6_between 80 = .ok (.iload_n 2, 1) := by decide +kernel
theorem dX6_between_81 : decode cX6_between 81 = .ok (.aaload, 1) := by decide +kernel
theorem dX6_between_82 : decode cX6_between 82 = .ok (.invokevirtual 140, 3) := by decide +kernel
theorem dX6_between_85 : decode cX6_between 85 = .ok (.isub, 1) := by decide +kernel
theorem dX6_between_86 : decode cX6_between 86 = .ok (.ireturn, 1) := by decide +kernel
theorem dX6_by_0 : decode cX6_by 0 = .ok (.iload_n 1, 1) := by decide +kernel
theorem dX6_by_1 : decode cX6_by 1 = .ok (.invokestatic 62, 3) := by decide +kernel
theorem dX6_by_4 : decode cX6_by 4 = .ok (.ifCond .eq 20, 3) := by decide +kernel
theorem dX6_by_7 : decode cX6_by 7 = .ok (.iload_n 2, 1) := by decide +kernel
theorem dX6_by_8 : decode cX6_by 8 = .ok (.ifCond .lt 16, 3) := by decide +kernel
theorem dX6_by_11 : decode cX6_by 11 = .ok (.iload_n 2, 1) := by decide +kernel
theorem dX6_by_12 : decode cX6_by 12 = .ok (.bipush 6, 2) := by decide +kernel
theorem dX6_by_14 : decode cX6_by 14 = .ok (.if_icmp .gt 10, 3) := by decide +kernel
theorem dX6_by_17 : decode cX6_by 17 = .ok (.iload_n 3, 1) := by decide +kernel
theorem dX6_by_18 : decode cX6_by 18 = .ok (.invokestatic 152, 3) := by decide +kernel
theorem dX6_by_21 : decode cX6_by 21 = .ok (.ifCond .ne 7, 3) := by decide +kernel
theorem dX6_by_24 : decode cX6_by 24 = .ok (.ldc2_w 134, 3) := by decide +kernel
theorem dX6_by_27 : decode cX6_by 27 = .ok (.lreturn, 1) := by decide +kernel
theorem dX6_by_28 : decode cX6_by 28 = .ok (.iload_n 3, 1) := by decide +kernel
theorem dX6_by_29 : decode cX6_by 29 = .ok (.ifCond .ne 24, 3) := by decide +kernel
theorem dX6_by_32 : decode cX6_by 32 = .ok (.aload_n 0, 1) := by decide +kernel
theorem dX6_by_33 : decode cX6_by 33 = .ok (.getfield 30, 3) := by decide +kernel
theorem dX6_by_36 : decode cX6_by 36 = .ok (.aload_n 0, 1) := by decide +kernel
theorem dX6_by_37 : decode cX6_by 37 = .ok (.getfield 15, 3) := by decide +kernel
theorem dX6_by_40 : decode cX6_by 40 = .ok (.iload_n 1, 1) := by decide +kernel
theorem dX6_by_41 : decode cX6_by 41 = .ok (.aaload, 1) := by decide +kernel
theorem dX6_by_42 : decode cX6_by 42 = .ok (.iload_n 2, 1) := by decide +kernel
theorem dX6_by_43 : decode cX6_by 43 = .ok (.aload_n 0, 1) := by decide +kernel
theorem dX6_by_44 : decode cX6_by 44 = .ok (.getfield 9, 3) := by decide +kernel
theorem dX6_by_47 : decode cX6_by 47 = .ok (.invokevirtual 158, 3) := by decide +kernel
theorem dX6_by_50 : decode cX6_by 50 = .ok (.goto 21, 3) := by decide +kernel
theorem dX6_by_53 : decode cX6_by 53 = .ok (.aload_n 0, 1) := by decide +kernel
theorem dX6_by_54 : decode cX6_by 54 = .ok (.getfield 30, 3) := by decide +kernel
theorem dX6_by_57 : decode cX6_by 57 = .ok (.aload_n 0, 1) := by decide +kernel
theorem dX6_by_58 : decode cX6_by 58 = .ok (.getfield 15, 3) := by decide +kernel
theorem dX6_by_61 : decode cX6_by 61 = .ok (.iload_n 1, 1) := by decide +kernel
theorem dX6_by_62 : decode cX6_by 62 = .ok (.aaload, 1) := by decide +kernel
theorem dX6_by_63 : decode cX6_by 63 = .ok (.iload_n 2, 1) := by decide +kernel
theorem dX6_by_64 : decode cX6_by 64 = .ok (.aload_n 0, 1) := by decide +kernel
theorem dX6_by_65 : decode cX6_by 65 = .ok (.getfield 9, 3) := by decide +kernel
theorem dX6_by_68 : decode cX6_by 68 = .ok (.invokevirtual 162, 3) := by decide +kernel
theorem dX6_by_71 : decode cX6_by 71 = .ok (.lreturn, 1) := by decide +kernel
theorem dX6_trace_0 : decode cX6_trace 0 = .ok (.iload_n 1, 1) := by decide +kernel
theorem dX6_trace_1 : decode cX6_trace 1 = .ok (.invokestatic 62, 3) := by decide +kernel
theorem dX6_trace_4 : decode cX6_trace 4 = .ok (.ifCond .ne 5, 3) := by decide +kernel
theorem dX6_trace_7 : decode cX6_trace 7 = .ok (.iconst (-1), 1) := by decide +kernel
theorem dX6_trace_8 : decode cX6_trace 8 = .ok (.ireturn, 1) := by decide +kernel
theorem dX6_trace_9 : decode cX6_trace 9 = .ok (.aload_n 0, 1) := by decide +kernel
theorem dX6_trace_10 : decode cX6_trace 10 = .ok (.getfield 44, 3) := by decide +kernel
theorem dX6_trace_13 : decode cX6_trace 13 = .ok (.getfield 165, 3) := by decide +kernel
theorem dX6_trace_16 : decode cX6_trace 16 = .ok (.bipush 8, 2) := by decide +kernel
theorem dX6_trace_18 : decode cX6_trace 18 = .ok (.if_icmp .ne 6, 3) := by decide +kernel
theorem dX6_trace_21 : decode cX6_trace 21 = .ok (.bipush (-3), 2) := by decide +kernel
theorem dX6_trace_23 : decode cX6_trace 23 = .ok (.ireturn, 1) := by decide +kernel
theorem dX6_trace_24 : decode cX6_trace 24 = .ok (.aload_n 0, 1) := by decide +kernel
theorem dX6_trace_25 : decode cX6_trace 25 = .ok (.getfield 44, 3) := by decide +kernel
theorem dX6_trace_28 : decode cX6_trace 28 = .ok (.aload_n 0, 1) := by decide +kernel
theorem dX6_trace_29 : decode cX6_trace 29 = .ok (.getfield 15, 3) := by decide +kernel
theorem dX6_trace_32 : decode cX6_trace 32 = .ok (.iload_n 1, 1) := by decide +kernel
theorem dX6_trace_33 : decode cX6_trace 33 = .ok (.aaload, 1) := by decide +kernel
theorem dX6_trace_34 : decode cX6_trace 34 = .ok (.invokevirtual 166, 3) := by decide +kernel
theorem dX6_trace_37 : decode cX6_trace 37 = .ok (.aload_n 0, 1) := by decide +kernel
theorem dX6_trace_38 : decode cX6_trace 38 = .ok (.getfield 44, 3) := by decide +kernel
theorem dX6_trace_41 : decode cX6_trace 41 = .ok (.getfield 165, 3) := by decide +kernel
theorem dX6_trace_44 : decode cX6_trace 44 = .ok (.ireturn, 1) := by decide +kernel
theorem dX6_noTraces_0 : decode cX6_noTraces 0 = .ok (.aload_n 0, 1) := by decide +kernel
theorem dX6_noTraces_1 : decode cX6_noTraces 1 = .ok (.getfield 44, 3) := by decide +kernel
theorem dX6_noTraces_4 : decode cX6_noTraces 4 = .ok (.getfield 165, 3) := by decide +kernel
theorem dX6_noTraces_7 : decode cX6_noTraces 7 = .ok (.istore_n 1, 1) := by decide +kernel
theorem dX6_noTraces_8 : decode cX6_noTraces 8 = .ok (.aload_n 0, 1) := by decide +kernel
theorem dX6_noTraces_9 : decode cX6_noTraces 9 = .ok (.getfield 44, 3) := by decide +kernel
theorem dX6_noTraces_12 : decode cX6_noTraces 12 = .ok (.invokevirtual 61, 3) := by decide +kernel
theorem dX6_noTraces_15 : decode cX6_noTraces 15 = .ok (.iload_n 1, 1) := by decide +kernel
theorem dX6_noTraces_16 : decode cX6_noTraces 16 = .ok (.ireturn, 1) := by decide +kernel
theorem dX6_sources_0 : decode cX6_sources 0 = .ok (.aload_n 0, 1) := by decide +kernel
theorem dX6_sources_1 : decode cX6_sources 1 = .ok (.iload_n 1, 1) := by decide +kernel
theorem dX6_sources_2 : decode cX6_sources 2 = .ok (.invokevirtual 169, 3) := by decide +kernel
theorem dX6_sources_5 : decode cX6_sources 5 = .ok (.ifCond .eq 18, 3) := by decide +kernel
theorem dX6_sources_8 : decode cX6_sources 8 = .ok (.aload_n 0, 1) := by decide +kernel
theorem dX6_sources_9 : decode cX6_sources 9 = .ok (.getfield 44, 3) := by decide +kernel
theorem dX6_sources_12 : decode cX6_sources 12 = .ok (.aload_n 0, 1) := by decide +kernel
theorem dX6_sources_13 : decode cX6_sources 13 = .ok (.getfield 9, 3) := by decide +kernel
theorem dX6_sources_16 : decode cX6_sources 16 = .ok (.iload_n 1, 1) := by decide +kernel
theorem dX6_sources_17 : decode cX6_sources 17 = .ok (.invokevirtual 172, 3) := by decide +kernel
theorem dX6_sources_20 : decode cX6_sources 20 = .ok (.goto 4, 3) := by decide +kernel
theorem dX6_sources_23 : decode cX6_sources 23 = .ok (.iconst (-1), 1) := by decide +kernel
theorem dX6_sources_24 : decode cX6_sources 24 = .ok (.ireturn, 1) := by decide +kernel
theorem dX6_best_0 : decode cX6_best 0 = .ok (.iload_n 1, 1) := by decide +kernel
theorem dX6_best_1 : decode cX6_best 1 = .ok (.invokestatic 62, 3) := by decide +kernel
theorem dX6_best_4 : decode cX6_best 4 = .ok (.ifCond .eq 11, 3) := by decide +kernel
theorem dX6_best_7 : decode cX6_best 7 = .ok (.aload_n 0, 1) := by decide +kernel
theorem dX6_best_8 : decode cX6_best 8 = .ok (.iload_n 2, 1) := by decide +kernel
theorem dX6_best_9 : decode cX6_best 9 = .ok (.invokevirtual 169, 3) := by decide +kernel
theorem dX6_best_12 : decode cX6_best 12 = .ok (.ifCond .ne 5, 3) := by decide +kernel
theorem dX6_best_15 : decode cX6_best 15 = .ok (.iconst (-1), 1) := by decide +kernel
theorem dX6_best_16 : decode cX6_best 16 = .ok (.ireturn, 1) := by decide +kernel
theorem dX6_best_17 : decode cX6_best 17 = .ok (.aload_n 0, 1) := by decide +kernel
theorem dX6_best_18 : decode cX6_best 18 = .ok (.getfield 44, 3) := by decide +kernel
theorem dX6_best_21 : decode cX6_best 21 = .ok (.aload_n 0, 1) := by decide +kernel
theorem dX6_best_22 : decode cX6_best 22 = .ok (.getfield 9, 3) := by decide +kernel
theorem dX6_best_25 : decode cX6_best 25 = .ok (.iload_n 2, 1) := by decide +kernel
theorem dX6_best_26 : decode cX6_best 26 = .ok (.invokevirtual 172, 3) := by decide +kernel
theorem dX6_best_29 : decode cX6_best 29 = .ok (.ifCond .ne 6, 3) := by decide +kernel
theorem dX6_best_32 : decode cX6_best 32 = .ok (.bipush (-4), 2) := by decide +kernel
theorem dX6_best_34 : decode cX6_best 34 = .ok (.ireturn, 1) := by decide +kernel
theorem dX6_best_35 : decode cX6_best 35 = .ok (.aload_n 0, 1) := by decide +kernel
theorem dX6_best_36 : decode cX6_best 36 = .ok (.getfield 15, 3) := by decide +kernel
theorem dX6_best_39 : decode cX6_best 39 = .ok (.iload_n 1, 1) := by decide +kernel
theorem dX6_best_40 : decode cX6_best 40 = .ok (.aaload, 1) := by decide +kernel
theorem dX6_best_41 : decode cX6_best 41 = .ok (.aload_n 0, 1) := by decide +kernel
theorem dX6_best_42 : decode cX6_best 42 = .ok (.getfield 44, 3) := by decide +kernel
theorem dX6_best_45 : decode cX6_best 45 = .ok (.getfield 176, 3) := by decide +kernel
theorem dX6_best_48 : decode cX6_best 48 = .ok (.invokevirtual 89, 3) := by decide +kernel
theorem dX6_best_51 : decode cX6_best 51 = .ok (.iload_n 2, 1) := by decide +kernel
theorem dX6_best_52 : decode cX6_best 52 = .ok (.ireturn, 1) := by decide +kernel
theorem dX6_line_0 : decode cX6_line 0 = .ok (.iload_n 1, 1) := by decide +kernel
theorem dX6_line_1 : decode cX6_line 1 = .ok (.invokestatic 179, 3) := by decide +kernel
theorem dX6_line_4 : decode cX6_line 4 = .ok (.ifCond .eq 27, 3) := by decide +kernel
theorem dX6_line_7 : decode cX6_line 7 = .ok (.iload_n 2, 1) := by decide +kernel
theorem dX6_line_8 : decode cX6_line 8 = .ok (.invokestatic 179, 3) := by decide +kernel
theorem dX6_line_11 : decode cX6_line 11 = .ok (.ifCond .eq 20, 3) := by decide +kernel
theorem dX6_line_14 : decode cX6_line 14 = .ok (.iload_n 3, 1) := by decide +kernel
theorem dX6_line_15 : decode cX6_line 15 = .ok (.invokestatic 179, 3) := by decide +kernel
theorem dX6_line_18 : decode cX6_line 18 = .ok (.ifCond .eq 13, 3) := by decide +kernel
theorem dX6_line_21 : decode cX6_line 21 = .ok (.iload_n 1, 1) := by decide +kernel
theorem dX6_line_22 : decode cX6_line 22 = .ok (.iload_n 2, 1) := by decide +kernel
theorem dX6_line_23 : decode cX6_line 23 = .ok (.iadd, 1) := by decide +kernel
theorem dX6_line_24 : decode cX6_line 24 = .ok (.iload_n 3, 1) := by decide +kernel
theorem dX6_line_25 : decode cX6_line 25 = .ok (.iadd, 1) := by decide +kernel
theorem dX6_line_26 : decode cX6_line 26 = .ok (.bipush 64, 2) := by decide +kernel
theorem dX6_line_28 : decode cX6_line 28 = .ok (.if_icmp .le 5, 3) := by decide +kernel
theorem dX6_line_31 : decode cX6_line 31 = .ok (.iconst (-1), 1) := by decide +kernel
theorem dX6_line_32 : decode cX6_line 32 = .ok (.ireturn, 1) := by decide +kernel
theorem dX6_line_33 : decode cX6_line 33 = .ok (.aload_n 0, 1) := by decide +kernel
theorem dX6_line_34 : decode cX6_line 34 = .ok (.getfield 51, 3) := by decide +kernel
theorem dX6_line_37 : decode cX6_line 37 = .ok (.iload_n 1, 1) := by decide +kernel
theorem dX6_line_38 : decode cX6_line 38 = .ok (.iload_n 2, 1) := by decide +kernel
theorem dX6_line_39 : decode cX6_line 39 = .ok (.iload_n 3, 1) := by decide +kernel
theorem dX6_line_40 : decode cX6_line 40 = .ok (.invokevirtual 182, 3) := by decide +kernel
theorem dX6_line_43 : decode cX6_line 43 = .ok (.iconst 0, 1) := by decide +kernel
theorem dX6_line_44 : decode cX6_line 44 = .ok (.ireturn, 1) := by decide +kernel
theorem dX6_seed_0 : decode cX6_seed 0 = .ok (.lload_n 1, 1) := by decide +kernel
theorem dX6_seed_1 : decode cX6_seed 1 = .ok (.lconst 0, 1) := by decide +kernel
theorem dX6_seed_2 : decode cX6_seed 2 = .ok (.lcmp, 1) := by decide +kernel
theorem dX6_seed_3 : decode cX6_seed 3 = .ok (.ifCond .ge 5, 3) := by decide +kernel
theorem dX6_seed_6 : decode cX6_seed 6 = .ok (.iconst (-1), 1) := by decide +kernel
theorem dX6_seed_7 : decode cX6_seed 7 = .ok (.ireturn, 1) := by decide +kernel
theorem dX6_seed_8 : decode cX6_seed 8 = .ok (.aload_n 0, 1) := by decide +kernel
theorem dX6_seed_9 : decode cX6_seed 9 = .ok (.getfield 51, 3) := by decide +kernel
theorem dX6_seed_12 : decode cX6_seed 12 = .ok (.lload_n 1, 1) := by decide +kernel
theorem dX6_seed_13 : decode cX6_seed 13 = .ok (.putfield 185, 3) := by decide +kernel
theorem dX6_seed_16 : decode cX6_seed 16 = .ok (.iconst 0, 1) := by decide +kernel
theorem dX6_seed_17 : decode cX6_seed 17 = .ok (.ireturn, 1) := by decide +kernel
theorem dX6_send_0 : decode cX6_send 0 = .ok (.iload_n 1, 1) := by decide +kernel
theorem dX6_send_1 : decode cX6_send 1 = .ok (.invokestatic 62, 3) := by decide +kernel
theorem dX6_send_4 : decode cX6_send 4 = .ok (.ifCond .eq 10, 3) := by decide +kernel
theorem dX6_send_7 : decode cX6_send 7 = .ok (.iload_n 2, 1) := by decide +kernel
theorem dX6_send_8 : decode cX6_send 8 = .ok (.invokestatic 62, 3) := by decide +kernel
theorem dX6_send_11 : decode cX6_send 11 = .ok (.ifCond .ne 5, 3) := by decide +kernel
theorem dX6_send_14 : decode cX6_send 14 = .ok (.iconst (-1), 1) := by decide +kernel
theorem dX6_send_15 : decode cX6_send 15 = .ok (.ireturn, 1) := by decide +kernel
theorem dX6_send_16 : decode cX6_send 16 = .ok (.aload_n 0, 1) := by decide +kernel
theorem dX6_send_17 : decode cX6_send 17 = .ok (.getfield 51, 3) := by decide +kernel
theorem dX6_send_20 : decode cX6_send 20 = .ok (.aload_n 0, 1) := by decide +kernel
theorem dX6_send_21 : decode cX6_send 21 = .ok (.getfield 15, 3) := by decide +kernel
theorem dX6_send_24 : decode cX6_send 24 = .ok (.iload_n 2, 1) := by decide +kernel
theorem dX6_send_25 : decode cX6_send 25 = .ok (.aaload, 1) := by decide +kernel
theorem dX6_send_26 : decode cX6_send 26 = .ok (.aload_n 0, 1) := by decide +kernel
theorem dX6_send_27 : decode cX6_send 27 = .ok (.getfield 9, 3) := by decide +kernel
theorem dX6_send_30 : decode cX6_send 30 = .ok (.invokevirtual 189, 3) := by decide +kernel
theorem dX6_send_33 : decode cX6_send 33 = .ok (.ifCond .ne 6, 3) := by decide +kernel
theorem dX6_send_36 : decode cX6_send 36 = .ok (.bipush (-5), 2) := by decide +kernel
theorem dX6_send_38 : decode cX6_send 38 = .ok (.ireturn, 1) := by decide +kernel
theorem dX6_send_39 : decode cX6_send 39 = .ok (.aload_n 0, 1) := by decide +kernel
theorem dX6_send_40 : decode cX6_send 40 = .ok (.getfield 15, 3) := by decide +kernel
theorem dX6_send_43 : decode cX6_send 43 = .ok (.iload_n 1, 1) := by decide +kernel
theorem dX6_send_44 : decode cX6_send 44 = .ok (.aaload, 1) := by decide +kernel
theorem dX6_send_45 : decode cX6_send 45 = .ok (.aload_n 0, 1) := by decide +kernel
theorem dX6_send_46 : decode cX6_send 46 = .ok (.getfield 51, 3) := by decide +kernel
theorem dX6_send_49 : decode cX6_send 49 = .ok (.getfield 193, 3) := by decide +kernel
theorem dX6_send_52 : decode cX6_send 52 = .ok (.invokevirtual 89, 3) := by decide +kernel
theorem dX6_send_55 : decode cX6_send 55 = .ok (.aload_n 0, 1) := by decide +kernel
theorem dX6_send_56 : decode cX6_send 56 = .ok (.getfield 15, 3) := by decide +kernel
theorem dX6_send_59 : decode cX6_send 59 = .ok (.iload_n 1, 1) := by decide +kernel
theorem dX6_send_60 : decode cX6_send 60 = .ok (.aaload, 1) := by decide +kernel
theorem dX6_send_61 : decode cX6_send 61 = .ok (.getfield 74, 3) := by decide +kernel
theorem dX6_send_64 : decode cX6_send 64 = .ok (.ireturn, 1) := by decide +kernel
theorem dX6_count_0 : decode cX6_count 0 = .ok (.iload_n 1, 1) := by decide +kernel
theorem dX6_count_1 : decode cX6_count 1 = .ok (.tableswitch 57 0 3 #[31, 36, 44, 52], 31) := by decide +kernel
theorem dX6_count_32 : decode cX6_count 32 = .ok (.aload_n 0, 1) := by decide +kernel
theorem dX6_count_33 : decode cX6_count 33 = .ok (.getfield 9, 3) := by decide +kernel
theorem dX6_count_36 : decode cX6_count 36 = .ok (.ireturn, 1) := by decide +kernel
theorem dX6_count_37 : decode cX6_count 37 = .ok (.aload_n 0, 1) := by decide +kernel
theorem dX6_count_38 : decode cX6_count 38 = .ok (.getfield 44, 3) := by decide +kernel
theorem dX6_count_41 : decode cX6_count 41 = .ok (.getfield 165, 3) := by decide +kernel
theorem dX6_count_44 : decode cX6_count 44 = .ok (.ireturn, 1) := by decide +kernel
theorem dX6_count_45 : decode cX6_count 45 = .ok (.aload_n 0, 1) := by decide +kernel
theorem dX6_count_46 : decode cX6_count 46 = .ok (.getfield 23, 3) := by decide +kernel
theorem dX6_count_49 : decode cX6_count 49 = .ok (.getfield 196, 3) := by decide +kernel
theorem dX6_count_52 : decode cX6_count 52 = .ok (.ireturn, 1) := by decide +kernel
theorem dX6_count_53 : decode cX6_count 53 = .ok (.aload_n 0, 1) := by decide +kernel
theorem dX6_count_54 : decode cX6_count 54 = .ok (.invokevirtual 199, 3) := by decide +kernel
theorem dX6_count_57 : decode cX6_count 57 = .ok (.ireturn, 1) := by decide +kernel
theorem dX6_count_58 : decode cX6_count 58 = .ok (.iconst (-1), 1) := by decide +kernel
theorem dX6_count_59 : decode cX6_count 59 = .ok (.ireturn, 1) := by decide +kernel
theorem dX6_lettersOfAll_0 : decode cX6_lettersOfAll 0 = .ok (.iconst 0, 1) := by decide +kernel
theorem dX6_lettersOfAll_1 : decode cX6_lettersOfAll 1 = .ok (.istore_n 1, 1) := by decide +kernel
theorem dX6_lettersOfAll_2 : decode cX6_lettersOfAll 2 = .ok (.iconst 0, 1) := by decide +kernel
theorem dX6_lettersOfAll_3 : decode cX6_lettersOfAll 3 = .ok (.istore_n 2, 1) := by decide +kernel
theorem dX6_lettersOfAll_4 : decode cX6_lettersOfAll 4 = .ok (.iload_n 2, 1) := by decide +kernel
theorem dX6_lettersOfAll_5 : decode cX6_lettersOfAll 5 = .ok (.bipush 12, 2) := by decide +kernel
theorem dX6_lettersOfAll_7 : decode cX6_lettersOfAll 7 = .ok (.if_icmp .ge 21, 3) := by decide +kernel
theorem dX6_lettersOfAll_10 : decode cX6_lettersOfAll 10 = .ok (.iload_n 1, 1) := by decide +kernel
theorem dX6_lettersOfAll_11 : decode cX6_lettersOfAll 11 = .ok (.aload_n 0, 1) := by decide +kernel
theorem dX6_lettersOfAll_12 : decode cX6_lettersOfAll 12 = .ok (.getfield 15, 3) := by decide +kernel
theorem dX6_lettersOfAll_15 : decode cX6_lettersOfAll 15 = .ok (.iload_n 2, 1) := by decide +kernel
theorem dX6_lettersOfAll_16 : decode cX6_lettersOfAll 16 = .ok (.aaload, 1) := by decide +kernel
theorem dX6_lettersOfAll_17 : decode cX6_lettersOfAll 17 = .ok (.getfield 74, 3) := by decide +kernel
theorem dX6_lettersOfAll_20 : decode cX6_lettersOfAll 20 = .ok (.iadd, 1) := by decide +kernel
theorem dX6_lettersOfAll_21 : decode cX6_lettersOfAll 21 = .ok (.istore_n 1, 1) := by decide +kernel
theorem dX6_lettersOfAll_22 : decode cX6_lettersOfAll 22 = .ok (.iinc 2 1, 3) := by decide +kernel
theorem dX6_lettersOfAll_25 : decode cX6_lettersOfAll 25 = .ok (.goto (-21), 3) := by decide +kernel
theorem dX6_lettersOfAll_28 : decode cX6_lettersOfAll 28 = .ok (.iload_n 1, 1) := by decide +kernel
theorem dX6_lettersOfAll_29 : decode cX6_lettersOfAll 29 = .ok (.ireturn, 1) := by decide +kernel
theorem dX6_isLetter_0 : decode cX6_isLetter 0 = .ok (.iload_n 1, 1) := by decide +kernel
theorem dX6_isLetter_1 : decode cX6_isLetter 1 = .ok (.ifCond .lt 15, 3) := by decide +kernel
theorem dX6_isLetter_4 : decode cX6_isLetter 4 = .ok (.iload_n 1, 1) := by decide +kernel
theorem dX6_isLetter_5 : decode cX6_isLetter 5 = .ok (.aload_n 0, 1) := by decide +kernel
theorem dX6_isLetter_6 : decode cX6_isLetter 6 = .ok (.getfield 9, 3) := by decide +kernel
theorem dX6_isLetter_9 : decode cX6_isLetter 9 = .ok (.if_icmp .ge 7, 3) := by decide +kernel
theorem dX6_isLetter_12 : decode cX6_isLetter 12 = .ok (.iconst 1, 1) := by decide +kernel
theorem dX6_isLetter_13 : decode cX6_isLetter 13 = .ok (.goto 4, 3) := by decide +kernel
theorem dX6_isLetter_16 : decode cX6_isLetter 16 = .ok (.iconst 0, 1) := by decide +kernel
theorem dX6_isLetter_17 : decode cX6_isLetter 17 = .ok (.ireturn, 1) := by decide +kernel
theorem dX6_isEdit_0 : decode cX6_isEdit 0 = .ok (.iload_n 2, 1) := by decide +kernel
theorem dX6_isEdit_1 : decode cX6_isEdit 1 = .ok (.ifCond .lt 12, 3) := by decide +kernel
theorem dX6_isEdit_4 : decode cX6_isEdit 4 = .ok (.iload_n 2, 1) := by decide +kernel
theorem dX6_isEdit_5 : decode cX6_isEdit 5 = .ok (.iconst 2, 1) := by decide +kernel
theorem dX6_isEdit_6 : decode cX6_isEdit 6 = .ok (.if_icmp .gt 7, 3) := by decide +kernel
theorem dX6_isEdit_9 : decode cX6_isEdit 9 = .ok (.iload_n 3, 1) := by decide +kernel
theorem dX6_isEdit_10 : decode cX6_isEdit 10 = .ok (.ifCond .ge 5, 3) := by decide +kernel
theorem dX6_isEdit_13 : decode cX6_isEdit 13 = .ok (.iconst 0, 1) := by decide +kernel
theorem dX6_isEdit_14 : decode cX6_isEdit 14 = .ok (.ireturn, 1) := by decide +kernel
theorem dX6_isEdit_15 : decode cX6_isEdit 15 = .ok (.iload_n 3, 1) := by decide +kernel
theorem dX6_isEdit_16 : decode cX6_isEdit 16 = .ok (.aload_n 1, 1) := by decide +kernel
theorem dX6_isEdit_17 : decode cX6_isEdit 17 = .ok (.getfield 74, 3) := by decide +kernel
theorem dX6_isEdit_20 : decode cX6_isEdit 20 = .ok (.if_icmp .gt 16, 3) := by decide +kernel
theorem dX6_isEdit_23 : decode cX6_isEdit 23 = .ok (.iload_n 3, 1) := by decide +kernel
theorem dX6_isEdit_24 : decode cX6_isEdit 24 = .ok (.aload_n 1, 1) := by decide +kernel
theorem dX6_isEdit_25 : decode cX6_isEdit 25 = .ok (.getfield 74, 3) := by decide +kernel
theorem dX6_isEdit_28 : decode cX6_isEdit 28 = .ok (.if_icmp .ne 10, 3) := by decide +kernel
theorem dX6_isEdit_31 : decode cX6_isEdit 31 = .ok (.iload_n 2, 1) := by decide +kernel
theorem dX6_isEdit_32 : decode cX6_isEdit 32 = .ok (.iconst 1, 1) := by decide +kernel
theorem dX6_isEdit_33 : decode cX6_isEdit 33 = .ok (.if_icmp .eq 5, 3) := by decide +kernel
theorem dX6_isEdit_36 : decode cX6_isEdit 36 = .ok (.iconst 0, 1) := by decide +kernel
theorem dX6_isEdit_37 : decode cX6_isEdit 37 = .ok (.ireturn, 1) := by decide +kernel
theorem dX6_isEdit_38 : decode cX6_isEdit 38 = .ok (.iload_n 2, 1) := by decide +kernel
theorem dX6_isEdit_39 : decode cX6_isEdit 39 = .ok (.ifCond .eq 12, 3) := by decide +kernel
theorem dX6_isEdit_42 : decode cX6_isEdit 42 = .ok (.aload_n 0, 1) := by decide +kernel
theorem dX6_isEdit_43 : decode cX6_isEdit 43 = .ok (.iload 4, 2) := by decide +kernel
theorem dX6_isEdit_45 : decode cX6_isEdit 45 = .ok (.invokevirtual 104, 3) := by decide +kernel
theorem dX6_isEdit_48 : decode cX6_isEdit 48 = .ok (.ifCond .eq 7, 3) := by decide +kernel
theorem dX6_isEdit_51 : decode cX6_isEdit 51 = .ok (.iconst 1, 1) := by decide +kernel
theorem dX6_isEdit_52 : decode cX6_isEdit 52 = .ok (.goto 4, 3) := by decide +kernel
theorem dX6_isEdit_55 : decode cX6_isEdit 55 = .ok (.iconst 0, 1) := by decide +kernel
theorem dX6_isEdit_56 : decode cX6_isEdit 56 = .ok (.ireturn, 1) := by decide +kernel
theorem dX6_isRow_0 : decode cX6_isRow 0 = .ok (.lload_n 2, 1) := by decide +kernel
theorem dX6_isRow_1 : decode cX6_isRow 1 = .ok (.iconst 2, 1) := by decide +kernel
theorem dX6_isRow_2 : decode cX6_isRow 2 = .ok (.iload_n 1, 1) := by decide +kernel
theorem dX6_isRow_3 : decode cX6_isRow 3 = .ok (.imul, 1) := by decide +kernel
theorem dX6_isRow_4 : decode cX6_isRow 4 = .ok (.lushr, 1) := by decide +kernel
theorem dX6_isRow_5 : decode cX6_isRow 5 = .ok (.lconst 0, 1) := by decide +kernel
theorem dX6_isRow_6 : decode cX6_isRow 6 = .ok (.lcmp, 1) := by decide +kernel
theorem dX6_isRow_7 : decode cX6_isRow 7 = .ok (.ifCond .eq 5, 3) := by decide +kernel
theorem dX6_isRow_10 : decode cX6_isRow 10 = .ok (.iconst 0, 1) := by decide +kernel
theorem dX6_isRow_11 : decode cX6_isRow 11 = .ok (.ireturn, 1) := by decide +kernel
theorem dX6_isRow_12 : decode cX6_isRow 12 = .ok (.iconst 0, 1) := by decide +kernel
theorem dX6_isRow_13 : decode cX6_isRow 13 = .ok (.istore 4, 2) := by decide +kernel
theorem dX6_isRow_15 : decode cX6_isRow 15 = .ok (.iload 4, 2) := by decide +kernel
theorem dX6_isRow_17 : decode cX6_isRow 17 = .ok (.iload_n 1, 1) := by decide +kernel
theorem dX6_isRow_18 : decode cX6_isRow 18 = .ok (.if_icmp .ge 27, 3) := by decide +kernel
theorem dX6_isRow_21 : decode cX6_isRow 21 = .ok (.aload_n 0, 1) := by decide +kernel
theorem dX6_isRow_22 : decode cX6_isRow 22 = .ok (.lload_n 2, 1) := by decide +kernel
theorem dX6_isRow_23 : decode cX6_isRow 23 = .ok (.iconst 2, 1) := by decide +kernel
theorem dX6_isRow_24 : decode cX6_isRow 24 = .ok (.iload 4, 2) := by decide +kernel
theorem dX6_isRow_26 : decode cX6_isRow 26 = .ok (.imul, 1) := by decide +kernel
theorem dX6_isRow_27 : decode cX6_isRow 27 = .ok (.lushr, 1) := by decide +kernel
theorem dX6_isRow_28 : decode cX6_isRow 28 = .ok (.l2i, 1) := by decide +kernel
theorem dX6_isRow_29 : decode cX6_isRow 29 = .ok (.iconst 3, 1) := by decide +kernel
theorem dX6_isRow_30 : decode cX6_isRow 30 = .ok (.iand, 1) := by decide +kernel
theorem dX6_isRow_31 : decode cX6_isRow 31 = .ok (.invokevirtual 104, 3) := by decide +kernel
theorem dX6_isRow_34 : decode cX6_isRow 34 = .ok (.ifCond .ne 5, 3) := by decide +kernel
theorem dX6_isRow_37 : decode cX6_isRow 37 = .ok (.iconst 0, 1) := by decide +kernel
theorem dX6_isRow_38 : decode cX6_isRow 38 = .ok (.ireturn, 1) := by decide +kernel
theorem dX6_isRow_39 : decode cX6_isRow 39 = .ok (.iinc 4 1, 3) := by decide +kernel
theorem dX6_isRow_42 : decode cX6_isRow 42 = .ok (.goto (-27), 3) := by decide +kernel
theorem dX6_isRow_45 : decode cX6_isRow 45 = .ok (.iconst 1, 1) := by decide +kernel
theorem dX6_isRow_46 : decode cX6_isRow 46 = .ok (.ireturn, 1) := by decide +kernel
theorem dX6_isSourceLength_0 : decode cX6_isSourceLength 0 = .ok (.iload_n 1, 1) := by decide +kernel
theorem dX6_isSourceLength_1 : decode cX6_isSourceLength 1 = .ok (.iconst 1, 1) := by decide +kernel
theorem dX6_isSourceLength_2 : decode cX6_isSourceLength 2 = .ok (.if_icmp .lt 9, 3) := by decide +kernel
theorem dX6_isSourceLength_5 : decode cX6_isSourceLength 5 = .ok (.iload_n 1, 1) := by decide +kernel
theorem dX6_isSourceLength_6 : decode cX6_isSourceLength 6 = .ok (.bipush 12, 2) := by decide +kernel
theorem dX6_isSourceLength_8 : decode cX6_isSourceLength 8 = .ok (.if_icmp .le 5, 3) := by decide +kernel
theorem dX6_isSourceLength_11 : decode cX6_isSourceLength 11 = .ok (.iconst 0, 1) := by decide +kernel
theorem dX6_isSourceLength_12 : decode cX6_isSourceLength 12 = .ok (.ireturn, 1) := by decide +kernel
theorem dX6_isSourceLength_13 : decode cX6_isSourceLength 13 = .ok (.iconst 1, 1) := by decide +kernel
theorem dX6_isSourceLength_14 : decode cX6_isSourceLength 14 = .ok (.istore_n 2, 1) := by decide +kernel
theorem dX6_isSourceLength_15 : decode cX6_isSourceLength 15 = .ok (.iconst 0, 1) := by decide +kernel
theorem dX6_isSourceLength_16 : decode cX6_isSourceLength 16 = .ok (.istore_n 3, 1) := by decide +kernel
theorem dX6_isSourceLength_17 : decode cX6_isSourceLength 17 = .ok (.iload_n 3, 1) := by decide +kernel
theorem dX6_isSourceLength_18 : decode cX6_isSourceLength 18 = .ok (.iload_n 1, 1) := by decide +kernel
theorem dX6_isSourceLength_19 : decode cX6_isSourceLength 19 = .ok (.if_icmp .ge 16, 3) := by decide +kernel
theorem dX6_isSourceLength_22 : decode cX6_isSourceLength 22 = .ok (.iload_n 2, 1) := by decide +kernel
theorem dX6_isSourceLength_23 : decode cX6_isSourceLength 23 = .ok (.aload_n 0, 1) := by decide +kernel
theorem dX6_isSourceLength_24 : decode cX6_isSourceLength 24 = .ok (.getfield 9, 3) := by decide +kernel
theorem dX6_isSourceLength_27 : decode cX6_isSourceLength 27 = .ok (.imul, 1) := by decide +kernel
theorem dX6_isSourceLength_28 : decode cX6_isSourceLength 28 = .ok (.istore_n 2, 1) := by decide +kernel
theorem dX6_isSourceLength_29 : decode cX6_isSourceLength 29 = .ok (.iinc 3 1, 3) := by decide +kernel
theorem dX6_isSourceLength_32 : decode cX6_isSourceLength 32 = .ok (.goto (-15), 3) := by decide +kernel
theorem dX6_isSourceLength_35 : decode cX6_isSourceLength 35 = .ok (.iload_n 2, 1) := by decide +kernel
theorem dX6_isSourceLength_36 : decode cX6_isSourceLength 36 = .ok (.sipush 4096, 3) := by decide +kernel
theorem dX6_isSourceLength_39 : decode cX6_isSourceLength 39 = .ok (.if_icmp .gt 7, 3) := by decide +kernel
theorem dX6_isSourceLength_42 : decode cX6_isSourceLength 42 = .ok (.iconst 1, 1) := by decide +kernel
theorem dX6_isSourceLength_43 : decode cX6_isSourceLength 43 = .ok (.goto 4, 3) := by decide +kernel
theorem dX6_isSourceLength_46 : decode cX6_isSourceLength 46 = .ok (.iconst 0, 1) := by decide +kernel
theorem dX6_isSourceLength_47 : decode cX6_isSourceLength 47 = .ok (.ireturn, 1) := by decide +kernel
theorem dX6_isRegister_0 : decode cX6_isRegister 0 = .ok (.iload_n 0, 1) := by decide +kernel
theorem dX6_isRegister_1 : decode cX6_isRegister 1 = .ok (.ifCond .lt 13, 3) := by decide +kernel
theorem dX6_isRegister_4 : decode cX6_isRegister 4 = .ok (.iload_n 0, 1) := by decide +kernel
theorem dX6_isRegister_5 : decode cX6_isRegister 5 = .ok (.bipush 12, 2) := by decide +kernel
theorem dX6_isRegister_7 : decode cX6_isRegister 7 = .ok (.if_icmp .ge 7, 3) := by decide +kernel
theorem dX6_isRegister_10 : decode cX6_isRegister 10 = .ok (.iconst 1, 1) := by decide +kernel
theorem dX6_isRegister_11 : decode cX6_isRegister 11 = .ok (.goto 4, 3) := by decide +kernel
theorem dX6_isRegister_14 : decode cX6_isRegister 14 = .ok (.iconst 0, 1) := by decide +kernel
theorem dX6_isRegister_15 : decode cX6_isRegister 15 = .ok (.ireturn, 1) := by decide +kernel
theorem dX6_isEither_0 : decode cX6_isEither 0 = .ok (.iload_n 0, 1) := by decide +kernel
theorem dX6_isEither_1 : decode cX6_isEither 1 = .ok (.ifCond .eq 8, 3) := by decide +kernel
theorem dX6_isEither_4 : decode cX6_isEither 4 = .ok (.iload_n 0, 1) := by decide +kernel
theorem dX6_isEither_5 : decode cX6_isEither 5 = .ok (.iconst 1, 1) := by decide +kernel
theorem dX6_isEither_6 : decode cX6_isEither 6 = .ok (.if_icmp .ne 7, 3) := by decide +kernel
theorem dX6_isEither_9 : decode cX6_isEither 9 = .ok (.iconst 1, 1) := by decide +kernel
theorem dX6_isEither_10 : decode cX6_isEither 10 = .ok (.goto 4, 3) := by decide +kernel
theorem dX6_isEither_13 : decode cX6_isEither 13 = .ok (.iconst 0, 1) := by decide +kernel
theorem dX6_isEither_14 : decode cX6_isEither 14 = .ok (.ireturn, 1) := by decide +kernel
theorem dX6_isChance_0 : decode cX6_isChance 0 = .ok (.iload_n 0, 1) := by decide +kernel
theorem dX6_isChance_1 : decode cX6_isChance 1 = .ok (.ifCond .lt 13, 3) := by decide +kernel
theorem dX6_isChance_4 : decode cX6_isChance 4 = .ok (.iload_n 0, 1) := by decide +kernel
theorem dX6_isChance_5 : decode cX6_isChance 5 = .ok (.bipush 64, 2) := by decide +kernel
theorem dX6_isChance_7 : decode cX6_isChance 7 = .ok (.if_icmp .gt 7, 3) := by decide +kernel
theorem dX6_isChance_10 : decode cX6_isChance 10 = .ok (.iconst 1, 1) := by decide +kernel
theorem dX6_isChance_11 : decode cX6_isChance 11 = .ok (.goto 4, 3) := by decide +kernel
theorem dX6_isChance_14 : decode cX6_isChance 14 = .ok (.iconst 0, 1) := by decide +kernel
theorem dX6_isChance_15 : decode cX6_isChance 15 = .ok (.ireturn, 1) := by decide +kernel
theorem dX7_init_0 : decode cX7_init 0 = .ok (.aload_n 0, 1) := by decide +kernel
theorem dX7_init_1 : decode cX7_init 1 = .ok (.invokespecial 1, 3) := by decide +kernel
theorem dX7_init_4 : decode cX7_init 4 = .ok (.aload_n 0, 1) := by decide +kernel
theorem dX7_init_5 : decode cX7_init 5 = .ok (.iconst 2, 1) := by decide +kernel
theorem dX7_init_6 : decode cX7_init 6 = .ok (.putfield 7, 3) := by decide +kernel
theorem dX7_init_9 : decode cX7_init 9 = .ok (.aload_n 0, 1) := by decide +kernel
theorem dX7_init_10 : decode cX7_init 10 = .ok (.bipush 24, 2) := by decide +kernel
theorem dX7_init_12 : decode cX7_init 12 = .ok (.newarray .int, 2) := by decide +kernel
theorem dX7_init_14 : decode cX7_init 14 = .ok (.putfield 13, 3) := by decide +kernel
theorem dX7_init_17 : decode cX7_init 17 = .ok (.aload_n 0, 1) := by decide +kernel
theorem dX7_init_18 : decode cX7_init 18 = .ok (.sipush 720, 3) := by decide +kernel
theorem dX7_init_21 : decode cX7_init 21 = .ok (.newarray .int, 2) := by decide +kernel
theorem dX7_init_23 : decode cX7_init 23 = .ok (.putfield 17, 3) := by decide +kernel
theorem dX7_init_26 : decode cX7_init 26 = .ok (.aload_n 0, 1) := by decide +kernel
theorem dX7_init_27 : decode cX7_init 27 = .ok (.lconst 1, 1) := by decide +kernel
theorem dX7_init_28 : decode cX7_init 28 = .ok (.putfield 20, 3) := by decide +kernel
theorem dX7_init_31 : decode cX7_init 31 = .ok (.aload_n 0, 1) := by decide +kernel
theorem dX7_init_32 : decode cX7_init 32 = .ok (.sipush 17408, 3) := by decide +kernel
theorem dX7_init_35 : decode cX7_init 35 = .ok (.newarray .int, 2) := by decide +kernel
theorem dX7_init_37 : decode cX7_init 37 = .ok (.putfield 24, 3) := by decide +kernel
theorem dX7_init_40 : decode cX7_init 40 = .ok (.aload_n 0, 1) := by decide +kernel
theorem dX7_init_41 : decode cX7_init 41 = .ok (.sipush 4800, 3) := by decide +kernel
theorem dX7_init_44 : decode cX7_init 44 = .ok (.newarray .int, 2) := by decide +kernel
theorem dX7_init_46 : decode cX7_init 46 = .ok (.putfield 27, 3) := by decide +kernel
theorem dX7_init_49 : decode cX7_init 49 = .ok (.aload_n 0, 1) := by decide +kernel
theorem dX7_init_50 : decode cX7_init 50 = .ok (.sipush 900, 3) := by decide +kernel
theorem dX7_init_53 : decode cX7_init 53 = .ok (.newarray .long, 2) := by decide +kernel
theorem dX7_init_55 : decode cX7_init 55 = .ok (.putfield 30, 3) := by decide +kernel
theorem dX7_init_58 : decode cX7_init 58 = .ok (.aload_n 0, 1) := by decide +kernel
theorem dX7_init_59 : decode cX7_init 59 = .ok (.sipush 900, 3) := by decide +kernel
theorem dX7_init_62 : decode cX7_init 62 = .ok (.newarray .int, 2) := by decide +kernel
theorem dX7_init_64 : decode cX7_init 64 = .ok (.putfield 34, 3) := by decide +kernel
theorem dX7_init_67 : decode cX7_init 67 = .ok (.return_, 1) := by decide +kernel
theorem dX7_in_0 : decode cX7_in 0 = .ok (.lload_n 0, 1) := by decide +kernel
theorem dX7_in_1 : decode cX7_in 1 = .ok (.lload_n 2, 1) := by decide +kernel
theorem dX7_in_2 : decode cX7_in 2 = .ok (.lcmp, 1) := by decide +kernel
theorem dX7_in_3 : decode cX7_in 3 = .ok (.ifCond .lt 14, 3) := by decide +kernel
theorem dX7_in_6 : decode cX7_in 6 = .ok (.lload_n 0, 1) := by decide +kernel
theorem dX7_in_7 : decode cX7_in 7 = .ok (.lload 4, 2) := by decide +kernel
theorem dX7_in_9 : decode cX7_in 9 = .ok (.lcmp, 1) := by decide +kernel
theorem dX7_in_10 : decode cX7_in 10 = .ok (.ifCond .gt 7, 3) := by decide +kernel
theorem dX7_in_13 : decode cX7_in 13 = .ok (.iconst 1, 1) := by decide +kernel
theorem dX7_in_14 : decode cX7_in 14 = .ok (.goto 4, 3) := by decide +kernel
theorem dX7_in_17 : decode cX7_in 17 = .ok (.iconst 0, 1) := by decide +kernel
theorem dX7_in_18 : decode cX7_in 18 = .ok (.ireturn, 1) := by decide +kernel
theorem dX7_isRegister_0 : decode cX7_isRegister 0 = .ok (.iload_n 0, 1) := by decide +kernel
theorem dX7_isRegister_1 : decode cX7_isRegister 1 = .ok (.i2l, 1) := by decide +kernel
theorem dX7_isRegister_2 : decode cX7_isRegister 2 = .ok (.lconst 0, 1) := by decide +kernel
theorem dX7_isRegister_3 : decode cX7_isRegister 3 = .ok (.ldc2_w 37, 3) := by decide +kernel
theorem dX7_isRegister_6 : decode cX7_isRegister 6 = .ok (.invokestatic 39, 3) := by decide +kernel
theorem dX7_isRegister_9 : decode cX7_isRegister 9 = .ok (.ireturn, 1) := by decide +kernel
theorem dX7_letters_0 : decode cX7_letters 0 = .ok (.iload_n 1, 1) := by decide +kernel
theorem dX7_letters_1 : decode cX7_letters 1 = .ok (.i2l, 1) := by decide +kernel
theorem dX7_letters_2 : decode cX7_letters 2 = .ok (.ldc2_w 43, 3) := by decide +kernel
theorem dX7_letters_5 : decode cX7_letters 5 = .ok (.ldc2_w 45, 3) := by decide +kernel
theorem dX7_letters_8 : decode cX7_letters 8 = .ok (.invokestatic 39, 3) := by decide +kernel
theorem dX7_letters_11 : decode cX7_letters 11 = .ok (.ifCond .ne 5, 3) := by decide +kernel
theorem dX7_letters_14 : decode cX7_letters 14 = .ok (.iconst (-1), 1) := by decide +kernel
theorem dX7_letters_15 : decode cX7_letters 15 = .ok (.ireturn, 1) := by decide +kernel
theorem dX7_letters_16 : decode cX7_letters 16 = .ok (.aload_n 0, 1) := by decide +kernel
theorem dX7_letters_17 : decode cX7_letters 17 = .ok (.iload_n 1, 1) := by decide +kernel
theorem dX7_letters_18 : decode cX7_letters 18 = .ok (.putfield 7, 3) := by decide +kernel
theorem dX7_letters_21 : decode cX7_letters 21 = .ok (.iconst 0, 1) := by decide +kernel
theorem dX7_letters_22 : decode cX7_letters 22 = .ok (.istore_n 2, 1) := by decide +kernel
theorem dX7_letters_23 : decode cX7_letters 23 = .ok (.iload_n 2, 1) := by decide +kernel
theorem dX7_letters_24 : decode cX7_letters 24 = .ok (.bipush 24, 2) := by decide +kernel
theorem dX7_letters_26 : decode cX7_letters 26 = .ok (.if_icmp .ge 16, 3) := by decide +kernel
theorem dX7_letters_29 : decode cX7_letters 29 = .ok (.aload_n 0, 1) := by decide +kernel
theorem dX7_letters_30 : decode cX7_letters 30 = .ok (.getfield 13, 3) := by decide +kernel
theorem dX7_letters_33 : decode cX7_letters 33 = .ok (.iload_n 2, 1) := by decide +kernel
theorem dX7_letters_34 : decode cX7_letters 34 = .ok (.iconst 0, 1) := by decide +kernel
theorem dX7_letters_35 : decode cX7_letters 35 = .ok (.iastore, 1) := by decide +kernel
theorem dX7_letters_36 : decode cX7_letters 36 = .ok (.iinc 2 1, 3) := by decide +kernel
theorem dX7_letters_39 : decode cX7_letters 39 = .ok (.goto (-16), 3) := by decide +kernel
theorem dX7_letters_42 : decode cX7_letters 42 = .ok (.aload_n 0, 1) := by decide +kernel
theorem dX7_letters_43 : decode cX7_letters 43 = .ok (.iconst 0, 1) := by decide +kernel
theorem dX7_letters_44 : decode cX7_letters 44 = .ok (.putfield 47, 3) := by decide +kernel
theorem dX7_letters_47 : decode cX7_letters 47 = .ok (.aload_n 0, 1) := by decide +kernel
theorem dX7_letters_48 : decode cX7_letters 48 = .ok (.iconst 0, 1) := by decide +kernel
theorem dX7_letters_49 : decode cX7_letters 49 = .ok (.putfield 50, 3) := by decide +kernel
theorem dX7_letters_52 : decode cX7_letters 52 = .ok (.iconst 0, 1) := by decide +kernel
theorem dX7_letters_53 : decode cX7_letters 53 = .ok (.ireturn, 1) := by decide +kernel
theorem dX7_puts_0 : decode cX7_puts 0 = .ok (.aload_n 0, 1) := by decide +kernel
theorem dX7_puts_1 : decode cX7_puts 1 = .ok (.getfield 17, 3) := by decide +kernel
theorem dX7_puts_4 : decode cX7_puts 4 = .ok (.bipush 30, 2) := by decide +kernel
theorem dX7_puts_6 : decode cX7_puts 6 = .ok (.iload_n 1, 1) := by decide +kernel
theorem dX7_puts_7 : decode cX7_puts 7 = .ok (.imul, 1) := by decide +kernel
theorem dX7_puts_8 : decode cX7_puts 8 = .ok (.aload_n 0, 1) := by decide +kernel
theorem dX7_puts_9 : decode cX7_puts 9 = .ok (.getfield 13, 3) := by decide +kernel
theorem dX7_puts_12 : decode cX7_puts 12 = .ok (.iload_n 1, 1) := by decide +kernel
theorem dX7_puts_13 : decode cX7_puts 13 = .ok (.iaload, 1) := by decide +kernel
theorem dX7_puts_14 : decode cX7_puts 14 = .ok (.iadd, 1) := by decide +kernel
theorem dX7_puts_15 : decode cX7_puts 15 = .ok (.iload_n 2, 1) := by decide +kernel
theorem dX7_puts_16 : decode cX7_puts 16 = .ok (.iastore, 1) := by decide +kernel
theorem dX7_puts_17 : decode cX7_puts 17 = .ok (.aload_n 0, 1) := by decide +kernel
theorem dX7_puts_18 : decode cX7_puts 18 = .ok (.getfield 13, 3) := by decide +kernel
theorem dX7_puts_21 : decode cX7_puts 21 = .ok (.iload_n 1, 1) := by decide +kernel
theorem dX7_puts_22 : decode cX7_puts 22 = .ok (.dup2, 1) := by decide +kernel
theorem dX7_puts_23 : decode cX7_puts 23 = .ok (.iaload, 1) := by decide +kernel
theorem dX7_puts_24 : decode cX7_puts 24 = .ok (.iconst 1, 1) := by decide +kernel
theorem dX7_puts_25 : decode cX7_puts 25 = .ok (.iadd, 1) := by decide +kernel
theorem dX7_puts_26 : decode cX7_puts 26 = .ok (.iastore, 1) := by decide +kernel
theorem dX7_puts_27 : decode cX7_puts 27 = .ok (.return_, 1) := by decide +kernel
theorem dX7_copies_0 : decode cX7_copies 0 = .ok (.aload_n 0, 1) := by decide +kernel
theorem dX7_copies_1 : decode cX7_copies 1 = .ok (.getfield 13, 3) := by decide +kernel
theorem dX7_copies_4 : decode cX7_copies 4 = .ok (.iload_n 1, 1) := by decide +kernel
theorem dX7_copies_5 : decode cX7_copies 5 = .ok (.aload_n 0, 1) := by decide +kernel
theorem dX7_copies_6 : decode cX7_copies 6 = .ok (.getfield 13, 3) := by decide +kernel
theorem dX7_copies_9 : decode cX7_copies 9 = .ok (.iload_n 2, 1) := by decide +kernel
theorem dX7_copies_10 : decode cX7_copies 10 = .ok (.iaload, 1) := by decide +kernel
theorem dX7_copies_11 : decode cX7_copies 11 = .ok (.iastore, 1) := by decide +kernel
theorem dX7_copies_12 : decode cX7_copies 12 = .ok (.iconst 0, 1) := by decide +kernel
theorem dX7_copies_13 : decode cX7_copies 13 = .ok (.istore_n 3, 1) := by decide +kernel
theorem dX7_copies_14 : decode cX7_copies 14 = .ok (.iload_n 3, 1) := by decide +kernel
theorem dX7_copies_15 : decode cX7_copies 15 = .ok (.bipush 30, 2) := by decide +kernel
theorem dX7_copies_17 : decode cX7_copies 17 = .ok (.if_icmp .ge 31, 3) := by decide +kernel
theorem dX7_copies_20 : decode cX7_copies 20 = .ok (.aload_n 0, 1) := by decide +kernel
theorem dX7_copies_21 : decode cX7_copies 21 = .ok (.getfield 17, 3) := by decide +kernel
theorem dX7_copies_24 : decode cX7_copies 24 = .ok (.bipush 30, 2) := by decide +kernel
theorem dX7_copies_26 : decode cX7_copies 26 = .ok (.iload_n 1, 1) := by decide +kernel
theorem dX7_copies_27 : decode cX7_copies 27 = .ok (.imul, 1) := by decide +kernel
theorem dX7_copies_28 : decode cX7_copies 28 = .ok (.iload_n 3, 1) := by decide +kernel
theorem dX7_copies_29 : decode cX7_copies 29 = .ok (.iadd, 1) := by decide +kernel
theorem dX7_copies_30 : decode cX7_copies 30 = .ok (.aload_n 0, 1) := by decide +kernel
theorem dX7_copies_31 : decode cX7_copies 31 = .ok (.getfield 17, 3) := by decide +kernel
theorem dX7_copies_34 : decode cX7_copies 34 = .ok (.bipush 30, 2) := by decide +kernel
theorem dX7_copies_36 : decode cX7_copies 36 = .ok (.iload_n 2, 1) := by decide +kernel
theorem dX7_copies_37 : decode cX7_copies 37 = .ok (.imul, 1) := by decide +kernel
theorem dX7_copies_38 : decode cX7_copies 38 = .ok (.iload_n 3, 1) := by decide +kernel
theorem dX7_copies_39 : decode cX7_copies 39 = .ok (.iadd, 1) := by decide +kernel
theorem dX7_copies_40 : decode cX7_copies 40 = .ok (.iaload, 1) := by decide +kernel
theorem dX7_copies_41 : decode cX7_copies 41 = .ok (.iastore, 1) := by decide +kernel
theorem dX7_copies_42 : decode cX7_copies 42 = .ok (.iinc 3 1, 3) := by decide +kernel
theorem dX7_copies_45 : decode cX7_copies 45 = .ok (.goto (-31), 3) := by decide +kernel
theorem dX7_copies_48 : decode cX7_copies 48 = .ok (.return_, 1) := by decide +kernel
theorem dX7_word_0 : decode cX7_word 0 = .ok (.iload_n 1, 1) := by decide +kernel
theorem dX7_word_1 : decode cX7_word 1 = .ok (.invokestatic 53, 3) := by decide +kernel
theorem dX7_word_4 : decode cX7_word 4 = .ok (.ifCond .eq 31, 3) := by decide +kernel
theorem dX7_word_7 : decode cX7_word 7 = .ok (.iload_n 2, 1) := by decide +kernel
theorem dX7_word_8 : decode cX7_word 8 = .ok (.i2l, 1) := by decide +kernel
theorem dX7_word_9 : decode cX7_word 9 = .ok (.lconst 0, 1) := by decide +kernel
theorem dX7_word_10 : decode cX7_word 10 = .ok (.ldc2_w 57, 3) := by decide +kernel
theorem dX7_word_13 : decode cX7_word 13 = .ok (.invokestatic 39, 3) := by decide +kernel
theorem dX7_word_16 : decode cX7_word 16 = .ok (.ifCond .eq 19, 3) := by decide +kernel
theorem dX7_word_19 : decode cX7_word 19 = .ok (.lload_n 3, 1) := by decide +kernel
theorem dX7_word_20 : decode cX7_word 20 = .ok (.lconst 0, 1) := by decide +kernel
theorem dX7_word_21 : decode cX7_word 21 = .ok (.lcmp, 1) := by decide +kernel
theorem dX7_word_22 : decode cX7_word 22 = .ok (.ifCond .lt 13, 3) := by decide +kernel
theorem dX7_word_25 : decode cX7_word 25 = .ok (.lload_n 3, 1) := by decide +kernel
theorem dX7_word_26 : decode cX7_word 26 = .ok (.iconst 2, 1) := by decide +kernel
theorem dX7_word_27 : decode cX7_word 27 = .ok (.iload_n 2, 1) := by decide +kernel
theorem dX7_word_28 : decode cX7_word 28 = .ok (.imul, 1) := by decide +kernel
theorem dX7_word_29 : decode cX7_word 29 = .ok (.lushr, 1) := by decide +kernel
theorem dX7_word_30 : decode cX7_word 30 = .ok (.lconst 0, 1) := by decide +kernel
theorem dX7_word_31 : decode cX7_word 31 = .ok (.lcmp, 1) := by decide +kernel
theorem dX7_word_32 : decode cX7_word 32 = .ok (.ifCond .eq 5, 3) := by decide +kernel
theorem dX7_word_35 : decode cX7_word 35 = .ok (.iconst (-1), 1) := by decide +kernel
theorem dX7_word_36 : decode cX7_word 36 = .ok (.ireturn, 1) := by decide +kernel
theorem dX7_word_37 : decode cX7_word 37 = .ok (.iconst 0, 1) := by decide +kernel
theorem dX7_word_38 : decode cX7_word 38 = .ok (.istore 5, 2) := by decide +kernel
theorem dX7_word_40 : decode cX7_word 40 = .ok (.iload 5, 2) := by decide +kernel
theorem dX7_word_42 : decode cX7_word 42 = .ok (.iload_n 2, 1) := by decide +kernel
theorem dX7_word_43 : decode cX7_word 43 = .ok (.if_icmp .ge 30, 3) := by decide +kernel
theorem dX7_word_46 : decode cX7_word 46 = .ok (.lload_n 3, 1) := by decide +kernel
theorem dX7_word_47 : decode cX7_word 47 = .ok (.iconst 2, 1) := by decide +kernel
theorem dX7_word_48 : decode cX7_word 48 = .ok (.iload 5, 2) := by decide +kernel
theorem dX7_word_50 : decode cX7_word 50 = .ok (.imul, 1) := by decide +kernel
theorem dX7_word_51 : decode cX7_word 51 = .ok (.lshr, 1) := by decide +kernel
theorem dX7_word_52 : decode cX7_word 52 = .ok (.ldc2_w 59, 3) := by decide +kernel
theorem dX7_word_55 : decode cX7_word 55 = .ok (.land, 1) := by decide +kernel
theorem dX7_word_56 : decode cX7_word 56 = .ok (.aload_n 0, 1) := by decide +kernel
theorem dX7_word_57 : decode cX7_word 57 = .ok (.getfield 7, 3) := by decide +kernel
theorem dX7_word_60 : decode cX7_word 60 = .ok (.i2l, 1) := by decide +kernel
theorem dX7_word_61 : decode cX7_word 61 = .ok (.lcmp, 1) := by decide +kernel
theorem dX7_word_62 : decode cX7_word 62 = .ok (.ifCond .lt 5, 3) := by decide +kernel
theorem dX7_word_65 : decode cX7_word 65 = .ok (.iconst (-1), 1) := by decide +kernel
theorem dX7_word_66 : decode cX7_word 66 = .ok (.ireturn, 1) := by decide +kernel
theorem dX7_word_67 : decode cX7_word 67 = .ok (.iinc 5 1, 3) := by decide +kernel
theorem dX7_word_70 : decode cX7_word 70 = .ok (.goto (-30), 3) := by decide +kernel
theorem dX7_word_73 : decode cX7_word 73 = .ok (.aload_n 0, 1) := by decide +kernel
theorem dX7_word_74 : decode cX7_word 74 = .ok (.getfield 13, 3) := by decide +kernel
theorem dX7_word_77 : decode cX7_word 77 = .ok (.iload_n 1, 1) := by decide +kernel
theorem dX7_word_78 : decode cX7_word 78 = .ok (.iconst 0, 1) := by decide +kernel
theorem dX7_word_79 : decode cX7_word 79 = .ok (.iastore, 1) := by decide +kernel
theorem dX7_word_80 : decode cX7_word 80 = .ok (.iconst 0, 1) := by decide +kernel
theorem dX7_word_81 : decode cX7_word 81 = .ok (.istore 5, 2) := by decide +kernel
theorem dX7_word_83 : decode cX7_word 83 = .ok (.iload 5, 2) := by decide +kernel
theorem dX7_word_85 : decode cX7_word 85 = .ok (.iload_n 2, 1) := by decide +kernel
theorem dX7_word_86 : decode cX7_word 86 = .ok (.if_icmp .ge 25, 3) := by decide +kernel
theorem dX7_word_89 : decode cX7_word 89 = .ok (.aload_n 0, 1) := by decide +kernel
theorem dX7_word_90 : decode cX7_word 90 = .ok (.iload_n 1, 1) := by decide +kernel
theorem dX7_word_91 : decode cX7_word 91 = .ok (.lload_n 3, 1) := by decide +kernel
theorem dX7_word_92 : decode cX7_word 92 = .ok (.iconst 2, 1) := by decide +kernel
theorem dX7_word_93 : decode cX7_word 93 = .ok (.iload 5, 2) := by decide +kernel
theorem dX7_word_95 : decode cX7_word 95 = .ok (.imul, 1) := by decide +kernel
theorem dX7_word_96 : decode cX7_word 96 = .ok (.lshr, 1) := by decide +kernel
theorem dX7_word_97 : decode cX7_word 97 = .ok (.ldc2_w 59, 3) := by decide +kernel
theorem dX7_word_100 : decode cX7_word 100 = .ok (.land, 1) := by decide +kernel
theorem dX7_word_101 : decode cX7_word 101 = .ok (.l2i, 1) := by decide +kernel
theorem dX7_word_102 : decode cX7_word 102 = .ok (.invokevirtual 61, 3) := by decide +kernel
theorem dX7_word_105 : decode cX7_word 105 = .ok (.iinc 5 1, 3) := by decide +kernel
theorem dX7_word_108 : decode cX7_word 108 = .ok (.goto (-25), 3) := by decide +kernel
theorem dX7_word_111 : decode cX7_word 111 = .ok (.iload_n 2, 1) := by decide +kernel
theorem dX7_word_112 : decode cX7_word 112 = .ok (.ireturn, 1) := by decide +kernel
theorem dX7_at_0 : decode cX7_at 0 = .ok (.iload_n 1, 1) := by decide +kernel
theorem dX7_at_1 : decode cX7_at 1 = .ok (.invokestatic 53, 3) := by decide +kernel
theorem dX7_at_4 : decode cX7_at 4 = .ok (.ifCond .eq 8, 3) := by decide +kernel
theorem dX7_at_7 : decode cX7_at 7 = .ok (.iload_n 2, 1) := by decide +kernel
theorem dX7_at_8 : decode cX7_at 8 = .ok (.iconst (-1), 1) := by decide +kernel
theorem dX7_at_9 : decode cX7_at 9 = .ok (.if_icmp .ge 5, 3) := by decide +kernel
theorem dX7_at_12 : decode cX7_at 12 = .ok (.iconst (-1), 1) := by decide +kernel
theorem dX7_at_13 : decode cX7_at 13 = .ok (.ireturn, 1) := by decide +kernel
theorem dX7_at_14 : decode cX7_at 14 = .ok (.iload_n 2, 1) := by decide +kernel
theorem dX7_at_15 : decode cX7_at 15 = .ok (.ifCond .ge 12, 3) := by decide +kernel
theorem dX7_at_18 : decode cX7_at 18 = .ok (.aload_n 0, 1) := by decide +kernel
theorem dX7_at_19 : decode cX7_at 19 = .ok (.getfield 13, 3) := by decide +kernel
theorem dX7_at_22 : decode cX7_at 22 = .ok (.iload_n 1, 1) := by decide +kernel
theorem dX7_at_23 : decode cX7_at 23 = .ok (.iaload, 1) := by decide +kernel
theorem dX7_at_24 : decode cX7_at 24 = .ok (.goto 29, 3) := by decide +kernel
theorem dX7_at_27 : decode cX7_at 27 = .ok (.iload_n 2, 1) := by decide +kernel
theorem dX7_at_28 : decode cX7_at 28 = .ok (.aload_n 0, 1) := by decide +kernel
theorem dX7_at_29 : decode cX7_at 29 = .ok (.getfield 13, 3) := by decide +kernel
theorem dX7_at_32 : decode cX7_at 32 = .ok (.iload_n 1, 1) := by decide +kernel
theorem dX7_at_33 : decode cX7_at 33 = .ok (.iaload, 1) := by decide +kernel
theorem dX7_at_34 : decode cX7_at 34 = .ok (.if_icmp .ge 17, 3) := by decide +kernel
theorem dX7_at_37 : decode cX7_at 37 = .ok (.aload_n 0, 1) := by decide +kernel
theorem dX7_at_38 : decode cX7_at 38 = .ok (.getfield 17, 3) := by decide +kernel
theorem dX7_at_41 : decode cX7_at 41 = .ok (.bipush 30, 2) := by decide +kernel
theorem dX7_at_43 : decode cX7_at 43 = .ok (.iload_n 1, 1) := by decide +kernel
theorem dX7_at_44 : decode cX7_at 44 = .ok (.imul, 1) := by decide +kernel
theorem dX7_at_45 : decode cX7_at 45 = .ok (.iload_n 2, 1) := by decide +kernel
theorem dX7_at_46 : decode cX7_at 46 = .ok (.iadd, 1) := by decide +kernel
theorem dX7_at_47 : decode cX7_at 47 = .ok (.iaload, 1) := by decide +kernel
theorem dX7_at_48 : decode cX7_at 48 = .ok (.goto 5, 3) := by decide +kernel
theorem dX7_at_51 : decode cX7_at 51 = .ok (.bipush (-4), 2) := by decide +kernel
theorem dX7_at_53 : decode cX7_at 53 = .ok (.ireturn, 1) := by decide +kernel
theorem dX7_edits_0 : decode cX7_edits 0 = .ok (.aload_n 0, 1) := by decide +kernel
theorem dX7_edits_1 : decode cX7_edits 1 = .ok (.getfield 13, 3) := by decide +kernel
theorem dX7_edits_4 : decode cX7_edits 4 = .ok (.iload_n 1, 1) := by decide +kernel
theorem dX7_edits_5 : decode cX7_edits 5 = .ok (.iconst 0, 1) := by decide +kernel
theorem dX7_edits_6 : decode cX7_edits 6 = .ok (.iastore, 1) := by decide +kernel
theorem dX7_edits_7 : decode cX7_edits 7 = .ok (.iconst 0, 1) := by decide +kernel
theorem dX7_edits_8 : decode cX7_edits 8 = .ok (.istore 6, 2) := by decide +kernel
theorem dX7_edits_10 : decode cX7_edits 10 = .ok (.iload 6, 2) := by decide +kernel
theorem dX7_edits_12 : decode cX7_edits 12 = .ok (.aload_n 0, 1) := by decide +kernel
theorem dX7_edits_13 : decode cX7_edits 13 = .ok (.getfield 13, 3) := by decide +kernel
theorem dX7_edits_16 : decode cX7_edits 16 = .ok (.iload_n 2, 1) := by decide +kernel
theorem dX7_edits_17 : decode cX7_edits 17 = .ok (.iaload, 1) := by decide +kernel
theorem dX7_edits_18 : decode cX7_edits 18 = .ok (.if_icmp .gt 67, 3) := by decide +kernel
theorem dX7_edits_21 : decode cX7_edits 21 = .ok (.iload 6, 2) := by decide +kernel
theorem dX7_edits_23 : decode cX7_edits 23 = .ok (.iload 4, 2) := by decide +kernel
theorem dX7_edits_25 : decode cX7_edits 25 = .ok (.if_icmp .ne 14, 3) := by decide +kernel
theorem dX7_edits_28 : decode cX7_edits 28 = .ok (.iload_n 3, 1) := by decide +kernel
theorem dX7_edits_29 : decode cX7_edits 29 = .ok (.ifCond .le 10, 3) := by decide +kernel
theorem dX7_edits_32 : decode cX7_edits 32 = .ok (.aload_n 0, 1) := by decide +kernel
theorem dX7_edits_33 : decode cX7_edits 33 = .ok (.iload_n 1, 1) := by decide +kernel
theorem dX7_edits_34 : decode cX7_edits 34 = .ok (.iload 5, 2) := by decide +kernel
theorem dX7_edits_36 : decode cX7_edits 36 = .ok (.invokevirtual 61, 3) := by decide +kernel
theorem dX7_edits_39 : decode cX7_edits 39 = .ok (.iload 6, 2) := by decide +kernel
theorem dX7_edits_41 : decode cX7_edits 41 = .ok (.aload_n 0, 1) := by decide +kernel
theorem dX7_edits_42 : decode cX7_edits 42 = .ok (.getfield 13, 3) := by decide +kernel
theorem dX7_edits_45 : decode cX7_edits 45 = .ok (.iload_n 2, 1) := by decide +kernel
theorem dX7_edits_46 : decode cX7_edits 46 = .ok (.iaload, 1) := by decide +kernel
theorem dX7_edits_47 : decode cX7_edits 47 = .ok (.if_icmp .ge 32, 3) := by decide +kernel
theorem dX7_edits_50 : decode cX7_edits 50 = .ok (.iload 6, 2) := by decide +kernel
theorem dX7_edits_52 : decode cX7_edits 52 = .ok (.iload 4, 2) := by decide +kernel
theorem dX7_edits_54 : decode cX7_edits 54 = .ok (.if_icmp .ne 8, 3) := by decide +kernel
theorem dX7_edits_57 : decode cX7_edits 57 = .ok (.iload_n 3, 1) := by decide +kernel
theorem dX7_edits_58 : decode cX7_edits 58 = .ok (.iconst 1, 1) := by decide +kernel
theorem dX7_edits_59 : decode cX7_edits 59 = .ok (.if_icmp .ne 20, 3) := by decide +kernel
theorem dX7_edits_62 : decode cX7_edits 62 = .ok (.aload_n 0, 1) := by decide +kernel
theorem dX7_edits_63 : decode cX7_edits 63 = .ok (.iload_n 1, 1) := by decide +kernel
theorem dX7_edits_64 : decode cX7_edits 64 = .ok (.aload_n 0, 1) := by decide +kernel
theorem dX7_edits_65 : decode cX7_edits 65 = .ok (.getfield 17, 3) := by decide +kernel
theorem dX7_edits_68 : decode cX7_edits 68 = .ok (.bipush 30, 2) := by decide +kernel
theorem dX7_edits_70 : decode cX7_edits 70 = .ok (.iload_n 2, 1) := by decide +kernel
theorem dX7_edits_71 : decode cX7_edits 71 = .ok (.imul, 1) := by decide +kernel
theorem dX7_edits_72 : decode cX7_edits 72 = .ok (.iload 6, 2) := by decide +kernel
theorem dX7_edits_74 : decode cX7_edits 74 = .ok (.iadd, 1) := by decide +kernel
theorem dX7_edits_75 : decode cX7_edits 75 = .ok (.iaload, 1) := by decide +kernel
theorem dX7_edits_76 : decode cX7_edits 76 = .ok (.invokevirtual 61, 3) := by decide +kernel
theorem dX7_edits_79 : decode cX7_edits 79 = .ok (.iinc 6 1, 3) := by decide +kernel
theorem dX7_edits_82 : decode cX7_edits 82 = .ok (.goto (-72), 3) := by decide +kernel
theorem dX7_edits_85 : decode cX7_edits 85 = .ok (.return_, 1) := by decide +kernel
theorem dX7_edit_0 : decode cX7_edit 0 = .ok (.iload_n 1, 1) := by decide +kernel
theorem dX7_edit_1 : decode cX7_edit 1 = .ok (.invokestatic 53, 3) := by decide +kernel
theorem dX7_edit_4 : decode cX7_edit 4 = .ok (.ifCond .eq 77, 3) := by decide +kernel
theorem dX7_edit_7 : decode cX7_edit 7 = .ok (.iload_n 2, 1) := by decide +kernel
theorem dX7_edit_8 : decode cX7_edit 8 = .ok (.invokestatic 53, 3) := by decide +kernel
theorem dX7_edit_11 : decode cX7_edit 11 = .ok (.ifCond .eq 70, 3) := by decide +kernel
theorem dX7_edit_14 : decode cX7_edit 14 = .ok (.iload_n 3, 1) := by decide +kernel
theorem dX7_edit_15 : decode cX7_edit 15 = .ok (.i2l, 1) := by decide +kernel
theorem dX7_edit_16 : decode cX7_edit 16 = .ok (.lconst 0, 1) := by decide +kernel
theorem dX7_edit_17 : decode cX7_edit 17 = .ok (.ldc2_w 43, 3) := by decide +kernel
theorem dX7_edit_20 : decode cX7_edit 20 = .ok (.invokestatic 39, 3) := by decide +kernel
theorem dX7_edit_23 : decode cX7_edit 23 = .ok (.ifCond .eq 58, 3) := by decide +kernel
theorem dX7_edit_26 : decode cX7_edit 26 = .ok (.iload 4, 2) := by decide +kernel
theorem dX7_edit_28 : decode cX7_edit 28 = .ok (.i2l, 1) := by decide +kernel
theorem dX7_edit_29 : decode cX7_edit 29 = .ok (.lconst 0, 1) := by decide +kernel
theorem dX7_edit_30 : decode cX7_edit 30 = .ok (.iload_n 3, 1) := by decide +kernel
theorem dX7_edit_31 : decode cX7_edit 31 = .ok (.iconst 1, 1) := by decide +kernel
theorem dX7_edit_32 : decode cX7_edit 32 = .ok (.if_icmp .ne 13, 3) := by decide +kernel
theorem dX7_edit_35 : decode cX7_edit 35 = .ok (.aload_n 0, 1) := by decide +kernel
theorem dX7_edit_36 : decode cX7_edit 36 = .ok (.getfield 13, 3) := by decide +kernel
theorem dX7_edit_39 : decode cX7_edit 39 = .ok (.iload_n 2, 1) := by decide +kernel
theorem dX7_edit_40 : decode cX7_edit 40 = .ok (.iaload, 1) := by decide +kernel
theorem dX7_edit_41 : decode cX7_edit 41 = .ok (.i2l, 1) := by decide +kernel
theorem dX7_edit_42 : decode cX7_edit 42 = .ok (.goto 12, 3) := by decide +kernel
theorem dX7_edit_45 : decode cX7_edit 45 = .ok (.aload_n 0, 1) := by decide +kernel
theorem dX7_edit_46 : decode cX7_edit 46 = .ok (.getfield 13, 3) := by decide +kernel
theorem dX7_edit_49 : decode cX7_edit 49 = .ok (.iload_n 2, 1) := by decide +kernel
theorem dX7_edit_50 : decode cX7_edit 50 = .ok (.iaload, 1) := by decide +kernel
theorem dX7_edit_51 : decode cX7_edit 51 = .ok (.iconst 1, 1) := by decide +kernel
theorem dX7_edit_52 : decode cX7_edit 52 = .ok (.isub, 1) := by decide +kernel
theorem dX7_edit_53 : decode cX7_edit 53 = .ok (.i2l, 1) := by decide +kernel
theorem dX7_edit_54 : decode cX7_edit 54 = .ok (.invokestatic 39, 3) := by decide +kernel
theorem dX7_edit_57 : decode cX7_edit 57 = .ok (.ifCond .eq 24, 3) := by decide +kernel
theorem dX7_edit_60 : decode cX7_edit 60 = .ok (.iload_n 3, 1) := by decide +kernel
theorem dX7_edit_61 : decode cX7_edit 61 = .ok (.ifCond .le 22, 3) := by decide +kernel
theorem dX7_edit_64 : decode cX7_edit 64 = .ok (.iload 5, 2) := by decide +kernel
theorem dX7_edit_66 : decode cX7_edit 66 = .ok (.i2l, 1) := by decide +kernel
theorem dX7_edit_67 : decode cX7_edit 67 = .ok (.lconst 0, 1) := by decide +kernel
theorem dX7_edit_68 : decode cX7_edit 68 = .ok (.aload_n 0, 1) := by decide +kernel
theorem dX7_edit_69 : decode cX7_edit 69 = .ok (.getfield 7, 3) := by decide +kernel
theorem dX7_edit_72 : decode cX7_edit 72 = .ok (.iconst 1, 1) := by decide +kernel
theorem dX7_edit_73 : decode cX7_edit 73 = .ok (.isub, 1) := by decide +kernel
theorem dX7_edit_74 : decode cX7_edit 74 = .ok (.i2l, 1) := by decide +kernel
theorem dX7_edit_75 : decode cX7_edit 75 = .ok (.invokestatic 39, 3) := by decide +kernel
theorem dX7_edit_78 : decode cX7_edit 78 = .ok (.ifCond .ne 5, 3) := by decide +kernel
theorem dX7_edit_81 : decode cX7_edit 81 = .ok (.iconst (-1), 1) := by decide +kernel
theorem dX7_edit_82 : decode cX7_edit 82 = .ok (.ireturn, 1) := by decide +kernel
theorem dX7_edit_83 : decode cX7_edit 83 = .ok (.iload_n 3, 1) := by decide +kernel
theorem dX7_edit_84 : decode cX7_edit 84 = .ok (.iconst 1, 1) := by decide +kernel
theorem dX7_edit_85 : decode cX7_edit 85 = .ok (.if_icmp .ne 17, 3) := by decide +kernel
theorem dX7_edit_88 : decode cX7_edit 88 = .ok (.aload_n 0, 1) := by decide +kernel
theorem dX7_edit_89 : decode cX7_edit 89 = .ok (.getfield 13, 3) := by decide +kernel
theorem dX7_edit_92 : decode cX7_edit 92 = .ok (.iload_n 2, 1) := by decide +kernel
theorem dX7_edit_93 : decode cX7_edit 93 = .ok (.iaload, 1) := by decide +kernel
theorem dX7_edit_94 : decode cX7_edit 94 = .ok (.bipush 24, 2) := by decide +kernel
theorem dX7_edit_96 : decode cX7_edit 96 = .ok (.if_icmp .ne 6, 3) := by decide +kernel
theorem dX7_edit_99 : decode cX7_edit 99 = .ok (.bipush (-5), 2) := by decide +kernel
theorem dX7_edit_101 : decode cX7_edit 101 = .ok (.ireturn, 1) := by decide +kernel
theorem dX7_edit_102 : decode cX7_edit 102 = .ok (.aload_n 0, 1) := by decide +kernel
theorem dX7_edit_103 : decode cX7_edit 103 = .ok (.bipush 20, 2) := by decide +kernel
theorem dX7_edit_105 : decode cX7_edit 105 = .ok (.iload_n 2, 1) := by decide +kernel
theorem dX7_edit_106 : decode cX7_edit 106 = .ok (.iload_n 3, 1) := by decide +kernel
theorem dX7_edit_107 : decode cX7_edit 107 = .ok (.iload 4, 2) := by decide +kernel
theorem dX7_edit_109 : decode cX7_edit 109 = .ok (.iload 5, 2) := by decide +kernel
theorem dX7_edit_111 : decode cX7_edit 111 = .ok (.invokevirtual 65, 3) := by decide +kernel
theorem dX7_edit_114 : decode cX7_edit 114 = .ok (.aload_n 0, 1) := by decide +kernel
theorem dX7_edit_115 : decode cX7_edit 115 = .ok (.iload_n 1, 1) := by decide +kernel
theorem dX7_edit_116 : decode cX7_edit 116 = .ok (.bipush 20, 2) := by decide +kernel
theorem dX7_edit_118 : decode cX7_edit 118 = .ok (.invokevirtual 69, 3) := by decide +kernel
theorem dX7_edit_121 : decode cX7_edit 121 = .ok (.aload_n 0, 1) := by decide +kernel
theorem dX7_edit_122 : decode cX7_edit 122 = .ok (.getfield 13, 3) := by decide +kernel
theorem dX7_edit_125 : decode cX7_edit 125 = .ok (.iload_n 1, 1) := by decide +kernel
theorem dX7_edit_126 : decode cX7_edit 126 = .ok (.iaload, 1) := by decide +kernel
theorem dX7_edit_127 : decode cX7_edit 127 = .ok (.ireturn, 1) := by decide +kernel
theorem dX7_sumOf_0 : decode cX7_sumOf 0 = .ok (.iconst 0, 1) := by decide +kernel
theorem dX7_sumOf_1 : decode cX7_sumOf 1 = .ok (.istore_n 2, 1) := by decide +kernel
theorem dX7_sumOf_2 : decode cX7_sumOf 2 = .ok (.iconst 1, 1) := by decide +kernel
theorem dX7_sumOf_3 : decode cX7_sumOf 3 = .ok (.istore_n 3, 1) := by decide +kernel
theorem dX7_sumOf_4 : decode cX7_sumOf 4 = .ok (.iload_n 3, 1) := by decide +kernel
theorem dX7_sumOf_5 : decode cX7_sumOf 5 = .ok (.aload_n 0, 1) := by decide +kernel
