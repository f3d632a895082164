theorem n_1_0 : pm_ins 1 0 = some (.iconst 0, 1) := by decide +kernel
theorem n_1_1 : pm_ins 1 1 = some (.istore_n 1, 1) := by decide +kernel
theorem n_1_2 : pm_ins 1 2 = some (.iload_n 1, 1) := by decide +kernel
theorem n_1_3 : pm_ins 1 3 = some (.iconst 5, 1) := by decide +kernel
theorem n_1_4 : pm_ins 1 4 = some (.if_icmp .ge 33, 3) := by decide +kernel
theorem n_1_7 : pm_ins 1 7 = some (.aload_n 0, 1) := by decide +kernel
theorem n_1_8 : pm_ins 1 8 = some (.getfield 11, 3) := by decide +kernel
theorem n_1_11 : pm_ins 1 11 = some (.iload_n 1, 1) := by decide +kernel
theorem n_1_12 : pm_ins 1 12 = some (.aaload, 1) := by decide +kernel
theorem n_1_13 : pm_ins 1 13 = some (.getfield 30, 3) := by decide +kernel
theorem n_1_16 : pm_ins 1 16 = some (.ifCond .ne 15, 3) := by decide +kernel
theorem n_1_19 : pm_ins 1 19 = some (.aload_n 0, 1) := by decide +kernel
theorem n_1_20 : pm_ins 1 20 = some (.getfield 11, 3) := by decide +kernel
theorem n_1_23 : pm_ins 1 23 = some (.iload_n 1, 1) := by decide +kernel
theorem n_1_24 : pm_ins 1 24 = some (.aaload, 1) := by decide +kernel
theorem n_1_25 : pm_ins 1 25 = some (.iconst 1, 1) := by decide +kernel
theorem n_1_26 : pm_ins 1 26 = some (.putfield 30, 3) := by decide +kernel
theorem n_1_29 : pm_ins 1 29 = some (.iload_n 1, 1) := by decide +kernel
theorem n_1_30 : pm_ins 1 30 = some (.ireturn, 1) := by decide +kernel
theorem n_1_31 : pm_ins 1 31 = some (.iinc 1 1, 3) := by decide +kernel
theorem n_1_34 : pm_ins 1 34 = some (.goto (-32), 3) := by decide +kernel
theorem n_1_37 : pm_ins 1 37 = some (.bipush (-7), 2) := by decide +kernel
theorem n_1_39 : pm_ins 1 39 = some (.ireturn, 1) := by decide +kernel
theorem n_2_0 : pm_ins 2 0 = some (.aload_n 0, 1) := by decide +kernel
theorem n_2_1 : pm_ins 2 1 = some (.iload_n 1, 1) := by decide +kernel
theorem n_2_2 : pm_ins 2 2 = some (.invokevirtual 34, 3) := by decide +kernel
theorem n_2_5 : pm_ins 2 5 = some (.ifCond .ne 5, 3) := by decide +kernel
theorem n_2_8 : pm_ins 2 8 = some (.iconst (-1), 1) := by decide +kernel
theorem n_2_9 : pm_ins 2 9 = some (.ireturn, 1) := by decide +kernel
theorem n_2_10 : pm_ins 2 10 = some (.aload_n 0, 1) := by decide +kernel
theorem n_2_11 : pm_ins 2 11 = some (.iload_n 1, 1) := by decide +kernel
theorem n_2_12 : pm_ins 2 12 = some (.invokevirtual 38, 3) := by decide +kernel
theorem n_2_15 : pm_ins 2 15 = some (.aload_n 0, 1) := by decide +kernel
theorem n_2_16 : pm_ins 2 16 = some (.iload_n 1, 1) := by decide +kernel
theorem n_2_17 : pm_ins 2 17 = some (.invokevirtual 42, 3) := by decide +kernel
theorem n_2_20 : pm_ins 2 20 = some (.aload_n 0, 1) := by decide +kernel
theorem n_2_21 : pm_ins 2 21 = some (.iload_n 1, 1) := by decide +kernel
theorem n_2_22 : pm_ins 2 22 = some (.invokevirtual 45, 3) := by decide +kernel
theorem n_2_25 : pm_ins 2 25 = some (.aload_n 0, 1) := by decide +kernel
theorem n_2_26 : pm_ins 2 26 = some (.getfield 11, 3) := by decide +kernel
theorem n_2_29 : pm_ins 2 29 = some (.iload_n 1, 1) := by decide +kernel
theorem n_2_30 : pm_ins 2 30 = some (.aaload, 1) := by decide +kernel
theorem n_2_31 : pm_ins 2 31 = some (.iconst 2, 1) := by decide +kernel
theorem n_2_32 : pm_ins 2 32 = some (.putfield 30, 3) := by decide +kernel
theorem n_2_35 : pm_ins 2 35 = some (.aload_n 0, 1) := by decide +kernel
theorem n_2_36 : pm_ins 2 36 = some (.getfield 11, 3) := by decide +kernel
theorem n_2_39 : pm_ins 2 39 = some (.iload_n 1, 1) := by decide +kernel
theorem n_2_40 : pm_ins 2 40 = some (.aaload, 1) := by decide +kernel
theorem n_2_41 : pm_ins 2 41 = some (.invokevirtual 48, 3) := by decide +kernel
theorem n_2_44 : pm_ins 2 44 = some (.aload_n 0, 1) := by decide +kernel
theorem n_2_45 : pm_ins 2 45 = some (.iload_n 1, 1) := by decide +kernel
theorem n_2_46 : pm_ins 2 46 = some (.invokevirtual 51, 3) := by decide +kernel
theorem n_2_49 : pm_ins 2 49 = some (.aload_n 0, 1) := by decide +kernel
theorem n_2_50 : pm_ins 2 50 = some (.iload_n 1, 1) := by decide +kernel
theorem n_2_51 : pm_ins 2 51 = some (.invokevirtual 54, 3) := by decide +kernel
theorem n_2_54 : pm_ins 2 54 = some (.iconst 0, 1) := by decide +kernel
theorem n_2_55 : pm_ins 2 55 = some (.ireturn, 1) := by decide +kernel
theorem n_3_0 : pm_ins 3 0 = some (.aload_n 0, 1) := by decide +kernel
theorem n_3_1 : pm_ins 3 1 = some (.iload_n 1, 1) := by decide +kernel
theorem n_3_2 : pm_ins 3 2 = some (.invokevirtual 34, 3) := by decide +kernel
theorem n_3_5 : pm_ins 3 5 = some (.ifCond .ne 5, 3) := by decide +kernel
theorem n_3_8 : pm_ins 3 8 = some (.iconst (-1), 1) := by decide +kernel
theorem n_3_9 : pm_ins 3 9 = some (.ireturn, 1) := by decide +kernel
theorem n_3_10 : pm_ins 3 10 = some (.aload_n 0, 1) := by decide +kernel
theorem n_3_11 : pm_ins 3 11 = some (.iload_n 1, 1) := by decide +kernel
theorem n_3_12 : pm_ins 3 12 = some (.invokevirtual 57, 3) := by decide +kernel
theorem n_3_15 : pm_ins 3 15 = some (.istore_n 2, 1) := by decide +kernel
theorem n_3_16 : pm_ins 3 16 = some (.iload_n 2, 1) := by decide +kernel
theorem n_3_17 : pm_ins 3 17 = some (.iconst (-1), 1) := by decide +kernel
theorem n_3_18 : pm_ins 3 18 = some (.if_icmp .ne 6, 3) := by decide +kernel
theorem n_3_21 : pm_ins 3 21 = some (.bipush (-7), 2) := by decide +kernel
theorem n_3_23 : pm_ins 3 23 = some (.ireturn, 1) := by decide +kernel
theorem n_3_24 : pm_ins 3 24 = some (.aload_n 0, 1) := by decide +kernel
theorem n_3_25 : pm_ins 3 25 = some (.getfield 17, 3) := by decide +kernel
theorem n_3_28 : pm_ins 3 28 = some (.iload_n 2, 1) := by decide +kernel
theorem n_3_29 : pm_ins 3 29 = some (.aaload, 1) := by decide +kernel
theorem n_3_30 : pm_ins 3 30 = some (.iload_n 1, 1) := by decide +kernel
theorem n_3_31 : pm_ins 3 31 = some (.putfield 61, 3) := by decide +kernel
theorem n_3_34 : pm_ins 3 34 = some (.aload_n 0, 1) := by decide +kernel
theorem n_3_35 : pm_ins 3 35 = some (.getfield 17, 3) := by decide +kernel
theorem n_3_38 : pm_ins 3 38 = some (.iload_n 2, 1) := by decide +kernel
theorem n_3_39 : pm_ins 3 39 = some (.aaload, 1) := by decide +kernel
theorem n_3_40 : pm_ins 3 40 = some (.invokevirtual 64, 3) := by decide +kernel
theorem n_3_43 : pm_ins 3 43 = some (.iload_n 2, 1) := by decide +kernel
theorem n_3_44 : pm_ins 3 44 = some (.ireturn, 1) := by decide +kernel
theorem n_4_0 : pm_ins 4 0 = some (.aload_n 0, 1) := by decide +kernel
theorem n_4_1 : pm_ins 4 1 = some (.iload_n 1, 1) := by decide +kernel
theorem n_4_2 : pm_ins 4 2 = some (.invokevirtual 34, 3) := by decide +kernel
theorem n_4_5 : pm_ins 4 5 = some (.ifCond .ne 5, 3) := by decide +kernel
theorem n_4_8 : pm_ins 4 8 = some (.iconst (-1), 1) := by decide +kernel
theorem n_4_9 : pm_ins 4 9 = some (.ireturn, 1) := by decide +kernel
theorem n_4_10 : pm_ins 4 10 = some (.aload_n 0, 1) := by decide +kernel
theorem n_4_11 : pm_ins 4 11 = some (.iload_n 1, 1) := by decide +kernel
theorem n_4_12 : pm_ins 4 12 = some (.iload_n 2, 1) := by decide +kernel
theorem n_4_13 : pm_ins 4 13 = some (.invokevirtual 67, 3) := by decide +kernel
theorem n_4_16 : pm_ins 4 16 = some (.ifCond .ne 6, 3) := by decide +kernel
theorem n_4_19 : pm_ins 4 19 = some (.bipush (-3), 2) := by decide +kernel
theorem n_4_21 : pm_ins 4 21 = some (.ireturn, 1) := by decide +kernel
theorem n_4_22 : pm_ins 4 22 = some (.aload_n 0, 1) := by decide +kernel
theorem n_4_23 : pm_ins 4 23 = some (.getfield 11, 3) := by decide +kernel
theorem n_4_26 : pm_ins 4 26 = some (.iload_n 1, 1) := by decide +kernel
theorem n_4_27 : pm_ins 4 27 = some (.aaload, 1) := by decide +kernel
theorem n_4_28 : pm_ins 4 28 = some (.iload_n 2, 1) := by decide +kernel
theorem n_4_29 : pm_ins 4 29 = some (.invokevirtual 71, 3) := by decide +kernel
theorem n_4_32 : pm_ins 4 32 = some (.ifCond .eq 6, 3) := by decide +kernel
theorem n_4_35 : pm_ins 4 35 = some (.bipush (-4), 2) := by decide +kernel
theorem n_4_37 : pm_ins 4 37 = some (.ireturn, 1) := by decide +kernel
theorem n_4_38 : pm_ins 4 38 = some (.aload_n 0, 1) := by decide +kernel
theorem n_4_39 : pm_ins 4 39 = some (.getfield 17, 3) := by decide +kernel
theorem n_4_42 : pm_ins 4 42 = some (.iload_n 2, 1) := by decide +kernel
theorem n_4_43 : pm_ins 4 43 = some (.aaload, 1) := by decide +kernel
theorem n_4_44 : pm_ins 4 44 = some (.iconst (-1), 1) := by decide +kernel
theorem n_4_45 : pm_ins 4 45 = some (.putfield 61, 3) := by decide +kernel
theorem n_4_48 : pm_ins 4 48 = some (.iconst 0, 1) := by decide +kernel
theorem n_4_49 : pm_ins 4 49 = some (.ireturn, 1) := by decide +kernel
theorem n_5_0 : pm_ins 5 0 = some (.aload_n 0, 1) := by decide +kernel
theorem n_5_1 : pm_ins 5 1 = some (.iload_n 1, 1) := by decide +kernel
theorem n_5_2 : pm_ins 5 2 = some (.invokevirtual 34, 3) := by decide +kernel
theorem n_5_5 : pm_ins 5 5 = some (.ifCond .ne 5, 3) := by decide +kernel
theorem n_5_8 : pm_ins 5 8 = some (.iconst (-1), 1) := by decide +kernel
theorem n_5_9 : pm_ins 5 9 = some (.ireturn, 1) := by decide +kernel
theorem n_5_10 : pm_ins 5 10 = some (.iload_n 1, 1) := by decide +kernel
theorem n_5_11 : pm_ins 5 11 = some (.iload_n 2, 1) := by decide +kernel
theorem n_5_12 : pm_ins 5 12 = some (.invokestatic 74, 3) := by decide +kernel
theorem n_5_15 : pm_ins 5 15 = some (.ifCond .eq 14, 3) := by decide +kernel
theorem n_5_18 : pm_ins 5 18 = some (.iload 4, 2) := by decide +kernel
theorem n_5_20 : pm_ins 5 20 = some (.ifCond .lt 9, 3) := by decide +kernel
theorem n_5_23 : pm_ins 5 23 = some (.iload 4, 2) := by decide +kernel
theorem n_5_25 : pm_ins 5 25 = some (.iconst 2, 1) := by decide +kernel
theorem n_5_26 : pm_ins 5 26 = some (.if_icmp .le 6, 3) := by decide +kernel
theorem n_5_29 : pm_ins 5 29 = some (.bipush (-2), 2) := by decide +kernel
theorem n_5_31 : pm_ins 5 31 = some (.ireturn, 1) := by decide +kernel
theorem n_5_32 : pm_ins 5 32 = some (.iload 4, 2) := by decide +kernel
theorem n_5_34 : pm_ins 5 34 = some (.iconst 2, 1) := by decide +kernel
theorem n_5_35 : pm_ins 5 35 = some (.if_icmp .eq 15, 3) := by decide +kernel
theorem n_5_38 : pm_ins 5 38 = some (.aload_n 0, 1) := by decide +kernel
theorem n_5_39 : pm_ins 5 39 = some (.iload_n 1, 1) := by decide +kernel
theorem n_5_40 : pm_ins 5 40 = some (.iload_n 3, 1) := by decide +kernel
theorem n_5_41 : pm_ins 5 41 = some (.invokevirtual 67, 3) := by decide +kernel
theorem n_5_44 : pm_ins 5 44 = some (.ifCond .ne 6, 3) := by decide +kernel
theorem n_5_47 : pm_ins 5 47 = some (.bipush (-3), 2) := by decide +kernel
theorem n_5_49 : pm_ins 5 49 = some (.ireturn, 1) := by decide +kernel
theorem n_5_50 : pm_ins 5 50 = some (.aload_n 0, 1) := by decide +kernel
theorem n_5_51 : pm_ins 5 51 = some (.getfield 11, 3) := by decide +kernel
theorem n_5_54 : pm_ins 5 54 = some (.iload_n 1, 1) := by decide +kernel
theorem n_5_55 : pm_ins 5 55 = some (.aaload, 1) := by decide +kernel
theorem n_5_56 : pm_ins 5 56 = some (.invokevirtual 77, 3) := by decide +kernel
theorem n_5_59 : pm_ins 5 59 = some (.istore 5, 2) := by decide +kernel
theorem n_5_61 : pm_ins 5 61 = some (.iload 5, 2) := by decide +kernel
theorem n_5_63 : pm_ins 5 63 = some (.iconst (-1), 1) := by decide +kernel
theorem n_5_64 : pm_ins 5 64 = some (.if_icmp .ne 6, 3) := by decide +kernel
theorem n_5_67 : pm_ins 5 67 = some (.bipush (-7), 2) := by decide +kernel
theorem n_5_69 : pm_ins 5 69 = some (.ireturn, 1) := by decide +kernel
theorem n_5_70 : pm_ins 5 70 = some (.aload_n 0, 1) := by decide +kernel
theorem n_5_71 : pm_ins 5 71 = some (.getfield 11, 3) := by decide +kernel
theorem n_5_74 : pm_ins 5 74 = some (.iload_n 1, 1) := by decide +kernel
theorem n_5_75 : pm_ins 5 75 = some (.aaload, 1) := by decide +kernel
theorem n_5_76 : pm_ins 5 76 = some (.getfield 81, 3) := by decide +kernel
theorem n_5_79 : pm_ins 5 79 = some (.iload 5, 2) := by decide +kernel
theorem n_5_81 : pm_ins 5 81 = some (.aaload, 1) := by decide +kernel
theorem n_5_82 : pm_ins 5 82 = some (.iload_n 2, 1) := by decide +kernel
theorem n_5_83 : pm_ins 5 83 = some (.iload 4, 2) := by decide +kernel
theorem n_5_85 : pm_ins 5 85 = some (.iload 4, 2) := by decide +kernel
theorem n_5_87 : pm_ins 5 87 = some (.iconst 2, 1) := by decide +kernel
theorem n_5_88 : pm_ins 5 88 = some (.if_icmp .ne 7, 3) := by decide +kernel
theorem n_5_91 : pm_ins 5 91 = some (.iconst (-1), 1) := by decide +kernel
theorem n_5_92 : pm_ins 5 92 = some (.goto 4, 3) := by decide +kernel
theorem n_5_95 : pm_ins 5 95 = some (.iload_n 3, 1) := by decide +kernel
theorem n_5_96 : pm_ins 5 96 = some (.invokevirtual 85, 3) := by decide +kernel
theorem n_5_99 : pm_ins 5 99 = some (.iload 5, 2) := by decide +kernel
theorem n_5_101 : pm_ins 5 101 = some (.ireturn, 1) := by decide +kernel
theorem n_6_0 : pm_ins 6 0 = some (.aload_n 0, 1) := by decide +kernel
theorem n_6_1 : pm_ins 6 1 = some (.iload_n 1, 1) := by decide +kernel
theorem n_6_2 : pm_ins 6 2 = some (.invokevirtual 34, 3) := by decide +kernel
theorem n_6_5 : pm_ins 6 5 = some (.ifCond .ne 5, 3) := by decide +kernel
theorem n_6_8 : pm_ins 6 8 = some (.iconst (-1), 1) := by decide +kernel
theorem n_6_9 : pm_ins 6 9 = some (.ireturn, 1) := by decide +kernel
theorem n_6_10 : pm_ins 6 10 = some (.aload_n 0, 1) := by decide +kernel
theorem n_6_11 : pm_ins 6 11 = some (.getfield 11, 3) := by decide +kernel
theorem n_6_14 : pm_ins 6 14 = some (.iload_n 1, 1) := by decide +kernel
theorem n_6_15 : pm_ins 6 15 = some (.aaload, 1) := by decide +kernel
theorem n_6_16 : pm_ins 6 16 = some (.iload_n 2, 1) := by decide +kernel
theorem n_6_17 : pm_ins 6 17 = some (.invokevirtual 91, 3) := by decide +kernel
theorem n_6_20 : pm_ins 6 20 = some (.ifCond .ne 6, 3) := by decide +kernel
theorem n_6_23 : pm_ins 6 23 = some (.bipush (-5), 2) := by decide +kernel
theorem n_6_25 : pm_ins 6 25 = some (.ireturn, 1) := by decide +kernel
theorem n_6_26 : pm_ins 6 26 = some (.aload_n 0, 1) := by decide +kernel
theorem n_6_27 : pm_ins 6 27 = some (.getfield 11, 3) := by decide +kernel
theorem n_6_30 : pm_ins 6 30 = some (.iload_n 1, 1) := by decide +kernel
theorem n_6_31 : pm_ins 6 31 = some (.aaload, 1) := by decide +kernel
theorem n_6_32 : pm_ins 6 32 = some (.getfield 81, 3) := by decide +kernel
theorem n_6_35 : pm_ins 6 35 = some (.iload_n 2, 1) := by decide +kernel
theorem n_6_36 : pm_ins 6 36 = some (.aaload, 1) := by decide +kernel
theorem n_6_37 : pm_ins 6 37 = some (.astore_n 3, 1) := by decide +kernel
theorem n_6_38 : pm_ins 6 38 = some (.aload_n 3, 1) := by decide +kernel
theorem n_6_39 : pm_ins 6 39 = some (.invokevirtual 94, 3) := by decide +kernel
theorem n_6_42 : pm_ins 6 42 = some (.ifCond .eq 6, 3) := by decide +kernel
theorem n_6_45 : pm_ins 6 45 = some (.bipush (-4), 2) := by decide +kernel
theorem n_6_47 : pm_ins 6 47 = some (.ireturn, 1) := by decide +kernel
theorem n_6_48 : pm_ins 6 48 = some (.aload_n 3, 1) := by decide +kernel
theorem n_6_49 : pm_ins 6 49 = some (.invokevirtual 98, 3) := by decide +kernel
theorem n_6_52 : pm_ins 6 52 = some (.iconst 0, 1) := by decide +kernel
theorem n_6_53 : pm_ins 6 53 = some (.ireturn, 1) := by decide +kernel
theorem n_7_0 : pm_ins 7 0 = some (.aload_n 0, 1) := by decide +kernel
theorem n_7_1 : pm_ins 7 1 = some (.iload_n 1, 1) := by decide +kernel
theorem n_7_2 : pm_ins 7 2 = some (.invokevirtual 34, 3) := by decide +kernel
theorem n_7_5 : pm_ins 7 5 = some (.ifCond .eq 11, 3) := by decide +kernel
theorem n_7_8 : pm_ins 7 8 = some (.aload_n 0, 1) := by decide +kernel
theorem n_7_9 : pm_ins 7 9 = some (.iload_n 2, 1) := by decide +kernel
theorem n_7_10 : pm_ins 7 10 = some (.invokevirtual 34, 3) := by decide +kernel
theorem n_7_13 : pm_ins 7 13 = some (.ifCond .ne 5, 3) := by decide +kernel
theorem n_7_16 : pm_ins 7 16 = some (.iconst (-1), 1) := by decide +kernel
theorem n_7_17 : pm_ins 7 17 = some (.ireturn, 1) := by decide +kernel
theorem n_7_18 : pm_ins 7 18 = some (.aload_n 0, 1) := by decide +kernel
theorem n_7_19 : pm_ins 7 19 = some (.getfield 11, 3) := by decide +kernel
theorem n_7_22 : pm_ins 7 22 = some (.iload_n 2, 1) := by decide +kernel
theorem n_7_23 : pm_ins 7 23 = some (.aaload, 1) := by decide +kernel
theorem n_7_24 : pm_ins 7 24 = some (.iload_n 3, 1) := by decide +kernel
theorem n_7_25 : pm_ins 7 25 = some (.invokevirtual 91, 3) := by decide +kernel
theorem n_7_28 : pm_ins 7 28 = some (.ifCond .ne 6, 3) := by decide +kernel
theorem n_7_31 : pm_ins 7 31 = some (.bipush (-5), 2) := by decide +kernel
theorem n_7_33 : pm_ins 7 33 = some (.ireturn, 1) := by decide +kernel
theorem n_7_34 : pm_ins 7 34 = some (.aload_n 0, 1) := by decide +kernel
theorem n_7_35 : pm_ins 7 35 = some (.getfield 11, 3) := by decide +kernel
theorem n_7_38 : pm_ins 7 38 = some (.iload_n 2, 1) := by decide +kernel
theorem n_7_39 : pm_ins 7 39 = some (.aaload, 1) := by decide +kernel
theorem n_7_40 : pm_ins 7 40 = some (.getfield 81, 3) := by decide +kernel
theorem n_7_43 : pm_ins 7 43 = some (.iload_n 3, 1) := by decide +kernel
theorem n_7_44 : pm_ins 7 44 = some (.aaload, 1) := by decide +kernel
theorem n_7_45 : pm_ins 7 45 = some (.astore 5, 2) := by decide +kernel
theorem n_7_47 : pm_ins 7 47 = some (.aload 5, 2) := by decide +kernel
theorem n_7_49 : pm_ins 7 49 = some (.getfield 101, 3) := by decide +kernel
theorem n_7_52 : pm_ins 7 52 = some (.iconst 2, 1) := by decide +kernel
theorem n_7_53 : pm_ins 7 53 = some (.if_icmp .eq 12, 3) := by decide +kernel
theorem n_7_56 : pm_ins 7 56 = some (.aload 5, 2) := by decide +kernel
theorem n_7_58 : pm_ins 7 58 = some (.getfield 104, 3) := by decide +kernel
theorem n_7_61 : pm_ins 7 61 = some (.iload_n 1, 1) := by decide +kernel
theorem n_7_62 : pm_ins 7 62 = some (.if_icmp .eq 6, 3) := by decide +kernel
theorem n_7_65 : pm_ins 7 65 = some (.bipush (-5), 2) := by decide +kernel
theorem n_7_67 : pm_ins 7 67 = some (.ireturn, 1) := by decide +kernel
theorem n_7_68 : pm_ins 7 68 = some (.iload 4, 2) := by decide +kernel
theorem n_7_70 : pm_ins 7 70 = some (.ifCond .eq 14, 3) := by decide +kernel
theorem n_7_73 : pm_ins 7 73 = some (.aload 5, 2) := by decide +kernel
theorem n_7_75 : pm_ins 7 75 = some (.getfield 101, 3) := by decide +kernel
theorem n_7_78 : pm_ins 7 78 = some (.ifCond .ne 6, 3) := by decide +kernel
theorem n_7_81 : pm_ins 7 81 = some (.bipush (-6), 2) := by decide +kernel
theorem n_7_83 : pm_ins 7 83 = some (.ireturn, 1) := by decide +kernel
theorem n_7_84 : pm_ins 7 84 = some (.aload_n 0, 1) := by decide +kernel
theorem n_7_85 : pm_ins 7 85 = some (.getfield 11, 3) := by decide +kernel
theorem n_7_88 : pm_ins 7 88 = some (.iload_n 1, 1) := by decide +kernel
theorem n_7_89 : pm_ins 7 89 = some (.aaload, 1) := by decide +kernel
theorem n_7_90 : pm_ins 7 90 = some (.invokevirtual 107, 3) := by decide +kernel
theorem n_7_93 : pm_ins 7 93 = some (.istore 6, 2) := by decide +kernel
theorem n_7_95 : pm_ins 7 95 = some (.iload 6, 2) := by decide +kernel
theorem n_7_97 : pm_ins 7 97 = some (.iconst (-1), 1) := by decide +kernel
theorem n_7_98 : pm_ins 7 98 = some (.if_icmp .ne 6, 3) := by decide +kernel
theorem n_7_101 : pm_ins 7 101 = some (.bipush (-7), 2) := by decide +kernel
theorem n_7_103 : pm_ins 7 103 = some (.ireturn, 1) := by decide +kernel
theorem n_7_104 : pm_ins 7 104 = some (.aload_n 0, 1) := by decide +kernel
theorem n_7_105 : pm_ins 7 105 = some (.getfield 11, 3) := by decide +kernel
theorem n_7_108 : pm_ins 7 108 = some (.iload_n 1, 1) := by decide +kernel
theorem n_7_109 : pm_ins 7 109 = some (.aaload, 1) := by decide +kernel
theorem n_7_110 : pm_ins 7 110 = some (.getfield 110, 3) := by decide +kernel
theorem n_7_113 : pm_ins 7 113 = some (.iload 6, 2) := by decide +kernel
theorem n_7_115 : pm_ins 7 115 = some (.aaload, 1) := by decide +kernel
theorem n_7_116 : pm_ins 7 116 = some (.iload_n 2, 1) := by decide +kernel
theorem n_7_117 : pm_ins 7 117 = some (.iload_n 3, 1) := by decide +kernel
theorem n_7_118 : pm_ins 7 118 = some (.iload 4, 2) := by decide +kernel
theorem n_7_120 : pm_ins 7 120 = some (.invokevirtual 114, 3) := by decide +kernel
theorem n_7_123 : pm_ins 7 123 = some (.aload 5, 2) := by decide +kernel
theorem n_7_125 : pm_ins 7 125 = some (.dup, 1) := by decide +kernel
theorem n_7_126 : pm_ins 7 126 = some (.getfield 119, 3) := by decide +kernel
theorem n_7_129 : pm_ins 7 129 = some (.iconst 1, 1) := by decide +kernel
theorem n_7_130 : pm_ins 7 130 = some (.iadd, 1) := by decide +kernel
theorem n_7_131 : pm_ins 7 131 = some (.putfield 119, 3) := by decide +kernel
theorem n_7_134 : pm_ins 7 134 = some (.iload 6, 2) := by decide +kernel
theorem n_7_136 : pm_ins 7 136 = some (.ireturn, 1) := by decide +kernel
theorem n_8_0 : pm_ins 8 0 = some (.aload_n 0, 1) := by decide +kernel
theorem n_8_1 : pm_ins 8 1 = some (.iload_n 1, 1) := by decide +kernel
theorem n_8_2 : pm_ins 8 2 = some (.invokevirtual 34, 3) := by decide +kernel
theorem n_8_5 : pm_ins 8 5 = some (.ifCond .ne 5, 3) := by decide +kernel
theorem n_8_8 : pm_ins 8 8 = some (.iconst (-1), 1) := by decide +kernel
theorem n_8_9 : pm_ins 8 9 = some (.ireturn, 1) := by decide +kernel
theorem n_8_10 : pm_ins 8 10 = some (.aload_n 0, 1) := by decide +kernel
theorem n_8_11 : pm_ins 8 11 = some (.getfield 11, 3) := by decide +kernel
theorem n_8_14 : pm_ins 8 14 = some (.iload_n 1, 1) := by decide +kernel
theorem n_8_15 : pm_ins 8 15 = some (.aaload, 1) := by decide +kernel
theorem n_8_16 : pm_ins 8 16 = some (.iload_n 2, 1) := by decide +kernel
theorem n_8_17 : pm_ins 8 17 = some (.invokevirtual 122, 3) := by decide +kernel
theorem n_8_20 : pm_ins 8 20 = some (.ifCond .ne 6, 3) := by decide +kernel
theorem n_8_23 : pm_ins 8 23 = some (.bipush (-5), 2) := by decide +kernel
theorem n_8_25 : pm_ins 8 25 = some (.ireturn, 1) := by decide +kernel
theorem n_8_26 : pm_ins 8 26 = some (.aload_n 0, 1) := by decide +kernel
theorem n_8_27 : pm_ins 8 27 = some (.aload_n 0, 1) := by decide +kernel
theorem n_8_28 : pm_ins 8 28 = some (.getfield 11, 3) := by decide +kernel
theorem n_8_31 : pm_ins 8 31 = some (.iload_n 1, 1) := by decide +kernel
theorem n_8_32 : pm_ins 8 32 = some (.aaload, 1) := by decide +kernel
theorem n_8_33 : pm_ins 8 33 = some (.getfield 110, 3) := by decide +kernel
theorem n_8_36 : pm_ins 8 36 = some (.iload_n 2, 1) := by decide +kernel
theorem n_8_37 : pm_ins 8 37 = some (.aaload, 1) := by decide +kernel
theorem n_8_38 : pm_ins 8 38 = some (.invokevirtual 125, 3) := by decide +kernel
theorem n_8_41 : pm_ins 8 41 = some (.iconst 0, 1) := by decide +kernel
theorem n_8_42 : pm_ins 8 42 = some (.ireturn, 1) := by decide +kernel
theorem n_9_0 : pm_ins 9 0 = some (.aload_n 0, 1) := by decide +kernel
theorem n_9_1 : pm_ins 9 1 = some (.iload_n 1, 1) := by decide +kernel
theorem n_9_2 : pm_ins 9 2 = some (.invokevirtual 34, 3) := by decide +kernel
theorem n_9_5 : pm_ins 9 5 = some (.ifCond .eq 11, 3) := by decide +kernel
theorem n_9_8 : pm_ins 9 8 = some (.aload_n 0, 1) := by decide +kernel
theorem n_9_9 : pm_ins 9 9 = some (.iload_n 3, 1) := by decide +kernel
theorem n_9_10 : pm_ins 9 10 = some (.invokevirtual 34, 3) := by decide +kernel
theorem n_9_13 : pm_ins 9 13 = some (.ifCond .ne 5, 3) := by decide +kernel
theorem n_9_16 : pm_ins 9 16 = some (.iconst (-1), 1) := by decide +kernel
theorem n_9_17 : pm_ins 9 17 = some (.ireturn, 1) := by decide +kernel
theorem n_9_18 : pm_ins 9 18 = some (.aload_n 0, 1) := by decide +kernel
theorem n_9_19 : pm_ins 9 19 = some (.iload_n 1, 1) := by decide +kernel
theorem n_9_20 : pm_ins 9 20 = some (.iload_n 2, 1) := by decide +kernel
theorem n_9_21 : pm_ins 9 21 = some (.invokevirtual 67, 3) := by decide +kernel
theorem n_9_24 : pm_ins 9 24 = some (.ifCond .ne 6, 3) := by decide +kernel
theorem n_9_27 : pm_ins 9 27 = some (.bipush (-3), 2) := by decide +kernel
theorem n_9_29 : pm_ins 9 29 = some (.ireturn, 1) := by decide +kernel
theorem n_9_30 : pm_ins 9 30 = some (.aload_n 0, 1) := by decide +kernel
theorem n_9_31 : pm_ins 9 31 = some (.getfield 11, 3) := by decide +kernel
theorem n_9_34 : pm_ins 9 34 = some (.iload_n 1, 1) := by decide +kernel
theorem n_9_35 : pm_ins 9 35 = some (.aaload, 1) := by decide +kernel
theorem n_9_36 : pm_ins 9 36 = some (.iload_n 2, 1) := by decide +kernel
theorem n_9_37 : pm_ins 9 37 = some (.invokevirtual 71, 3) := by decide +kernel
theorem n_9_40 : pm_ins 9 40 = some (.ifCond .eq 6, 3) := by decide +kernel
theorem n_9_43 : pm_ins 9 43 = some (.bipush (-4), 2) := by decide +kernel
theorem n_9_45 : pm_ins 9 45 = some (.ireturn, 1) := by decide +kernel
theorem n_9_46 : pm_ins 9 46 = some (.aload_n 0, 1) := by decide +kernel
theorem n_9_47 : pm_ins 9 47 = some (.getfield 11, 3) := by decide +kernel
theorem n_9_50 : pm_ins 9 50 = some (.iload_n 3, 1) := by decide +kernel
theorem n_9_51 : pm_ins 9 51 = some (.aaload, 1) := by decide +kernel
theorem n_9_52 : pm_ins 9 52 = some (.iload 4, 2) := by decide +kernel
theorem n_9_54 : pm_ins 9 54 = some (.invokevirtual 91, 3) := by decide +kernel
theorem n_9_57 : pm_ins 9 57 = some (.ifCond .ne 6, 3) := by decide +kernel
theorem n_9_60 : pm_ins 9 60 = some (.bipush (-5), 2) := by decide +kernel
theorem n_9_62 : pm_ins 9 62 = some (.ireturn, 1) := by decide +kernel
theorem n_9_63 : pm_ins 9 63 = some (.aload_n 0, 1) := by decide +kernel
theorem n_9_64 : pm_ins 9 64 = some (.getfield 11, 3) := by decide +kernel
theorem n_9_67 : pm_ins 9 67 = some (.iload_n 3, 1) := by decide +kernel
theorem n_9_68 : pm_ins 9 68 = some (.aaload, 1) := by decide +kernel
theorem n_9_69 : pm_ins 9 69 = some (.getfield 81, 3) := by decide +kernel
theorem n_9_72 : pm_ins 9 72 = some (.iload 4, 2) := by decide +kernel
theorem n_9_74 : pm_ins 9 74 = some (.aaload, 1) := by decide +kernel
theorem n_9_75 : pm_ins 9 75 = some (.astore 5, 2) := by decide +kernel
theorem n_9_77 : pm_ins 9 77 = some (.aload 5, 2) := by decide +kernel
theorem n_9_79 : pm_ins 9 79 = some (.getfield 101, 3) := by decide +kernel
theorem n_9_82 : pm_ins 9 82 = some (.iconst 2, 1) := by decide +kernel
theorem n_9_83 : pm_ins 9 83 = some (.if_icmp .ne 12, 3) := by decide +kernel
theorem n_9_86 : pm_ins 9 86 = some (.aload 5, 2) := by decide +kernel
theorem n_9_88 : pm_ins 9 88 = some (.getfield 104, 3) := by decide +kernel
theorem n_9_91 : pm_ins 9 91 = some (.iload_n 1, 1) := by decide +kernel
theorem n_9_92 : pm_ins 9 92 = some (.if_icmp .eq 6, 3) := by decide +kernel
theorem n_9_95 : pm_ins 9 95 = some (.bipush (-5), 2) := by decide +kernel
theorem n_9_97 : pm_ins 9 97 = some (.ireturn, 1) := by decide +kernel
theorem n_9_98 : pm_ins 9 98 = some (.aload_n 0, 1) := by decide +kernel
theorem n_9_99 : pm_ins 9 99 = some (.iload_n 3, 1) := by decide +kernel
theorem n_9_100 : pm_ins 9 100 = some (.invokevirtual 129, 3) := by decide +kernel
theorem n_9_103 : pm_ins 9 103 = some (.bipush 6, 2) := by decide +kernel
theorem n_9_105 : pm_ins 9 105 = some (.if_icmp .lt 6, 3) := by decide +kernel
theorem n_9_108 : pm_ins 9 108 = some (.bipush (-7), 2) := by decide +kernel
theorem n_9_110 : pm_ins 9 110 = some (.ireturn, 1) := by decide +kernel
theorem n_9_111 : pm_ins 9 111 = some (.aload_n 0, 1) := by decide +kernel
theorem n_9_112 : pm_ins 9 112 = some (.getfield 17, 3) := by decide +kernel
theorem n_9_115 : pm_ins 9 115 = some (.iload_n 2, 1) := by decide +kernel
theorem n_9_116 : pm_ins 9 116 = some (.aaload, 1) := by decide +kernel
theorem n_9_117 : pm_ins 9 117 = some (.iload_n 3, 1) := by decide +kernel
theorem n_9_118 : pm_ins 9 118 = some (.putfield 61, 3) := by decide +kernel
theorem n_9_121 : pm_ins 9 121 = some (.aload 5, 2) := by decide +kernel
theorem n_9_123 : pm_ins 9 123 = some (.invokevirtual 98, 3) := by decide +kernel
theorem n_9_126 : pm_ins 9 126 = some (.iconst 0, 1) := by decide +kernel
theorem n_9_127 : pm_ins 9 127 = some (.ireturn, 1) := by decide +kernel
theorem n_10_0 : pm_ins 10 0 = some (.aload_n 0, 1) := by decide +kernel
theorem n_10_1 : pm_ins 10 1 = some (.iload_n 1, 1) := by decide +kernel
theorem n_10_2 : pm_ins 10 2 = some (.iload_n 2, 1) := by decide +kernel
theorem n_10_3 : pm_ins 10 3 = some (.iload_n 3, 1) := by decide +kernel
theorem n_10_4 : pm_ins 10 4 = some (.iconst 1, 1) := by decide +kernel
theorem n_10_5 : pm_ins 10 5 = some (.invokevirtual 132, 3) := by decide +kernel
theorem n_10_8 : pm_ins 10 8 = some (.istore 5, 2) := by decide +kernel
theorem n_10_10 : pm_ins 10 10 = some (.iload 5, 2) := by decide +kernel
theorem n_10_12 : pm_ins 10 12 = some (.ifCond .ne 16, 3) := by decide +kernel
theorem n_10_15 : pm_ins 10 15 = some (.aload_n 0, 1) := by decide +kernel
theorem n_10_16 : pm_ins 10 16 = some (.getfield 17, 3) := by decide +kernel
theorem n_10_19 : pm_ins 10 19 = some (.iload_n 2, 1) := by decide +kernel
theorem n_10_20 : pm_ins 10 20 = some (.aaload, 1) := by decide +kernel
theorem n_10_21 : pm_ins 10 21 = some (.getfield 136, 3) := by decide +kernel
theorem n_10_24 : pm_ins 10 24 = some (.iload_n 3, 1) := by decide +kernel
theorem n_10_25 : pm_ins 10 25 = some (.iload 4, 2) := by decide +kernel
theorem n_10_27 : pm_ins 10 27 = some (.iastore, 1) := by decide +kernel
theorem n_10_28 : pm_ins 10 28 = some (.iload 5, 2) := by decide +kernel
theorem n_10_30 : pm_ins 10 30 = some (.ireturn, 1) := by decide +kernel
theorem n_11_0 : pm_ins 11 0 = some (.aload_n 0, 1) := by decide +kernel
theorem n_11_1 : pm_ins 11 1 = some (.iload_n 1, 1) := by decide +kernel
theorem n_11_2 : pm_ins 11 2 = some (.iload_n 2, 1) := by decide +kernel
theorem n_11_3 : pm_ins 11 3 = some (.iload_n 3, 1) := by decide +kernel
theorem n_11_4 : pm_ins 11 4 = some (.iconst 0, 1) := by decide +kernel
theorem n_11_5 : pm_ins 11 5 = some (.invokevirtual 132, 3) := by decide +kernel
theorem n_11_8 : pm_ins 11 8 = some (.istore 4, 2) := by decide +kernel
theorem n_11_10 : pm_ins 11 10 = some (.iload 4, 2) := by decide +kernel
theorem n_11_12 : pm_ins 11 12 = some (.ifCond .ne 22, 3) := by decide +kernel
theorem n_11_15 : pm_ins 11 15 = some (.aload_n 0, 1) := by decide +kernel
theorem n_11_16 : pm_ins 11 16 = some (.getfield 17, 3) := by decide +kernel
theorem n_11_19 : pm_ins 11 19 = some (.iload_n 2, 1) := by decide +kernel
theorem n_11_20 : pm_ins 11 20 = some (.aaload, 1) := by decide +kernel
theorem n_11_21 : pm_ins 11 21 = some (.getfield 136, 3) := by decide +kernel
theorem n_11_24 : pm_ins 11 24 = some (.iload_n 3, 1) := by decide +kernel
theorem n_11_25 : pm_ins 11 25 = some (.iaload, 1) := by decide +kernel
theorem n_11_26 : pm_ins 11 26 = some (.i2l, 1) := by decide +kernel
theorem n_11_27 : pm_ins 11 27 = some (.ldc2_w 140, 3) := by decide +kernel
theorem n_11_30 : pm_ins 11 30 = some (.land, 1) := by decide +kernel
theorem n_11_31 : pm_ins 11 31 = some (.goto 6, 3) := by decide +kernel
theorem n_11_34 : pm_ins 11 34 = some (.iload 4, 2) := by decide +kernel
theorem n_11_36 : pm_ins 11 36 = some (.i2l, 1) := by decide +kernel
theorem n_11_37 : pm_ins 11 37 = some (.lreturn, 1) := by decide +kernel
theorem n_12_0 : pm_ins 12 0 = some (.aload_n 0, 1) := by decide +kernel
theorem n_12_1 : pm_ins 12 1 = some (.iload_n 1, 1) := by decide +kernel
theorem n_12_2 : pm_ins 12 2 = some (.invokevirtual 34, 3) := by decide +kernel
theorem n_12_5 : pm_ins 12 5 = some (.ifCond .ne 5, 3) := by decide +kernel
theorem n_12_8 : pm_ins 12 8 = some (.iconst (-1), 1) := by decide +kernel
theorem n_12_9 : pm_ins 12 9 = some (.ireturn, 1) := by decide +kernel
theorem n_12_10 : pm_ins 12 10 = some (.iload_n 1, 1) := by decide +kernel
theorem n_12_11 : pm_ins 12 11 = some (.iload_n 2, 1) := by decide +kernel
theorem n_12_12 : pm_ins 12 12 = some (.invokestatic 74, 3) := by decide +kernel
theorem n_12_15 : pm_ins 12 15 = some (.ifCond .ne 6, 3) := by decide +kernel
theorem n_12_18 : pm_ins 12 18 = some (.bipush (-2), 2) := by decide +kernel
theorem n_12_20 : pm_ins 12 20 = some (.ireturn, 1) := by decide +kernel
theorem n_12_21 : pm_ins 12 21 = some (.aload_n 0, 1) := by decide +kernel
theorem n_12_22 : pm_ins 12 22 = some (.getfield 11, 3) := by decide +kernel
theorem n_12_25 : pm_ins 12 25 = some (.iload_n 1, 1) := by decide +kernel
theorem n_12_26 : pm_ins 12 26 = some (.aaload, 1) := by decide +kernel
theorem n_12_27 : pm_ins 12 27 = some (.invokevirtual 142, 3) := by decide +kernel
theorem n_12_30 : pm_ins 12 30 = some (.istore_n 3, 1) := by decide +kernel
theorem n_12_31 : pm_ins 12 31 = some (.iload_n 3, 1) := by decide +kernel
theorem n_12_32 : pm_ins 12 32 = some (.iconst (-1), 1) := by decide +kernel
theorem n_12_33 : pm_ins 12 33 = some (.if_icmp .ne 6, 3) := by decide +kernel
theorem n_12_36 : pm_ins 12 36 = some (.bipush (-7), 2) := by decide +kernel
theorem n_12_38 : pm_ins 12 38 = some (.ireturn, 1) := by decide +kernel
theorem n_12_39 : pm_ins 12 39 = some (.aload_n 0, 1) := by decide +kernel
theorem n_12_40 : pm_ins 12 40 = some (.getfield 11, 3) := by decide +kernel
theorem n_12_43 : pm_ins 12 43 = some (.iload_n 1, 1) := by decide +kernel
theorem n_12_44 : pm_ins 12 44 = some (.aaload, 1) := by decide +kernel
theorem n_12_45 : pm_ins 12 45 = some (.getfield 145, 3) := by decide +kernel
theorem n_12_48 : pm_ins 12 48 = some (.iload_n 3, 1) := by decide +kernel
theorem n_12_49 : pm_ins 12 49 = some (.aaload, 1) := by decide +kernel
theorem n_12_50 : pm_ins 12 50 = some (.iload_n 2, 1) := by decide +kernel
theorem n_12_51 : pm_ins 12 51 = some (.invokevirtual 149, 3) := by decide +kernel
theorem n_12_54 : pm_ins 12 54 = some (.iload_n 3, 1) := by decide +kernel
theorem n_12_55 : pm_ins 12 55 = some (.ireturn, 1) := by decide +kernel
theorem n_13_0 : pm_ins 13 0 = some (.aload_n 0, 1) := by decide +kernel
theorem n_13_1 : pm_ins 13 1 = some (.iload_n 1, 1) := by decide +kernel
theorem n_13_2 : pm_ins 13 2 = some (.invokevirtual 34, 3) := by decide +kernel
theorem n_13_5 : pm_ins 13 5 = some (.ifCond .eq 11, 3) := by decide +kernel
theorem n_13_8 : pm_ins 13 8 = some (.aload_n 0, 1) := by decide +kernel
theorem n_13_9 : pm_ins 13 9 = some (.iload_n 2, 1) := by decide +kernel
theorem n_13_10 : pm_ins 13 10 = some (.invokevirtual 34, 3) := by decide +kernel
theorem n_13_13 : pm_ins 13 13 = some (.ifCond .ne 5, 3) := by decide +kernel
theorem n_13_16 : pm_ins 13 16 = some (.iconst (-1), 1) := by decide +kernel
theorem n_13_17 : pm_ins 13 17 = some (.ireturn, 1) := by decide +kernel
theorem n_13_18 : pm_ins 13 18 = some (.iload_n 3, 1) := by decide +kernel
theorem n_13_19 : pm_ins 13 19 = some (.invokestatic 154, 3) := by decide +kernel
theorem n_13_22 : pm_ins 13 22 = some (.ifCond .eq 21, 3) := by decide +kernel
theorem n_13_25 : pm_ins 13 25 = some (.aload_n 0, 1) := by decide +kernel
theorem n_13_26 : pm_ins 13 26 = some (.getfield 11, 3) := by decide +kernel
theorem n_13_29 : pm_ins 13 29 = some (.iload_n 2, 1) := by decide +kernel
theorem n_13_30 : pm_ins 13 30 = some (.aaload, 1) := by decide +kernel
theorem n_13_31 : pm_ins 13 31 = some (.getfield 145, 3) := by decide +kernel
theorem n_13_34 : pm_ins 13 34 = some (.iload_n 3, 1) := by decide +kernel
theorem n_13_35 : pm_ins 13 35 = some (.aaload, 1) := by decide +kernel
theorem n_13_36 : pm_ins 13 36 = some (.iload_n 1, 1) := by decide +kernel
theorem n_13_37 : pm_ins 13 37 = some (.invokevirtual 157, 3) := by decide +kernel
theorem n_13_40 : pm_ins 13 40 = some (.ifCond .ne 6, 3) := by decide +kernel
theorem n_13_43 : pm_ins 13 43 = some (.bipush (-8), 2) := by decide +kernel
theorem n_13_45 : pm_ins 13 45 = some (.ireturn, 1) := by decide +kernel
theorem n_13_46 : pm_ins 13 46 = some (.aload_n 0, 1) := by decide +kernel
theorem n_13_47 : pm_ins 13 47 = some (.getfield 11, 3) := by decide +kernel
theorem n_13_50 : pm_ins 13 50 = some (.iload_n 1, 1) := by decide +kernel
theorem n_13_51 : pm_ins 13 51 = some (.aaload, 1) := by decide +kernel
theorem n_13_52 : pm_ins 13 52 = some (.invokevirtual 142, 3) := by decide +kernel
theorem n_13_55 : pm_ins 13 55 = some (.istore 4, 2) := by decide +kernel
theorem n_13_57 : pm_ins 13 57 = some (.iload 4, 2) := by decide +kernel
theorem n_13_59 : pm_ins 13 59 = some (.iconst (-1), 1) := by decide +kernel
theorem n_13_60 : pm_ins 13 60 = some (.if_icmp .ne 6, 3) := by decide +kernel
theorem n_13_63 : pm_ins 13 63 = some (.bipush (-7), 2) := by decide +kernel
theorem n_13_65 : pm_ins 13 65 = some (.ireturn, 1) := by decide +kernel
theorem n_13_66 : pm_ins 13 66 = some (.aload_n 0, 1) := by decide +kernel
theorem n_13_67 : pm_ins 13 67 = some (.getfield 11, 3) := by decide +kernel
theorem n_13_70 : pm_ins 13 70 = some (.iload_n 1, 1) := by decide +kernel
theorem n_13_71 : pm_ins 13 71 = some (.aaload, 1) := by decide +kernel
theorem n_13_72 : pm_ins 13 72 = some (.getfield 145, 3) := by decide +kernel
theorem n_13_75 : pm_ins 13 75 = some (.iload 4, 2) := by decide +kernel
theorem n_13_77 : pm_ins 13 77 = some (.aaload, 1) := by decide +kernel
theorem n_13_78 : pm_ins 13 78 = some (.iload_n 2, 1) := by decide +kernel
theorem n_13_79 : pm_ins 13 79 = some (.iload_n 3, 1) := by decide +kernel
theorem n_13_80 : pm_ins 13 80 = some (.invokevirtual 160, 3) := by decide +kernel
theorem n_13_83 : pm_ins 13 83 = some (.aload_n 0, 1) := by decide +kernel
theorem n_13_84 : pm_ins 13 84 = some (.getfield 11, 3) := by decide +kernel
theorem n_13_87 : pm_ins 13 87 = some (.iload_n 2, 1) := by decide +kernel
theorem n_13_88 : pm_ins 13 88 = some (.aaload, 1) := by decide +kernel
theorem n_13_89 : pm_ins 13 89 = some (.getfield 145, 3) := by decide +kernel
theorem n_13_92 : pm_ins 13 92 = some (.iload_n 3, 1) := by decide +kernel
theorem n_13_93 : pm_ins 13 93 = some (.aaload, 1) := by decide +kernel
theorem n_13_94 : pm_ins 13 94 = some (.iload_n 1, 1) := by decide +kernel
theorem n_13_95 : pm_ins 13 95 = some (.iload 4, 2) := by decide +kernel
theorem n_13_97 : pm_ins 13 97 = some (.invokevirtual 160, 3) := by decide +kernel
theorem n_13_100 : pm_ins 13 100 = some (.iload 4, 2) := by decide +kernel
theorem n_13_102 : pm_ins 13 102 = some (.ireturn, 1) := by decide +kernel
theorem n_14_0 : pm_ins 14 0 = some (.aload_n 0, 1) := by decide +kernel
theorem n_14_1 : pm_ins 14 1 = some (.iload_n 1, 1) := by decide +kernel
theorem n_14_2 : pm_ins 14 2 = some (.invokevirtual 34, 3) := by decide +kernel
theorem n_14_5 : pm_ins 14 5 = some (.ifCond .ne 5, 3) := by decide +kernel
theorem n_14_8 : pm_ins 14 8 = some (.iconst (-1), 1) := by decide +kernel
theorem n_14_9 : pm_ins 14 9 = some (.ireturn, 1) := by decide +kernel
theorem n_14_10 : pm_ins 14 10 = some (.iload_n 2, 1) := by decide +kernel
theorem n_14_11 : pm_ins 14 11 = some (.invokestatic 154, 3) := by decide +kernel
theorem n_14_14 : pm_ins 14 14 = some (.ifCond .eq 21, 3) := by decide +kernel
theorem n_14_17 : pm_ins 14 17 = some (.aload_n 0, 1) := by decide +kernel
theorem n_14_18 : pm_ins 14 18 = some (.getfield 11, 3) := by decide +kernel
theorem n_14_21 : pm_ins 14 21 = some (.iload_n 1, 1) := by decide +kernel
theorem n_14_22 : pm_ins 14 22 = some (.aaload, 1) := by decide +kernel
theorem n_14_23 : pm_ins 14 23 = some (.getfield 145, 3) := by decide +kernel
theorem n_14_26 : pm_ins 14 26 = some (.iload_n 2, 1) := by decide +kernel
theorem n_14_27 : pm_ins 14 27 = some (.aaload, 1) := by decide +kernel
theorem n_14_28 : pm_ins 14 28 = some (.getfield 164, 3) := by decide +kernel
theorem n_14_31 : pm_ins 14 31 = some (.iconst 2, 1) := by decide +kernel
theorem n_14_32 : pm_ins 14 32 = some (.if_icmp .eq 6, 3) := by decide +kernel
theorem n_14_35 : pm_ins 14 35 = some (.bipush (-8), 2) := by decide +kernel
theorem n_14_37 : pm_ins 14 37 = some (.ireturn, 1) := by decide +kernel
theorem n_14_38 : pm_ins 14 38 = some (.aload_n 0, 1) := by decide +kernel
theorem n_14_39 : pm_ins 14 39 = some (.aload_n 0, 1) := by decide +kernel
theorem n_14_40 : pm_ins 14 40 = some (.getfield 11, 3) := by decide +kernel
theorem n_14_43 : pm_ins 14 43 = some (.iload_n 1, 1) := by decide +kernel
theorem n_14_44 : pm_ins 14 44 = some (.aaload, 1) := by decide +kernel
theorem n_14_45 : pm_ins 14 45 = some (.getfield 145, 3) := by decide +kernel
theorem n_14_48 : pm_ins 14 48 = some (.iload_n 2, 1) := by decide +kernel
theorem n_14_49 : pm_ins 14 49 = some (.aaload, 1) := by decide +kernel
theorem n_14_50 : pm_ins 14 50 = some (.invokevirtual 165, 3) := by decide +kernel
theorem n_14_53 : pm_ins 14 53 = some (.astore_n 3, 1) := by decide +kernel
theorem n_14_54 : pm_ins 14 54 = some (.aload_n 3, 1) := by decide +kernel
theorem n_14_55 : pm_ins 14 55 = some (.getfield 169, 3) := by decide +kernel
theorem n_14_58 : pm_ins 14 58 = some (.ifCond .eq 7, 3) := by decide +kernel
theorem n_14_61 : pm_ins 14 61 = some (.iconst 0, 1) := by decide +kernel
theorem n_14_62 : pm_ins 14 62 = some (.goto 4, 3) := by decide +kernel
theorem n_14_65 : pm_ins 14 65 = some (.iconst 1, 1) := by decide +kernel
theorem n_14_66 : pm_ins 14 66 = some (.istore 4, 2) := by decide +kernel
theorem n_14_68 : pm_ins 14 68 = some (.aload_n 3, 1) := by decide +kernel
theorem n_14_69 : pm_ins 14 69 = some (.iconst 1, 1) := by decide +kernel
theorem n_14_70 : pm_ins 14 70 = some (.putfield 169, 3) := by decide +kernel
theorem n_14_73 : pm_ins 14 73 = some (.iload 4, 2) := by decide +kernel
theorem n_14_75 : pm_ins 14 75 = some (.ireturn, 1) := by decide +kernel
theorem n_15_0 : pm_ins 15 0 = some (.aload_n 0, 1) := by decide +kernel
theorem n_15_1 : pm_ins 15 1 = some (.iload_n 1, 1) := by decide +kernel
theorem n_15_2 : pm_ins 15 2 = some (.invokevirtual 34, 3) := by decide +kernel
theorem n_15_5 : pm_ins 15 5 = some (.ifCond .ne 5, 3) := by decide +kernel
theorem n_15_8 : pm_ins 15 8 = some (.iconst (-1), 1) := by decide +kernel
theorem n_15_9 : pm_ins 15 9 = some (.ireturn, 1) := by decide +kernel
theorem n_15_10 : pm_ins 15 10 = some (.aload_n 0, 1) := by decide +kernel
theorem n_15_11 : pm_ins 15 11 = some (.getfield 11, 3) := by decide +kernel
theorem n_15_14 : pm_ins 15 14 = some (.iload_n 1, 1) := by decide +kernel
theorem n_15_15 : pm_ins 15 15 = some (.aaload, 1) := by decide +kernel
theorem n_15_16 : pm_ins 15 16 = some (.getfield 145, 3) := by decide +kernel
theorem n_15_19 : pm_ins 15 19 = some (.astore_n 2, 1) := by decide +kernel
theorem n_15_20 : pm_ins 15 20 = some (.iconst 0, 1) := by decide +kernel
theorem n_15_21 : pm_ins 15 21 = some (.istore_n 3, 1) := by decide +kernel
theorem n_15_22 : pm_ins 15 22 = some (.iload_n 3, 1) := by decide +kernel
theorem n_15_23 : pm_ins 15 23 = some (.iconst 4, 1) := by decide +kernel
theorem n_15_24 : pm_ins 15 24 = some (.if_icmp .ge 27, 3) := by decide +kernel
theorem n_15_27 : pm_ins 15 27 = some (.aload_n 2, 1) := by decide +kernel
theorem n_15_28 : pm_ins 15 28 = some (.iload_n 3, 1) := by decide +kernel
theorem n_15_29 : pm_ins 15 29 = some (.aaload, 1) := by decide +kernel
theorem n_15_30 : pm_ins 15 30 = some (.getfield 169, 3) := by decide +kernel
theorem n_15_33 : pm_ins 15 33 = some (.ifCond .eq 12, 3) := by decide +kernel
theorem n_15_36 : pm_ins 15 36 = some (.aload_n 2, 1) := by decide +kernel
theorem n_15_37 : pm_ins 15 37 = some (.iload_n 3, 1) := by decide +kernel
theorem n_15_38 : pm_ins 15 38 = some (.aaload, 1) := by decide +kernel
theorem n_15_39 : pm_ins 15 39 = some (.iconst 0, 1) := by decide +kernel
theorem n_15_40 : pm_ins 15 40 = some (.putfield 169, 3) := by decide +kernel
theorem n_15_43 : pm_ins 15 43 = some (.iload_n 3, 1) := by decide +kernel
theorem n_15_44 : pm_ins 15 44 = some (.ireturn, 1) := by decide +kernel
theorem n_15_45 : pm_ins 15 45 = some (.iinc 3 1, 3) := by decide +kernel
theorem n_15_48 : pm_ins 15 48 = some (.goto (-26), 3) := by decide +kernel
theorem n_15_51 : pm_ins 15 51 = some (.bipush (-11), 2) := by decide +kernel
theorem n_15_53 : pm_ins 15 53 = some (.ireturn, 1) := by decide +kernel
theorem n_16_0 : pm_ins 16 0 = some (.aload_n 0, 1) := by decide +kernel
theorem n_16_1 : pm_ins 16 1 = some (.iload_n 1, 1) := by decide +kernel
theorem n_16_2 : pm_ins 16 2 = some (.invokevirtual 34, 3) := by decide +kernel
theorem n_16_5 : pm_ins 16 5 = some (.ifCond .eq 11, 3) := by decide +kernel
theorem n_16_8 : pm_ins 16 8 = some (.aload_n 0, 1) := by decide +kernel
theorem n_16_9 : pm_ins 16 9 = some (.iload_n 2, 1) := by decide +kernel
theorem n_16_10 : pm_ins 16 10 = some (.invokevirtual 34, 3) := by decide +kernel
theorem n_16_13 : pm_ins 16 13 = some (.ifCond .ne 5, 3) := by decide +kernel
theorem n_16_16 : pm_ins 16 16 = some (.iconst (-1), 1) := by decide +kernel
theorem n_16_17 : pm_ins 16 17 = some (.ireturn, 1) := by decide +kernel
theorem n_16_18 : pm_ins 16 18 = some (.iload_n 1, 1) := by decide +kernel
theorem n_16_19 : pm_ins 16 19 = some (.iload_n 2, 1) := by decide +kernel
theorem n_16_20 : pm_ins 16 20 = some (.if_icmp .ne 6, 3) := by decide +kernel
theorem n_16_23 : pm_ins 16 23 = some (.bipush (-2), 2) := by decide +kernel
theorem n_16_25 : pm_ins 16 25 = some (.ireturn, 1) := by decide +kernel
theorem n_16_26 : pm_ins 16 26 = some (.aload_n 0, 1) := by decide +kernel
theorem n_16_27 : pm_ins 16 27 = some (.invokevirtual 173, 3) := by decide +kernel
theorem n_16_30 : pm_ins 16 30 = some (.istore_n 3, 1) := by decide +kernel
theorem n_16_31 : pm_ins 16 31 = some (.iload_n 3, 1) := by decide +kernel
theorem n_16_32 : pm_ins 16 32 = some (.iconst (-1), 1) := by decide +kernel
theorem n_16_33 : pm_ins 16 33 = some (.if_icmp .eq 19, 3) := by decide +kernel
theorem n_16_36 : pm_ins 16 36 = some (.aload_n 0, 1) := by decide +kernel
theorem n_16_37 : pm_ins 16 37 = some (.iload_n 1, 1) := by decide +kernel
theorem n_16_38 : pm_ins 16 38 = some (.invokevirtual 176, 3) := by decide +kernel
theorem n_16_41 : pm_ins 16 41 = some (.ifCond .eq 11, 3) := by decide +kernel
theorem n_16_44 : pm_ins 16 44 = some (.aload_n 0, 1) := by decide +kernel
theorem n_16_45 : pm_ins 16 45 = some (.iload_n 2, 1) := by decide +kernel
theorem n_16_46 : pm_ins 16 46 = some (.invokevirtual 179, 3) := by decide +kernel
theorem n_16_49 : pm_ins 16 49 = some (.ifCond .ne 6, 3) := by decide +kernel
theorem n_16_52 : pm_ins 16 52 = some (.bipush (-7), 2) := by decide +kernel
theorem n_16_54 : pm_ins 16 54 = some (.ireturn, 1) := by decide +kernel
theorem n_16_55 : pm_ins 16 55 = some (.aload_n 0, 1) := by decide +kernel
theorem n_16_56 : pm_ins 16 56 = some (.getfield 23, 3) := by decide +kernel
theorem n_16_59 : pm_ins 16 59 = some (.iload_n 3, 1) := by decide +kernel
theorem n_16_60 : pm_ins 16 60 = some (.aaload, 1) := by decide +kernel
theorem n_16_61 : pm_ins 16 61 = some (.astore 4, 2) := by decide +kernel
theorem n_16_63 : pm_ins 16 63 = some (.aload 4, 2) := by decide +kernel
theorem n_16_65 : pm_ins 16 65 = some (.iload_n 1, 1) := by decide +kernel
theorem n_16_66 : pm_ins 16 66 = some (.iload_n 2, 1) := by decide +kernel
theorem n_16_67 : pm_ins 16 67 = some (.invokevirtual 182, 3) := by decide +kernel
theorem n_16_70 : pm_ins 16 70 = some (.aload 4, 2) := by decide +kernel
theorem n_16_72 : pm_ins 16 72 = some (.aload_n 0, 1) := by decide +kernel
theorem n_16_73 : pm_ins 16 73 = some (.iload_n 1, 1) := by decide +kernel
theorem n_16_74 : pm_ins 16 74 = some (.invokevirtual 185, 3) := by decide +kernel
theorem n_16_77 : pm_ins 16 77 = some (.putfield 188, 3) := by decide +kernel
theorem n_16_80 : pm_ins 16 80 = some (.aload 4, 2) := by decide +kernel
theorem n_16_82 : pm_ins 16 82 = some (.aload_n 0, 1) := by decide +kernel
theorem n_16_83 : pm_ins 16 83 = some (.iload_n 1, 1) := by decide +kernel
theorem n_16_84 : pm_ins 16 84 = some (.iload_n 2, 1) := by decide +kernel
theorem n_16_85 : pm_ins 16 85 = some (.aload 4, 2) := by decide +kernel
theorem n_16_87 : pm_ins 16 87 = some (.getfield 188, 3) := by decide +kernel
theorem n_16_90 : pm_ins 16 90 = some (.iconst 1, 1) := by decide +kernel
theorem n_16_91 : pm_ins 16 91 = some (.invokevirtual 191, 3) := by decide +kernel
theorem n_16_94 : pm_ins 16 94 = some (.putfield 195, 3) := by decide +kernel
theorem n_16_97 : pm_ins 16 97 = some (.aload 4, 2) := by decide +kernel
theorem n_16_99 : pm_ins 16 99 = some (.aload_n 0, 1) := by decide +kernel
theorem n_16_100 : pm_ins 16 100 = some (.iload_n 2, 1) := by decide +kernel
theorem n_16_101 : pm_ins 16 101 = some (.iload_n 1, 1) := by decide +kernel
theorem n_16_102 : pm_ins 16 102 = some (.aload 4, 2) := by decide +kernel
theorem n_16_104 : pm_ins 16 104 = some (.getfield 195, 3) := by decide +kernel
theorem n_16_107 : pm_ins 16 107 = some (.iconst 1, 1) := by decide +kernel
theorem n_16_108 : pm_ins 16 108 = some (.invokevirtual 198, 3) := by decide +kernel
theorem n_16_111 : pm_ins 16 111 = some (.putfield 201, 3) := by decide +kernel
theorem n_16_114 : pm_ins 16 114 = some (.aload 4, 2) := by decide +kernel
theorem n_16_116 : pm_ins 16 116 = some (.aload_n 0, 1) := by decide +kernel
theorem n_16_117 : pm_ins 16 117 = some (.iload_n 1, 1) := by decide +kernel
theorem n_16_118 : pm_ins 16 118 = some (.iload_n 2, 1) := by decide +kernel
theorem n_16_119 : pm_ins 16 119 = some (.invokevirtual 204, 3) := by decide +kernel
theorem n_16_122 : pm_ins 16 122 = some (.putfield 208, 3) := by decide +kernel
theorem n_16_125 : pm_ins 16 125 = some (.aload 4, 2) := by decide +kernel
theorem n_16_127 : pm_ins 16 127 = some (.aload_n 0, 1) := by decide +kernel
theorem n_16_128 : pm_ins 16 128 = some (.iload_n 2, 1) := by decide +kernel
theorem n_16_129 : pm_ins 16 129 = some (.iload_n 1, 1) := by decide +kernel
theorem n_16_130 : pm_ins 16 130 = some (.aload 4, 2) := by decide +kernel
theorem n_16_132 : pm_ins 16 132 = some (.getfield 208, 3) := by decide +kernel
theorem n_16_135 : pm_ins 16 135 = some (.invokevirtual 211, 3) := by decide +kernel
theorem n_16_138 : pm_ins 16 138 = some (.putfield 215, 3) := by decide +kernel
theorem n_16_141 : pm_ins 16 141 = some (.iload_n 3, 1) := by decide +kernel
theorem n_16_142 : pm_ins 16 142 = some (.ireturn, 1) := by decide +kernel
theorem n_17_0 : pm_ins 17 0 = some (.aload_n 0, 1) := by decide +kernel
theorem n_17_1 : pm_ins 17 1 = some (.iload_n 1, 1) := by decide +kernel
theorem n_17_2 : pm_ins 17 2 = some (.invokevirtual 218, 3) := by decide +kernel
theorem n_17_5 : pm_ins 17 5 = some (.istore 5, 2) := by decide +kernel
theorem n_17_7 : pm_ins 17 7 = some (.iload 5, 2) := by decide +kernel
theorem n_17_9 : pm_ins 17 9 = some (.ifCond .eq 6, 3) := by decide +kernel
theorem n_17_12 : pm_ins 17 12 = some (.iload 5, 2) := by decide +kernel
theorem n_17_14 : pm_ins 17 14 = some (.ireturn, 1) := by decide +kernel
theorem n_17_15 : pm_ins 17 15 = some (.iload_n 3, 1) := by decide +kernel
theorem n_17_16 : pm_ins 17 16 = some (.ifCond .lt 9, 3) := by decide +kernel
theorem n_17_19 : pm_ins 17 19 = some (.iload_n 3, 1) := by decide +kernel
theorem n_17_20 : pm_ins 17 20 = some (.bipush 8, 2) := by decide +kernel
theorem n_17_22 : pm_ins 17 22 = some (.if_icmp .lt 6, 3) := by decide +kernel
theorem n_17_25 : pm_ins 17 25 = some (.bipush (-2), 2) := by decide +kernel
theorem n_17_27 : pm_ins 17 27 = some (.ireturn, 1) := by decide +kernel
theorem n_17_28 : pm_ins 17 28 = some (.aload_n 0, 1) := by decide +kernel
theorem n_17_29 : pm_ins 17 29 = some (.getfield 23, 3) := by decide +kernel
theorem n_17_32 : pm_ins 17 32 = some (.iload_n 1, 1) := by decide +kernel
theorem n_17_33 : pm_ins 17 33 = some (.aaload, 1) := by decide +kernel
theorem n_17_34 : pm_ins 17 34 = some (.astore 6, 2) := by decide +kernel
theorem n_17_36 : pm_ins 17 36 = some (.aload 6, 2) := by decide +kernel
theorem n_17_38 : pm_ins 17 38 = some (.invokevirtual 221, 3) := by decide +kernel
theorem n_17_41 : pm_ins 17 41 = some (.iconst 3, 1) := by decide +kernel
theorem n_17_42 : pm_ins 17 42 = some (.if_icmp .ge 15, 3) := by decide +kernel
theorem n_17_45 : pm_ins 17 45 = some (.aload_n 0, 1) := by decide +kernel
theorem n_17_46 : pm_ins 17 46 = some (.aload 6, 2) := by decide +kernel
theorem n_17_48 : pm_ins 17 48 = some (.getfield 224, 3) := by decide +kernel
theorem n_17_51 : pm_ins 17 51 = some (.invokevirtual 227, 3) := by decide +kernel
theorem n_17_54 : pm_ins 17 54 = some (.ifCond .ne 6, 3) := by decide +kernel
theorem n_17_57 : pm_ins 17 57 = some (.bipush (-7), 2) := by decide +kernel
theorem n_17_59 : pm_ins 17 59 = some (.ireturn, 1) := by decide +kernel
theorem n_17_60 : pm_ins 17 60 = some (.aload_n 0, 1) := by decide +kernel
theorem n_17_61 : pm_ins 17 61 = some (.aload 6, 2) := by decide +kernel
theorem n_17_63 : pm_ins 17 63 = some (.getfield 224, 3) := by decide +kernel
theorem n_17_66 : pm_ins 17 66 = some (.invokevirtual 185, 3) := by decide +kernel
theorem n_17_69 : pm_ins 17 69 = some (.istore 7, 2) := by decide +kernel
theorem n_17_71 : pm_ins 17 71 = some (.iload_n 2, 1) := by decide +kernel
theorem n_17_72 : pm_ins 17 72 = some (.ifCond .eq 18, 3) := by decide +kernel
theorem n_17_75 : pm_ins 17 75 = some (.aload_n 0, 1) := by decide +kernel
theorem n_17_76 : pm_ins 17 76 = some (.aload 6, 2) := by decide +kernel
theorem n_17_78 : pm_ins 17 78 = some (.getfield 224, 3) := by decide +kernel
theorem n_17_81 : pm_ins 17 81 = some (.iload 7, 2) := by decide +kernel
theorem n_17_83 : pm_ins 17 83 = some (.iconst 0, 1) := by decide +kernel
theorem n_17_84 : pm_ins 17 84 = some (.iload 4, 2) := by decide +kernel
theorem n_17_86 : pm_ins 17 86 = some (.invokevirtual 230, 3) := by decide +kernel
theorem n_17_89 : pm_ins 17 89 = some (.pop, 1) := by decide +kernel
theorem n_17_90 : pm_ins 17 90 = some (.aload_n 0, 1) := by decide +kernel
theorem n_17_91 : pm_ins 17 91 = some (.aload 6, 2) := by decide +kernel
theorem n_17_93 : pm_ins 17 93 = some (.getfield 224, 3) := by decide +kernel
theorem n_17_96 : pm_ins 17 96 = some (.aload 6, 2) := by decide +kernel
theorem n_17_98 : pm_ins 17 98 = some (.getfield 233, 3) := by decide +kernel
theorem n_17_101 : pm_ins 17 101 = some (.iload 7, 2) := by decide +kernel
theorem n_17_103 : pm_ins 17 103 = some (.iload_n 2, 1) := by decide +kernel
theorem n_17_104 : pm_ins 17 104 = some (.ifCond .eq 7, 3) := by decide +kernel
theorem n_17_107 : pm_ins 17 107 = some (.iconst 0, 1) := by decide +kernel
theorem n_17_108 : pm_ins 17 108 = some (.goto 4, 3) := by decide +kernel
theorem n_17_111 : pm_ins 17 111 = some (.iconst 1, 1) := by decide +kernel
theorem n_17_112 : pm_ins 17 112 = some (.invokevirtual 191, 3) := by decide +kernel
theorem n_17_115 : pm_ins 17 115 = some (.istore 8, 2) := by decide +kernel
theorem n_17_117 : pm_ins 17 117 = some (.iload_n 3, 1) := by decide +kernel
theorem n_17_118 : pm_ins 17 118 = some (.iload_n 2, 1) := by decide +kernel
theorem n_17_119 : pm_ins 17 119 = some (.ifCond .eq 8, 3) := by decide +kernel
theorem n_17_122 : pm_ins 17 122 = some (.bipush 8, 2) := by decide +kernel
theorem n_17_124 : pm_ins 17 124 = some (.goto 4, 3) := by decide +kernel
theorem n_17_127 : pm_ins 17 127 = some (.iconst 0, 1) := by decide +kernel
theorem n_17_128 : pm_ins 17 128 = some (.iadd, 1) := by decide +kernel
theorem n_17_129 : pm_ins 17 129 = some (.iload 8, 2) := by decide +kernel
theorem n_17_131 : pm_ins 17 131 = some (.iconst 4, 1) := by decide +kernel
theorem n_17_132 : pm_ins 17 132 = some (.ishl, 1) := by decide +kernel
theorem n_17_133 : pm_ins 17 133 = some (.iadd, 1) := by decide +kernel
theorem n_17_134 : pm_ins 17 134 = some (.istore 9, 2) := by decide +kernel
theorem n_17_136 : pm_ins 17 136 = some (.aload_n 0, 1) := by decide +kernel
theorem n_17_137 : pm_ins 17 137 = some (.aload 6, 2) := by decide +kernel
theorem n_17_139 : pm_ins 17 139 = some (.iload 7, 2) := by decide +kernel
theorem n_17_141 : pm_ins 17 141 = some (.iload 8, 2) := by decide +kernel
theorem n_17_143 : pm_ins 17 143 = some (.iload 9, 2) := by decide +kernel
theorem n_17_145 : pm_ins 17 145 = some (.invokevirtual 236, 3) := by decide +kernel
theorem n_17_148 : pm_ins 17 148 = some (.ireturn, 1) := by decide +kernel
theorem n_18_0 : pm_ins 18 0 = some (.aload_n 0, 1) := by decide +kernel
theorem n_18_1 : pm_ins 18 1 = some (.iload_n 1, 1) := by decide +kernel
theorem n_18_2 : pm_ins 18 2 = some (.invokevirtual 218, 3) := by decide +kernel
theorem n_18_5 : pm_ins 18 5 = some (.istore_n 2, 1) := by decide +kernel
theorem n_18_6 : pm_ins 18 6 = some (.iload_n 2, 1) := by decide +kernel
theorem n_18_7 : pm_ins 18 7 = some (.ifCond .eq 5, 3) := by decide +kernel
theorem n_18_10 : pm_ins 18 10 = some (.iload_n 2, 1) := by decide +kernel
theorem n_18_11 : pm_ins 18 11 = some (.ireturn, 1) := by decide +kernel
theorem n_18_12 : pm_ins 18 12 = some (.aload_n 0, 1) := by decide +kernel
theorem n_18_13 : pm_ins 18 13 = some (.getfield 23, 3) := by decide +kernel
theorem n_18_16 : pm_ins 18 16 = some (.iload_n 1, 1) := by decide +kernel
theorem n_18_17 : pm_ins 18 17 = some (.aaload, 1) := by decide +kernel
theorem n_18_18 : pm_ins 18 18 = some (.astore_n 3, 1) := by decide +kernel
theorem n_18_19 : pm_ins 18 19 = some (.aload_n 0, 1) := by decide +kernel
theorem n_18_20 : pm_ins 18 20 = some (.getfield 17, 3) := by decide +kernel
theorem n_18_23 : pm_ins 18 23 = some (.aload_n 3, 1) := by decide +kernel
theorem n_18_24 : pm_ins 18 24 = some (.getfield 188, 3) := by decide +kernel
theorem n_18_27 : pm_ins 18 27 = some (.aaload, 1) := by decide +kernel
theorem n_18_28 : pm_ins 18 28 = some (.getfield 136, 3) := by decide +kernel
theorem n_18_31 : pm_ins 18 31 = some (.astore 4, 2) := by decide +kernel
theorem n_18_33 : pm_ins 18 33 = some (.aload 4, 2) := by decide +kernel
theorem n_18_35 : pm_ins 18 35 = some (.iconst 0, 1) := by decide +kernel
theorem n_18_36 : pm_ins 18 36 = some (.iaload, 1) := by decide +kernel
theorem n_18_37 : pm_ins 18 37 = some (.i2l, 1) := by decide +kernel
theorem n_18_38 : pm_ins 18 38 = some (.aload_n 3, 1) := by decide +kernel
theorem n_18_39 : pm_ins 18 39 = some (.getfield 240, 3) := by decide +kernel
theorem n_18_42 : pm_ins 18 42 = some (.i2l, 1) := by decide +kernel
theorem n_18_43 : pm_ins 18 43 = some (.lsub, 1) := by decide +kernel
theorem n_18_44 : pm_ins 18 44 = some (.lstore 5, 2) := by decide +kernel
theorem n_18_46 : pm_ins 18 46 = some (.lload 5, 2) := by decide +kernel
theorem n_18_48 : pm_ins 18 48 = some (.lconst 0, 1) := by decide +kernel
theorem n_18_49 : pm_ins 18 49 = some (.lcmp, 1) := by decide +kernel
theorem n_18_50 : pm_ins 18 50 = some (.ifCond .ne 6, 3) := by decide +kernel
theorem n_18_53 : pm_ins 18 53 = some (.bipush (-11), 2) := by decide +kernel
theorem n_18_55 : pm_ins 18 55 = some (.ireturn, 1) := by decide +kernel
theorem n_18_56 : pm_ins 18 56 = some (.lload 5, 2) := by decide +kernel
theorem n_18_58 : pm_ins 18 58 = some (.lconst 1, 1) := by decide +kernel
theorem n_18_59 : pm_ins 18 59 = some (.lcmp, 1) := by decide +kernel
theorem n_18_60 : pm_ins 18 60 = some (.ifCond .lt 12, 3) := by decide +kernel
theorem n_18_63 : pm_ins 18 63 = some (.lload 5, 2) := by decide +kernel
theorem n_18_65 : pm_ins 18 65 = some (.ldc2_w 243, 3) := by decide +kernel
theorem n_18_68 : pm_ins 18 68 = some (.lcmp, 1) := by decide +kernel
theorem n_18_69 : pm_ins 18 69 = some (.ifCond .le 6, 3) := by decide +kernel
theorem n_18_72 : pm_ins 18 72 = some (.bipush (-12), 2) := by decide +kernel
theorem n_18_74 : pm_ins 18 74 = some (.ireturn, 1) := by decide +kernel
theorem n_18_75 : pm_ins 18 75 = some (.aload_n 3, 1) := by decide +kernel
theorem n_18_76 : pm_ins 18 76 = some (.getfield 240, 3) := by decide +kernel
theorem n_18_79 : pm_ins 18 79 = some (.iconst 3, 1) := by decide +kernel
theorem n_18_80 : pm_ins 18 80 = some (.irem, 1) := by decide +kernel
theorem n_18_81 : pm_ins 18 81 = some (.istore 7, 2) := by decide +kernel
theorem n_18_83 : pm_ins 18 83 = some (.aload_n 0, 1) := by decide +kernel
theorem n_18_84 : pm_ins 18 84 = some (.aload_n 3, 1) := by decide +kernel
theorem n_18_85 : pm_ins 18 85 = some (.aload 4, 2) := by decide +kernel
theorem n_18_87 : pm_ins 18 87 = some (.iconst 2, 1) := by decide +kernel
theorem n_18_88 : pm_ins 18 88 = some (.iload 7, 2) := by decide +kernel
theorem n_18_90 : pm_ins 18 90 = some (.iadd, 1) := by decide +kernel
theorem n_18_91 : pm_ins 18 91 = some (.iaload, 1) := by decide +kernel
theorem n_18_92 : pm_ins 18 92 = some (.invokevirtual 245, 3) := by decide +kernel
theorem n_18_95 : pm_ins 18 95 = some (.istore 8, 2) := by decide +kernel
theorem n_18_97 : pm_ins 18 97 = some (.aload 4, 2) := by decide +kernel
theorem n_18_99 : pm_ins 18 99 = some (.iconst 5, 1) := by decide +kernel
theorem n_18_100 : pm_ins 18 100 = some (.iload 7, 2) := by decide +kernel
theorem n_18_102 : pm_ins 18 102 = some (.iadd, 1) := by decide +kernel
theorem n_18_103 : pm_ins 18 103 = some (.iload 8, 2) := by decide +kernel
theorem n_18_105 : pm_ins 18 105 = some (.iastore, 1) := by decide +kernel
theorem n_18_106 : pm_ins 18 106 = some (.aload_n 3, 1) := by decide +kernel
theorem n_18_107 : pm_ins 18 107 = some (.dup, 1) := by decide +kernel
theorem n_18_108 : pm_ins 18 108 = some (.getfield 240, 3) := by decide +kernel
theorem n_18_111 : pm_ins 18 111 = some (.iconst 1, 1) := by decide +kernel
theorem n_18_112 : pm_ins 18 112 = some (.iadd, 1) := by decide +kernel
theorem n_18_113 : pm_ins 18 113 = some (.putfield 240, 3) := by decide +kernel
theorem n_18_116 : pm_ins 18 116 = some (.aload 4, 2) := by decide +kernel
theorem n_18_118 : pm_ins 18 118 = some (.iconst 1, 1) := by decide +kernel
theorem n_18_119 : pm_ins 18 119 = some (.aload_n 3, 1) := by decide +kernel
theorem n_18_120 : pm_ins 18 120 = some (.getfield 240, 3) := by decide +kernel
theorem n_18_123 : pm_ins 18 123 = some (.iastore, 1) := by decide +kernel
theorem n_18_124 : pm_ins 18 124 = some (.aload_n 0, 1) := by decide +kernel
theorem n_18_125 : pm_ins 18 125 = some (.aload_n 3, 1) := by decide +kernel
theorem n_18_126 : pm_ins 18 126 = some (.getfield 233, 3) := by decide +kernel
theorem n_18_129 : pm_ins 18 129 = some (.aload_n 3, 1) := by decide +kernel
theorem n_18_130 : pm_ins 18 130 = some (.getfield 215, 3) := by decide +kernel
theorem n_18_133 : pm_ins 18 133 = some (.invokevirtual 249, 3) := by decide +kernel
theorem n_18_136 : pm_ins 18 136 = some (.pop, 1) := by decide +kernel
theorem n_18_137 : pm_ins 18 137 = some (.iload 8, 2) := by decide +kernel
theorem n_18_139 : pm_ins 18 139 = some (.ireturn, 1) := by decide +kernel
theorem n_19_0 : pm_ins 19 0 = some (.aload_n 0, 1) := by decide +kernel
theorem n_19_1 : pm_ins 19 1 = some (.iload_n 1, 1) := by decide +kernel
theorem n_19_2 : pm_ins 19 2 = some (.invokevirtual 218, 3) := by decide +kernel
theorem n_19_5 : pm_ins 19 5 = some (.istore_n 2, 1) := by decide +kernel
theorem n_19_6 : pm_ins 19 6 = some (.iload_n 2, 1) := by decide +kernel
theorem n_19_7 : pm_ins 19 7 = some (.ifCond .eq 6, 3) := by decide +kernel
theorem n_19_10 : pm_ins 19 10 = some (.iload_n 2, 1) := by decide +kernel
theorem n_19_11 : pm_ins 19 11 = some (.i2l, 1) := by decide +kernel
theorem n_19_12 : pm_ins 19 12 = some (.lreturn, 1) := by decide +kernel
theorem n_19_13 : pm_ins 19 13 = some (.aload_n 0, 1) := by decide +kernel
theorem n_19_14 : pm_ins 19 14 = some (.getfield 23, 3) := by decide +kernel
theorem n_19_17 : pm_ins 19 17 = some (.iload_n 1, 1) := by decide +kernel
theorem n_19_18 : pm_ins 19 18 = some (.aaload, 1) := by decide +kernel
theorem n_19_19 : pm_ins 19 19 = some (.astore_n 3, 1) := by decide +kernel
theorem n_19_20 : pm_ins 19 20 = some (.aload_n 0, 1) := by decide +kernel
theorem n_19_21 : pm_ins 19 21 = some (.getfield 17, 3) := by decide +kernel
theorem n_19_24 : pm_ins 19 24 = some (.aload_n 3, 1) := by decide +kernel
theorem n_19_25 : pm_ins 19 25 = some (.getfield 188, 3) := by decide +kernel
theorem n_19_28 : pm_ins 19 28 = some (.aaload, 1) := by decide +kernel
theorem n_19_29 : pm_ins 19 29 = some (.getfield 136, 3) := by decide +kernel
theorem n_19_32 : pm_ins 19 32 = some (.astore 4, 2) := by decide +kernel
theorem n_19_34 : pm_ins 19 34 = some (.aload 4, 2) := by decide +kernel
theorem n_19_36 : pm_ins 19 36 = some (.iconst 1, 1) := by decide +kernel
theorem n_19_37 : pm_ins 19 37 = some (.iaload, 1) := by decide +kernel
theorem n_19_38 : pm_ins 19 38 = some (.i2l, 1) := by decide +kernel
theorem n_19_39 : pm_ins 19 39 = some (.aload_n 3, 1) := by decide +kernel
theorem n_19_40 : pm_ins 19 40 = some (.getfield 252, 3) := by decide +kernel
theorem n_19_43 : pm_ins 19 43 = some (.i2l, 1) := by decide +kernel
theorem n_19_44 : pm_ins 19 44 = some (.lsub, 1) := by decide +kernel
theorem n_19_45 : pm_ins 19 45 = some (.lstore 5, 2) := by decide +kernel
theorem n_19_47 : pm_ins 19 47 = some (.lload 5, 2) := by decide +kernel
theorem n_19_49 : pm_ins 19 49 = some (.lconst 0, 1) := by decide +kernel
theorem n_19_50 : pm_ins 19 50 = some (.lcmp, 1) := by decide +kernel
theorem n_19_51 : pm_ins 19 51 = some (.ifCond .ne 7, 3) := by decide +kernel
theorem n_19_54 : pm_ins 19 54 = some (.ldc2_w 255, 3) := by decide +kernel
theorem n_19_57 : pm_ins 19 57 = some (.lreturn, 1) := by decide +kernel
theorem n_19_58 : pm_ins 19 58 = some (.lload 5, 2) := by decide +kernel
theorem n_19_60 : pm_ins 19 60 = some (.lconst 1, 1) := by decide +kernel
theorem n_19_61 : pm_ins 19 61 = some (.lcmp, 1) := by decide +kernel
theorem n_19_62 : pm_ins 19 62 = some (.ifCond .lt 14, 3) := by decide +kernel
theorem n_19_65 : pm_ins 19 65 = some (.lload 5, 2) := by decide +kernel
theorem n_19_67 : pm_ins 19 67 = some (.aload_n 3, 1) := by decide +kernel
theorem n_19_68 : pm_ins 19 68 = some (.invokevirtual 221, 3) := by decide +kernel
theorem n_19_71 : pm_ins 19 71 = some (.i2l, 1) := by decide +kernel
theorem n_19_72 : pm_ins 19 72 = some (.lcmp, 1) := by decide +kernel
theorem n_19_73 : pm_ins 19 73 = some (.ifCond .le 7, 3) := by decide +kernel
theorem n_19_76 : pm_ins 19 76 = some (.ldc2_w 257, 3) := by decide +kernel
theorem n_19_79 : pm_ins 19 79 = some (.lreturn, 1) := by decide +kernel
theorem n_19_80 : pm_ins 19 80 = some (.aload_n 3, 1) := by decide +kernel
theorem n_19_81 : pm_ins 19 81 = some (.getfield 252, 3) := by decide +kernel
theorem n_19_84 : pm_ins 19 84 = some (.iconst 3, 1) := by decide +kernel
theorem n_19_85 : pm_ins 19 85 = some (.irem, 1) := by decide +kernel
theorem n_19_86 : pm_ins 19 86 = some (.istore 7, 2) := by decide +kernel
theorem n_19_88 : pm_ins 19 88 = some (.aload 4, 2) := by decide +kernel
theorem n_19_90 : pm_ins 19 90 = some (.iconst 5, 1) := by decide +kernel
theorem n_19_91 : pm_ins 19 91 = some (.iload 7, 2) := by decide +kernel
theorem n_19_93 : pm_ins 19 93 = some (.iadd, 1) := by decide +kernel
theorem n_19_94 : pm_ins 19 94 = some (.iaload, 1) := by decide +kernel
theorem n_19_95 : pm_ins 19 95 = some (.istore 8, 2) := by decide +kernel
theorem n_19_97 : pm_ins 19 97 = some (.aload_n 3, 1) := by decide +kernel
theorem n_19_98 : pm_ins 19 98 = some (.dup, 1) := by decide +kernel
theorem n_19_99 : pm_ins 19 99 = some (.getfield 252, 3) := by decide +kernel
theorem n_19_102 : pm_ins 19 102 = some (.iconst 1, 1) := by decide +kernel
theorem n_19_103 : pm_ins 19 103 = some (.iadd, 1) := by decide +kernel
theorem n_19_104 : pm_ins 19 104 = some (.putfield 252, 3) := by decide +kernel
theorem n_19_107 : pm_ins 19 107 = some (.aload_n 0, 1) := by decide +kernel
theorem n_19_108 : pm_ins 19 108 = some (.aload_n 3, 1) := by decide +kernel
theorem n_19_109 : pm_ins 19 109 = some (.getfield 224, 3) := by decide +kernel
theorem n_19_112 : pm_ins 19 112 = some (.aload_n 3, 1) := by decide +kernel
theorem n_19_113 : pm_ins 19 113 = some (.getfield 259, 3) := by decide +kernel
theorem n_19_116 : pm_ins 19 116 = some (.iload 7, 2) := by decide +kernel
theorem n_19_118 : pm_ins 19 118 = some (.iaload, 1) := by decide +kernel
theorem n_19_119 : pm_ins 19 119 = some (.iconst 0, 1) := by decide +kernel
theorem n_19_120 : pm_ins 19 120 = some (.invokevirtual 262, 3) := by decide +kernel
theorem n_19_123 : pm_ins 19 123 = some (.lstore 9, 2) := by decide +kernel
theorem n_19_125 : pm_ins 19 125 = some (.aload_n 0, 1) := by decide +kernel
theorem n_19_126 : pm_ins 19 126 = some (.aload_n 3, 1) := by decide +kernel
theorem n_19_127 : pm_ins 19 127 = some (.getfield 224, 3) := by decide +kernel
theorem n_19_130 : pm_ins 19 130 = some (.aload_n 3, 1) := by decide +kernel
theorem n_19_131 : pm_ins 19 131 = some (.getfield 266, 3) := by decide +kernel
theorem n_19_134 : pm_ins 19 134 = some (.iload 7, 2) := by decide +kernel
theorem n_19_136 : pm_ins 19 136 = some (.iaload, 1) := by decide +kernel
theorem n_19_137 : pm_ins 19 137 = some (.invokevirtual 269, 3) := by decide +kernel
theorem n_19_140 : pm_ins 19 140 = some (.pop, 1) := by decide +kernel
theorem n_19_141 : pm_ins 19 141 = some (.aload_n 0, 1) := by decide +kernel
theorem n_19_142 : pm_ins 19 142 = some (.aload_n 3, 1) := by decide +kernel
theorem n_19_143 : pm_ins 19 143 = some (.getfield 224, 3) := by decide +kernel
theorem n_19_146 : pm_ins 19 146 = some (.aload_n 3, 1) := by decide +kernel
theorem n_19_147 : pm_ins 19 147 = some (.getfield 259, 3) := by decide +kernel
theorem n_19_150 : pm_ins 19 150 = some (.iload 7, 2) := by decide +kernel
theorem n_19_152 : pm_ins 19 152 = some (.iaload, 1) := by decide +kernel
theorem n_19_153 : pm_ins 19 153 = some (.invokevirtual 272, 3) := by decide +kernel
theorem n_19_156 : pm_ins 19 156 = some (.pop, 1) := by decide +kernel
theorem n_19_157 : pm_ins 19 157 = some (.iload 8, 2) := by decide +kernel
theorem n_19_159 : pm_ins 19 159 = some (.ifCond .eq 9, 3) := by decide +kernel
theorem n_19_162 : pm_ins 19 162 = some (.ldc2_w 275, 3) := by decide +kernel
theorem n_19_165 : pm_ins 19 165 = some (.goto 5, 3) := by decide +kernel
theorem n_19_168 : pm_ins 19 168 = some (.lload 9, 2) := by decide +kernel
theorem n_19_170 : pm_ins 19 170 = some (.lreturn, 1) := by decide +kernel
theorem n_20_0 : pm_ins 20 0 = some (.iload_n 1, 1) := by decide +kernel
theorem n_20_1 : pm_ins 20 1 = some (.tableswitch 262 0 6 #[43, 67, 91, 133, 176, 196, 237], 43) := by decide +kernel
theorem n_20_44 : pm_ins 20 44 = some (.iload_n 2, 1) := by decide +kernel
theorem n_20_45 : pm_ins 20 45 = some (.invokestatic 277, 3) := by decide +kernel
theorem n_20_48 : pm_ins 20 48 = some (.ifCond .eq 16, 3) := by decide +kernel
theorem n_20_51 : pm_ins 20 51 = some (.aload_n 0, 1) := by decide +kernel
theorem n_20_52 : pm_ins 20 52 = some (.getfield 11, 3) := by decide +kernel
theorem n_20_55 : pm_ins 20 55 = some (.iload_n 2, 1) := by decide +kernel
theorem n_20_56 : pm_ins 20 56 = some (.aaload, 1) := by decide +kernel
theorem n_20_57 : pm_ins 20 57 = some (.getfield 30, 3) := by decide +kernel
theorem n_20_60 : pm_ins 20 60 = some (.i2l, 1) := by decide +kernel
theorem n_20_61 : pm_ins 20 61 = some (.goto 6, 3) := by decide +kernel
theorem n_20_64 : pm_ins 20 64 = some (.ldc2_w 280, 3) := by decide +kernel
theorem n_20_67 : pm_ins 20 67 = some (.lreturn, 1) := by decide +kernel
theorem n_20_68 : pm_ins 20 68 = some (.iload_n 2, 1) := by decide +kernel
theorem n_20_69 : pm_ins 20 69 = some (.invokestatic 282, 3) := by decide +kernel
theorem n_20_72 : pm_ins 20 72 = some (.ifCond .eq 16, 3) := by decide +kernel
theorem n_20_75 : pm_ins 20 75 = some (.aload_n 0, 1) := by decide +kernel
theorem n_20_76 : pm_ins 20 76 = some (.getfield 17, 3) := by decide +kernel
theorem n_20_79 : pm_ins 20 79 = some (.iload_n 2, 1) := by decide +kernel
theorem n_20_80 : pm_ins 20 80 = some (.aaload, 1) := by decide +kernel
theorem n_20_81 : pm_ins 20 81 = some (.getfield 61, 3) := by decide +kernel
theorem n_20_84 : pm_ins 20 84 = some (.i2l, 1) := by decide +kernel
theorem n_20_85 : pm_ins 20 85 = some (.goto 6, 3) := by decide +kernel
theorem n_20_88 : pm_ins 20 88 = some (.ldc2_w 280, 3) := by decide +kernel
theorem n_20_91 : pm_ins 20 91 = some (.lreturn, 1) := by decide +kernel
theorem n_20_92 : pm_ins 20 92 = some (.iload_n 2, 1) := by decide +kernel
theorem n_20_93 : pm_ins 20 93 = some (.invokestatic 277, 3) := by decide +kernel
theorem n_20_96 : pm_ins 20 96 = some (.ifCond .eq 34, 3) := by decide +kernel
theorem n_20_99 : pm_ins 20 99 = some (.aload_n 0, 1) := by decide +kernel
theorem n_20_100 : pm_ins 20 100 = some (.getfield 11, 3) := by decide +kernel
theorem n_20_103 : pm_ins 20 103 = some (.iload_n 2, 1) := by decide +kernel
theorem n_20_104 : pm_ins 20 104 = some (.aaload, 1) := by decide +kernel
theorem n_20_105 : pm_ins 20 105 = some (.iload_n 3, 1) := by decide +kernel
theorem n_20_106 : pm_ins 20 106 = some (.invokevirtual 91, 3) := by decide +kernel
theorem n_20_109 : pm_ins 20 109 = some (.ifCond .eq 21, 3) := by decide +kernel
theorem n_20_112 : pm_ins 20 112 = some (.aload_n 0, 1) := by decide +kernel
theorem n_20_113 : pm_ins 20 113 = some (.getfield 11, 3) := by decide +kernel
theorem n_20_116 : pm_ins 20 116 = some (.iload_n 2, 1) := by decide +kernel
theorem n_20_117 : pm_ins 20 117 = some (.aaload, 1) := by decide +kernel
theorem n_20_118 : pm_ins 20 118 = some (.getfield 81, 3) := by decide +kernel
theorem n_20_121 : pm_ins 20 121 = some (.iload_n 3, 1) := by decide +kernel
theorem n_20_122 : pm_ins 20 122 = some (.aaload, 1) := by decide +kernel
theorem n_20_123 : pm_ins 20 123 = some (.getfield 119, 3) := by decide +kernel
theorem n_20_126 : pm_ins 20 126 = some (.i2l, 1) := by decide +kernel
theorem n_20_127 : pm_ins 20 127 = some (.goto 6, 3) := by decide +kernel
theorem n_20_130 : pm_ins 20 130 = some (.ldc2_w 280, 3) := by decide +kernel
theorem n_20_133 : pm_ins 20 133 = some (.lreturn, 1) := by decide +kernel
theorem n_20_134 : pm_ins 20 134 = some (.iload_n 2, 1) := by decide +kernel
theorem n_20_135 : pm_ins 20 135 = some (.invokestatic 277, 3) := by decide +kernel
theorem n_20_138 : pm_ins 20 138 = some (.ifCond .eq 35, 3) := by decide +kernel
theorem n_20_141 : pm_ins 20 141 = some (.aload_n 0, 1) := by decide +kernel
theorem n_20_142 : pm_ins 20 142 = some (.getfield 11, 3) := by decide +kernel
theorem n_20_145 : pm_ins 20 145 = some (.iload_n 2, 1) := by decide +kernel
theorem n_20_146 : pm_ins 20 146 = some (.aaload, 1) := by decide +kernel
theorem n_20_147 : pm_ins 20 147 = some (.iload_n 3, 1) := by decide +kernel
theorem n_20_148 : pm_ins 20 148 = some (.invokevirtual 122, 3) := by decide +kernel
theorem n_20_151 : pm_ins 20 151 = some (.ifCond .eq 22, 3) := by decide +kernel
theorem n_20_154 : pm_ins 20 154 = some (.aload_n 0, 1) := by decide +kernel
theorem n_20_155 : pm_ins 20 155 = some (.aload_n 0, 1) := by decide +kernel
theorem n_20_156 : pm_ins 20 156 = some (.getfield 11, 3) := by decide +kernel
theorem n_20_159 : pm_ins 20 159 = some (.iload_n 2, 1) := by decide +kernel
theorem n_20_160 : pm_ins 20 160 = some (.aaload, 1) := by decide +kernel
theorem n_20_161 : pm_ins 20 161 = some (.getfield 110, 3) := by decide +kernel
theorem n_20_164 : pm_ins 20 164 = some (.iload_n 3, 1) := by decide +kernel
theorem n_20_165 : pm_ins 20 165 = some (.aaload, 1) := by decide +kernel
theorem n_20_166 : pm_ins 20 166 = some (.invokevirtual 285, 3) := by decide +kernel
theorem n_20_169 : pm_ins 20 169 = some (.i2l, 1) := by decide +kernel
theorem n_20_170 : pm_ins 20 170 = some (.goto 6, 3) := by decide +kernel
theorem n_20_173 : pm_ins 20 173 = some (.ldc2_w 280, 3) := by decide +kernel
theorem n_20_176 : pm_ins 20 176 = some (.lreturn, 1) := by decide +kernel
theorem n_20_177 : pm_ins 20 177 = some (.iload_n 2, 1) := by decide +kernel
theorem n_20_178 : pm_ins 20 178 = some (.invokestatic 277, 3) := by decide +kernel
theorem n_20_181 : pm_ins 20 181 = some (.ifCond .eq 12, 3) := by decide +kernel
theorem n_20_184 : pm_ins 20 184 = some (.aload_n 0, 1) := by decide +kernel
theorem n_20_185 : pm_ins 20 185 = some (.iload_n 2, 1) := by decide +kernel
theorem n_20_186 : pm_ins 20 186 = some (.invokevirtual 129, 3) := by decide +kernel
theorem n_20_189 : pm_ins 20 189 = some (.i2l, 1) := by decide +kernel
theorem n_20_190 : pm_ins 20 190 = some (.goto 6, 3) := by decide +kernel
theorem n_20_193 : pm_ins 20 193 = some (.ldc2_w 280, 3) := by decide +kernel
theorem n_20_196 : pm_ins 20 196 = some (.lreturn, 1) := by decide +kernel
theorem n_20_197 : pm_ins 20 197 = some (.aload_n 0, 1) := by decide +kernel
theorem n_20_198 : pm_ins 20 198 = some (.iload_n 2, 1) := by decide +kernel
theorem n_20_199 : pm_ins 20 199 = some (.invokevirtual 289, 3) := by decide +kernel
theorem n_20_202 : pm_ins 20 202 = some (.ifCond .eq 32, 3) := by decide +kernel
theorem n_20_205 : pm_ins 20 205 = some (.iload_n 3, 1) := by decide +kernel
theorem n_20_206 : pm_ins 20 206 = some (.ifCond .lt 28, 3) := by decide +kernel
theorem n_20_209 : pm_ins 20 209 = some (.iload_n 3, 1) := by decide +kernel
theorem n_20_210 : pm_ins 20 210 = some (.bipush 8, 2) := by decide +kernel
theorem n_20_212 : pm_ins 20 212 = some (.if_icmp .ge 22, 3) := by decide +kernel
theorem n_20_215 : pm_ins 20 215 = some (.aload_n 0, 1) := by decide +kernel
theorem n_20_216 : pm_ins 20 216 = some (.getfield 23, 3) := by decide +kernel
theorem n_20_219 : pm_ins 20 219 = some (.iload_n 2, 1) := by decide +kernel
theorem n_20_220 : pm_ins 20 220 = some (.aaload, 1) := by decide +kernel
theorem n_20_221 : pm_ins 20 221 = some (.getfield 292, 3) := by decide +kernel
theorem n_20_224 : pm_ins 20 224 = some (.iload_n 3, 1) := by decide +kernel
theorem n_20_225 : pm_ins 20 225 = some (.iaload, 1) := by decide +kernel
theorem n_20_226 : pm_ins 20 226 = some (.i2l, 1) := by decide +kernel
theorem n_20_227 : pm_ins 20 227 = some (.ldc2_w 140, 3) := by decide +kernel
theorem n_20_230 : pm_ins 20 230 = some (.land, 1) := by decide +kernel
theorem n_20_231 : pm_ins 20 231 = some (.goto 6, 3) := by decide +kernel
theorem n_20_234 : pm_ins 20 234 = some (.ldc2_w 280, 3) := by decide +kernel
theorem n_20_237 : pm_ins 20 237 = some (.lreturn, 1) := by decide +kernel
theorem n_20_238 : pm_ins 20 238 = some (.aload_n 0, 1) := by decide +kernel
theorem n_20_239 : pm_ins 20 239 = some (.iload_n 2, 1) := by decide +kernel
theorem n_20_240 : pm_ins 20 240 = some (.invokevirtual 289, 3) := by decide +kernel
theorem n_20_243 : pm_ins 20 243 = some (.ifCond .eq 16, 3) := by decide +kernel
theorem n_20_246 : pm_ins 20 246 = some (.aload_n 0, 1) := by decide +kernel
theorem n_20_247 : pm_ins 20 247 = some (.getfield 23, 3) := by decide +kernel
theorem n_20_250 : pm_ins 20 250 = some (.iload_n 2, 1) := by decide +kernel
theorem n_20_251 : pm_ins 20 251 = some (.aaload, 1) := by decide +kernel
theorem n_20_252 : pm_ins 20 252 = some (.invokevirtual 221, 3) := by decide +kernel
theorem n_20_255 : pm_ins 20 255 = some (.i2l, 1) := by decide +kernel
theorem n_20_256 : pm_ins 20 256 = some (.goto 6, 3) := by decide +kernel
theorem n_20_259 : pm_ins 20 259 = some (.ldc2_w 280, 3) := by decide +kernel
theorem n_20_262 : pm_ins 20 262 = some (.lreturn, 1) := by decide +kernel
theorem n_20_263 : pm_ins 20 263 = some (.ldc2_w 280, 3) := by decide +kernel
theorem n_20_266 : pm_ins 20 266 = some (.lreturn, 1) := by decide +kernel
theorem n_21_0 : pm_ins 21 0 = some (.iload_n 0, 1) := by decide +kernel
theorem n_21_1 : pm_ins 21 1 = some (.ifCond .lt 12, 3) := by decide +kernel
theorem n_21_4 : pm_ins 21 4 = some (.iload_n 0, 1) := by decide +kernel
theorem n_21_5 : pm_ins 21 5 = some (.iconst 5, 1) := by decide +kernel
theorem n_21_6 : pm_ins 21 6 = some (.if_icmp .ge 7, 3) := by decide +kernel
theorem n_21_9 : pm_ins 21 9 = some (.iconst 1, 1) := by decide +kernel
theorem n_21_10 : pm_ins 21 10 = some (.goto 4, 3) := by decide +kernel
theorem n_21_13 : pm_ins 21 13 = some (.iconst 0, 1) := by decide +kernel
theorem n_21_14 : pm_ins 21 14 = some (.ireturn, 1) := by decide +kernel
theorem n_22_0 : pm_ins 22 0 = some (.iload_n 1, 1) := by decide +kernel
theorem n_22_1 : pm_ins 22 1 = some (.invokestatic 277, 3) := by decide +kernel
theorem n_22_4 : pm_ins 22 4 = some (.ifCond .eq 12, 3) := by decide +kernel
theorem n_22_7 : pm_ins 22 7 = some (.iload_n 1, 1) := by decide +kernel
theorem n_22_8 : pm_ins 22 8 = some (.iload_n 0, 1) := by decide +kernel
theorem n_22_9 : pm_ins 22 9 = some (.if_icmp .eq 7, 3) := by decide +kernel
theorem n_22_12 : pm_ins 22 12 = some (.iconst 1, 1) := by decide +kernel
theorem n_22_13 : pm_ins 22 13 = some (.goto 4, 3) := by decide +kernel
theorem n_22_16 : pm_ins 22 16 = some (.iconst 0, 1) := by decide +kernel
theorem n_22_17 : pm_ins 22 17 = some (.ireturn, 1) := by decide +kernel
theorem n_23_0 : pm_ins 23 0 = some (.iload_n 0, 1) := by decide +kernel
theorem n_23_1 : pm_ins 23 1 = some (.ifCond .lt 13, 3) := by decide +kernel
theorem n_23_4 : pm_ins 23 4 = some (.iload_n 0, 1) := by decide +kernel
theorem n_23_5 : pm_ins 23 5 = some (.bipush 20, 2) := by decide +kernel
theorem n_23_7 : pm_ins 23 7 = some (.if_icmp .ge 7, 3) := by decide +kernel
theorem n_23_10 : pm_ins 23 10 = some (.iconst 1, 1) := by decide +kernel
theorem n_23_11 : pm_ins 23 11 = some (.goto 4, 3) := by decide +kernel
theorem n_23_14 : pm_ins 23 14 = some (.iconst 0, 1) := by decide +kernel
theorem n_23_15 : pm_ins 23 15 = some (.ireturn, 1) := by decide +kernel
theorem n_24_0 : pm_ins 24 0 = some (.iload_n 0, 1) := by decide +kernel
theorem n_24_1 : pm_ins 24 1 = some (.ifCond .lt 12, 3) := by decide +kernel
theorem n_24_4 : pm_ins 24 4 = some (.iload_n 0, 1) := by decide +kernel
theorem n_24_5 : pm_ins 24 5 = some (.iconst 4, 1) := by decide +kernel
theorem n_24_6 : pm_ins 24 6 = some (.if_icmp .ge 7, 3) := by decide +kernel
theorem n_24_9 : pm_ins 24 9 = some (.iconst 1, 1) := by decide +kernel
theorem n_24_10 : pm_ins 24 10 = some (.goto 4, 3) := by decide +kernel
theorem n_24_13 : pm_ins 24 13 = some (.iconst 0, 1) := by decide +kernel
theorem n_24_14 : pm_ins 24 14 = some (.ireturn, 1) := by decide +kernel
theorem n_25_0 : pm_ins 25 0 = some (.iload_n 1, 1) := by decide +kernel
theorem n_25_1 : pm_ins 25 1 = some (.invokestatic 277, 3) := by decide +kernel
theorem n_25_4 : pm_ins 25 4 = some (.ifCond .eq 20, 3) := by decide +kernel
theorem n_25_7 : pm_ins 25 7 = some (.aload_n 0, 1) := by decide +kernel
theorem n_25_8 : pm_ins 25 8 = some (.getfield 11, 3) := by decide +kernel
theorem n_25_11 : pm_ins 25 11 = some (.iload_n 1, 1) := by decide +kernel
theorem n_25_12 : pm_ins 25 12 = some (.aaload, 1) := by decide +kernel
theorem n_25_13 : pm_ins 25 13 = some (.getfield 30, 3) := by decide +kernel
theorem n_25_16 : pm_ins 25 16 = some (.iconst 1, 1) := by decide +kernel
theorem n_25_17 : pm_ins 25 17 = some (.if_icmp .ne 7, 3) := by decide +kernel
theorem n_25_20 : pm_ins 25 20 = some (.iconst 1, 1) := by decide +kernel
theorem n_25_21 : pm_ins 25 21 = some (.goto 4, 3) := by decide +kernel
theorem n_25_24 : pm_ins 25 24 = some (.iconst 0, 1) := by decide +kernel
theorem n_25_25 : pm_ins 25 25 = some (.ireturn, 1) := by decide +kernel
theorem n_26_0 : pm_ins 26 0 = some (.iload_n 1, 1) := by decide +kernel
theorem n_26_1 : pm_ins 26 1 = some (.ifCond .lt 24, 3) := by decide +kernel
theorem n_26_4 : pm_ins 26 4 = some (.iload_n 1, 1) := by decide +kernel
theorem n_26_5 : pm_ins 26 5 = some (.iconst 3, 1) := by decide +kernel
theorem n_26_6 : pm_ins 26 6 = some (.if_icmp .ge 19, 3) := by decide +kernel
theorem n_26_9 : pm_ins 26 9 = some (.aload_n 0, 1) := by decide +kernel
theorem n_26_10 : pm_ins 26 10 = some (.getfield 23, 3) := by decide +kernel
theorem n_26_13 : pm_ins 26 13 = some (.iload_n 1, 1) := by decide +kernel
theorem n_26_14 : pm_ins 26 14 = some (.aaload, 1) := by decide +kernel
theorem n_26_15 : pm_ins 26 15 = some (.getfield 295, 3) := by decide +kernel
theorem n_26_18 : pm_ins 26 18 = some (.ifCond .eq 7, 3) := by decide +kernel
theorem n_26_21 : pm_ins 26 21 = some (.iconst 1, 1) := by decide +kernel
theorem n_26_22 : pm_ins 26 22 = some (.goto 4, 3) := by decide +kernel
theorem n_26_25 : pm_ins 26 25 = some (.iconst 0, 1) := by decide +kernel
theorem n_26_26 : pm_ins 26 26 = some (.ireturn, 1) := by decide +kernel
theorem n_27_0 : pm_ins 27 0 = some (.iload_n 2, 1) := by decide +kernel
theorem n_27_1 : pm_ins 27 1 = some (.invokestatic 282, 3) := by decide +kernel
theorem n_27_4 : pm_ins 27 4 = some (.ifCond .eq 20, 3) := by decide +kernel
theorem n_27_7 : pm_ins 27 7 = some (.aload_n 0, 1) := by decide +kernel
theorem n_27_8 : pm_ins 27 8 = some (.getfield 17, 3) := by decide +kernel
theorem n_27_11 : pm_ins 27 11 = some (.iload_n 2, 1) := by decide +kernel
theorem n_27_12 : pm_ins 27 12 = some (.aaload, 1) := by decide +kernel
theorem n_27_13 : pm_ins 27 13 = some (.getfield 61, 3) := by decide +kernel
theorem n_27_16 : pm_ins 27 16 = some (.iload_n 1, 1) := by decide +kernel
theorem n_27_17 : pm_ins 27 17 = some (.if_icmp .ne 7, 3) := by decide +kernel
theorem n_27_20 : pm_ins 27 20 = some (.iconst 1, 1) := by decide +kernel
theorem n_27_21 : pm_ins 27 21 = some (.goto 4, 3) := by decide +kernel
theorem n_27_24 : pm_ins 27 24 = some (.iconst 0, 1) := by decide +kernel
theorem n_27_25 : pm_ins 27 25 = some (.ireturn, 1) := by decide +kernel
theorem n_28_0 : pm_ins 28 0 = some (.iconst 0, 1) := by decide +kernel
theorem n_28_1 : pm_ins 28 1 = some (.istore_n 2, 1) := by decide +kernel
theorem n_28_2 : pm_ins 28 2 = some (.iconst 0, 1) := by decide +kernel
theorem n_28_3 : pm_ins 28 3 = some (.istore_n 3, 1) := by decide +kernel
theorem n_28_4 : pm_ins 28 4 = some (.iload_n 3, 1) := by decide +kernel
theorem n_28_5 : pm_ins 28 5 = some (.bipush 20, 2) := by decide +kernel
theorem n_28_7 : pm_ins 28 7 = some (.if_icmp .ge 25, 3) := by decide +kernel
theorem n_28_10 : pm_ins 28 10 = some (.aload_n 0, 1) := by decide +kernel
theorem n_28_11 : pm_ins 28 11 = some (.getfield 17, 3) := by decide +kernel
theorem n_28_14 : pm_ins 28 14 = some (.iload_n 3, 1) := by decide +kernel
theorem n_28_15 : pm_ins 28 15 = some (.aaload, 1) := by decide +kernel
theorem n_28_16 : pm_ins 28 16 = some (.getfield 61, 3) := by decide +kernel
theorem n_28_19 : pm_ins 28 19 = some (.iload_n 1, 1) := by decide +kernel
theorem n_28_20 : pm_ins 28 20 = some (.if_icmp .ne 6, 3) := by decide +kernel
theorem n_28_23 : pm_ins 28 23 = some (.iinc 2 1, 3) := by decide +kernel
theorem n_28_26 : pm_ins 28 26 = some (.iinc 3 1, 3) := by decide +kernel
theorem n_28_29 : pm_ins 28 29 = some (.goto (-25), 3) := by decide +kernel
theorem n_28_32 : pm_ins 28 32 = some (.iload_n 2, 1) := by decide +kernel
theorem n_28_33 : pm_ins 28 33 = some (.ireturn, 1) := by decide +kernel
theorem n_29_0 : pm_ins 29 0 = some (.aload_n 0, 1) := by decide +kernel
theorem n_29_1 : pm_ins 29 1 = some (.iload_n 1, 1) := by decide +kernel
theorem n_29_2 : pm_ins 29 2 = some (.invokevirtual 129, 3) := by decide +kernel
theorem n_29_5 : pm_ins 29 5 = some (.bipush 6, 2) := by decide +kernel
theorem n_29_7 : pm_ins 29 7 = some (.if_icmp .lt 7, 3) := by decide +kernel
theorem n_29_10 : pm_ins 29 10 = some (.iconst (-1), 1) := by decide +kernel
theorem n_29_11 : pm_ins 29 11 = some (.goto 7, 3) := by decide +kernel
theorem n_29_14 : pm_ins 29 14 = some (.aload_n 0, 1) := by decide +kernel
theorem n_29_15 : pm_ins 29 15 = some (.invokevirtual 298, 3) := by decide +kernel
theorem n_29_18 : pm_ins 29 18 = some (.ireturn, 1) := by decide +kernel
