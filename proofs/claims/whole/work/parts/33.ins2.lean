theorem n_30_0 : pm_ins 30 0 = some (.iconst 0, 1) := by decide +kernel
theorem n_30_1 : pm_ins 30 1 = some (.istore_n 1, 1) := by decide +kernel
theorem n_30_2 : pm_ins 30 2 = some (.iload_n 1, 1) := by decide +kernel
theorem n_30_3 : pm_ins 30 3 = some (.bipush 20, 2) := by decide +kernel
theorem n_30_5 : pm_ins 30 5 = some (.if_icmp .ge 24, 3) := by decide +kernel
theorem n_30_8 : pm_ins 30 8 = some (.aload_n 0, 1) := by decide +kernel
theorem n_30_9 : pm_ins 30 9 = some (.getfield 17, 3) := by decide +kernel
theorem n_30_12 : pm_ins 30 12 = some (.iload_n 1, 1) := by decide +kernel
theorem n_30_13 : pm_ins 30 13 = some (.aaload, 1) := by decide +kernel
theorem n_30_14 : pm_ins 30 14 = some (.getfield 61, 3) := by decide +kernel
theorem n_30_17 : pm_ins 30 17 = some (.iconst (-1), 1) := by decide +kernel
theorem n_30_18 : pm_ins 30 18 = some (.if_icmp .ne 5, 3) := by decide +kernel
theorem n_30_21 : pm_ins 30 21 = some (.iload_n 1, 1) := by decide +kernel
theorem n_30_22 : pm_ins 30 22 = some (.ireturn, 1) := by decide +kernel
theorem n_30_23 : pm_ins 30 23 = some (.iinc 1 1, 3) := by decide +kernel
theorem n_30_26 : pm_ins 30 26 = some (.goto (-24), 3) := by decide +kernel
theorem n_30_29 : pm_ins 30 29 = some (.iconst (-1), 1) := by decide +kernel
theorem n_30_30 : pm_ins 30 30 = some (.ireturn, 1) := by decide +kernel
theorem n_31_0 : pm_ins 31 0 = some (.aload_n 0, 1) := by decide +kernel
theorem n_31_1 : pm_ins 31 1 = some (.iload_n 1, 1) := by decide +kernel
theorem n_31_2 : pm_ins 31 2 = some (.invokevirtual 34, 3) := by decide +kernel
theorem n_31_5 : pm_ins 31 5 = some (.ifCond .ne 5, 3) := by decide +kernel
theorem n_31_8 : pm_ins 31 8 = some (.iconst (-1), 1) := by decide +kernel
theorem n_31_9 : pm_ins 31 9 = some (.ireturn, 1) := by decide +kernel
theorem n_31_10 : pm_ins 31 10 = some (.iload_n 2, 1) := by decide +kernel
theorem n_31_11 : pm_ins 31 11 = some (.invokestatic 282, 3) := by decide +kernel
theorem n_31_14 : pm_ins 31 14 = some (.ifCond .eq 13, 3) := by decide +kernel
theorem n_31_17 : pm_ins 31 17 = some (.iload_n 3, 1) := by decide +kernel
theorem n_31_18 : pm_ins 31 18 = some (.ifCond .lt 9, 3) := by decide +kernel
theorem n_31_21 : pm_ins 31 21 = some (.iload_n 3, 1) := by decide +kernel
theorem n_31_22 : pm_ins 31 22 = some (.bipush 8, 2) := by decide +kernel
theorem n_31_24 : pm_ins 31 24 = some (.if_icmp .lt 6, 3) := by decide +kernel
theorem n_31_27 : pm_ins 31 27 = some (.bipush (-2), 2) := by decide +kernel
theorem n_31_29 : pm_ins 31 29 = some (.ireturn, 1) := by decide +kernel
theorem n_31_30 : pm_ins 31 30 = some (.aload_n 0, 1) := by decide +kernel
theorem n_31_31 : pm_ins 31 31 = some (.iload_n 1, 1) := by decide +kernel
theorem n_31_32 : pm_ins 31 32 = some (.iload_n 2, 1) := by decide +kernel
theorem n_31_33 : pm_ins 31 33 = some (.invokevirtual 67, 3) := by decide +kernel
theorem n_31_36 : pm_ins 31 36 = some (.ifCond .ne 14, 3) := by decide +kernel
theorem n_31_39 : pm_ins 31 39 = some (.aload_n 0, 1) := by decide +kernel
theorem n_31_40 : pm_ins 31 40 = some (.iload_n 1, 1) := by decide +kernel
theorem n_31_41 : pm_ins 31 41 = some (.iload_n 2, 1) := by decide +kernel
theorem n_31_42 : pm_ins 31 42 = some (.iload 4, 2) := by decide +kernel
theorem n_31_44 : pm_ins 31 44 = some (.invokevirtual 301, 3) := by decide +kernel
theorem n_31_47 : pm_ins 31 47 = some (.ifCond .eq 7, 3) := by decide +kernel
theorem n_31_50 : pm_ins 31 50 = some (.iconst 0, 1) := by decide +kernel
theorem n_31_51 : pm_ins 31 51 = some (.goto 5, 3) := by decide +kernel
theorem n_31_54 : pm_ins 31 54 = some (.bipush (-3), 2) := by decide +kernel
theorem n_31_56 : pm_ins 31 56 = some (.ireturn, 1) := by decide +kernel
theorem n_32_0 : pm_ins 32 0 = some (.aload_n 0, 1) := by decide +kernel
theorem n_32_1 : pm_ins 32 1 = some (.getfield 11, 3) := by decide +kernel
theorem n_32_4 : pm_ins 32 4 = some (.iload_n 1, 1) := by decide +kernel
theorem n_32_5 : pm_ins 32 5 = some (.aaload, 1) := by decide +kernel
theorem n_32_6 : pm_ins 32 6 = some (.getfield 110, 3) := by decide +kernel
theorem n_32_9 : pm_ins 32 9 = some (.astore 4, 2) := by decide +kernel
theorem n_32_11 : pm_ins 32 11 = some (.iconst 0, 1) := by decide +kernel
theorem n_32_12 : pm_ins 32 12 = some (.istore 5, 2) := by decide +kernel
theorem n_32_14 : pm_ins 32 14 = some (.iload 5, 2) := by decide +kernel
theorem n_32_16 : pm_ins 32 16 = some (.iconst 5, 1) := by decide +kernel
theorem n_32_17 : pm_ins 32 17 = some (.if_icmp .ge 50, 3) := by decide +kernel
theorem n_32_20 : pm_ins 32 20 = some (.aload 4, 2) := by decide +kernel
theorem n_32_22 : pm_ins 32 22 = some (.iload 5, 2) := by decide +kernel
theorem n_32_24 : pm_ins 32 24 = some (.aaload, 1) := by decide +kernel
theorem n_32_25 : pm_ins 32 25 = some (.invokevirtual 305, 3) := by decide +kernel
theorem n_32_28 : pm_ins 32 28 = some (.ifCond .ne 33, 3) := by decide +kernel
theorem n_32_31 : pm_ins 32 31 = some (.aload 4, 2) := by decide +kernel
theorem n_32_33 : pm_ins 32 33 = some (.iload 5, 2) := by decide +kernel
theorem n_32_35 : pm_ins 32 35 = some (.aaload, 1) := by decide +kernel
theorem n_32_36 : pm_ins 32 36 = some (.getfield 308, 3) := by decide +kernel
theorem n_32_39 : pm_ins 32 39 = some (.ifCond .ne 7, 3) := by decide +kernel
theorem n_32_42 : pm_ins 32 42 = some (.iload_n 3, 1) := by decide +kernel
theorem n_32_43 : pm_ins 32 43 = some (.ifCond .ne 18, 3) := by decide +kernel
theorem n_32_46 : pm_ins 32 46 = some (.aload_n 0, 1) := by decide +kernel
theorem n_32_47 : pm_ins 32 47 = some (.aload 4, 2) := by decide +kernel
theorem n_32_49 : pm_ins 32 49 = some (.iload 5, 2) := by decide +kernel
theorem n_32_51 : pm_ins 32 51 = some (.aaload, 1) := by decide +kernel
theorem n_32_52 : pm_ins 32 52 = some (.invokevirtual 285, 3) := by decide +kernel
theorem n_32_55 : pm_ins 32 55 = some (.iload_n 2, 1) := by decide +kernel
theorem n_32_56 : pm_ins 32 56 = some (.if_icmp .ne 5, 3) := by decide +kernel
theorem n_32_59 : pm_ins 32 59 = some (.iconst 1, 1) := by decide +kernel
theorem n_32_60 : pm_ins 32 60 = some (.ireturn, 1) := by decide +kernel
theorem n_32_61 : pm_ins 32 61 = some (.iinc 5 1, 3) := by decide +kernel
theorem n_32_64 : pm_ins 32 64 = some (.goto (-50), 3) := by decide +kernel
theorem n_32_67 : pm_ins 32 67 = some (.iconst 0, 1) := by decide +kernel
theorem n_32_68 : pm_ins 32 68 = some (.ireturn, 1) := by decide +kernel
theorem n_33_0 : pm_ins 33 0 = some (.aload_n 0, 1) := by decide +kernel
theorem n_33_1 : pm_ins 33 1 = some (.getfield 11, 3) := by decide +kernel
theorem n_33_4 : pm_ins 33 4 = some (.aload_n 1, 1) := by decide +kernel
theorem n_33_5 : pm_ins 33 5 = some (.getfield 311, 3) := by decide +kernel
theorem n_33_8 : pm_ins 33 8 = some (.aaload, 1) := by decide +kernel
theorem n_33_9 : pm_ins 33 9 = some (.getfield 81, 3) := by decide +kernel
theorem n_33_12 : pm_ins 33 12 = some (.aload_n 1, 1) := by decide +kernel
theorem n_33_13 : pm_ins 33 13 = some (.getfield 314, 3) := by decide +kernel
theorem n_33_16 : pm_ins 33 16 = some (.aaload, 1) := by decide +kernel
theorem n_33_17 : pm_ins 33 17 = some (.areturn, 1) := by decide +kernel
theorem n_34_0 : pm_ins 34 0 = some (.aload_n 0, 1) := by decide +kernel
theorem n_34_1 : pm_ins 34 1 = some (.aload_n 1, 1) := by decide +kernel
theorem n_34_2 : pm_ins 34 2 = some (.invokevirtual 317, 3) := by decide +kernel
theorem n_34_5 : pm_ins 34 5 = some (.getfield 321, 3) := by decide +kernel
theorem n_34_8 : pm_ins 34 8 = some (.ireturn, 1) := by decide +kernel
theorem n_35_0 : pm_ins 35 0 = some (.aload_n 0, 1) := by decide +kernel
theorem n_35_1 : pm_ins 35 1 = some (.getfield 11, 3) := by decide +kernel
theorem n_35_4 : pm_ins 35 4 = some (.aload_n 1, 1) := by decide +kernel
theorem n_35_5 : pm_ins 35 5 = some (.getfield 324, 3) := by decide +kernel
theorem n_35_8 : pm_ins 35 8 = some (.aaload, 1) := by decide +kernel
theorem n_35_9 : pm_ins 35 9 = some (.getfield 145, 3) := by decide +kernel
theorem n_35_12 : pm_ins 35 12 = some (.aload_n 1, 1) := by decide +kernel
theorem n_35_13 : pm_ins 35 13 = some (.getfield 327, 3) := by decide +kernel
theorem n_35_16 : pm_ins 35 16 = some (.aaload, 1) := by decide +kernel
theorem n_35_17 : pm_ins 35 17 = some (.areturn, 1) := by decide +kernel
theorem n_36_0 : pm_ins 36 0 = some (.aload_n 1, 1) := by decide +kernel
theorem n_36_1 : pm_ins 36 1 = some (.getfield 311, 3) := by decide +kernel
theorem n_36_4 : pm_ins 36 4 = some (.istore_n 2, 1) := by decide +kernel
theorem n_36_5 : pm_ins 36 5 = some (.aload_n 0, 1) := by decide +kernel
theorem n_36_6 : pm_ins 36 6 = some (.aload_n 1, 1) := by decide +kernel
theorem n_36_7 : pm_ins 36 7 = some (.invokevirtual 317, 3) := by decide +kernel
theorem n_36_10 : pm_ins 36 10 = some (.astore_n 3, 1) := by decide +kernel
theorem n_36_11 : pm_ins 36 11 = some (.aload_n 1, 1) := by decide +kernel
theorem n_36_12 : pm_ins 36 12 = some (.invokevirtual 330, 3) := by decide +kernel
theorem n_36_15 : pm_ins 36 15 = some (.aload_n 3, 1) := by decide +kernel
theorem n_36_16 : pm_ins 36 16 = some (.dup, 1) := by decide +kernel
theorem n_36_17 : pm_ins 36 17 = some (.getfield 119, 3) := by decide +kernel
theorem n_36_20 : pm_ins 36 20 = some (.iconst 1, 1) := by decide +kernel
theorem n_36_21 : pm_ins 36 21 = some (.isub, 1) := by decide +kernel
theorem n_36_22 : pm_ins 36 22 = some (.putfield 119, 3) := by decide +kernel
theorem n_36_25 : pm_ins 36 25 = some (.aload_n 0, 1) := by decide +kernel
theorem n_36_26 : pm_ins 36 26 = some (.getfield 11, 3) := by decide +kernel
theorem n_36_29 : pm_ins 36 29 = some (.iload_n 2, 1) := by decide +kernel
theorem n_36_30 : pm_ins 36 30 = some (.aaload, 1) := by decide +kernel
theorem n_36_31 : pm_ins 36 31 = some (.getfield 30, 3) := by decide +kernel
theorem n_36_34 : pm_ins 36 34 = some (.iconst 2, 1) := by decide +kernel
theorem n_36_35 : pm_ins 36 35 = some (.if_icmp .ne 16, 3) := by decide +kernel
theorem n_36_38 : pm_ins 36 38 = some (.aload_n 3, 1) := by decide +kernel
theorem n_36_39 : pm_ins 36 39 = some (.invokevirtual 94, 3) := by decide +kernel
theorem n_36_42 : pm_ins 36 42 = some (.ifCond .ne 9, 3) := by decide +kernel
theorem n_36_45 : pm_ins 36 45 = some (.aload_n 0, 1) := by decide +kernel
theorem n_36_46 : pm_ins 36 46 = some (.iload_n 2, 1) := by decide +kernel
theorem n_36_47 : pm_ins 36 47 = some (.aload_n 3, 1) := by decide +kernel
theorem n_36_48 : pm_ins 36 48 = some (.invokevirtual 331, 3) := by decide +kernel
theorem n_36_51 : pm_ins 36 51 = some (.return_, 1) := by decide +kernel
theorem n_37_0 : pm_ins 37 0 = some (.aload_n 2, 1) := by decide +kernel
theorem n_37_1 : pm_ins 37 1 = some (.getfield 321, 3) := by decide +kernel
theorem n_37_4 : pm_ins 37 4 = some (.istore_n 3, 1) := by decide +kernel
theorem n_37_5 : pm_ins 37 5 = some (.aload_n 2, 1) := by decide +kernel
theorem n_37_6 : pm_ins 37 6 = some (.invokevirtual 98, 3) := by decide +kernel
theorem n_37_9 : pm_ins 37 9 = some (.aload_n 0, 1) := by decide +kernel
theorem n_37_10 : pm_ins 37 10 = some (.getfield 11, 3) := by decide +kernel
theorem n_37_13 : pm_ins 37 13 = some (.iload_n 1, 1) := by decide +kernel
theorem n_37_14 : pm_ins 37 14 = some (.aaload, 1) := by decide +kernel
theorem n_37_15 : pm_ins 37 15 = some (.iload_n 3, 1) := by decide +kernel
theorem n_37_16 : pm_ins 37 16 = some (.invokevirtual 335, 3) := by decide +kernel
theorem n_37_19 : pm_ins 37 19 = some (.ifCond .ne 13, 3) := by decide +kernel
theorem n_37_22 : pm_ins 37 22 = some (.aload_n 0, 1) := by decide +kernel
theorem n_37_23 : pm_ins 37 23 = some (.getfield 17, 3) := by decide +kernel
theorem n_37_26 : pm_ins 37 26 = some (.iload_n 3, 1) := by decide +kernel
theorem n_37_27 : pm_ins 37 27 = some (.aaload, 1) := by decide +kernel
theorem n_37_28 : pm_ins 37 28 = some (.iconst (-1), 1) := by decide +kernel
theorem n_37_29 : pm_ins 37 29 = some (.putfield 61, 3) := by decide +kernel
theorem n_37_32 : pm_ins 37 32 = some (.aload_n 0, 1) := by decide +kernel
theorem n_37_33 : pm_ins 37 33 = some (.iload_n 1, 1) := by decide +kernel
theorem n_37_34 : pm_ins 37 34 = some (.invokevirtual 54, 3) := by decide +kernel
theorem n_37_37 : pm_ins 37 37 = some (.return_, 1) := by decide +kernel
theorem n_38_0 : pm_ins 38 0 = some (.aload_n 0, 1) := by decide +kernel
theorem n_38_1 : pm_ins 38 1 = some (.iload_n 1, 1) := by decide +kernel
theorem n_38_2 : pm_ins 38 2 = some (.invokevirtual 129, 3) := by decide +kernel
theorem n_38_5 : pm_ins 38 5 = some (.ifCond .ne 13, 3) := by decide +kernel
theorem n_38_8 : pm_ins 38 8 = some (.aload_n 0, 1) := by decide +kernel
theorem n_38_9 : pm_ins 38 9 = some (.getfield 11, 3) := by decide +kernel
theorem n_38_12 : pm_ins 38 12 = some (.iload_n 1, 1) := by decide +kernel
theorem n_38_13 : pm_ins 38 13 = some (.aaload, 1) := by decide +kernel
theorem n_38_14 : pm_ins 38 14 = some (.iconst 0, 1) := by decide +kernel
theorem n_38_15 : pm_ins 38 15 = some (.putfield 30, 3) := by decide +kernel
theorem n_38_18 : pm_ins 38 18 = some (.return_, 1) := by decide +kernel
theorem n_39_0 : pm_ins 39 0 = some (.iconst 0, 1) := by decide +kernel
theorem n_39_1 : pm_ins 39 1 = some (.istore_n 2, 1) := by decide +kernel
theorem n_39_2 : pm_ins 39 2 = some (.iload_n 2, 1) := by decide +kernel
theorem n_39_3 : pm_ins 39 3 = some (.iconst 3, 1) := by decide +kernel
theorem n_39_4 : pm_ins 39 4 = some (.if_icmp .ge 45, 3) := by decide +kernel
theorem n_39_7 : pm_ins 39 7 = some (.aload_n 0, 1) := by decide +kernel
theorem n_39_8 : pm_ins 39 8 = some (.getfield 23, 3) := by decide +kernel
theorem n_39_11 : pm_ins 39 11 = some (.iload_n 2, 1) := by decide +kernel
theorem n_39_12 : pm_ins 39 12 = some (.aaload, 1) := by decide +kernel
theorem n_39_13 : pm_ins 39 13 = some (.getfield 224, 3) := by decide +kernel
theorem n_39_16 : pm_ins 39 16 = some (.iload_n 1, 1) := by decide +kernel
theorem n_39_17 : pm_ins 39 17 = some (.if_icmp .eq 16, 3) := by decide +kernel
theorem n_39_20 : pm_ins 39 20 = some (.aload_n 0, 1) := by decide +kernel
theorem n_39_21 : pm_ins 39 21 = some (.getfield 23, 3) := by decide +kernel
theorem n_39_24 : pm_ins 39 24 = some (.iload_n 2, 1) := by decide +kernel
theorem n_39_25 : pm_ins 39 25 = some (.aaload, 1) := by decide +kernel
theorem n_39_26 : pm_ins 39 26 = some (.getfield 233, 3) := by decide +kernel
theorem n_39_29 : pm_ins 39 29 = some (.iload_n 1, 1) := by decide +kernel
theorem n_39_30 : pm_ins 39 30 = some (.if_icmp .ne 13, 3) := by decide +kernel
theorem n_39_33 : pm_ins 39 33 = some (.aload_n 0, 1) := by decide +kernel
theorem n_39_34 : pm_ins 39 34 = some (.getfield 23, 3) := by decide +kernel
theorem n_39_37 : pm_ins 39 37 = some (.iload_n 2, 1) := by decide +kernel
theorem n_39_38 : pm_ins 39 38 = some (.aaload, 1) := by decide +kernel
theorem n_39_39 : pm_ins 39 39 = some (.iconst 0, 1) := by decide +kernel
theorem n_39_40 : pm_ins 39 40 = some (.putfield 295, 3) := by decide +kernel
theorem n_39_43 : pm_ins 39 43 = some (.iinc 2 1, 3) := by decide +kernel
theorem n_39_46 : pm_ins 39 46 = some (.goto (-44), 3) := by decide +kernel
theorem n_39_49 : pm_ins 39 49 = some (.return_, 1) := by decide +kernel
theorem n_40_0 : pm_ins 40 0 = some (.aload_n 0, 1) := by decide +kernel
theorem n_40_1 : pm_ins 40 1 = some (.getfield 11, 3) := by decide +kernel
theorem n_40_4 : pm_ins 40 4 = some (.iload_n 1, 1) := by decide +kernel
theorem n_40_5 : pm_ins 40 5 = some (.aaload, 1) := by decide +kernel
theorem n_40_6 : pm_ins 40 6 = some (.getfield 110, 3) := by decide +kernel
theorem n_40_9 : pm_ins 40 9 = some (.astore_n 2, 1) := by decide +kernel
theorem n_40_10 : pm_ins 40 10 = some (.iconst 0, 1) := by decide +kernel
theorem n_40_11 : pm_ins 40 11 = some (.istore_n 3, 1) := by decide +kernel
theorem n_40_12 : pm_ins 40 12 = some (.iload_n 3, 1) := by decide +kernel
theorem n_40_13 : pm_ins 40 13 = some (.iconst 5, 1) := by decide +kernel
theorem n_40_14 : pm_ins 40 14 = some (.if_icmp .ge 25, 3) := by decide +kernel
theorem n_40_17 : pm_ins 40 17 = some (.aload_n 2, 1) := by decide +kernel
theorem n_40_18 : pm_ins 40 18 = some (.iload_n 3, 1) := by decide +kernel
theorem n_40_19 : pm_ins 40 19 = some (.aaload, 1) := by decide +kernel
theorem n_40_20 : pm_ins 40 20 = some (.invokevirtual 305, 3) := by decide +kernel
theorem n_40_23 : pm_ins 40 23 = some (.ifCond .ne 10, 3) := by decide +kernel
theorem n_40_26 : pm_ins 40 26 = some (.aload_n 0, 1) := by decide +kernel
theorem n_40_27 : pm_ins 40 27 = some (.aload_n 2, 1) := by decide +kernel
theorem n_40_28 : pm_ins 40 28 = some (.iload_n 3, 1) := by decide +kernel
theorem n_40_29 : pm_ins 40 29 = some (.aaload, 1) := by decide +kernel
theorem n_40_30 : pm_ins 40 30 = some (.invokevirtual 125, 3) := by decide +kernel
theorem n_40_33 : pm_ins 40 33 = some (.iinc 3 1, 3) := by decide +kernel
theorem n_40_36 : pm_ins 40 36 = some (.goto (-24), 3) := by decide +kernel
theorem n_40_39 : pm_ins 40 39 = some (.return_, 1) := by decide +kernel
theorem n_41_0 : pm_ins 41 0 = some (.aload_n 0, 1) := by decide +kernel
theorem n_41_1 : pm_ins 41 1 = some (.getfield 11, 3) := by decide +kernel
theorem n_41_4 : pm_ins 41 4 = some (.iload_n 1, 1) := by decide +kernel
theorem n_41_5 : pm_ins 41 5 = some (.aaload, 1) := by decide +kernel
theorem n_41_6 : pm_ins 41 6 = some (.getfield 145, 3) := by decide +kernel
theorem n_41_9 : pm_ins 41 9 = some (.astore_n 2, 1) := by decide +kernel
theorem n_41_10 : pm_ins 41 10 = some (.iconst 0, 1) := by decide +kernel
theorem n_41_11 : pm_ins 41 11 = some (.istore_n 3, 1) := by decide +kernel
theorem n_41_12 : pm_ins 41 12 = some (.iload_n 3, 1) := by decide +kernel
theorem n_41_13 : pm_ins 41 13 = some (.iconst 4, 1) := by decide +kernel
theorem n_41_14 : pm_ins 41 14 = some (.if_icmp .ge 35, 3) := by decide +kernel
theorem n_41_17 : pm_ins 41 17 = some (.aload_n 2, 1) := by decide +kernel
theorem n_41_18 : pm_ins 41 18 = some (.iload_n 3, 1) := by decide +kernel
theorem n_41_19 : pm_ins 41 19 = some (.aaload, 1) := by decide +kernel
theorem n_41_20 : pm_ins 41 20 = some (.getfield 164, 3) := by decide +kernel
theorem n_41_23 : pm_ins 41 23 = some (.iconst 2, 1) := by decide +kernel
theorem n_41_24 : pm_ins 41 24 = some (.if_icmp .ne 13, 3) := by decide +kernel
theorem n_41_27 : pm_ins 41 27 = some (.aload_n 0, 1) := by decide +kernel
theorem n_41_28 : pm_ins 41 28 = some (.aload_n 2, 1) := by decide +kernel
theorem n_41_29 : pm_ins 41 29 = some (.iload_n 3, 1) := by decide +kernel
theorem n_41_30 : pm_ins 41 30 = some (.aaload, 1) := by decide +kernel
theorem n_41_31 : pm_ins 41 31 = some (.invokevirtual 165, 3) := by decide +kernel
theorem n_41_34 : pm_ins 41 34 = some (.invokevirtual 338, 3) := by decide +kernel
theorem n_41_37 : pm_ins 41 37 = some (.aload_n 2, 1) := by decide +kernel
theorem n_41_38 : pm_ins 41 38 = some (.iload_n 3, 1) := by decide +kernel
theorem n_41_39 : pm_ins 41 39 = some (.aaload, 1) := by decide +kernel
theorem n_41_40 : pm_ins 41 40 = some (.invokevirtual 338, 3) := by decide +kernel
theorem n_41_43 : pm_ins 41 43 = some (.iinc 3 1, 3) := by decide +kernel
theorem n_41_46 : pm_ins 41 46 = some (.goto (-34), 3) := by decide +kernel
theorem n_41_49 : pm_ins 41 49 = some (.return_, 1) := by decide +kernel
theorem n_42_0 : pm_ins 42 0 = some (.iconst 0, 1) := by decide +kernel
theorem n_42_1 : pm_ins 42 1 = some (.istore_n 2, 1) := by decide +kernel
theorem n_42_2 : pm_ins 42 2 = some (.iload_n 2, 1) := by decide +kernel
theorem n_42_3 : pm_ins 42 3 = some (.bipush 20, 2) := by decide +kernel
theorem n_42_5 : pm_ins 42 5 = some (.if_icmp .ge 45, 3) := by decide +kernel
theorem n_42_8 : pm_ins 42 8 = some (.aload_n 0, 1) := by decide +kernel
theorem n_42_9 : pm_ins 42 9 = some (.getfield 17, 3) := by decide +kernel
theorem n_42_12 : pm_ins 42 12 = some (.iload_n 2, 1) := by decide +kernel
theorem n_42_13 : pm_ins 42 13 = some (.aaload, 1) := by decide +kernel
theorem n_42_14 : pm_ins 42 14 = some (.getfield 61, 3) := by decide +kernel
theorem n_42_17 : pm_ins 42 17 = some (.iload_n 1, 1) := by decide +kernel
theorem n_42_18 : pm_ins 42 18 = some (.if_icmp .ne 26, 3) := by decide +kernel
theorem n_42_21 : pm_ins 42 21 = some (.aload_n 0, 1) := by decide +kernel
theorem n_42_22 : pm_ins 42 22 = some (.getfield 11, 3) := by decide +kernel
theorem n_42_25 : pm_ins 42 25 = some (.iload_n 1, 1) := by decide +kernel
theorem n_42_26 : pm_ins 42 26 = some (.aaload, 1) := by decide +kernel
theorem n_42_27 : pm_ins 42 27 = some (.iload_n 2, 1) := by decide +kernel
theorem n_42_28 : pm_ins 42 28 = some (.invokevirtual 335, 3) := by decide +kernel
theorem n_42_31 : pm_ins 42 31 = some (.ifCond .ne 13, 3) := by decide +kernel
theorem n_42_34 : pm_ins 42 34 = some (.aload_n 0, 1) := by decide +kernel
theorem n_42_35 : pm_ins 42 35 = some (.getfield 17, 3) := by decide +kernel
theorem n_42_38 : pm_ins 42 38 = some (.iload_n 2, 1) := by decide +kernel
theorem n_42_39 : pm_ins 42 39 = some (.aaload, 1) := by decide +kernel
theorem n_42_40 : pm_ins 42 40 = some (.iconst (-1), 1) := by decide +kernel
theorem n_42_41 : pm_ins 42 41 = some (.putfield 61, 3) := by decide +kernel
theorem n_42_44 : pm_ins 42 44 = some (.iinc 2 1, 3) := by decide +kernel
theorem n_42_47 : pm_ins 42 47 = some (.goto (-45), 3) := by decide +kernel
theorem n_42_50 : pm_ins 42 50 = some (.return_, 1) := by decide +kernel
theorem n_43_0 : pm_ins 43 0 = some (.iconst 0, 1) := by decide +kernel
theorem n_43_1 : pm_ins 43 1 = some (.istore_n 1, 1) := by decide +kernel
theorem n_43_2 : pm_ins 43 2 = some (.iload_n 1, 1) := by decide +kernel
theorem n_43_3 : pm_ins 43 3 = some (.iconst 3, 1) := by decide +kernel
theorem n_43_4 : pm_ins 43 4 = some (.if_icmp .ge 23, 3) := by decide +kernel
theorem n_43_7 : pm_ins 43 7 = some (.aload_n 0, 1) := by decide +kernel
theorem n_43_8 : pm_ins 43 8 = some (.getfield 23, 3) := by decide +kernel
theorem n_43_11 : pm_ins 43 11 = some (.iload_n 1, 1) := by decide +kernel
theorem n_43_12 : pm_ins 43 12 = some (.aaload, 1) := by decide +kernel
theorem n_43_13 : pm_ins 43 13 = some (.getfield 295, 3) := by decide +kernel
theorem n_43_16 : pm_ins 43 16 = some (.ifCond .ne 5, 3) := by decide +kernel
theorem n_43_19 : pm_ins 43 19 = some (.iload_n 1, 1) := by decide +kernel
theorem n_43_20 : pm_ins 43 20 = some (.ireturn, 1) := by decide +kernel
theorem n_43_21 : pm_ins 43 21 = some (.iinc 1 1, 3) := by decide +kernel
theorem n_43_24 : pm_ins 43 24 = some (.goto (-22), 3) := by decide +kernel
theorem n_43_27 : pm_ins 43 27 = some (.iconst (-1), 1) := by decide +kernel
theorem n_43_28 : pm_ins 43 28 = some (.ireturn, 1) := by decide +kernel
theorem n_44_0 : pm_ins 44 0 = some (.aload_n 0, 1) := by decide +kernel
theorem n_44_1 : pm_ins 44 1 = some (.iload_n 1, 1) := by decide +kernel
theorem n_44_2 : pm_ins 44 2 = some (.invokevirtual 57, 3) := by decide +kernel
theorem n_44_5 : pm_ins 44 5 = some (.iconst (-1), 1) := by decide +kernel
theorem n_44_6 : pm_ins 44 6 = some (.if_icmp .eq 20, 3) := by decide +kernel
theorem n_44_9 : pm_ins 44 9 = some (.aload_n 0, 1) := by decide +kernel
theorem n_44_10 : pm_ins 44 10 = some (.getfield 11, 3) := by decide +kernel
theorem n_44_13 : pm_ins 44 13 = some (.iload_n 1, 1) := by decide +kernel
theorem n_44_14 : pm_ins 44 14 = some (.aaload, 1) := by decide +kernel
theorem n_44_15 : pm_ins 44 15 = some (.invokevirtual 77, 3) := by decide +kernel
theorem n_44_18 : pm_ins 44 18 = some (.iconst (-1), 1) := by decide +kernel
theorem n_44_19 : pm_ins 44 19 = some (.if_icmp .eq 7, 3) := by decide +kernel
theorem n_44_22 : pm_ins 44 22 = some (.iconst 1, 1) := by decide +kernel
theorem n_44_23 : pm_ins 44 23 = some (.goto 4, 3) := by decide +kernel
theorem n_44_26 : pm_ins 44 26 = some (.iconst 0, 1) := by decide +kernel
theorem n_44_27 : pm_ins 44 27 = some (.ireturn, 1) := by decide +kernel
theorem n_45_0 : pm_ins 45 0 = some (.aload_n 0, 1) := by decide +kernel
theorem n_45_1 : pm_ins 45 1 = some (.iload_n 1, 1) := by decide +kernel
theorem n_45_2 : pm_ins 45 2 = some (.invokevirtual 227, 3) := by decide +kernel
theorem n_45_5 : pm_ins 45 5 = some (.ifCond .eq 20, 3) := by decide +kernel
theorem n_45_8 : pm_ins 45 8 = some (.aload_n 0, 1) := by decide +kernel
theorem n_45_9 : pm_ins 45 9 = some (.getfield 11, 3) := by decide +kernel
theorem n_45_12 : pm_ins 45 12 = some (.iload_n 1, 1) := by decide +kernel
theorem n_45_13 : pm_ins 45 13 = some (.aaload, 1) := by decide +kernel
theorem n_45_14 : pm_ins 45 14 = some (.invokevirtual 142, 3) := by decide +kernel
theorem n_45_17 : pm_ins 45 17 = some (.iconst (-1), 1) := by decide +kernel
theorem n_45_18 : pm_ins 45 18 = some (.if_icmp .eq 7, 3) := by decide +kernel
theorem n_45_21 : pm_ins 45 21 = some (.iconst 1, 1) := by decide +kernel
theorem n_45_22 : pm_ins 45 22 = some (.goto 4, 3) := by decide +kernel
theorem n_45_25 : pm_ins 45 25 = some (.iconst 0, 1) := by decide +kernel
theorem n_45_26 : pm_ins 45 26 = some (.ireturn, 1) := by decide +kernel
theorem n_46_0 : pm_ins 46 0 = some (.aload_n 0, 1) := by decide +kernel
theorem n_46_1 : pm_ins 46 1 = some (.getfield 11, 3) := by decide +kernel
theorem n_46_4 : pm_ins 46 4 = some (.iload_n 1, 1) := by decide +kernel
theorem n_46_5 : pm_ins 46 5 = some (.aaload, 1) := by decide +kernel
theorem n_46_6 : pm_ins 46 6 = some (.invokevirtual 107, 3) := by decide +kernel
theorem n_46_9 : pm_ins 46 9 = some (.iconst (-1), 1) := by decide +kernel
theorem n_46_10 : pm_ins 46 10 = some (.if_icmp .eq 20, 3) := by decide +kernel
theorem n_46_13 : pm_ins 46 13 = some (.aload_n 0, 1) := by decide +kernel
theorem n_46_14 : pm_ins 46 14 = some (.getfield 11, 3) := by decide +kernel
theorem n_46_17 : pm_ins 46 17 = some (.iload_n 1, 1) := by decide +kernel
theorem n_46_18 : pm_ins 46 18 = some (.aaload, 1) := by decide +kernel
theorem n_46_19 : pm_ins 46 19 = some (.invokevirtual 142, 3) := by decide +kernel
theorem n_46_22 : pm_ins 46 22 = some (.iconst (-1), 1) := by decide +kernel
theorem n_46_23 : pm_ins 46 23 = some (.if_icmp .eq 7, 3) := by decide +kernel
theorem n_46_26 : pm_ins 46 26 = some (.iconst 1, 1) := by decide +kernel
theorem n_46_27 : pm_ins 46 27 = some (.goto 4, 3) := by decide +kernel
theorem n_46_30 : pm_ins 46 30 = some (.iconst 0, 1) := by decide +kernel
theorem n_46_31 : pm_ins 46 31 = some (.ireturn, 1) := by decide +kernel
theorem n_47_0 : pm_ins 47 0 = some (.aload_n 0, 1) := by decide +kernel
theorem n_47_1 : pm_ins 47 1 = some (.iload_n 1, 1) := by decide +kernel
theorem n_47_2 : pm_ins 47 2 = some (.invokevirtual 289, 3) := by decide +kernel
theorem n_47_5 : pm_ins 47 5 = some (.ifCond .ne 6, 3) := by decide +kernel
theorem n_47_8 : pm_ins 47 8 = some (.bipush (-9), 2) := by decide +kernel
theorem n_47_10 : pm_ins 47 10 = some (.ireturn, 1) := by decide +kernel
theorem n_47_11 : pm_ins 47 11 = some (.aload_n 0, 1) := by decide +kernel
theorem n_47_12 : pm_ins 47 12 = some (.aload_n 0, 1) := by decide +kernel
theorem n_47_13 : pm_ins 47 13 = some (.getfield 23, 3) := by decide +kernel
theorem n_47_16 : pm_ins 47 16 = some (.iload_n 1, 1) := by decide +kernel
theorem n_47_17 : pm_ins 47 17 = some (.aaload, 1) := by decide +kernel
theorem n_47_18 : pm_ins 47 18 = some (.invokevirtual 341, 3) := by decide +kernel
theorem n_47_21 : pm_ins 47 21 = some (.ifCond .eq 7, 3) := by decide +kernel
theorem n_47_24 : pm_ins 47 24 = some (.iconst 0, 1) := by decide +kernel
theorem n_47_25 : pm_ins 47 25 = some (.goto 5, 3) := by decide +kernel
theorem n_47_28 : pm_ins 47 28 = some (.bipush (-10), 2) := by decide +kernel
theorem n_47_30 : pm_ins 47 30 = some (.ireturn, 1) := by decide +kernel
theorem n_48_0 : pm_ins 48 0 = some (.aload_n 0, 1) := by decide +kernel
theorem n_48_1 : pm_ins 48 1 = some (.getfield 11, 3) := by decide +kernel
theorem n_48_4 : pm_ins 48 4 = some (.aload_n 1, 1) := by decide +kernel
theorem n_48_5 : pm_ins 48 5 = some (.getfield 233, 3) := by decide +kernel
theorem n_48_8 : pm_ins 48 8 = some (.aaload, 1) := by decide +kernel
theorem n_48_9 : pm_ins 48 9 = some (.getfield 110, 3) := by decide +kernel
theorem n_48_12 : pm_ins 48 12 = some (.aload_n 1, 1) := by decide +kernel
theorem n_48_13 : pm_ins 48 13 = some (.getfield 201, 3) := by decide +kernel
theorem n_48_16 : pm_ins 48 16 = some (.aaload, 1) := by decide +kernel
theorem n_48_17 : pm_ins 48 17 = some (.astore_n 2, 1) := by decide +kernel
theorem n_48_18 : pm_ins 48 18 = some (.aload_n 2, 1) := by decide +kernel
theorem n_48_19 : pm_ins 48 19 = some (.getfield 311, 3) := by decide +kernel
theorem n_48_22 : pm_ins 48 22 = some (.aload_n 1, 1) := by decide +kernel
theorem n_48_23 : pm_ins 48 23 = some (.getfield 224, 3) := by decide +kernel
theorem n_48_26 : pm_ins 48 26 = some (.if_icmp .ne 37, 3) := by decide +kernel
theorem n_48_29 : pm_ins 48 29 = some (.aload_n 2, 1) := by decide +kernel
theorem n_48_30 : pm_ins 48 30 = some (.getfield 314, 3) := by decide +kernel
theorem n_48_33 : pm_ins 48 33 = some (.aload_n 1, 1) := by decide +kernel
theorem n_48_34 : pm_ins 48 34 = some (.getfield 195, 3) := by decide +kernel
theorem n_48_37 : pm_ins 48 37 = some (.if_icmp .ne 26, 3) := by decide +kernel
theorem n_48_40 : pm_ins 48 40 = some (.aload_n 2, 1) := by decide +kernel
theorem n_48_41 : pm_ins 48 41 = some (.getfield 308, 3) := by decide +kernel
theorem n_48_44 : pm_ins 48 44 = some (.ifCond .eq 19, 3) := by decide +kernel
theorem n_48_47 : pm_ins 48 47 = some (.aload_n 0, 1) := by decide +kernel
theorem n_48_48 : pm_ins 48 48 = some (.aload_n 2, 1) := by decide +kernel
theorem n_48_49 : pm_ins 48 49 = some (.invokevirtual 285, 3) := by decide +kernel
theorem n_48_52 : pm_ins 48 52 = some (.aload_n 1, 1) := by decide +kernel
theorem n_48_53 : pm_ins 48 53 = some (.getfield 188, 3) := by decide +kernel
theorem n_48_56 : pm_ins 48 56 = some (.if_icmp .ne 7, 3) := by decide +kernel
theorem n_48_59 : pm_ins 48 59 = some (.iconst 1, 1) := by decide +kernel
theorem n_48_60 : pm_ins 48 60 = some (.goto 4, 3) := by decide +kernel
theorem n_48_63 : pm_ins 48 63 = some (.iconst 0, 1) := by decide +kernel
theorem n_48_64 : pm_ins 48 64 = some (.ireturn, 1) := by decide +kernel
theorem n_49_0 : pm_ins 49 0 = some (.aload_n 1, 1) := by decide +kernel
theorem n_49_1 : pm_ins 49 1 = some (.getfield 345, 3) := by decide +kernel
theorem n_49_4 : pm_ins 49 4 = some (.istore 5, 2) := by decide +kernel
theorem n_49_6 : pm_ins 49 6 = some (.iload 5, 2) := by decide +kernel
theorem n_49_8 : pm_ins 49 8 = some (.iconst 3, 1) := by decide +kernel
theorem n_49_9 : pm_ins 49 9 = some (.irem, 1) := by decide +kernel
theorem n_49_10 : pm_ins 49 10 = some (.istore 6, 2) := by decide +kernel
theorem n_49_12 : pm_ins 49 12 = some (.aload_n 0, 1) := by decide +kernel
theorem n_49_13 : pm_ins 49 13 = some (.getfield 17, 3) := by decide +kernel
theorem n_49_16 : pm_ins 49 16 = some (.aload_n 1, 1) := by decide +kernel
theorem n_49_17 : pm_ins 49 17 = some (.getfield 188, 3) := by decide +kernel
theorem n_49_20 : pm_ins 49 20 = some (.aaload, 1) := by decide +kernel
theorem n_49_21 : pm_ins 49 21 = some (.getfield 136, 3) := by decide +kernel
theorem n_49_24 : pm_ins 49 24 = some (.astore 7, 2) := by decide +kernel
theorem n_49_26 : pm_ins 49 26 = some (.aload_n 1, 1) := by decide +kernel
theorem n_49_27 : pm_ins 49 27 = some (.getfield 259, 3) := by decide +kernel
theorem n_49_30 : pm_ins 49 30 = some (.iload 6, 2) := by decide +kernel
theorem n_49_32 : pm_ins 49 32 = some (.iload_n 2, 1) := by decide +kernel
theorem n_49_33 : pm_ins 49 33 = some (.iastore, 1) := by decide +kernel
theorem n_49_34 : pm_ins 49 34 = some (.aload_n 1, 1) := by decide +kernel
theorem n_49_35 : pm_ins 49 35 = some (.getfield 266, 3) := by decide +kernel
theorem n_49_38 : pm_ins 49 38 = some (.iload 6, 2) := by decide +kernel
theorem n_49_40 : pm_ins 49 40 = some (.iload_n 3, 1) := by decide +kernel
theorem n_49_41 : pm_ins 49 41 = some (.iastore, 1) := by decide +kernel
theorem n_49_42 : pm_ins 49 42 = some (.aload 7, 2) := by decide +kernel
theorem n_49_44 : pm_ins 49 44 = some (.iconst 2, 1) := by decide +kernel
theorem n_49_45 : pm_ins 49 45 = some (.iload 6, 2) := by decide +kernel
theorem n_49_47 : pm_ins 49 47 = some (.iadd, 1) := by decide +kernel
theorem n_49_48 : pm_ins 49 48 = some (.iload 4, 2) := by decide +kernel
theorem n_49_50 : pm_ins 49 50 = some (.iastore, 1) := by decide +kernel
theorem n_49_51 : pm_ins 49 51 = some (.aload_n 1, 1) := by decide +kernel
theorem n_49_52 : pm_ins 49 52 = some (.dup, 1) := by decide +kernel
theorem n_49_53 : pm_ins 49 53 = some (.getfield 345, 3) := by decide +kernel
theorem n_49_56 : pm_ins 49 56 = some (.iconst 1, 1) := by decide +kernel
theorem n_49_57 : pm_ins 49 57 = some (.iadd, 1) := by decide +kernel
theorem n_49_58 : pm_ins 49 58 = some (.putfield 345, 3) := by decide +kernel
theorem n_49_61 : pm_ins 49 61 = some (.aload 7, 2) := by decide +kernel
theorem n_49_63 : pm_ins 49 63 = some (.iconst 0, 1) := by decide +kernel
theorem n_49_64 : pm_ins 49 64 = some (.aload_n 1, 1) := by decide +kernel
theorem n_49_65 : pm_ins 49 65 = some (.getfield 345, 3) := by decide +kernel
theorem n_49_68 : pm_ins 49 68 = some (.iastore, 1) := by decide +kernel
theorem n_49_69 : pm_ins 49 69 = some (.aload_n 0, 1) := by decide +kernel
theorem n_49_70 : pm_ins 49 70 = some (.aload_n 1, 1) := by decide +kernel
theorem n_49_71 : pm_ins 49 71 = some (.getfield 224, 3) := by decide +kernel
theorem n_49_74 : pm_ins 49 74 = some (.aload_n 1, 1) := by decide +kernel
theorem n_49_75 : pm_ins 49 75 = some (.getfield 208, 3) := by decide +kernel
theorem n_49_78 : pm_ins 49 78 = some (.invokevirtual 249, 3) := by decide +kernel
theorem n_49_81 : pm_ins 49 81 = some (.pop, 1) := by decide +kernel
theorem n_49_82 : pm_ins 49 82 = some (.iload 5, 2) := by decide +kernel
theorem n_49_84 : pm_ins 49 84 = some (.ireturn, 1) := by decide +kernel
theorem n_50_0 : pm_ins 50 0 = some (.iload_n 2, 1) := by decide +kernel
theorem n_50_1 : pm_ins 50 1 = some (.bipush 7, 2) := by decide +kernel
theorem n_50_3 : pm_ins 50 3 = some (.iand, 1) := by decide +kernel
theorem n_50_4 : pm_ins 50 4 = some (.istore_n 3, 1) := by decide +kernel
theorem n_50_5 : pm_ins 50 5 = some (.iload_n 2, 1) := by decide +kernel
theorem n_50_6 : pm_ins 50 6 = some (.bipush 8, 2) := by decide +kernel
theorem n_50_8 : pm_ins 50 8 = some (.iand, 1) := by decide +kernel
theorem n_50_9 : pm_ins 50 9 = some (.ifCond .eq 7, 3) := by decide +kernel
theorem n_50_12 : pm_ins 50 12 = some (.iconst 1, 1) := by decide +kernel
theorem n_50_13 : pm_ins 50 13 = some (.goto 4, 3) := by decide +kernel
theorem n_50_16 : pm_ins 50 16 = some (.iconst 0, 1) := by decide +kernel
theorem n_50_17 : pm_ins 50 17 = some (.istore 4, 2) := by decide +kernel
theorem n_50_19 : pm_ins 50 19 = some (.aload_n 0, 1) := by decide +kernel
theorem n_50_20 : pm_ins 50 20 = some (.aload_n 1, 1) := by decide +kernel
theorem n_50_21 : pm_ins 50 21 = some (.getfield 233, 3) := by decide +kernel
theorem n_50_24 : pm_ins 50 24 = some (.aload_n 1, 1) := by decide +kernel
theorem n_50_25 : pm_ins 50 25 = some (.getfield 224, 3) := by decide +kernel
theorem n_50_28 : pm_ins 50 28 = some (.iload_n 2, 1) := by decide +kernel
theorem n_50_29 : pm_ins 50 29 = some (.iconst 4, 1) := by decide +kernel
theorem n_50_30 : pm_ins 50 30 = some (.ishr, 1) := by decide +kernel
theorem n_50_31 : pm_ins 50 31 = some (.iload 4, 2) := by decide +kernel
theorem n_50_33 : pm_ins 50 33 = some (.ifCond .ne 7, 3) := by decide +kernel
theorem n_50_36 : pm_ins 50 36 = some (.iconst 1, 1) := by decide +kernel
theorem n_50_37 : pm_ins 50 37 = some (.goto 4, 3) := by decide +kernel
theorem n_50_40 : pm_ins 50 40 = some (.iconst 0, 1) := by decide +kernel
theorem n_50_41 : pm_ins 50 41 = some (.invokevirtual 198, 3) := by decide +kernel
theorem n_50_44 : pm_ins 50 44 = some (.istore 5, 2) := by decide +kernel
theorem n_50_46 : pm_ins 50 46 = some (.iload 5, 2) := by decide +kernel
theorem n_50_48 : pm_ins 50 48 = some (.ifCond .ge 6, 3) := by decide +kernel
theorem n_50_51 : pm_ins 50 51 = some (.iload 5, 2) := by decide +kernel
theorem n_50_53 : pm_ins 50 53 = some (.ireturn, 1) := by decide +kernel
theorem n_50_54 : pm_ins 50 54 = some (.aload_n 0, 1) := by decide +kernel
theorem n_50_55 : pm_ins 50 55 = some (.getfield 17, 3) := by decide +kernel
theorem n_50_58 : pm_ins 50 58 = some (.aload_n 0, 1) := by decide +kernel
theorem n_50_59 : pm_ins 50 59 = some (.aload_n 0, 1) := by decide +kernel
theorem n_50_60 : pm_ins 50 60 = some (.getfield 11, 3) := by decide +kernel
theorem n_50_63 : pm_ins 50 63 = some (.aload_n 1, 1) := by decide +kernel
theorem n_50_64 : pm_ins 50 64 = some (.getfield 233, 3) := by decide +kernel
theorem n_50_67 : pm_ins 50 67 = some (.aaload, 1) := by decide +kernel
theorem n_50_68 : pm_ins 50 68 = some (.getfield 110, 3) := by decide +kernel
theorem n_50_71 : pm_ins 50 71 = some (.iload 5, 2) := by decide +kernel
theorem n_50_73 : pm_ins 50 73 = some (.aaload, 1) := by decide +kernel
theorem n_50_74 : pm_ins 50 74 = some (.invokevirtual 285, 3) := by decide +kernel
theorem n_50_77 : pm_ins 50 77 = some (.aaload, 1) := by decide +kernel
theorem n_50_78 : pm_ins 50 78 = some (.getfield 136, 3) := by decide +kernel
theorem n_50_81 : pm_ins 50 81 = some (.astore 6, 2) := by decide +kernel
theorem n_50_83 : pm_ins 50 83 = some (.iload 4, 2) := by decide +kernel
theorem n_50_85 : pm_ins 50 85 = some (.ifCond .eq 16, 3) := by decide +kernel
theorem n_50_88 : pm_ins 50 88 = some (.aload_n 1, 1) := by decide +kernel
theorem n_50_89 : pm_ins 50 89 = some (.getfield 292, 3) := by decide +kernel
theorem n_50_92 : pm_ins 50 92 = some (.iload_n 3, 1) := by decide +kernel
theorem n_50_93 : pm_ins 50 93 = some (.aload 6, 2) := by decide +kernel
theorem n_50_95 : pm_ins 50 95 = some (.iconst 0, 1) := by decide +kernel
theorem n_50_96 : pm_ins 50 96 = some (.iaload, 1) := by decide +kernel
theorem n_50_97 : pm_ins 50 97 = some (.iastore, 1) := by decide +kernel
theorem n_50_98 : pm_ins 50 98 = some (.goto 13, 3) := by decide +kernel
theorem n_50_101 : pm_ins 50 101 = some (.aload 6, 2) := by decide +kernel
theorem n_50_103 : pm_ins 50 103 = some (.iconst 0, 1) := by decide +kernel
theorem n_50_104 : pm_ins 50 104 = some (.aload_n 1, 1) := by decide +kernel
theorem n_50_105 : pm_ins 50 105 = some (.getfield 292, 3) := by decide +kernel
theorem n_50_108 : pm_ins 50 108 = some (.iload_n 3, 1) := by decide +kernel
theorem n_50_109 : pm_ins 50 109 = some (.iaload, 1) := by decide +kernel
theorem n_50_110 : pm_ins 50 110 = some (.iastore, 1) := by decide +kernel
theorem n_50_111 : pm_ins 50 111 = some (.aload_n 0, 1) := by decide +kernel
theorem n_50_112 : pm_ins 50 112 = some (.aload_n 1, 1) := by decide +kernel
theorem n_50_113 : pm_ins 50 113 = some (.getfield 233, 3) := by decide +kernel
theorem n_50_116 : pm_ins 50 116 = some (.iload 5, 2) := by decide +kernel
theorem n_50_118 : pm_ins 50 118 = some (.invokevirtual 348, 3) := by decide +kernel
theorem n_50_121 : pm_ins 50 121 = some (.pop, 1) := by decide +kernel
theorem n_50_122 : pm_ins 50 122 = some (.iconst 0, 1) := by decide +kernel
theorem n_50_123 : pm_ins 50 123 = some (.ireturn, 1) := by decide +kernel
theorem n_52_0 : pm_ins 52 0 = some (.iload_n 1, 1) := by decide +kernel
theorem n_52_1 : pm_ins 52 1 = some (.ifCond .lt 25, 3) := by decide +kernel
theorem n_52_4 : pm_ins 52 4 = some (.iload_n 1, 1) := by decide +kernel
theorem n_52_5 : pm_ins 52 5 = some (.bipush 6, 2) := by decide +kernel
theorem n_52_7 : pm_ins 52 7 = some (.if_icmp .ge 19, 3) := by decide +kernel
theorem n_52_10 : pm_ins 52 10 = some (.aload_n 0, 1) := by decide +kernel
theorem n_52_11 : pm_ins 52 11 = some (.getfield 17, 3) := by decide +kernel
theorem n_52_14 : pm_ins 52 14 = some (.iload_n 1, 1) := by decide +kernel
theorem n_52_15 : pm_ins 52 15 = some (.aaload, 1) := by decide +kernel
theorem n_52_16 : pm_ins 52 16 = some (.invokevirtual 36, 3) := by decide +kernel
theorem n_52_19 : pm_ins 52 19 = some (.ifCond .ne 7, 3) := by decide +kernel
theorem n_52_22 : pm_ins 52 22 = some (.iconst 1, 1) := by decide +kernel
theorem n_52_23 : pm_ins 52 23 = some (.goto 4, 3) := by decide +kernel
theorem n_52_26 : pm_ins 52 26 = some (.iconst 0, 1) := by decide +kernel
theorem n_52_27 : pm_ins 52 27 = some (.ireturn, 1) := by decide +kernel
theorem n_53_0 : pm_ins 53 0 = some (.iload_n 1, 1) := by decide +kernel
theorem n_53_1 : pm_ins 53 1 = some (.ifCond .lt 24, 3) := by decide +kernel
theorem n_53_4 : pm_ins 53 4 = some (.iload_n 1, 1) := by decide +kernel
theorem n_53_5 : pm_ins 53 5 = some (.iconst 5, 1) := by decide +kernel
theorem n_53_6 : pm_ins 53 6 = some (.if_icmp .ge 19, 3) := by decide +kernel
theorem n_53_9 : pm_ins 53 9 = some (.aload_n 0, 1) := by decide +kernel
theorem n_53_10 : pm_ins 53 10 = some (.getfield 23, 3) := by decide +kernel
theorem n_53_13 : pm_ins 53 13 = some (.iload_n 1, 1) := by decide +kernel
theorem n_53_14 : pm_ins 53 14 = some (.aaload, 1) := by decide +kernel
theorem n_53_15 : pm_ins 53 15 = some (.invokevirtual 40, 3) := by decide +kernel
theorem n_53_18 : pm_ins 53 18 = some (.ifCond .ne 7, 3) := by decide +kernel
theorem n_53_21 : pm_ins 53 21 = some (.iconst 1, 1) := by decide +kernel
theorem n_53_22 : pm_ins 53 22 = some (.goto 4, 3) := by decide +kernel
theorem n_53_25 : pm_ins 53 25 = some (.iconst 0, 1) := by decide +kernel
theorem n_53_26 : pm_ins 53 26 = some (.ireturn, 1) := by decide +kernel
theorem n_54_0 : pm_ins 54 0 = some (.iconst 0, 1) := by decide +kernel
theorem n_54_1 : pm_ins 54 1 = some (.istore_n 2, 1) := by decide +kernel
theorem n_54_2 : pm_ins 54 2 = some (.iload_n 2, 1) := by decide +kernel
theorem n_54_3 : pm_ins 54 3 = some (.bipush 6, 2) := by decide +kernel
theorem n_54_5 : pm_ins 54 5 = some (.if_icmp .ge 24, 3) := by decide +kernel
theorem n_54_8 : pm_ins 54 8 = some (.aload_n 0, 1) := by decide +kernel
theorem n_54_9 : pm_ins 54 9 = some (.getfield 17, 3) := by decide +kernel
theorem n_54_12 : pm_ins 54 12 = some (.iload_n 2, 1) := by decide +kernel
theorem n_54_13 : pm_ins 54 13 = some (.aaload, 1) := by decide +kernel
theorem n_54_14 : pm_ins 54 14 = some (.getfield 41, 3) := by decide +kernel
theorem n_54_17 : pm_ins 54 17 = some (.iload_n 1, 1) := by decide +kernel
theorem n_54_18 : pm_ins 54 18 = some (.if_icmp .ne 5, 3) := by decide +kernel
theorem n_54_21 : pm_ins 54 21 = some (.iconst 1, 1) := by decide +kernel
theorem n_54_22 : pm_ins 54 22 = some (.ireturn, 1) := by decide +kernel
theorem n_54_23 : pm_ins 54 23 = some (.iinc 2 1, 3) := by decide +kernel
theorem n_54_26 : pm_ins 54 26 = some (.goto (-24), 3) := by decide +kernel
theorem n_54_29 : pm_ins 54 29 = some (.iconst 0, 1) := by decide +kernel
theorem n_54_30 : pm_ins 54 30 = some (.ireturn, 1) := by decide +kernel
theorem n_55_0 : pm_ins 55 0 = some (.iconst 0, 1) := by decide +kernel
theorem n_55_1 : pm_ins 55 1 = some (.istore_n 2, 1) := by decide +kernel
theorem n_55_2 : pm_ins 55 2 = some (.iload_n 2, 1) := by decide +kernel
theorem n_55_3 : pm_ins 55 3 = some (.bipush 6, 2) := by decide +kernel
theorem n_55_5 : pm_ins 55 5 = some (.if_icmp .ge 36, 3) := by decide +kernel
theorem n_55_8 : pm_ins 55 8 = some (.aload_n 0, 1) := by decide +kernel
theorem n_55_9 : pm_ins 55 9 = some (.getfield 17, 3) := by decide +kernel
theorem n_55_12 : pm_ins 55 12 = some (.iload_n 2, 1) := by decide +kernel
theorem n_55_13 : pm_ins 55 13 = some (.aaload, 1) := by decide +kernel
theorem n_55_14 : pm_ins 55 14 = some (.getfield 41, 3) := by decide +kernel
theorem n_55_17 : pm_ins 55 17 = some (.iload_n 1, 1) := by decide +kernel
theorem n_55_18 : pm_ins 55 18 = some (.if_icmp .ne 17, 3) := by decide +kernel
theorem n_55_21 : pm_ins 55 21 = some (.aload_n 0, 1) := by decide +kernel
theorem n_55_22 : pm_ins 55 22 = some (.getfield 17, 3) := by decide +kernel
theorem n_55_25 : pm_ins 55 25 = some (.iload_n 2, 1) := by decide +kernel
theorem n_55_26 : pm_ins 55 26 = some (.aaload, 1) := by decide +kernel
theorem n_55_27 : pm_ins 55 27 = some (.invokevirtual 44, 3) := by decide +kernel
theorem n_55_30 : pm_ins 55 30 = some (.ifCond .eq 5, 3) := by decide +kernel
theorem n_55_33 : pm_ins 55 33 = some (.iconst 1, 1) := by decide +kernel
theorem n_55_34 : pm_ins 55 34 = some (.ireturn, 1) := by decide +kernel
theorem n_55_35 : pm_ins 55 35 = some (.iinc 2 1, 3) := by decide +kernel
theorem n_55_38 : pm_ins 55 38 = some (.goto (-36), 3) := by decide +kernel
theorem n_55_41 : pm_ins 55 41 = some (.iconst 0, 1) := by decide +kernel
theorem n_55_42 : pm_ins 55 42 = some (.ireturn, 1) := by decide +kernel
theorem n_56_0 : pm_ins 56 0 = some (.iconst 0, 1) := by decide +kernel
theorem n_56_1 : pm_ins 56 1 = some (.istore_n 1, 1) := by decide +kernel
theorem n_56_2 : pm_ins 56 2 = some (.iload_n 1, 1) := by decide +kernel
theorem n_56_3 : pm_ins 56 3 = some (.bipush 6, 2) := by decide +kernel
theorem n_56_5 : pm_ins 56 5 = some (.if_icmp .ge 23, 3) := by decide +kernel
theorem n_56_8 : pm_ins 56 8 = some (.aload_n 0, 1) := by decide +kernel
theorem n_56_9 : pm_ins 56 9 = some (.getfield 17, 3) := by decide +kernel
theorem n_56_12 : pm_ins 56 12 = some (.iload_n 1, 1) := by decide +kernel
theorem n_56_13 : pm_ins 56 13 = some (.aaload, 1) := by decide +kernel
theorem n_56_14 : pm_ins 56 14 = some (.invokevirtual 36, 3) := by decide +kernel
theorem n_56_17 : pm_ins 56 17 = some (.ifCond .eq 5, 3) := by decide +kernel
theorem n_56_20 : pm_ins 56 20 = some (.iload_n 1, 1) := by decide +kernel
theorem n_56_21 : pm_ins 56 21 = some (.ireturn, 1) := by decide +kernel
theorem n_56_22 : pm_ins 56 22 = some (.iinc 1 1, 3) := by decide +kernel
theorem n_56_25 : pm_ins 56 25 = some (.goto (-23), 3) := by decide +kernel
theorem n_56_28 : pm_ins 56 28 = some (.iconst (-1), 1) := by decide +kernel
theorem n_56_29 : pm_ins 56 29 = some (.ireturn, 1) := by decide +kernel
theorem n_57_0 : pm_ins 57 0 = some (.iconst 0, 1) := by decide +kernel
theorem n_57_1 : pm_ins 57 1 = some (.istore_n 1, 1) := by decide +kernel
theorem n_57_2 : pm_ins 57 2 = some (.iload_n 1, 1) := by decide +kernel
theorem n_57_3 : pm_ins 57 3 = some (.iconst 5, 1) := by decide +kernel
theorem n_57_4 : pm_ins 57 4 = some (.if_icmp .ge 23, 3) := by decide +kernel
theorem n_57_7 : pm_ins 57 7 = some (.aload_n 0, 1) := by decide +kernel
theorem n_57_8 : pm_ins 57 8 = some (.getfield 23, 3) := by decide +kernel
theorem n_57_11 : pm_ins 57 11 = some (.iload_n 1, 1) := by decide +kernel
theorem n_57_12 : pm_ins 57 12 = some (.aaload, 1) := by decide +kernel
theorem n_57_13 : pm_ins 57 13 = some (.invokevirtual 40, 3) := by decide +kernel
theorem n_57_16 : pm_ins 57 16 = some (.ifCond .eq 5, 3) := by decide +kernel
theorem n_57_19 : pm_ins 57 19 = some (.iload_n 1, 1) := by decide +kernel
theorem n_57_20 : pm_ins 57 20 = some (.ireturn, 1) := by decide +kernel
theorem n_57_21 : pm_ins 57 21 = some (.iinc 1 1, 3) := by decide +kernel
theorem n_57_24 : pm_ins 57 24 = some (.goto (-22), 3) := by decide +kernel
theorem n_57_27 : pm_ins 57 27 = some (.iconst (-1), 1) := by decide +kernel
theorem n_57_28 : pm_ins 57 28 = some (.ireturn, 1) := by decide +kernel
theorem n_58_0 : pm_ins 58 0 = some (.iconst 0, 1) := by decide +kernel
theorem n_58_1 : pm_ins 58 1 = some (.istore_n 1, 1) := by decide +kernel
theorem n_58_2 : pm_ins 58 2 = some (.iload_n 1, 1) := by decide +kernel
theorem n_58_3 : pm_ins 58 3 = some (.iconst 4, 1) := by decide +kernel
theorem n_58_4 : pm_ins 58 4 = some (.if_icmp .ge 23, 3) := by decide +kernel
theorem n_58_7 : pm_ins 58 7 = some (.aload_n 0, 1) := by decide +kernel
theorem n_58_8 : pm_ins 58 8 = some (.getfield 29, 3) := by decide +kernel
theorem n_58_11 : pm_ins 58 11 = some (.iload_n 1, 1) := by decide +kernel
theorem n_58_12 : pm_ins 58 12 = some (.aaload, 1) := by decide +kernel
theorem n_58_13 : pm_ins 58 13 = some (.getfield 47, 3) := by decide +kernel
theorem n_58_16 : pm_ins 58 16 = some (.ifCond .ne 5, 3) := by decide +kernel
theorem n_58_19 : pm_ins 58 19 = some (.iload_n 1, 1) := by decide +kernel
theorem n_58_20 : pm_ins 58 20 = some (.ireturn, 1) := by decide +kernel
theorem n_58_21 : pm_ins 58 21 = some (.iinc 1 1, 3) := by decide +kernel
theorem n_58_24 : pm_ins 58 24 = some (.goto (-22), 3) := by decide +kernel
theorem n_58_27 : pm_ins 58 27 = some (.iconst (-1), 1) := by decide +kernel
theorem n_58_28 : pm_ins 58 28 = some (.ireturn, 1) := by decide +kernel
theorem n_59_0 : pm_ins 59 0 = some (.iconst 0, 1) := by decide +kernel
theorem n_59_1 : pm_ins 59 1 = some (.istore_n 1, 1) := by decide +kernel
theorem n_59_2 : pm_ins 59 2 = some (.iload_n 1, 1) := by decide +kernel
theorem n_59_3 : pm_ins 59 3 = some (.bipush 6, 2) := by decide +kernel
theorem n_59_5 : pm_ins 59 5 = some (.if_icmp .ge 30, 3) := by decide +kernel
theorem n_59_8 : pm_ins 59 8 = some (.aload_n 0, 1) := by decide +kernel
theorem n_59_9 : pm_ins 59 9 = some (.getfield 17, 3) := by decide +kernel
theorem n_59_12 : pm_ins 59 12 = some (.iload_n 1, 1) := by decide +kernel
theorem n_59_13 : pm_ins 59 13 = some (.aaload, 1) := by decide +kernel
theorem n_59_14 : pm_ins 59 14 = some (.invokevirtual 44, 3) := by decide +kernel
theorem n_59_17 : pm_ins 59 17 = some (.ifCond .ne 12, 3) := by decide +kernel
theorem n_59_20 : pm_ins 59 20 = some (.aload_n 0, 1) := by decide +kernel
theorem n_59_21 : pm_ins 59 21 = some (.getfield 17, 3) := by decide +kernel
theorem n_59_24 : pm_ins 59 24 = some (.iload_n 1, 1) := by decide +kernel
theorem n_59_25 : pm_ins 59 25 = some (.aaload, 1) := by decide +kernel
theorem n_59_26 : pm_ins 59 26 = some (.invokevirtual 48, 3) := by decide +kernel
theorem n_59_29 : pm_ins 59 29 = some (.iinc 1 1, 3) := by decide +kernel
theorem n_59_32 : pm_ins 59 32 = some (.goto (-30), 3) := by decide +kernel
theorem n_59_35 : pm_ins 59 35 = some (.return_, 1) := by decide +kernel
theorem n_61_0 : pm_ins 61 0 = some (.iconst 0, 1) := by decide +kernel
theorem n_61_1 : pm_ins 61 1 = some (.istore_n 1, 1) := by decide +kernel
theorem n_61_2 : pm_ins 61 2 = some (.iload_n 1, 1) := by decide +kernel
theorem n_61_3 : pm_ins 61 3 = some (.bipush 8, 2) := by decide +kernel
theorem n_61_5 : pm_ins 61 5 = some (.if_icmp .ge 16, 3) := by decide +kernel
theorem n_61_8 : pm_ins 61 8 = some (.aload_n 0, 1) := by decide +kernel
theorem n_61_9 : pm_ins 61 9 = some (.getfield 15, 3) := by decide +kernel
theorem n_61_12 : pm_ins 61 12 = some (.iload_n 1, 1) := by decide +kernel
theorem n_61_13 : pm_ins 61 13 = some (.iconst 0, 1) := by decide +kernel
theorem n_61_14 : pm_ins 61 14 = some (.iastore, 1) := by decide +kernel
theorem n_61_15 : pm_ins 61 15 = some (.iinc 1 1, 3) := by decide +kernel
theorem n_61_18 : pm_ins 61 18 = some (.goto (-16), 3) := by decide +kernel
theorem n_61_21 : pm_ins 61 21 = some (.return_, 1) := by decide +kernel
theorem n_63_0 : pm_ins 63 0 = some (.aload_n 0, 1) := by decide +kernel
theorem n_63_1 : pm_ins 63 1 = some (.iconst 1, 1) := by decide +kernel
theorem n_63_2 : pm_ins 63 2 = some (.putfield 9, 3) := by decide +kernel
theorem n_63_5 : pm_ins 63 5 = some (.aload_n 0, 1) := by decide +kernel
theorem n_63_6 : pm_ins 63 6 = some (.iload_n 1, 1) := by decide +kernel
theorem n_63_7 : pm_ins 63 7 = some (.putfield 15, 3) := by decide +kernel
theorem n_63_10 : pm_ins 63 10 = some (.aload_n 0, 1) := by decide +kernel
theorem n_63_11 : pm_ins 63 11 = some (.iload_n 2, 1) := by decide +kernel
theorem n_63_12 : pm_ins 63 12 = some (.putfield 19, 3) := by decide +kernel
theorem n_63_15 : pm_ins 63 15 = some (.aload_n 0, 1) := by decide +kernel
theorem n_63_16 : pm_ins 63 16 = some (.iconst 0, 1) := by decide +kernel
theorem n_63_17 : pm_ins 63 17 = some (.putfield 37, 3) := by decide +kernel
theorem n_63_20 : pm_ins 63 20 = some (.aload_n 0, 1) := by decide +kernel
theorem n_63_21 : pm_ins 63 21 = some (.iconst 0, 1) := by decide +kernel
theorem n_63_22 : pm_ins 63 22 = some (.putfield 40, 3) := by decide +kernel
theorem n_63_25 : pm_ins 63 25 = some (.aload_n 0, 1) := by decide +kernel
theorem n_63_26 : pm_ins 63 26 = some (.iconst 0, 1) := by decide +kernel
theorem n_63_27 : pm_ins 63 27 = some (.putfield 43, 3) := by decide +kernel
theorem n_63_30 : pm_ins 63 30 = some (.iconst 0, 1) := by decide +kernel
theorem n_63_31 : pm_ins 63 31 = some (.istore_n 3, 1) := by decide +kernel
theorem n_63_32 : pm_ins 63 32 = some (.iload_n 3, 1) := by decide +kernel
theorem n_63_33 : pm_ins 63 33 = some (.bipush 8, 2) := by decide +kernel
theorem n_63_35 : pm_ins 63 35 = some (.if_icmp .ge 16, 3) := by decide +kernel
theorem n_63_38 : pm_ins 63 38 = some (.aload_n 0, 1) := by decide +kernel
theorem n_63_39 : pm_ins 63 39 = some (.getfield 53, 3) := by decide +kernel
theorem n_63_42 : pm_ins 63 42 = some (.iload_n 3, 1) := by decide +kernel
theorem n_63_43 : pm_ins 63 43 = some (.iconst 0, 1) := by decide +kernel
theorem n_63_44 : pm_ins 63 44 = some (.iastore, 1) := by decide +kernel
theorem n_63_45 : pm_ins 63 45 = some (.iinc 3 1, 3) := by decide +kernel
theorem n_63_48 : pm_ins 63 48 = some (.goto (-16), 3) := by decide +kernel
theorem n_63_51 : pm_ins 63 51 = some (.return_, 1) := by decide +kernel
theorem n_64_0 : pm_ins 64 0 = some (.aload_n 0, 1) := by decide +kernel
theorem n_64_1 : pm_ins 64 1 = some (.getfield 37, 3) := by decide +kernel
theorem n_64_4 : pm_ins 64 4 = some (.aload_n 0, 1) := by decide +kernel
theorem n_64_5 : pm_ins 64 5 = some (.getfield 40, 3) := by decide +kernel
theorem n_64_8 : pm_ins 64 8 = some (.isub, 1) := by decide +kernel
theorem n_64_9 : pm_ins 64 9 = some (.ireturn, 1) := by decide +kernel
theorem n_66_0 : pm_ins 66 0 = some (.aload_n 0, 1) := by decide +kernel
theorem n_66_1 : pm_ins 66 1 = some (.getfield 9, 3) := by decide +kernel
theorem n_66_4 : pm_ins 66 4 = some (.iconst (-1), 1) := by decide +kernel
theorem n_66_5 : pm_ins 66 5 = some (.if_icmp .ne 7, 3) := by decide +kernel
theorem n_66_8 : pm_ins 66 8 = some (.iconst 1, 1) := by decide +kernel
theorem n_66_9 : pm_ins 66 9 = some (.goto 4, 3) := by decide +kernel
theorem n_66_12 : pm_ins 66 12 = some (.iconst 0, 1) := by decide +kernel
theorem n_66_13 : pm_ins 66 13 = some (.ireturn, 1) := by decide +kernel
theorem n_67_0 : pm_ins 67 0 = some (.aload_n 0, 1) := by decide +kernel
theorem n_67_1 : pm_ins 67 1 = some (.getfield 21, 3) := by decide +kernel
theorem n_67_4 : pm_ins 67 4 = some (.ifCond .le 7, 3) := by decide +kernel
theorem n_67_7 : pm_ins 67 7 = some (.iconst 1, 1) := by decide +kernel
theorem n_67_8 : pm_ins 67 8 = some (.goto 4, 3) := by decide +kernel
theorem n_67_11 : pm_ins 67 11 = some (.iconst 0, 1) := by decide +kernel
theorem n_67_12 : pm_ins 67 12 = some (.ireturn, 1) := by decide +kernel
theorem n_68_0 : pm_ins 68 0 = some (.aload_n 0, 1) := by decide +kernel
theorem n_68_1 : pm_ins 68 1 = some (.iload_n 1, 1) := by decide +kernel
theorem n_68_2 : pm_ins 68 2 = some (.putfield 9, 3) := by decide +kernel
theorem n_68_5 : pm_ins 68 5 = some (.aload_n 0, 1) := by decide +kernel
theorem n_68_6 : pm_ins 68 6 = some (.iload_n 2, 1) := by decide +kernel
theorem n_68_7 : pm_ins 68 7 = some (.putfield 15, 3) := by decide +kernel
theorem n_68_10 : pm_ins 68 10 = some (.aload_n 0, 1) := by decide +kernel
theorem n_68_11 : pm_ins 68 11 = some (.iload_n 3, 1) := by decide +kernel
theorem n_68_12 : pm_ins 68 12 = some (.putfield 18, 3) := by decide +kernel
theorem n_68_15 : pm_ins 68 15 = some (.return_, 1) := by decide +kernel
theorem n_69_0 : pm_ins 69 0 = some (.aload_n 0, 1) := by decide +kernel
theorem n_69_1 : pm_ins 69 1 = some (.iconst (-1), 1) := by decide +kernel
theorem n_69_2 : pm_ins 69 2 = some (.iconst 0, 1) := by decide +kernel
theorem n_69_3 : pm_ins 69 3 = some (.iconst (-1), 1) := by decide +kernel
theorem n_69_4 : pm_ins 69 4 = some (.invokevirtual 24, 3) := by decide +kernel
theorem n_69_7 : pm_ins 69 7 = some (.return_, 1) := by decide +kernel
theorem n_71_0 : pm_ins 71 0 = some (.aload_n 0, 1) := by decide +kernel
theorem n_71_1 : pm_ins 71 1 = some (.getfield 9, 3) := by decide +kernel
theorem n_71_4 : pm_ins 71 4 = some (.iconst (-1), 1) := by decide +kernel
theorem n_71_5 : pm_ins 71 5 = some (.if_icmp .ne 7, 3) := by decide +kernel
theorem n_71_8 : pm_ins 71 8 = some (.iconst 1, 1) := by decide +kernel
theorem n_71_9 : pm_ins 71 9 = some (.goto 4, 3) := by decide +kernel
theorem n_71_12 : pm_ins 71 12 = some (.iconst 0, 1) := by decide +kernel
theorem n_71_13 : pm_ins 71 13 = some (.ireturn, 1) := by decide +kernel
theorem n_72_0 : pm_ins 72 0 = some (.aload_n 0, 1) := by decide +kernel
theorem n_72_1 : pm_ins 72 1 = some (.iload_n 1, 1) := by decide +kernel
theorem n_72_2 : pm_ins 72 2 = some (.putfield 9, 3) := by decide +kernel
theorem n_72_5 : pm_ins 72 5 = some (.aload_n 0, 1) := by decide +kernel
theorem n_72_6 : pm_ins 72 6 = some (.iload_n 2, 1) := by decide +kernel
theorem n_72_7 : pm_ins 72 7 = some (.putfield 15, 3) := by decide +kernel
theorem n_72_10 : pm_ins 72 10 = some (.aload_n 0, 1) := by decide +kernel
theorem n_72_11 : pm_ins 72 11 = some (.iload_n 3, 1) := by decide +kernel
theorem n_72_12 : pm_ins 72 12 = some (.putfield 18, 3) := by decide +kernel
theorem n_72_15 : pm_ins 72 15 = some (.return_, 1) := by decide +kernel
theorem n_73_0 : pm_ins 73 0 = some (.aload_n 0, 1) := by decide +kernel
theorem n_73_1 : pm_ins 73 1 = some (.iconst (-1), 1) := by decide +kernel
theorem n_73_2 : pm_ins 73 2 = some (.iconst (-1), 1) := by decide +kernel
theorem n_73_3 : pm_ins 73 3 = some (.iconst 0, 1) := by decide +kernel
theorem n_73_4 : pm_ins 73 4 = some (.invokevirtual 22, 3) := by decide +kernel
theorem n_73_7 : pm_ins 73 7 = some (.return_, 1) := by decide +kernel
theorem n_75_0 : pm_ins 75 0 = some (.aload_n 0, 1) := by decide +kernel
theorem n_75_1 : pm_ins 75 1 = some (.getfield 9, 3) := by decide +kernel
theorem n_75_4 : pm_ins 75 4 = some (.iconst 1, 1) := by decide +kernel
theorem n_75_5 : pm_ins 75 5 = some (.if_icmp .ne 15, 3) := by decide +kernel
theorem n_75_8 : pm_ins 75 8 = some (.aload_n 0, 1) := by decide +kernel
theorem n_75_9 : pm_ins 75 9 = some (.getfield 15, 3) := by decide +kernel
theorem n_75_12 : pm_ins 75 12 = some (.iload_n 1, 1) := by decide +kernel
theorem n_75_13 : pm_ins 75 13 = some (.if_icmp .ne 7, 3) := by decide +kernel
theorem n_75_16 : pm_ins 75 16 = some (.iconst 1, 1) := by decide +kernel
theorem n_75_17 : pm_ins 75 17 = some (.goto 4, 3) := by decide +kernel
theorem n_75_20 : pm_ins 75 20 = some (.iconst 0, 1) := by decide +kernel
theorem n_75_21 : pm_ins 75 21 = some (.ireturn, 1) := by decide +kernel
theorem n_76_0 : pm_ins 76 0 = some (.aload_n 0, 1) := by decide +kernel
theorem n_76_1 : pm_ins 76 1 = some (.iconst 1, 1) := by decide +kernel
theorem n_76_2 : pm_ins 76 2 = some (.iload_n 1, 1) := by decide +kernel
theorem n_76_3 : pm_ins 76 3 = some (.iconst (-1), 1) := by decide +kernel
theorem n_76_4 : pm_ins 76 4 = some (.invokevirtual 25, 3) := by decide +kernel
theorem n_76_7 : pm_ins 76 7 = some (.return_, 1) := by decide +kernel
theorem n_77_0 : pm_ins 77 0 = some (.aload_n 0, 1) := by decide +kernel
theorem n_77_1 : pm_ins 77 1 = some (.iconst 2, 1) := by decide +kernel
theorem n_77_2 : pm_ins 77 2 = some (.iload_n 1, 1) := by decide +kernel
theorem n_77_3 : pm_ins 77 3 = some (.iload_n 2, 1) := by decide +kernel
theorem n_77_4 : pm_ins 77 4 = some (.invokevirtual 25, 3) := by decide +kernel
theorem n_77_7 : pm_ins 77 7 = some (.return_, 1) := by decide +kernel
theorem n_78_0 : pm_ins 78 0 = some (.aload_n 0, 1) := by decide +kernel
theorem n_78_1 : pm_ins 78 1 = some (.iconst 0, 1) := by decide +kernel
theorem n_78_2 : pm_ins 78 2 = some (.iconst (-1), 1) := by decide +kernel
theorem n_78_3 : pm_ins 78 3 = some (.iconst (-1), 1) := by decide +kernel
theorem n_78_4 : pm_ins 78 4 = some (.invokevirtual 25, 3) := by decide +kernel
theorem n_78_7 : pm_ins 78 7 = some (.return_, 1) := by decide +kernel
theorem n_79_0 : pm_ins 79 0 = some (.aload_n 0, 1) := by decide +kernel
theorem n_79_1 : pm_ins 79 1 = some (.iload_n 1, 1) := by decide +kernel
theorem n_79_2 : pm_ins 79 2 = some (.putfield 9, 3) := by decide +kernel
theorem n_79_5 : pm_ins 79 5 = some (.aload_n 0, 1) := by decide +kernel
theorem n_79_6 : pm_ins 79 6 = some (.iload_n 2, 1) := by decide +kernel
theorem n_79_7 : pm_ins 79 7 = some (.putfield 15, 3) := by decide +kernel
theorem n_79_10 : pm_ins 79 10 = some (.aload_n 0, 1) := by decide +kernel
theorem n_79_11 : pm_ins 79 11 = some (.iload_n 3, 1) := by decide +kernel
theorem n_79_12 : pm_ins 79 12 = some (.putfield 18, 3) := by decide +kernel
theorem n_79_15 : pm_ins 79 15 = some (.aload_n 0, 1) := by decide +kernel
theorem n_79_16 : pm_ins 79 16 = some (.iconst 0, 1) := by decide +kernel
theorem n_79_17 : pm_ins 79 17 = some (.putfield 21, 3) := by decide +kernel
theorem n_79_20 : pm_ins 79 20 = some (.return_, 1) := by decide +kernel
