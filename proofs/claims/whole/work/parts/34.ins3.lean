theorem n_81_0 : pm_ins 81 0 = some (.iload_n 1, 1) := by decide +kernel
theorem n_81_1 : pm_ins 81 1 = some (.ifCond .lt 22, 3) := by decide +kernel
theorem n_81_4 : pm_ins 81 4 = some (.iload_n 1, 1) := by decide +kernel
theorem n_81_5 : pm_ins 81 5 = some (.iconst 4, 1) := by decide +kernel
theorem n_81_6 : pm_ins 81 6 = some (.if_icmp .gt 17, 3) := by decide +kernel
theorem n_81_9 : pm_ins 81 9 = some (.aload_n 0, 1) := by decide +kernel
theorem n_81_10 : pm_ins 81 10 = some (.getfield 7, 3) := by decide +kernel
theorem n_81_13 : pm_ins 81 13 = some (.iload_n 1, 1) := by decide +kernel
theorem n_81_14 : pm_ins 81 14 = some (.iaload, 1) := by decide +kernel
theorem n_81_15 : pm_ins 81 15 = some (.iconst 1, 1) := by decide +kernel
theorem n_81_16 : pm_ins 81 16 = some (.if_icmp .ne 7, 3) := by decide +kernel
theorem n_81_19 : pm_ins 81 19 = some (.iconst 1, 1) := by decide +kernel
theorem n_81_20 : pm_ins 81 20 = some (.goto 4, 3) := by decide +kernel
theorem n_81_23 : pm_ins 81 23 = some (.iconst 0, 1) := by decide +kernel
theorem n_81_24 : pm_ins 81 24 = some (.ireturn, 1) := by decide +kernel
theorem n_82_0 : pm_ins 82 0 = some (.iload_n 2, 1) := by decide +kernel
theorem n_82_1 : pm_ins 82 1 = some (.ifCond .lt 25, 3) := by decide +kernel
theorem n_82_4 : pm_ins 82 4 = some (.iload_n 2, 1) := by decide +kernel
theorem n_82_5 : pm_ins 82 5 = some (.bipush 19, 2) := by decide +kernel
theorem n_82_7 : pm_ins 82 7 = some (.if_icmp .gt 19, 3) := by decide +kernel
theorem n_82_10 : pm_ins 82 10 = some (.aload_n 0, 1) := by decide +kernel
theorem n_82_11 : pm_ins 82 11 = some (.getfield 13, 3) := by decide +kernel
theorem n_82_14 : pm_ins 82 14 = some (.iload_n 2, 1) := by decide +kernel
theorem n_82_15 : pm_ins 82 15 = some (.iaload, 1) := by decide +kernel
theorem n_82_16 : pm_ins 82 16 = some (.iload_n 1, 1) := by decide +kernel
theorem n_82_17 : pm_ins 82 17 = some (.iconst 1, 1) := by decide +kernel
theorem n_82_18 : pm_ins 82 18 = some (.iadd, 1) := by decide +kernel
theorem n_82_19 : pm_ins 82 19 = some (.if_icmp .ne 7, 3) := by decide +kernel
theorem n_82_22 : pm_ins 82 22 = some (.iconst 1, 1) := by decide +kernel
theorem n_82_23 : pm_ins 82 23 = some (.goto 4, 3) := by decide +kernel
theorem n_82_26 : pm_ins 82 26 = some (.iconst 0, 1) := by decide +kernel
theorem n_82_27 : pm_ins 82 27 = some (.ireturn, 1) := by decide +kernel
theorem n_83_0 : pm_ins 83 0 = some (.iconst 0, 1) := by decide +kernel
theorem n_83_1 : pm_ins 83 1 = some (.istore_n 2, 1) := by decide +kernel
theorem n_83_2 : pm_ins 83 2 = some (.iconst 0, 1) := by decide +kernel
theorem n_83_3 : pm_ins 83 3 = some (.istore_n 3, 1) := by decide +kernel
theorem n_83_4 : pm_ins 83 4 = some (.iload_n 3, 1) := by decide +kernel
theorem n_83_5 : pm_ins 83 5 = some (.bipush 20, 2) := by decide +kernel
theorem n_83_7 : pm_ins 83 7 = some (.if_icmp .ge 29, 3) := by decide +kernel
theorem n_83_10 : pm_ins 83 10 = some (.iload_n 2, 1) := by decide +kernel
theorem n_83_11 : pm_ins 83 11 = some (.aload_n 0, 1) := by decide +kernel
theorem n_83_12 : pm_ins 83 12 = some (.getfield 13, 3) := by decide +kernel
theorem n_83_15 : pm_ins 83 15 = some (.iload_n 3, 1) := by decide +kernel
theorem n_83_16 : pm_ins 83 16 = some (.iaload, 1) := by decide +kernel
theorem n_83_17 : pm_ins 83 17 = some (.iload_n 1, 1) := by decide +kernel
theorem n_83_18 : pm_ins 83 18 = some (.iconst 1, 1) := by decide +kernel
theorem n_83_19 : pm_ins 83 19 = some (.iadd, 1) := by decide +kernel
theorem n_83_20 : pm_ins 83 20 = some (.if_icmp .ne 7, 3) := by decide +kernel
theorem n_83_23 : pm_ins 83 23 = some (.iconst 1, 1) := by decide +kernel
theorem n_83_24 : pm_ins 83 24 = some (.goto 4, 3) := by decide +kernel
theorem n_83_27 : pm_ins 83 27 = some (.iconst 0, 1) := by decide +kernel
theorem n_83_28 : pm_ins 83 28 = some (.iadd, 1) := by decide +kernel
theorem n_83_29 : pm_ins 83 29 = some (.istore_n 2, 1) := by decide +kernel
theorem n_83_30 : pm_ins 83 30 = some (.iinc 3 1, 3) := by decide +kernel
theorem n_83_33 : pm_ins 83 33 = some (.goto (-29), 3) := by decide +kernel
theorem n_83_36 : pm_ins 83 36 = some (.iload_n 2, 1) := by decide +kernel
theorem n_83_37 : pm_ins 83 37 = some (.ireturn, 1) := by decide +kernel
theorem n_84_0 : pm_ins 84 0 = some (.iconst 0, 1) := by decide +kernel
theorem n_84_1 : pm_ins 84 1 = some (.istore_n 1, 1) := by decide +kernel
theorem n_84_2 : pm_ins 84 2 = some (.iload_n 1, 1) := by decide +kernel
theorem n_84_3 : pm_ins 84 3 = some (.bipush 20, 2) := by decide +kernel
theorem n_84_5 : pm_ins 84 5 = some (.if_icmp .ge 20, 3) := by decide +kernel
theorem n_84_8 : pm_ins 84 8 = some (.aload_n 0, 1) := by decide +kernel
theorem n_84_9 : pm_ins 84 9 = some (.getfield 13, 3) := by decide +kernel
theorem n_84_12 : pm_ins 84 12 = some (.iload_n 1, 1) := by decide +kernel
theorem n_84_13 : pm_ins 84 13 = some (.iaload, 1) := by decide +kernel
theorem n_84_14 : pm_ins 84 14 = some (.ifCond .ne 5, 3) := by decide +kernel
theorem n_84_17 : pm_ins 84 17 = some (.iload_n 1, 1) := by decide +kernel
theorem n_84_18 : pm_ins 84 18 = some (.ireturn, 1) := by decide +kernel
theorem n_84_19 : pm_ins 84 19 = some (.iinc 1 1, 3) := by decide +kernel
theorem n_84_22 : pm_ins 84 22 = some (.goto (-20), 3) := by decide +kernel
theorem n_84_25 : pm_ins 84 25 = some (.iconst (-1), 1) := by decide +kernel
theorem n_84_26 : pm_ins 84 26 = some (.ireturn, 1) := by decide +kernel
theorem n_85_0 : pm_ins 85 0 = some (.iconst 0, 1) := by decide +kernel
theorem n_85_1 : pm_ins 85 1 = some (.istore_n 2, 1) := by decide +kernel
theorem n_85_2 : pm_ins 85 2 = some (.iload_n 2, 1) := by decide +kernel
theorem n_85_3 : pm_ins 85 3 = some (.bipush 6, 2) := by decide +kernel
theorem n_85_5 : pm_ins 85 5 = some (.if_icmp .ge 25, 3) := by decide +kernel
theorem n_85_8 : pm_ins 85 8 = some (.aload_n 0, 1) := by decide +kernel
theorem n_85_9 : pm_ins 85 9 = some (.getfield 19, 3) := by decide +kernel
theorem n_85_12 : pm_ins 85 12 = some (.bipush 6, 2) := by decide +kernel
theorem n_85_14 : pm_ins 85 14 = some (.iload_n 1, 1) := by decide +kernel
theorem n_85_15 : pm_ins 85 15 = some (.imul, 1) := by decide +kernel
theorem n_85_16 : pm_ins 85 16 = some (.iload_n 2, 1) := by decide +kernel
theorem n_85_17 : pm_ins 85 17 = some (.iadd, 1) := by decide +kernel
theorem n_85_18 : pm_ins 85 18 = some (.iaload, 1) := by decide +kernel
theorem n_85_19 : pm_ins 85 19 = some (.ifCond .ne 5, 3) := by decide +kernel
theorem n_85_22 : pm_ins 85 22 = some (.iload_n 2, 1) := by decide +kernel
theorem n_85_23 : pm_ins 85 23 = some (.ireturn, 1) := by decide +kernel
theorem n_85_24 : pm_ins 85 24 = some (.iinc 2 1, 3) := by decide +kernel
theorem n_85_27 : pm_ins 85 27 = some (.goto (-25), 3) := by decide +kernel
theorem n_85_30 : pm_ins 85 30 = some (.iconst (-1), 1) := by decide +kernel
theorem n_85_31 : pm_ins 85 31 = some (.ireturn, 1) := by decide +kernel
theorem n_86_0 : pm_ins 86 0 = some (.iconst 0, 1) := by decide +kernel
theorem n_86_1 : pm_ins 86 1 = some (.istore_n 2, 1) := by decide +kernel
theorem n_86_2 : pm_ins 86 2 = some (.iload_n 2, 1) := by decide +kernel
theorem n_86_3 : pm_ins 86 3 = some (.iconst 5, 1) := by decide +kernel
theorem n_86_4 : pm_ins 86 4 = some (.if_icmp .ge 24, 3) := by decide +kernel
theorem n_86_7 : pm_ins 86 7 = some (.aload_n 0, 1) := by decide +kernel
theorem n_86_8 : pm_ins 86 8 = some (.getfield 28, 3) := by decide +kernel
theorem n_86_11 : pm_ins 86 11 = some (.iconst 5, 1) := by decide +kernel
theorem n_86_12 : pm_ins 86 12 = some (.iload_n 1, 1) := by decide +kernel
theorem n_86_13 : pm_ins 86 13 = some (.imul, 1) := by decide +kernel
theorem n_86_14 : pm_ins 86 14 = some (.iload_n 2, 1) := by decide +kernel
theorem n_86_15 : pm_ins 86 15 = some (.iadd, 1) := by decide +kernel
theorem n_86_16 : pm_ins 86 16 = some (.iaload, 1) := by decide +kernel
theorem n_86_17 : pm_ins 86 17 = some (.ifCond .ne 5, 3) := by decide +kernel
theorem n_86_20 : pm_ins 86 20 = some (.iload_n 2, 1) := by decide +kernel
theorem n_86_21 : pm_ins 86 21 = some (.ireturn, 1) := by decide +kernel
theorem n_86_22 : pm_ins 86 22 = some (.iinc 2 1, 3) := by decide +kernel
theorem n_86_25 : pm_ins 86 25 = some (.goto (-23), 3) := by decide +kernel
theorem n_86_28 : pm_ins 86 28 = some (.iconst (-1), 1) := by decide +kernel
theorem n_86_29 : pm_ins 86 29 = some (.ireturn, 1) := by decide +kernel
theorem n_87_0 : pm_ins 87 0 = some (.iconst 0, 1) := by decide +kernel
theorem n_87_1 : pm_ins 87 1 = some (.istore_n 2, 1) := by decide +kernel
theorem n_87_2 : pm_ins 87 2 = some (.iload_n 2, 1) := by decide +kernel
theorem n_87_3 : pm_ins 87 3 = some (.iconst 4, 1) := by decide +kernel
theorem n_87_4 : pm_ins 87 4 = some (.if_icmp .ge 24, 3) := by decide +kernel
theorem n_87_7 : pm_ins 87 7 = some (.aload_n 0, 1) := by decide +kernel
theorem n_87_8 : pm_ins 87 8 = some (.getfield 35, 3) := by decide +kernel
theorem n_87_11 : pm_ins 87 11 = some (.iconst 4, 1) := by decide +kernel
theorem n_87_12 : pm_ins 87 12 = some (.iload_n 1, 1) := by decide +kernel
theorem n_87_13 : pm_ins 87 13 = some (.imul, 1) := by decide +kernel
theorem n_87_14 : pm_ins 87 14 = some (.iload_n 2, 1) := by decide +kernel
theorem n_87_15 : pm_ins 87 15 = some (.iadd, 1) := by decide +kernel
theorem n_87_16 : pm_ins 87 16 = some (.iaload, 1) := by decide +kernel
theorem n_87_17 : pm_ins 87 17 = some (.ifCond .ne 5, 3) := by decide +kernel
theorem n_87_20 : pm_ins 87 20 = some (.iload_n 2, 1) := by decide +kernel
theorem n_87_21 : pm_ins 87 21 = some (.ireturn, 1) := by decide +kernel
theorem n_87_22 : pm_ins 87 22 = some (.iinc 2 1, 3) := by decide +kernel
theorem n_87_25 : pm_ins 87 25 = some (.goto (-23), 3) := by decide +kernel
theorem n_87_28 : pm_ins 87 28 = some (.iconst (-1), 1) := by decide +kernel
theorem n_87_29 : pm_ins 87 29 = some (.ireturn, 1) := by decide +kernel
theorem n_88_0 : pm_ins 88 0 = some (.iconst 0, 1) := by decide +kernel
theorem n_88_1 : pm_ins 88 1 = some (.istore_n 2, 1) := by decide +kernel
theorem n_88_2 : pm_ins 88 2 = some (.iconst 0, 1) := by decide +kernel
theorem n_88_3 : pm_ins 88 3 = some (.istore_n 3, 1) := by decide +kernel
theorem n_88_4 : pm_ins 88 4 = some (.iload_n 3, 1) := by decide +kernel
theorem n_88_5 : pm_ins 88 5 = some (.bipush 25, 2) := by decide +kernel
theorem n_88_7 : pm_ins 88 7 = some (.if_icmp .ge 29, 3) := by decide +kernel
theorem n_88_10 : pm_ins 88 10 = some (.iload_n 2, 1) := by decide +kernel
theorem n_88_11 : pm_ins 88 11 = some (.aload_n 0, 1) := by decide +kernel
theorem n_88_12 : pm_ins 88 12 = some (.getfield 28, 3) := by decide +kernel
theorem n_88_15 : pm_ins 88 15 = some (.iload_n 3, 1) := by decide +kernel
theorem n_88_16 : pm_ins 88 16 = some (.iaload, 1) := by decide +kernel
theorem n_88_17 : pm_ins 88 17 = some (.iload_n 1, 1) := by decide +kernel
theorem n_88_18 : pm_ins 88 18 = some (.iconst 1, 1) := by decide +kernel
theorem n_88_19 : pm_ins 88 19 = some (.iadd, 1) := by decide +kernel
theorem n_88_20 : pm_ins 88 20 = some (.if_icmp .ne 7, 3) := by decide +kernel
theorem n_88_23 : pm_ins 88 23 = some (.iconst 1, 1) := by decide +kernel
theorem n_88_24 : pm_ins 88 24 = some (.goto 4, 3) := by decide +kernel
theorem n_88_27 : pm_ins 88 27 = some (.iconst 0, 1) := by decide +kernel
theorem n_88_28 : pm_ins 88 28 = some (.iadd, 1) := by decide +kernel
theorem n_88_29 : pm_ins 88 29 = some (.istore_n 2, 1) := by decide +kernel
theorem n_88_30 : pm_ins 88 30 = some (.iinc 3 1, 3) := by decide +kernel
theorem n_88_33 : pm_ins 88 33 = some (.goto (-29), 3) := by decide +kernel
theorem n_88_36 : pm_ins 88 36 = some (.iload_n 2, 1) := by decide +kernel
theorem n_88_37 : pm_ins 88 37 = some (.ireturn, 1) := by decide +kernel
theorem n_89_0 : pm_ins 89 0 = some (.bipush 6, 2) := by decide +kernel
theorem n_89_2 : pm_ins 89 2 = some (.iload_n 1, 1) := by decide +kernel
theorem n_89_3 : pm_ins 89 3 = some (.imul, 1) := by decide +kernel
theorem n_89_4 : pm_ins 89 4 = some (.istore 4, 2) := by decide +kernel
theorem n_89_6 : pm_ins 89 6 = some (.iload 4, 2) := by decide +kernel
theorem n_89_8 : pm_ins 89 8 = some (.bipush 6, 2) := by decide +kernel
theorem n_89_10 : pm_ins 89 10 = some (.iload_n 1, 1) := by decide +kernel
theorem n_89_11 : pm_ins 89 11 = some (.imul, 1) := by decide +kernel
theorem n_89_12 : pm_ins 89 12 = some (.bipush 6, 2) := by decide +kernel
theorem n_89_14 : pm_ins 89 14 = some (.iadd, 1) := by decide +kernel
theorem n_89_15 : pm_ins 89 15 = some (.if_icmp .ge 56, 3) := by decide +kernel
theorem n_89_18 : pm_ins 89 18 = some (.aload_n 0, 1) := by decide +kernel
theorem n_89_19 : pm_ins 89 19 = some (.getfield 19, 3) := by decide +kernel
theorem n_89_22 : pm_ins 89 22 = some (.iload 4, 2) := by decide +kernel
theorem n_89_24 : pm_ins 89 24 = some (.iaload, 1) := by decide +kernel
theorem n_89_25 : pm_ins 89 25 = some (.ifCond .le 40, 3) := by decide +kernel
theorem n_89_28 : pm_ins 89 28 = some (.aload_n 0, 1) := by decide +kernel
theorem n_89_29 : pm_ins 89 29 = some (.getfield 22, 3) := by decide +kernel
theorem n_89_32 : pm_ins 89 32 = some (.iload 4, 2) := by decide +kernel
theorem n_89_34 : pm_ins 89 34 = some (.iaload, 1) := by decide +kernel
theorem n_89_35 : pm_ins 89 35 = some (.iconst 2, 1) := by decide +kernel
theorem n_89_36 : pm_ins 89 36 = some (.if_icmp .ge 29, 3) := by decide +kernel
theorem n_89_39 : pm_ins 89 39 = some (.aload_n 0, 1) := by decide +kernel
theorem n_89_40 : pm_ins 89 40 = some (.getfield 25, 3) := by decide +kernel
theorem n_89_43 : pm_ins 89 43 = some (.iload 4, 2) := by decide +kernel
theorem n_89_45 : pm_ins 89 45 = some (.iaload, 1) := by decide +kernel
theorem n_89_46 : pm_ins 89 46 = some (.iload_n 2, 1) := by decide +kernel
theorem n_89_47 : pm_ins 89 47 = some (.if_icmp .ne 18, 3) := by decide +kernel
theorem n_89_50 : pm_ins 89 50 = some (.iload_n 3, 1) := by decide +kernel
theorem n_89_51 : pm_ins 89 51 = some (.ifCond .eq 12, 3) := by decide +kernel
theorem n_89_54 : pm_ins 89 54 = some (.aload_n 0, 1) := by decide +kernel
theorem n_89_55 : pm_ins 89 55 = some (.iload 4, 2) := by decide +kernel
theorem n_89_57 : pm_ins 89 57 = some (.invokevirtual 83, 3) := by decide +kernel
theorem n_89_60 : pm_ins 89 60 = some (.ifCond .le 5, 3) := by decide +kernel
theorem n_89_63 : pm_ins 89 63 = some (.iconst 1, 1) := by decide +kernel
theorem n_89_64 : pm_ins 89 64 = some (.ireturn, 1) := by decide +kernel
theorem n_89_65 : pm_ins 89 65 = some (.iinc 4 1, 3) := by decide +kernel
theorem n_89_68 : pm_ins 89 68 = some (.goto (-62), 3) := by decide +kernel
theorem n_89_71 : pm_ins 89 71 = some (.iconst 0, 1) := by decide +kernel
theorem n_89_72 : pm_ins 89 72 = some (.ireturn, 1) := by decide +kernel
theorem n_90_0 : pm_ins 90 0 = some (.iconst 0, 1) := by decide +kernel
theorem n_90_1 : pm_ins 90 1 = some (.istore_n 1, 1) := by decide +kernel
theorem n_90_2 : pm_ins 90 2 = some (.iload_n 1, 1) := by decide +kernel
theorem n_90_3 : pm_ins 90 3 = some (.iconst 5, 1) := by decide +kernel
theorem n_90_4 : pm_ins 90 4 = some (.if_icmp .ge 27, 3) := by decide +kernel
theorem n_90_7 : pm_ins 90 7 = some (.aload_n 0, 1) := by decide +kernel
theorem n_90_8 : pm_ins 90 8 = some (.getfield 7, 3) := by decide +kernel
theorem n_90_11 : pm_ins 90 11 = some (.iload_n 1, 1) := by decide +kernel
theorem n_90_12 : pm_ins 90 12 = some (.iaload, 1) := by decide +kernel
theorem n_90_13 : pm_ins 90 13 = some (.ifCond .ne 12, 3) := by decide +kernel
theorem n_90_16 : pm_ins 90 16 = some (.aload_n 0, 1) := by decide +kernel
theorem n_90_17 : pm_ins 90 17 = some (.getfield 7, 3) := by decide +kernel
theorem n_90_20 : pm_ins 90 20 = some (.iload_n 1, 1) := by decide +kernel
theorem n_90_21 : pm_ins 90 21 = some (.iconst 1, 1) := by decide +kernel
theorem n_90_22 : pm_ins 90 22 = some (.iastore, 1) := by decide +kernel
theorem n_90_23 : pm_ins 90 23 = some (.iload_n 1, 1) := by decide +kernel
theorem n_90_24 : pm_ins 90 24 = some (.ireturn, 1) := by decide +kernel
theorem n_90_25 : pm_ins 90 25 = some (.iinc 1 1, 3) := by decide +kernel
theorem n_90_28 : pm_ins 90 28 = some (.goto (-26), 3) := by decide +kernel
theorem n_90_31 : pm_ins 90 31 = some (.bipush (-7), 2) := by decide +kernel
theorem n_90_33 : pm_ins 90 33 = some (.ireturn, 1) := by decide +kernel
theorem n_91_0 : pm_ins 91 0 = some (.aload_n 0, 1) := by decide +kernel
theorem n_91_1 : pm_ins 91 1 = some (.getfield 28, 3) := by decide +kernel
theorem n_91_4 : pm_ins 91 4 = some (.iload_n 1, 1) := by decide +kernel
theorem n_91_5 : pm_ins 91 5 = some (.iaload, 1) := by decide +kernel
theorem n_91_6 : pm_ins 91 6 = some (.iconst 1, 1) := by decide +kernel
theorem n_91_7 : pm_ins 91 7 = some (.isub, 1) := by decide +kernel
theorem n_91_8 : pm_ins 91 8 = some (.istore_n 2, 1) := by decide +kernel
theorem n_91_9 : pm_ins 91 9 = some (.aload_n 0, 1) := by decide +kernel
theorem n_91_10 : pm_ins 91 10 = some (.getfield 28, 3) := by decide +kernel
theorem n_91_13 : pm_ins 91 13 = some (.iload_n 1, 1) := by decide +kernel
theorem n_91_14 : pm_ins 91 14 = some (.iconst 0, 1) := by decide +kernel
theorem n_91_15 : pm_ins 91 15 = some (.iastore, 1) := by decide +kernel
theorem n_91_16 : pm_ins 91 16 = some (.iload_n 2, 1) := by decide +kernel
theorem n_91_17 : pm_ins 91 17 = some (.bipush 6, 2) := by decide +kernel
theorem n_91_19 : pm_ins 91 19 = some (.idiv, 1) := by decide +kernel
theorem n_91_20 : pm_ins 91 20 = some (.istore_n 3, 1) := by decide +kernel
theorem n_91_21 : pm_ins 91 21 = some (.aload_n 0, 1) := by decide +kernel
theorem n_91_22 : pm_ins 91 22 = some (.getfield 7, 3) := by decide +kernel
theorem n_91_25 : pm_ins 91 25 = some (.iload_n 3, 1) := by decide +kernel
theorem n_91_26 : pm_ins 91 26 = some (.iaload, 1) := by decide +kernel
theorem n_91_27 : pm_ins 91 27 = some (.iconst 2, 1) := by decide +kernel
theorem n_91_28 : pm_ins 91 28 = some (.if_icmp .ne 11, 3) := by decide +kernel
theorem n_91_31 : pm_ins 91 31 = some (.aload_n 0, 1) := by decide +kernel
theorem n_91_32 : pm_ins 91 32 = some (.iload_n 2, 1) := by decide +kernel
theorem n_91_33 : pm_ins 91 33 = some (.invokevirtual 83, 3) := by decide +kernel
theorem n_91_36 : pm_ins 91 36 = some (.ifCond .le 4, 3) := by decide +kernel
theorem n_91_39 : pm_ins 91 39 = some (.return_, 1) := by decide +kernel
theorem n_91_40 : pm_ins 91 40 = some (.aload_n 0, 1) := by decide +kernel
theorem n_91_41 : pm_ins 91 41 = some (.getfield 19, 3) := by decide +kernel
theorem n_91_44 : pm_ins 91 44 = some (.iload_n 2, 1) := by decide +kernel
theorem n_91_45 : pm_ins 91 45 = some (.iconst 0, 1) := by decide +kernel
theorem n_91_46 : pm_ins 91 46 = some (.iastore, 1) := by decide +kernel
theorem n_91_47 : pm_ins 91 47 = some (.aload_n 0, 1) := by decide +kernel
theorem n_91_48 : pm_ins 91 48 = some (.iload_n 3, 1) := by decide +kernel
theorem n_91_49 : pm_ins 91 49 = some (.aload_n 0, 1) := by decide +kernel
theorem n_91_50 : pm_ins 91 50 = some (.getfield 25, 3) := by decide +kernel
theorem n_91_53 : pm_ins 91 53 = some (.iload_n 2, 1) := by decide +kernel
theorem n_91_54 : pm_ins 91 54 = some (.iaload, 1) := by decide +kernel
theorem n_91_55 : pm_ins 91 55 = some (.iconst 1, 1) := by decide +kernel
theorem n_91_56 : pm_ins 91 56 = some (.invokevirtual 87, 3) := by decide +kernel
theorem n_91_59 : pm_ins 91 59 = some (.ifCond .ne 15, 3) := by decide +kernel
theorem n_91_62 : pm_ins 91 62 = some (.aload_n 0, 1) := by decide +kernel
theorem n_91_63 : pm_ins 91 63 = some (.getfield 13, 3) := by decide +kernel
theorem n_91_66 : pm_ins 91 66 = some (.aload_n 0, 1) := by decide +kernel
theorem n_91_67 : pm_ins 91 67 = some (.getfield 25, 3) := by decide +kernel
theorem n_91_70 : pm_ins 91 70 = some (.iload_n 2, 1) := by decide +kernel
theorem n_91_71 : pm_ins 91 71 = some (.iaload, 1) := by decide +kernel
theorem n_91_72 : pm_ins 91 72 = some (.iconst 0, 1) := by decide +kernel
theorem n_91_73 : pm_ins 91 73 = some (.iastore, 1) := by decide +kernel
theorem n_91_74 : pm_ins 91 74 = some (.aload_n 0, 1) := by decide +kernel
theorem n_91_75 : pm_ins 91 75 = some (.iload_n 3, 1) := by decide +kernel
theorem n_91_76 : pm_ins 91 76 = some (.invokevirtual 91, 3) := by decide +kernel
theorem n_91_79 : pm_ins 91 79 = some (.ifCond .ne 10, 3) := by decide +kernel
theorem n_91_82 : pm_ins 91 82 = some (.aload_n 0, 1) := by decide +kernel
theorem n_91_83 : pm_ins 91 83 = some (.getfield 7, 3) := by decide +kernel
theorem n_91_86 : pm_ins 91 86 = some (.iload_n 3, 1) := by decide +kernel
theorem n_91_87 : pm_ins 91 87 = some (.iconst 0, 1) := by decide +kernel
theorem n_91_88 : pm_ins 91 88 = some (.iastore, 1) := by decide +kernel
theorem n_91_89 : pm_ins 91 89 = some (.return_, 1) := by decide +kernel
theorem n_92_0 : pm_ins 92 0 = some (.aload_n 0, 1) := by decide +kernel
theorem n_92_1 : pm_ins 92 1 = some (.getfield 35, 3) := by decide +kernel
theorem n_92_4 : pm_ins 92 4 = some (.iload_n 1, 1) := by decide +kernel
theorem n_92_5 : pm_ins 92 5 = some (.iconst 0, 1) := by decide +kernel
theorem n_92_6 : pm_ins 92 6 = some (.iastore, 1) := by decide +kernel
theorem n_92_7 : pm_ins 92 7 = some (.aload_n 0, 1) := by decide +kernel
theorem n_92_8 : pm_ins 92 8 = some (.getfield 41, 3) := by decide +kernel
theorem n_92_11 : pm_ins 92 11 = some (.iload_n 1, 1) := by decide +kernel
theorem n_92_12 : pm_ins 92 12 = some (.iconst 0, 1) := by decide +kernel
theorem n_92_13 : pm_ins 92 13 = some (.bastore, 1) := by decide +kernel
theorem n_92_14 : pm_ins 92 14 = some (.return_, 1) := by decide +kernel
theorem n_93_0 : pm_ins 93 0 = some (.aload_n 0, 1) := by decide +kernel
theorem n_93_1 : pm_ins 93 1 = some (.iload_n 1, 1) := by decide +kernel
theorem n_93_2 : pm_ins 93 2 = some (.invokevirtual 94, 3) := by decide +kernel
theorem n_93_5 : pm_ins 93 5 = some (.ifCond .ne 5, 3) := by decide +kernel
theorem n_93_8 : pm_ins 93 8 = some (.iconst (-1), 1) := by decide +kernel
theorem n_93_9 : pm_ins 93 9 = some (.ireturn, 1) := by decide +kernel
theorem n_93_10 : pm_ins 93 10 = some (.iconst 0, 1) := by decide +kernel
theorem n_93_11 : pm_ins 93 11 = some (.istore_n 2, 1) := by decide +kernel
theorem n_93_12 : pm_ins 93 12 = some (.iload_n 2, 1) := by decide +kernel
theorem n_93_13 : pm_ins 93 13 = some (.iconst 3, 1) := by decide +kernel
theorem n_93_14 : pm_ins 93 14 = some (.if_icmp .ge 47, 3) := by decide +kernel
theorem n_93_17 : pm_ins 93 17 = some (.aload_n 0, 1) := by decide +kernel
theorem n_93_18 : pm_ins 93 18 = some (.getfield 44, 3) := by decide +kernel
theorem n_93_21 : pm_ins 93 21 = some (.iload_n 2, 1) := by decide +kernel
theorem n_93_22 : pm_ins 93 22 = some (.iaload, 1) := by decide +kernel
theorem n_93_23 : pm_ins 93 23 = some (.ifCond .le 32, 3) := by decide +kernel
theorem n_93_26 : pm_ins 93 26 = some (.aload_n 0, 1) := by decide +kernel
theorem n_93_27 : pm_ins 93 27 = some (.getfield 44, 3) := by decide +kernel
theorem n_93_30 : pm_ins 93 30 = some (.iload_n 2, 1) := by decide +kernel
theorem n_93_31 : pm_ins 93 31 = some (.iaload, 1) := by decide +kernel
theorem n_93_32 : pm_ins 93 32 = some (.iload_n 1, 1) := by decide +kernel
theorem n_93_33 : pm_ins 93 33 = some (.iconst 1, 1) := by decide +kernel
theorem n_93_34 : pm_ins 93 34 = some (.iadd, 1) := by decide +kernel
theorem n_93_35 : pm_ins 93 35 = some (.if_icmp .eq 13, 3) := by decide +kernel
theorem n_93_38 : pm_ins 93 38 = some (.aload_n 0, 1) := by decide +kernel
theorem n_93_39 : pm_ins 93 39 = some (.getfield 47, 3) := by decide +kernel
theorem n_93_42 : pm_ins 93 42 = some (.iload_n 2, 1) := by decide +kernel
theorem n_93_43 : pm_ins 93 43 = some (.iaload, 1) := by decide +kernel
theorem n_93_44 : pm_ins 93 44 = some (.iload_n 1, 1) := by decide +kernel
theorem n_93_45 : pm_ins 93 45 = some (.if_icmp .ne 10, 3) := by decide +kernel
theorem n_93_48 : pm_ins 93 48 = some (.aload_n 0, 1) := by decide +kernel
theorem n_93_49 : pm_ins 93 49 = some (.getfield 44, 3) := by decide +kernel
theorem n_93_52 : pm_ins 93 52 = some (.iload_n 2, 1) := by decide +kernel
theorem n_93_53 : pm_ins 93 53 = some (.iconst 0, 1) := by decide +kernel
theorem n_93_54 : pm_ins 93 54 = some (.iastore, 1) := by decide +kernel
theorem n_93_55 : pm_ins 93 55 = some (.iinc 2 1, 3) := by decide +kernel
theorem n_93_58 : pm_ins 93 58 = some (.goto (-46), 3) := by decide +kernel
theorem n_93_61 : pm_ins 93 61 = some (.iconst 5, 1) := by decide +kernel
theorem n_93_62 : pm_ins 93 62 = some (.iload_n 1, 1) := by decide +kernel
theorem n_93_63 : pm_ins 93 63 = some (.imul, 1) := by decide +kernel
theorem n_93_64 : pm_ins 93 64 = some (.istore_n 2, 1) := by decide +kernel
theorem n_93_65 : pm_ins 93 65 = some (.iload_n 2, 1) := by decide +kernel
theorem n_93_66 : pm_ins 93 66 = some (.iconst 5, 1) := by decide +kernel
theorem n_93_67 : pm_ins 93 67 = some (.iload_n 1, 1) := by decide +kernel
theorem n_93_68 : pm_ins 93 68 = some (.imul, 1) := by decide +kernel
theorem n_93_69 : pm_ins 93 69 = some (.iconst 5, 1) := by decide +kernel
theorem n_93_70 : pm_ins 93 70 = some (.iadd, 1) := by decide +kernel
theorem n_93_71 : pm_ins 93 71 = some (.if_icmp .ge 23, 3) := by decide +kernel
theorem n_93_74 : pm_ins 93 74 = some (.aload_n 0, 1) := by decide +kernel
theorem n_93_75 : pm_ins 93 75 = some (.getfield 28, 3) := by decide +kernel
theorem n_93_78 : pm_ins 93 78 = some (.iload_n 2, 1) := by decide +kernel
theorem n_93_79 : pm_ins 93 79 = some (.iaload, 1) := by decide +kernel
theorem n_93_80 : pm_ins 93 80 = some (.ifCond .le 8, 3) := by decide +kernel
theorem n_93_83 : pm_ins 93 83 = some (.aload_n 0, 1) := by decide +kernel
theorem n_93_84 : pm_ins 93 84 = some (.iload_n 2, 1) := by decide +kernel
theorem n_93_85 : pm_ins 93 85 = some (.invokevirtual 98, 3) := by decide +kernel
theorem n_93_88 : pm_ins 93 88 = some (.iinc 2 1, 3) := by decide +kernel
theorem n_93_91 : pm_ins 93 91 = some (.goto (-26), 3) := by decide +kernel
theorem n_93_94 : pm_ins 93 94 = some (.iconst 4, 1) := by decide +kernel
theorem n_93_95 : pm_ins 93 95 = some (.iload_n 1, 1) := by decide +kernel
theorem n_93_96 : pm_ins 93 96 = some (.imul, 1) := by decide +kernel
theorem n_93_97 : pm_ins 93 97 = some (.istore_n 2, 1) := by decide +kernel
theorem n_93_98 : pm_ins 93 98 = some (.iload_n 2, 1) := by decide +kernel
theorem n_93_99 : pm_ins 93 99 = some (.iconst 4, 1) := by decide +kernel
theorem n_93_100 : pm_ins 93 100 = some (.iload_n 1, 1) := by decide +kernel
theorem n_93_101 : pm_ins 93 101 = some (.imul, 1) := by decide +kernel
theorem n_93_102 : pm_ins 93 102 = some (.iconst 4, 1) := by decide +kernel
theorem n_93_103 : pm_ins 93 103 = some (.iadd, 1) := by decide +kernel
theorem n_93_104 : pm_ins 93 104 = some (.if_icmp .ge 34, 3) := by decide +kernel
theorem n_93_107 : pm_ins 93 107 = some (.aload_n 0, 1) := by decide +kernel
theorem n_93_108 : pm_ins 93 108 = some (.getfield 35, 3) := by decide +kernel
theorem n_93_111 : pm_ins 93 111 = some (.iload_n 2, 1) := by decide +kernel
theorem n_93_112 : pm_ins 93 112 = some (.iaload, 1) := by decide +kernel
theorem n_93_113 : pm_ins 93 113 = some (.iconst 2, 1) := by decide +kernel
theorem n_93_114 : pm_ins 93 114 = some (.if_icmp .ne 13, 3) := by decide +kernel
theorem n_93_117 : pm_ins 93 117 = some (.aload_n 0, 1) := by decide +kernel
theorem n_93_118 : pm_ins 93 118 = some (.aload_n 0, 1) := by decide +kernel
theorem n_93_119 : pm_ins 93 119 = some (.getfield 38, 3) := by decide +kernel
theorem n_93_122 : pm_ins 93 122 = some (.iload_n 2, 1) := by decide +kernel
theorem n_93_123 : pm_ins 93 123 = some (.iaload, 1) := by decide +kernel
theorem n_93_124 : pm_ins 93 124 = some (.invokevirtual 102, 3) := by decide +kernel
theorem n_93_127 : pm_ins 93 127 = some (.aload_n 0, 1) := by decide +kernel
theorem n_93_128 : pm_ins 93 128 = some (.iload_n 2, 1) := by decide +kernel
theorem n_93_129 : pm_ins 93 129 = some (.invokevirtual 102, 3) := by decide +kernel
theorem n_93_132 : pm_ins 93 132 = some (.iinc 2 1, 3) := by decide +kernel
theorem n_93_135 : pm_ins 93 135 = some (.goto (-37), 3) := by decide +kernel
theorem n_93_138 : pm_ins 93 138 = some (.bipush 6, 2) := by decide +kernel
theorem n_93_140 : pm_ins 93 140 = some (.iload_n 1, 1) := by decide +kernel
theorem n_93_141 : pm_ins 93 141 = some (.imul, 1) := by decide +kernel
theorem n_93_142 : pm_ins 93 142 = some (.istore_n 2, 1) := by decide +kernel
theorem n_93_143 : pm_ins 93 143 = some (.iload_n 2, 1) := by decide +kernel
theorem n_93_144 : pm_ins 93 144 = some (.bipush 6, 2) := by decide +kernel
theorem n_93_146 : pm_ins 93 146 = some (.iload_n 1, 1) := by decide +kernel
theorem n_93_147 : pm_ins 93 147 = some (.imul, 1) := by decide +kernel
theorem n_93_148 : pm_ins 93 148 = some (.bipush 6, 2) := by decide +kernel
theorem n_93_150 : pm_ins 93 150 = some (.iadd, 1) := by decide +kernel
theorem n_93_151 : pm_ins 93 151 = some (.if_icmp .ge 24, 3) := by decide +kernel
theorem n_93_154 : pm_ins 93 154 = some (.aload_n 0, 1) := by decide +kernel
theorem n_93_155 : pm_ins 93 155 = some (.iload_n 2, 1) := by decide +kernel
theorem n_93_156 : pm_ins 93 156 = some (.invokevirtual 83, 3) := by decide +kernel
theorem n_93_159 : pm_ins 93 159 = some (.ifCond .ne 10, 3) := by decide +kernel
theorem n_93_162 : pm_ins 93 162 = some (.aload_n 0, 1) := by decide +kernel
theorem n_93_163 : pm_ins 93 163 = some (.getfield 19, 3) := by decide +kernel
theorem n_93_166 : pm_ins 93 166 = some (.iload_n 2, 1) := by decide +kernel
theorem n_93_167 : pm_ins 93 167 = some (.iconst 0, 1) := by decide +kernel
theorem n_93_168 : pm_ins 93 168 = some (.iastore, 1) := by decide +kernel
theorem n_93_169 : pm_ins 93 169 = some (.iinc 2 1, 3) := by decide +kernel
theorem n_93_172 : pm_ins 93 172 = some (.goto (-29), 3) := by decide +kernel
theorem n_93_175 : pm_ins 93 175 = some (.iconst 0, 1) := by decide +kernel
theorem n_93_176 : pm_ins 93 176 = some (.istore_n 2, 1) := by decide +kernel
theorem n_93_177 : pm_ins 93 177 = some (.iload_n 2, 1) := by decide +kernel
theorem n_93_178 : pm_ins 93 178 = some (.bipush 20, 2) := by decide +kernel
theorem n_93_180 : pm_ins 93 180 = some (.if_icmp .ge 35, 3) := by decide +kernel
theorem n_93_183 : pm_ins 93 183 = some (.aload_n 0, 1) := by decide +kernel
theorem n_93_184 : pm_ins 93 184 = some (.iload_n 1, 1) := by decide +kernel
theorem n_93_185 : pm_ins 93 185 = some (.iload_n 2, 1) := by decide +kernel
theorem n_93_186 : pm_ins 93 186 = some (.invokevirtual 105, 3) := by decide +kernel
theorem n_93_189 : pm_ins 93 189 = some (.ifCond .eq 20, 3) := by decide +kernel
theorem n_93_192 : pm_ins 93 192 = some (.aload_n 0, 1) := by decide +kernel
theorem n_93_193 : pm_ins 93 193 = some (.iload_n 1, 1) := by decide +kernel
theorem n_93_194 : pm_ins 93 194 = some (.iload_n 2, 1) := by decide +kernel
theorem n_93_195 : pm_ins 93 195 = some (.iconst 1, 1) := by decide +kernel
theorem n_93_196 : pm_ins 93 196 = some (.invokevirtual 87, 3) := by decide +kernel
theorem n_93_199 : pm_ins 93 199 = some (.ifCond .ne 10, 3) := by decide +kernel
theorem n_93_202 : pm_ins 93 202 = some (.aload_n 0, 1) := by decide +kernel
theorem n_93_203 : pm_ins 93 203 = some (.getfield 13, 3) := by decide +kernel
theorem n_93_206 : pm_ins 93 206 = some (.iload_n 2, 1) := by decide +kernel
theorem n_93_207 : pm_ins 93 207 = some (.iconst 0, 1) := by decide +kernel
theorem n_93_208 : pm_ins 93 208 = some (.iastore, 1) := by decide +kernel
theorem n_93_209 : pm_ins 93 209 = some (.iinc 2 1, 3) := by decide +kernel
theorem n_93_212 : pm_ins 93 212 = some (.goto (-35), 3) := by decide +kernel
theorem n_93_215 : pm_ins 93 215 = some (.aload_n 0, 1) := by decide +kernel
theorem n_93_216 : pm_ins 93 216 = some (.getfield 7, 3) := by decide +kernel
theorem n_93_219 : pm_ins 93 219 = some (.iload_n 1, 1) := by decide +kernel
theorem n_93_220 : pm_ins 93 220 = some (.aload_n 0, 1) := by decide +kernel
theorem n_93_221 : pm_ins 93 221 = some (.iload_n 1, 1) := by decide +kernel
theorem n_93_222 : pm_ins 93 222 = some (.invokevirtual 91, 3) := by decide +kernel
theorem n_93_225 : pm_ins 93 225 = some (.ifCond .le 7, 3) := by decide +kernel
theorem n_93_228 : pm_ins 93 228 = some (.iconst 2, 1) := by decide +kernel
theorem n_93_229 : pm_ins 93 229 = some (.goto 4, 3) := by decide +kernel
theorem n_93_232 : pm_ins 93 232 = some (.iconst 0, 1) := by decide +kernel
theorem n_93_233 : pm_ins 93 233 = some (.iastore, 1) := by decide +kernel
theorem n_93_234 : pm_ins 93 234 = some (.iconst 0, 1) := by decide +kernel
theorem n_93_235 : pm_ins 93 235 = some (.ireturn, 1) := by decide +kernel
theorem n_94_0 : pm_ins 94 0 = some (.aload_n 0, 1) := by decide +kernel
theorem n_94_1 : pm_ins 94 1 = some (.iload_n 1, 1) := by decide +kernel
theorem n_94_2 : pm_ins 94 2 = some (.invokevirtual 94, 3) := by decide +kernel
theorem n_94_5 : pm_ins 94 5 = some (.ifCond .ne 5, 3) := by decide +kernel
theorem n_94_8 : pm_ins 94 8 = some (.iconst (-1), 1) := by decide +kernel
theorem n_94_9 : pm_ins 94 9 = some (.ireturn, 1) := by decide +kernel
theorem n_94_10 : pm_ins 94 10 = some (.aload_n 0, 1) := by decide +kernel
theorem n_94_11 : pm_ins 94 11 = some (.invokevirtual 109, 3) := by decide +kernel
theorem n_94_14 : pm_ins 94 14 = some (.istore_n 2, 1) := by decide +kernel
theorem n_94_15 : pm_ins 94 15 = some (.iload_n 2, 1) := by decide +kernel
theorem n_94_16 : pm_ins 94 16 = some (.ifCond .lt 13, 3) := by decide +kernel
theorem n_94_19 : pm_ins 94 19 = some (.aload_n 0, 1) := by decide +kernel
theorem n_94_20 : pm_ins 94 20 = some (.iload_n 1, 1) := by decide +kernel
theorem n_94_21 : pm_ins 94 21 = some (.invokevirtual 91, 3) := by decide +kernel
theorem n_94_24 : pm_ins 94 24 = some (.bipush 6, 2) := by decide +kernel
theorem n_94_26 : pm_ins 94 26 = some (.if_icmp .lt 6, 3) := by decide +kernel
theorem n_94_29 : pm_ins 94 29 = some (.bipush (-7), 2) := by decide +kernel
theorem n_94_31 : pm_ins 94 31 = some (.ireturn, 1) := by decide +kernel
theorem n_94_32 : pm_ins 94 32 = some (.aload_n 0, 1) := by decide +kernel
theorem n_94_33 : pm_ins 94 33 = some (.getfield 13, 3) := by decide +kernel
theorem n_94_36 : pm_ins 94 36 = some (.iload_n 2, 1) := by decide +kernel
theorem n_94_37 : pm_ins 94 37 = some (.iload_n 1, 1) := by decide +kernel
theorem n_94_38 : pm_ins 94 38 = some (.iconst 1, 1) := by decide +kernel
theorem n_94_39 : pm_ins 94 39 = some (.iadd, 1) := by decide +kernel
theorem n_94_40 : pm_ins 94 40 = some (.iastore, 1) := by decide +kernel
theorem n_94_41 : pm_ins 94 41 = some (.iconst 0, 1) := by decide +kernel
theorem n_94_42 : pm_ins 94 42 = some (.istore_n 3, 1) := by decide +kernel
theorem n_94_43 : pm_ins 94 43 = some (.iload_n 3, 1) := by decide +kernel
theorem n_94_44 : pm_ins 94 44 = some (.bipush 8, 2) := by decide +kernel
theorem n_94_46 : pm_ins 94 46 = some (.if_icmp .ge 21, 3) := by decide +kernel
theorem n_94_49 : pm_ins 94 49 = some (.aload_n 0, 1) := by decide +kernel
theorem n_94_50 : pm_ins 94 50 = some (.getfield 16, 3) := by decide +kernel
theorem n_94_53 : pm_ins 94 53 = some (.bipush 8, 2) := by decide +kernel
theorem n_94_55 : pm_ins 94 55 = some (.iload_n 2, 1) := by decide +kernel
theorem n_94_56 : pm_ins 94 56 = some (.imul, 1) := by decide +kernel
theorem n_94_57 : pm_ins 94 57 = some (.iload_n 3, 1) := by decide +kernel
theorem n_94_58 : pm_ins 94 58 = some (.iadd, 1) := by decide +kernel
theorem n_94_59 : pm_ins 94 59 = some (.iconst 0, 1) := by decide +kernel
theorem n_94_60 : pm_ins 94 60 = some (.iastore, 1) := by decide +kernel
theorem n_94_61 : pm_ins 94 61 = some (.iinc 3 1, 3) := by decide +kernel
theorem n_94_64 : pm_ins 94 64 = some (.goto (-21), 3) := by decide +kernel
theorem n_94_67 : pm_ins 94 67 = some (.iload_n 2, 1) := by decide +kernel
theorem n_94_68 : pm_ins 94 68 = some (.ireturn, 1) := by decide +kernel
theorem n_95_0 : pm_ins 95 0 = some (.aload_n 0, 1) := by decide +kernel
theorem n_95_1 : pm_ins 95 1 = some (.iload_n 1, 1) := by decide +kernel
theorem n_95_2 : pm_ins 95 2 = some (.invokevirtual 94, 3) := by decide +kernel
theorem n_95_5 : pm_ins 95 5 = some (.ifCond .ne 5, 3) := by decide +kernel
theorem n_95_8 : pm_ins 95 8 = some (.iconst (-1), 1) := by decide +kernel
theorem n_95_9 : pm_ins 95 9 = some (.ireturn, 1) := by decide +kernel
theorem n_95_10 : pm_ins 95 10 = some (.aload_n 0, 1) := by decide +kernel
theorem n_95_11 : pm_ins 95 11 = some (.iload_n 1, 1) := by decide +kernel
theorem n_95_12 : pm_ins 95 12 = some (.iload_n 2, 1) := by decide +kernel
theorem n_95_13 : pm_ins 95 13 = some (.invokevirtual 105, 3) := by decide +kernel
theorem n_95_16 : pm_ins 95 16 = some (.ifCond .ne 6, 3) := by decide +kernel
theorem n_95_19 : pm_ins 95 19 = some (.bipush (-3), 2) := by decide +kernel
theorem n_95_21 : pm_ins 95 21 = some (.ireturn, 1) := by decide +kernel
theorem n_95_22 : pm_ins 95 22 = some (.aload_n 0, 1) := by decide +kernel
theorem n_95_23 : pm_ins 95 23 = some (.iload_n 1, 1) := by decide +kernel
theorem n_95_24 : pm_ins 95 24 = some (.iload_n 2, 1) := by decide +kernel
theorem n_95_25 : pm_ins 95 25 = some (.iconst 0, 1) := by decide +kernel
theorem n_95_26 : pm_ins 95 26 = some (.invokevirtual 87, 3) := by decide +kernel
theorem n_95_29 : pm_ins 95 29 = some (.ifCond .eq 6, 3) := by decide +kernel
theorem n_95_32 : pm_ins 95 32 = some (.bipush (-4), 2) := by decide +kernel
theorem n_95_34 : pm_ins 95 34 = some (.ireturn, 1) := by decide +kernel
theorem n_95_35 : pm_ins 95 35 = some (.aload_n 0, 1) := by decide +kernel
theorem n_95_36 : pm_ins 95 36 = some (.getfield 13, 3) := by decide +kernel
theorem n_95_39 : pm_ins 95 39 = some (.iload_n 2, 1) := by decide +kernel
theorem n_95_40 : pm_ins 95 40 = some (.iconst 0, 1) := by decide +kernel
theorem n_95_41 : pm_ins 95 41 = some (.iastore, 1) := by decide +kernel
theorem n_95_42 : pm_ins 95 42 = some (.iconst 0, 1) := by decide +kernel
theorem n_95_43 : pm_ins 95 43 = some (.ireturn, 1) := by decide +kernel
theorem n_96_0 : pm_ins 96 0 = some (.aload_n 0, 1) := by decide +kernel
theorem n_96_1 : pm_ins 96 1 = some (.iload_n 1, 1) := by decide +kernel
theorem n_96_2 : pm_ins 96 2 = some (.invokevirtual 94, 3) := by decide +kernel
theorem n_96_5 : pm_ins 96 5 = some (.ifCond .ne 5, 3) := by decide +kernel
theorem n_96_8 : pm_ins 96 8 = some (.iconst (-1), 1) := by decide +kernel
theorem n_96_9 : pm_ins 96 9 = some (.ireturn, 1) := by decide +kernel
theorem n_96_10 : pm_ins 96 10 = some (.iload_n 2, 1) := by decide +kernel
theorem n_96_11 : pm_ins 96 11 = some (.ifCond .lt 24, 3) := by decide +kernel
theorem n_96_14 : pm_ins 96 14 = some (.iload_n 2, 1) := by decide +kernel
theorem n_96_15 : pm_ins 96 15 = some (.iconst 4, 1) := by decide +kernel
theorem n_96_16 : pm_ins 96 16 = some (.if_icmp .gt 19, 3) := by decide +kernel
theorem n_96_19 : pm_ins 96 19 = some (.iload_n 2, 1) := by decide +kernel
theorem n_96_20 : pm_ins 96 20 = some (.iload_n 1, 1) := by decide +kernel
theorem n_96_21 : pm_ins 96 21 = some (.if_icmp .eq 14, 3) := by decide +kernel
theorem n_96_24 : pm_ins 96 24 = some (.iload 4, 2) := by decide +kernel
theorem n_96_26 : pm_ins 96 26 = some (.ifCond .lt 9, 3) := by decide +kernel
theorem n_96_29 : pm_ins 96 29 = some (.iload 4, 2) := by decide +kernel
theorem n_96_31 : pm_ins 96 31 = some (.iconst 2, 1) := by decide +kernel
theorem n_96_32 : pm_ins 96 32 = some (.if_icmp .le 6, 3) := by decide +kernel
theorem n_96_35 : pm_ins 96 35 = some (.bipush (-2), 2) := by decide +kernel
theorem n_96_37 : pm_ins 96 37 = some (.ireturn, 1) := by decide +kernel
theorem n_96_38 : pm_ins 96 38 = some (.iload 4, 2) := by decide +kernel
theorem n_96_40 : pm_ins 96 40 = some (.iconst 2, 1) := by decide +kernel
theorem n_96_41 : pm_ins 96 41 = some (.if_icmp .ge 15, 3) := by decide +kernel
theorem n_96_44 : pm_ins 96 44 = some (.aload_n 0, 1) := by decide +kernel
theorem n_96_45 : pm_ins 96 45 = some (.iload_n 1, 1) := by decide +kernel
theorem n_96_46 : pm_ins 96 46 = some (.iload_n 3, 1) := by decide +kernel
theorem n_96_47 : pm_ins 96 47 = some (.invokevirtual 105, 3) := by decide +kernel
theorem n_96_50 : pm_ins 96 50 = some (.ifCond .ne 6, 3) := by decide +kernel
theorem n_96_53 : pm_ins 96 53 = some (.bipush (-3), 2) := by decide +kernel
theorem n_96_55 : pm_ins 96 55 = some (.ireturn, 1) := by decide +kernel
theorem n_96_56 : pm_ins 96 56 = some (.aload_n 0, 1) := by decide +kernel
theorem n_96_57 : pm_ins 96 57 = some (.iload_n 1, 1) := by decide +kernel
theorem n_96_58 : pm_ins 96 58 = some (.invokevirtual 113, 3) := by decide +kernel
theorem n_96_61 : pm_ins 96 61 = some (.istore 5, 2) := by decide +kernel
theorem n_96_63 : pm_ins 96 63 = some (.iload 5, 2) := by decide +kernel
theorem n_96_65 : pm_ins 96 65 = some (.ifCond .ge 6, 3) := by decide +kernel
theorem n_96_68 : pm_ins 96 68 = some (.bipush (-7), 2) := by decide +kernel
theorem n_96_70 : pm_ins 96 70 = some (.ireturn, 1) := by decide +kernel
theorem n_96_71 : pm_ins 96 71 = some (.aload_n 0, 1) := by decide +kernel
theorem n_96_72 : pm_ins 96 72 = some (.getfield 19, 3) := by decide +kernel
theorem n_96_75 : pm_ins 96 75 = some (.bipush 6, 2) := by decide +kernel
theorem n_96_77 : pm_ins 96 77 = some (.iload_n 1, 1) := by decide +kernel
theorem n_96_78 : pm_ins 96 78 = some (.imul, 1) := by decide +kernel
theorem n_96_79 : pm_ins 96 79 = some (.iload 5, 2) := by decide +kernel
theorem n_96_81 : pm_ins 96 81 = some (.iadd, 1) := by decide +kernel
theorem n_96_82 : pm_ins 96 82 = some (.iload_n 2, 1) := by decide +kernel
theorem n_96_83 : pm_ins 96 83 = some (.iconst 1, 1) := by decide +kernel
theorem n_96_84 : pm_ins 96 84 = some (.iadd, 1) := by decide +kernel
theorem n_96_85 : pm_ins 96 85 = some (.iastore, 1) := by decide +kernel
theorem n_96_86 : pm_ins 96 86 = some (.aload_n 0, 1) := by decide +kernel
theorem n_96_87 : pm_ins 96 87 = some (.getfield 22, 3) := by decide +kernel
theorem n_96_90 : pm_ins 96 90 = some (.bipush 6, 2) := by decide +kernel
theorem n_96_92 : pm_ins 96 92 = some (.iload_n 1, 1) := by decide +kernel
theorem n_96_93 : pm_ins 96 93 = some (.imul, 1) := by decide +kernel
theorem n_96_94 : pm_ins 96 94 = some (.iload 5, 2) := by decide +kernel
theorem n_96_96 : pm_ins 96 96 = some (.iadd, 1) := by decide +kernel
theorem n_96_97 : pm_ins 96 97 = some (.iload 4, 2) := by decide +kernel
theorem n_96_99 : pm_ins 96 99 = some (.iastore, 1) := by decide +kernel
theorem n_96_100 : pm_ins 96 100 = some (.aload_n 0, 1) := by decide +kernel
theorem n_96_101 : pm_ins 96 101 = some (.getfield 25, 3) := by decide +kernel
theorem n_96_104 : pm_ins 96 104 = some (.bipush 6, 2) := by decide +kernel
theorem n_96_106 : pm_ins 96 106 = some (.iload_n 1, 1) := by decide +kernel
theorem n_96_107 : pm_ins 96 107 = some (.imul, 1) := by decide +kernel
theorem n_96_108 : pm_ins 96 108 = some (.iload 5, 2) := by decide +kernel
theorem n_96_110 : pm_ins 96 110 = some (.iadd, 1) := by decide +kernel
theorem n_96_111 : pm_ins 96 111 = some (.iload 4, 2) := by decide +kernel
theorem n_96_113 : pm_ins 96 113 = some (.iconst 2, 1) := by decide +kernel
theorem n_96_114 : pm_ins 96 114 = some (.if_icmp .ge 7, 3) := by decide +kernel
theorem n_96_117 : pm_ins 96 117 = some (.iload_n 3, 1) := by decide +kernel
theorem n_96_118 : pm_ins 96 118 = some (.goto 4, 3) := by decide +kernel
theorem n_96_121 : pm_ins 96 121 = some (.iconst 0, 1) := by decide +kernel
theorem n_96_122 : pm_ins 96 122 = some (.iastore, 1) := by decide +kernel
theorem n_96_123 : pm_ins 96 123 = some (.iload 5, 2) := by decide +kernel
theorem n_96_125 : pm_ins 96 125 = some (.ireturn, 1) := by decide +kernel
theorem n_97_0 : pm_ins 97 0 = some (.iload_n 2, 1) := by decide +kernel
theorem n_97_1 : pm_ins 97 1 = some (.ifCond .lt 22, 3) := by decide +kernel
theorem n_97_4 : pm_ins 97 4 = some (.iload_n 2, 1) := by decide +kernel
theorem n_97_5 : pm_ins 97 5 = some (.iconst 5, 1) := by decide +kernel
theorem n_97_6 : pm_ins 97 6 = some (.if_icmp .gt 17, 3) := by decide +kernel
theorem n_97_9 : pm_ins 97 9 = some (.aload_n 0, 1) := by decide +kernel
theorem n_97_10 : pm_ins 97 10 = some (.getfield 19, 3) := by decide +kernel
theorem n_97_13 : pm_ins 97 13 = some (.bipush 6, 2) := by decide +kernel
theorem n_97_15 : pm_ins 97 15 = some (.iload_n 1, 1) := by decide +kernel
theorem n_97_16 : pm_ins 97 16 = some (.imul, 1) := by decide +kernel
theorem n_97_17 : pm_ins 97 17 = some (.iload_n 2, 1) := by decide +kernel
theorem n_97_18 : pm_ins 97 18 = some (.iadd, 1) := by decide +kernel
theorem n_97_19 : pm_ins 97 19 = some (.iaload, 1) := by decide +kernel
theorem n_97_20 : pm_ins 97 20 = some (.ifCond .ne 7, 3) := by decide +kernel
theorem n_97_23 : pm_ins 97 23 = some (.iconst (-1), 1) := by decide +kernel
theorem n_97_24 : pm_ins 97 24 = some (.goto 9, 3) := by decide +kernel
theorem n_97_27 : pm_ins 97 27 = some (.bipush 6, 2) := by decide +kernel
theorem n_97_29 : pm_ins 97 29 = some (.iload_n 1, 1) := by decide +kernel
theorem n_97_30 : pm_ins 97 30 = some (.imul, 1) := by decide +kernel
theorem n_97_31 : pm_ins 97 31 = some (.iload_n 2, 1) := by decide +kernel
theorem n_97_32 : pm_ins 97 32 = some (.iadd, 1) := by decide +kernel
theorem n_97_33 : pm_ins 97 33 = some (.ireturn, 1) := by decide +kernel
theorem n_98_0 : pm_ins 98 0 = some (.aload_n 0, 1) := by decide +kernel
theorem n_98_1 : pm_ins 98 1 = some (.iload_n 1, 1) := by decide +kernel
theorem n_98_2 : pm_ins 98 2 = some (.invokevirtual 94, 3) := by decide +kernel
theorem n_98_5 : pm_ins 98 5 = some (.ifCond .ne 5, 3) := by decide +kernel
theorem n_98_8 : pm_ins 98 8 = some (.iconst (-1), 1) := by decide +kernel
theorem n_98_9 : pm_ins 98 9 = some (.ireturn, 1) := by decide +kernel
theorem n_98_10 : pm_ins 98 10 = some (.aload_n 0, 1) := by decide +kernel
theorem n_98_11 : pm_ins 98 11 = some (.iload_n 1, 1) := by decide +kernel
theorem n_98_12 : pm_ins 98 12 = some (.iload_n 2, 1) := by decide +kernel
theorem n_98_13 : pm_ins 98 13 = some (.invokevirtual 116, 3) := by decide +kernel
theorem n_98_16 : pm_ins 98 16 = some (.istore_n 3, 1) := by decide +kernel
theorem n_98_17 : pm_ins 98 17 = some (.iload_n 3, 1) := by decide +kernel
theorem n_98_18 : pm_ins 98 18 = some (.ifCond .ge 6, 3) := by decide +kernel
theorem n_98_21 : pm_ins 98 21 = some (.bipush (-5), 2) := by decide +kernel
theorem n_98_23 : pm_ins 98 23 = some (.ireturn, 1) := by decide +kernel
theorem n_98_24 : pm_ins 98 24 = some (.aload_n 0, 1) := by decide +kernel
theorem n_98_25 : pm_ins 98 25 = some (.iload_n 3, 1) := by decide +kernel
theorem n_98_26 : pm_ins 98 26 = some (.invokevirtual 83, 3) := by decide +kernel
theorem n_98_29 : pm_ins 98 29 = some (.ifCond .le 6, 3) := by decide +kernel
theorem n_98_32 : pm_ins 98 32 = some (.bipush (-4), 2) := by decide +kernel
theorem n_98_34 : pm_ins 98 34 = some (.ireturn, 1) := by decide +kernel
theorem n_98_35 : pm_ins 98 35 = some (.aload_n 0, 1) := by decide +kernel
theorem n_98_36 : pm_ins 98 36 = some (.getfield 19, 3) := by decide +kernel
theorem n_98_39 : pm_ins 98 39 = some (.iload_n 3, 1) := by decide +kernel
theorem n_98_40 : pm_ins 98 40 = some (.iconst 0, 1) := by decide +kernel
theorem n_98_41 : pm_ins 98 41 = some (.iastore, 1) := by decide +kernel
theorem n_98_42 : pm_ins 98 42 = some (.iconst 0, 1) := by decide +kernel
theorem n_98_43 : pm_ins 98 43 = some (.ireturn, 1) := by decide +kernel
theorem n_99_0 : pm_ins 99 0 = some (.aload_n 0, 1) := by decide +kernel
theorem n_99_1 : pm_ins 99 1 = some (.iload_n 1, 1) := by decide +kernel
theorem n_99_2 : pm_ins 99 2 = some (.invokevirtual 94, 3) := by decide +kernel
theorem n_99_5 : pm_ins 99 5 = some (.ifCond .eq 11, 3) := by decide +kernel
theorem n_99_8 : pm_ins 99 8 = some (.aload_n 0, 1) := by decide +kernel
theorem n_99_9 : pm_ins 99 9 = some (.iload_n 2, 1) := by decide +kernel
theorem n_99_10 : pm_ins 99 10 = some (.invokevirtual 94, 3) := by decide +kernel
theorem n_99_13 : pm_ins 99 13 = some (.ifCond .ne 5, 3) := by decide +kernel
theorem n_99_16 : pm_ins 99 16 = some (.iconst (-1), 1) := by decide +kernel
theorem n_99_17 : pm_ins 99 17 = some (.ireturn, 1) := by decide +kernel
theorem n_99_18 : pm_ins 99 18 = some (.aload_n 0, 1) := by decide +kernel
theorem n_99_19 : pm_ins 99 19 = some (.iload_n 2, 1) := by decide +kernel
theorem n_99_20 : pm_ins 99 20 = some (.iload_n 3, 1) := by decide +kernel
theorem n_99_21 : pm_ins 99 21 = some (.invokevirtual 116, 3) := by decide +kernel
theorem n_99_24 : pm_ins 99 24 = some (.istore 5, 2) := by decide +kernel
theorem n_99_26 : pm_ins 99 26 = some (.iload 5, 2) := by decide +kernel
theorem n_99_28 : pm_ins 99 28 = some (.ifCond .lt 27, 3) := by decide +kernel
theorem n_99_31 : pm_ins 99 31 = some (.aload_n 0, 1) := by decide +kernel
theorem n_99_32 : pm_ins 99 32 = some (.getfield 22, 3) := by decide +kernel
theorem n_99_35 : pm_ins 99 35 = some (.iload 5, 2) := by decide +kernel
theorem n_99_37 : pm_ins 99 37 = some (.iaload, 1) := by decide +kernel
theorem n_99_38 : pm_ins 99 38 = some (.iconst 2, 1) := by decide +kernel
theorem n_99_39 : pm_ins 99 39 = some (.if_icmp .eq 16, 3) := by decide +kernel
theorem n_99_42 : pm_ins 99 42 = some (.aload_n 0, 1) := by decide +kernel
theorem n_99_43 : pm_ins 99 43 = some (.getfield 19, 3) := by decide +kernel
theorem n_99_46 : pm_ins 99 46 = some (.iload 5, 2) := by decide +kernel
theorem n_99_48 : pm_ins 99 48 = some (.iaload, 1) := by decide +kernel
theorem n_99_49 : pm_ins 99 49 = some (.iload_n 1, 1) := by decide +kernel
theorem n_99_50 : pm_ins 99 50 = some (.iconst 1, 1) := by decide +kernel
theorem n_99_51 : pm_ins 99 51 = some (.iadd, 1) := by decide +kernel
theorem n_99_52 : pm_ins 99 52 = some (.if_icmp .eq 6, 3) := by decide +kernel
theorem n_99_55 : pm_ins 99 55 = some (.bipush (-5), 2) := by decide +kernel
theorem n_99_57 : pm_ins 99 57 = some (.ireturn, 1) := by decide +kernel
theorem n_99_58 : pm_ins 99 58 = some (.iload 4, 2) := by decide +kernel
theorem n_99_60 : pm_ins 99 60 = some (.ifCond .eq 16, 3) := by decide +kernel
theorem n_99_63 : pm_ins 99 63 = some (.aload_n 0, 1) := by decide +kernel
theorem n_99_64 : pm_ins 99 64 = some (.getfield 22, 3) := by decide +kernel
theorem n_99_67 : pm_ins 99 67 = some (.iload 5, 2) := by decide +kernel
theorem n_99_69 : pm_ins 99 69 = some (.iaload, 1) := by decide +kernel
theorem n_99_70 : pm_ins 99 70 = some (.ifCond .ne 6, 3) := by decide +kernel
theorem n_99_73 : pm_ins 99 73 = some (.bipush (-6), 2) := by decide +kernel
theorem n_99_75 : pm_ins 99 75 = some (.ireturn, 1) := by decide +kernel
theorem n_99_76 : pm_ins 99 76 = some (.aload_n 0, 1) := by decide +kernel
theorem n_99_77 : pm_ins 99 77 = some (.iload_n 1, 1) := by decide +kernel
theorem n_99_78 : pm_ins 99 78 = some (.invokevirtual 120, 3) := by decide +kernel
theorem n_99_81 : pm_ins 99 81 = some (.istore 6, 2) := by decide +kernel
theorem n_99_83 : pm_ins 99 83 = some (.iload 6, 2) := by decide +kernel
theorem n_99_85 : pm_ins 99 85 = some (.ifCond .ge 6, 3) := by decide +kernel
theorem n_99_88 : pm_ins 99 88 = some (.bipush (-7), 2) := by decide +kernel
theorem n_99_90 : pm_ins 99 90 = some (.ireturn, 1) := by decide +kernel
theorem n_99_91 : pm_ins 99 91 = some (.aload_n 0, 1) := by decide +kernel
theorem n_99_92 : pm_ins 99 92 = some (.getfield 28, 3) := by decide +kernel
theorem n_99_95 : pm_ins 99 95 = some (.iconst 5, 1) := by decide +kernel
theorem n_99_96 : pm_ins 99 96 = some (.iload_n 1, 1) := by decide +kernel
theorem n_99_97 : pm_ins 99 97 = some (.imul, 1) := by decide +kernel
theorem n_99_98 : pm_ins 99 98 = some (.iload 6, 2) := by decide +kernel
theorem n_99_100 : pm_ins 99 100 = some (.iadd, 1) := by decide +kernel
theorem n_99_101 : pm_ins 99 101 = some (.iload 5, 2) := by decide +kernel
theorem n_99_103 : pm_ins 99 103 = some (.iconst 1, 1) := by decide +kernel
theorem n_99_104 : pm_ins 99 104 = some (.iadd, 1) := by decide +kernel
theorem n_99_105 : pm_ins 99 105 = some (.iastore, 1) := by decide +kernel
theorem n_99_106 : pm_ins 99 106 = some (.aload_n 0, 1) := by decide +kernel
theorem n_99_107 : pm_ins 99 107 = some (.getfield 31, 3) := by decide +kernel
theorem n_99_110 : pm_ins 99 110 = some (.iconst 5, 1) := by decide +kernel
theorem n_99_111 : pm_ins 99 111 = some (.iload_n 1, 1) := by decide +kernel
theorem n_99_112 : pm_ins 99 112 = some (.imul, 1) := by decide +kernel
theorem n_99_113 : pm_ins 99 113 = some (.iload 6, 2) := by decide +kernel
theorem n_99_115 : pm_ins 99 115 = some (.iadd, 1) := by decide +kernel
theorem n_99_116 : pm_ins 99 116 = some (.iload 4, 2) := by decide +kernel
theorem n_99_118 : pm_ins 99 118 = some (.bastore, 1) := by decide +kernel
theorem n_99_119 : pm_ins 99 119 = some (.iload 6, 2) := by decide +kernel
theorem n_99_121 : pm_ins 99 121 = some (.ireturn, 1) := by decide +kernel
theorem n_100_0 : pm_ins 100 0 = some (.aload_n 0, 1) := by decide +kernel
theorem n_100_1 : pm_ins 100 1 = some (.iload_n 1, 1) := by decide +kernel
theorem n_100_2 : pm_ins 100 2 = some (.invokevirtual 94, 3) := by decide +kernel
theorem n_100_5 : pm_ins 100 5 = some (.ifCond .ne 5, 3) := by decide +kernel
theorem n_100_8 : pm_ins 100 8 = some (.iconst (-1), 1) := by decide +kernel
theorem n_100_9 : pm_ins 100 9 = some (.ireturn, 1) := by decide +kernel
theorem n_100_10 : pm_ins 100 10 = some (.iload_n 2, 1) := by decide +kernel
theorem n_100_11 : pm_ins 100 11 = some (.ifCond .lt 21, 3) := by decide +kernel
theorem n_100_14 : pm_ins 100 14 = some (.iload_n 2, 1) := by decide +kernel
theorem n_100_15 : pm_ins 100 15 = some (.iconst 4, 1) := by decide +kernel
theorem n_100_16 : pm_ins 100 16 = some (.if_icmp .gt 16, 3) := by decide +kernel
theorem n_100_19 : pm_ins 100 19 = some (.aload_n 0, 1) := by decide +kernel
theorem n_100_20 : pm_ins 100 20 = some (.getfield 28, 3) := by decide +kernel
theorem n_100_23 : pm_ins 100 23 = some (.iconst 5, 1) := by decide +kernel
theorem n_100_24 : pm_ins 100 24 = some (.iload_n 1, 1) := by decide +kernel
theorem n_100_25 : pm_ins 100 25 = some (.imul, 1) := by decide +kernel
theorem n_100_26 : pm_ins 100 26 = some (.iload_n 2, 1) := by decide +kernel
theorem n_100_27 : pm_ins 100 27 = some (.iadd, 1) := by decide +kernel
theorem n_100_28 : pm_ins 100 28 = some (.iaload, 1) := by decide +kernel
theorem n_100_29 : pm_ins 100 29 = some (.ifCond .ne 6, 3) := by decide +kernel
theorem n_100_32 : pm_ins 100 32 = some (.bipush (-5), 2) := by decide +kernel
theorem n_100_34 : pm_ins 100 34 = some (.ireturn, 1) := by decide +kernel
theorem n_100_35 : pm_ins 100 35 = some (.aload_n 0, 1) := by decide +kernel
theorem n_100_36 : pm_ins 100 36 = some (.iconst 5, 1) := by decide +kernel
theorem n_100_37 : pm_ins 100 37 = some (.iload_n 1, 1) := by decide +kernel
theorem n_100_38 : pm_ins 100 38 = some (.imul, 1) := by decide +kernel
theorem n_100_39 : pm_ins 100 39 = some (.iload_n 2, 1) := by decide +kernel
theorem n_100_40 : pm_ins 100 40 = some (.iadd, 1) := by decide +kernel
theorem n_100_41 : pm_ins 100 41 = some (.invokevirtual 98, 3) := by decide +kernel
theorem n_100_44 : pm_ins 100 44 = some (.iconst 0, 1) := by decide +kernel
theorem n_100_45 : pm_ins 100 45 = some (.ireturn, 1) := by decide +kernel
theorem n_101_0 : pm_ins 101 0 = some (.aload_n 0, 1) := by decide +kernel
theorem n_101_1 : pm_ins 101 1 = some (.iload_n 1, 1) := by decide +kernel
theorem n_101_2 : pm_ins 101 2 = some (.invokevirtual 94, 3) := by decide +kernel
theorem n_101_5 : pm_ins 101 5 = some (.ifCond .eq 11, 3) := by decide +kernel
theorem n_101_8 : pm_ins 101 8 = some (.aload_n 0, 1) := by decide +kernel
theorem n_101_9 : pm_ins 101 9 = some (.iload_n 3, 1) := by decide +kernel
theorem n_101_10 : pm_ins 101 10 = some (.invokevirtual 94, 3) := by decide +kernel
theorem n_101_13 : pm_ins 101 13 = some (.ifCond .ne 5, 3) := by decide +kernel
theorem n_101_16 : pm_ins 101 16 = some (.iconst (-1), 1) := by decide +kernel
theorem n_101_17 : pm_ins 101 17 = some (.ireturn, 1) := by decide +kernel
theorem n_101_18 : pm_ins 101 18 = some (.aload_n 0, 1) := by decide +kernel
theorem n_101_19 : pm_ins 101 19 = some (.iload_n 1, 1) := by decide +kernel
theorem n_101_20 : pm_ins 101 20 = some (.iload_n 2, 1) := by decide +kernel
theorem n_101_21 : pm_ins 101 21 = some (.invokevirtual 105, 3) := by decide +kernel
theorem n_101_24 : pm_ins 101 24 = some (.ifCond .ne 6, 3) := by decide +kernel
theorem n_101_27 : pm_ins 101 27 = some (.bipush (-3), 2) := by decide +kernel
theorem n_101_29 : pm_ins 101 29 = some (.ireturn, 1) := by decide +kernel
theorem n_101_30 : pm_ins 101 30 = some (.aload_n 0, 1) := by decide +kernel
theorem n_101_31 : pm_ins 101 31 = some (.iload_n 1, 1) := by decide +kernel
theorem n_101_32 : pm_ins 101 32 = some (.iload_n 2, 1) := by decide +kernel
theorem n_101_33 : pm_ins 101 33 = some (.iconst 0, 1) := by decide +kernel
theorem n_101_34 : pm_ins 101 34 = some (.invokevirtual 87, 3) := by decide +kernel
theorem n_101_37 : pm_ins 101 37 = some (.ifCond .eq 6, 3) := by decide +kernel
theorem n_101_40 : pm_ins 101 40 = some (.bipush (-4), 2) := by decide +kernel
theorem n_101_42 : pm_ins 101 42 = some (.ireturn, 1) := by decide +kernel
theorem n_101_43 : pm_ins 101 43 = some (.aload_n 0, 1) := by decide +kernel
theorem n_101_44 : pm_ins 101 44 = some (.iload_n 3, 1) := by decide +kernel
theorem n_101_45 : pm_ins 101 45 = some (.iload 4, 2) := by decide +kernel
theorem n_101_47 : pm_ins 101 47 = some (.invokevirtual 116, 3) := by decide +kernel
theorem n_101_50 : pm_ins 101 50 = some (.istore 5, 2) := by decide +kernel
theorem n_101_52 : pm_ins 101 52 = some (.iload 5, 2) := by decide +kernel
theorem n_101_54 : pm_ins 101 54 = some (.ifCond .lt 27, 3) := by decide +kernel
theorem n_101_57 : pm_ins 101 57 = some (.aload_n 0, 1) := by decide +kernel
theorem n_101_58 : pm_ins 101 58 = some (.getfield 22, 3) := by decide +kernel
theorem n_101_61 : pm_ins 101 61 = some (.iload 5, 2) := by decide +kernel
theorem n_101_63 : pm_ins 101 63 = some (.iaload, 1) := by decide +kernel
theorem n_101_64 : pm_ins 101 64 = some (.iconst 2, 1) := by decide +kernel
theorem n_101_65 : pm_ins 101 65 = some (.if_icmp .ne 16, 3) := by decide +kernel
theorem n_101_68 : pm_ins 101 68 = some (.aload_n 0, 1) := by decide +kernel
theorem n_101_69 : pm_ins 101 69 = some (.getfield 19, 3) := by decide +kernel
theorem n_101_72 : pm_ins 101 72 = some (.iload 5, 2) := by decide +kernel
theorem n_101_74 : pm_ins 101 74 = some (.iaload, 1) := by decide +kernel
theorem n_101_75 : pm_ins 101 75 = some (.iload_n 1, 1) := by decide +kernel
theorem n_101_76 : pm_ins 101 76 = some (.iconst 1, 1) := by decide +kernel
theorem n_101_77 : pm_ins 101 77 = some (.iadd, 1) := by decide +kernel
theorem n_101_78 : pm_ins 101 78 = some (.if_icmp .eq 6, 3) := by decide +kernel
theorem n_101_81 : pm_ins 101 81 = some (.bipush (-5), 2) := by decide +kernel
theorem n_101_83 : pm_ins 101 83 = some (.ireturn, 1) := by decide +kernel
theorem n_101_84 : pm_ins 101 84 = some (.aload_n 0, 1) := by decide +kernel
theorem n_101_85 : pm_ins 101 85 = some (.iload_n 3, 1) := by decide +kernel
theorem n_101_86 : pm_ins 101 86 = some (.invokevirtual 91, 3) := by decide +kernel
theorem n_101_89 : pm_ins 101 89 = some (.bipush 6, 2) := by decide +kernel
theorem n_101_91 : pm_ins 101 91 = some (.if_icmp .lt 6, 3) := by decide +kernel
theorem n_101_94 : pm_ins 101 94 = some (.bipush (-7), 2) := by decide +kernel
theorem n_101_96 : pm_ins 101 96 = some (.ireturn, 1) := by decide +kernel
theorem n_101_97 : pm_ins 101 97 = some (.aload_n 0, 1) := by decide +kernel
theorem n_101_98 : pm_ins 101 98 = some (.getfield 13, 3) := by decide +kernel
theorem n_101_101 : pm_ins 101 101 = some (.iload_n 2, 1) := by decide +kernel
theorem n_101_102 : pm_ins 101 102 = some (.iload_n 3, 1) := by decide +kernel
theorem n_101_103 : pm_ins 101 103 = some (.iconst 1, 1) := by decide +kernel
theorem n_101_104 : pm_ins 101 104 = some (.iadd, 1) := by decide +kernel
theorem n_101_105 : pm_ins 101 105 = some (.iastore, 1) := by decide +kernel
theorem n_101_106 : pm_ins 101 106 = some (.aload_n 0, 1) := by decide +kernel
theorem n_101_107 : pm_ins 101 107 = some (.getfield 19, 3) := by decide +kernel
theorem n_101_110 : pm_ins 101 110 = some (.iload 5, 2) := by decide +kernel
theorem n_101_112 : pm_ins 101 112 = some (.iconst 0, 1) := by decide +kernel
theorem n_101_113 : pm_ins 101 113 = some (.iastore, 1) := by decide +kernel
theorem n_101_114 : pm_ins 101 114 = some (.iconst 0, 1) := by decide +kernel
theorem n_101_115 : pm_ins 101 115 = some (.ireturn, 1) := by decide +kernel
theorem n_102_0 : pm_ins 102 0 = some (.aload_n 0, 1) := by decide +kernel
theorem n_102_1 : pm_ins 102 1 = some (.iload_n 1, 1) := by decide +kernel
theorem n_102_2 : pm_ins 102 2 = some (.iload_n 2, 1) := by decide +kernel
theorem n_102_3 : pm_ins 102 3 = some (.invokevirtual 105, 3) := by decide +kernel
theorem n_102_6 : pm_ins 102 6 = some (.istore 4, 2) := by decide +kernel
theorem n_102_8 : pm_ins 102 8 = some (.iconst 5, 1) := by decide +kernel
theorem n_102_9 : pm_ins 102 9 = some (.iload_n 1, 1) := by decide +kernel
theorem n_102_10 : pm_ins 102 10 = some (.imul, 1) := by decide +kernel
theorem n_102_11 : pm_ins 102 11 = some (.istore 5, 2) := by decide +kernel
theorem n_102_13 : pm_ins 102 13 = some (.iload 5, 2) := by decide +kernel
theorem n_102_15 : pm_ins 102 15 = some (.iconst 5, 1) := by decide +kernel
theorem n_102_16 : pm_ins 102 16 = some (.iload_n 1, 1) := by decide +kernel
theorem n_102_17 : pm_ins 102 17 = some (.imul, 1) := by decide +kernel
theorem n_102_18 : pm_ins 102 18 = some (.iconst 5, 1) := by decide +kernel
theorem n_102_19 : pm_ins 102 19 = some (.iadd, 1) := by decide +kernel
theorem n_102_20 : pm_ins 102 20 = some (.if_icmp .ge 63, 3) := by decide +kernel
theorem n_102_23 : pm_ins 102 23 = some (.iload 4, 2) := by decide +kernel
theorem n_102_25 : pm_ins 102 25 = some (.ifCond .ne 45, 3) := by decide +kernel
theorem n_102_28 : pm_ins 102 28 = some (.aload_n 0, 1) := by decide +kernel
theorem n_102_29 : pm_ins 102 29 = some (.getfield 28, 3) := by decide +kernel
theorem n_102_32 : pm_ins 102 32 = some (.iload 5, 2) := by decide +kernel
theorem n_102_34 : pm_ins 102 34 = some (.iaload, 1) := by decide +kernel
theorem n_102_35 : pm_ins 102 35 = some (.ifCond .le 39, 3) := by decide +kernel
theorem n_102_38 : pm_ins 102 38 = some (.aload_n 0, 1) := by decide +kernel
theorem n_102_39 : pm_ins 102 39 = some (.getfield 25, 3) := by decide +kernel
theorem n_102_42 : pm_ins 102 42 = some (.aload_n 0, 1) := by decide +kernel
theorem n_102_43 : pm_ins 102 43 = some (.getfield 28, 3) := by decide +kernel
theorem n_102_46 : pm_ins 102 46 = some (.iload 5, 2) := by decide +kernel
theorem n_102_48 : pm_ins 102 48 = some (.iaload, 1) := by decide +kernel
theorem n_102_49 : pm_ins 102 49 = some (.iconst 1, 1) := by decide +kernel
theorem n_102_50 : pm_ins 102 50 = some (.isub, 1) := by decide +kernel
theorem n_102_51 : pm_ins 102 51 = some (.iaload, 1) := by decide +kernel
theorem n_102_52 : pm_ins 102 52 = some (.iload_n 2, 1) := by decide +kernel
theorem n_102_53 : pm_ins 102 53 = some (.if_icmp .ne 21, 3) := by decide +kernel
theorem n_102_56 : pm_ins 102 56 = some (.aload_n 0, 1) := by decide +kernel
theorem n_102_57 : pm_ins 102 57 = some (.getfield 31, 3) := by decide +kernel
theorem n_102_60 : pm_ins 102 60 = some (.iload 5, 2) := by decide +kernel
theorem n_102_62 : pm_ins 102 62 = some (.baload, 1) := by decide +kernel
theorem n_102_63 : pm_ins 102 63 = some (.ifCond .ne 7, 3) := by decide +kernel
theorem n_102_66 : pm_ins 102 66 = some (.iload_n 3, 1) := by decide +kernel
theorem n_102_67 : pm_ins 102 67 = some (.ifCond .ne 7, 3) := by decide +kernel
theorem n_102_70 : pm_ins 102 70 = some (.iconst 1, 1) := by decide +kernel
theorem n_102_71 : pm_ins 102 71 = some (.goto 4, 3) := by decide +kernel
theorem n_102_74 : pm_ins 102 74 = some (.iconst 0, 1) := by decide +kernel
theorem n_102_75 : pm_ins 102 75 = some (.istore 4, 2) := by decide +kernel
theorem n_102_77 : pm_ins 102 77 = some (.iinc 5 1, 3) := by decide +kernel
theorem n_102_80 : pm_ins 102 80 = some (.goto (-67), 3) := by decide +kernel
theorem n_102_83 : pm_ins 102 83 = some (.iload 4, 2) := by decide +kernel
theorem n_102_85 : pm_ins 102 85 = some (.ireturn, 1) := by decide +kernel
theorem n_103_0 : pm_ins 103 0 = some (.aload_n 0, 1) := by decide +kernel
theorem n_103_1 : pm_ins 103 1 = some (.iload_n 1, 1) := by decide +kernel
theorem n_103_2 : pm_ins 103 2 = some (.invokevirtual 94, 3) := by decide +kernel
theorem n_103_5 : pm_ins 103 5 = some (.ifCond .ne 5, 3) := by decide +kernel
theorem n_103_8 : pm_ins 103 8 = some (.iconst (-1), 1) := by decide +kernel
theorem n_103_9 : pm_ins 103 9 = some (.ireturn, 1) := by decide +kernel
theorem n_103_10 : pm_ins 103 10 = some (.iload_n 2, 1) := by decide +kernel
theorem n_103_11 : pm_ins 103 11 = some (.ifCond .lt 19, 3) := by decide +kernel
theorem n_103_14 : pm_ins 103 14 = some (.iload_n 2, 1) := by decide +kernel
theorem n_103_15 : pm_ins 103 15 = some (.bipush 19, 2) := by decide +kernel
theorem n_103_17 : pm_ins 103 17 = some (.if_icmp .gt 13, 3) := by decide +kernel
theorem n_103_20 : pm_ins 103 20 = some (.iload_n 3, 1) := by decide +kernel
theorem n_103_21 : pm_ins 103 21 = some (.ifCond .lt 9, 3) := by decide +kernel
theorem n_103_24 : pm_ins 103 24 = some (.iload_n 3, 1) := by decide +kernel
theorem n_103_25 : pm_ins 103 25 = some (.bipush 7, 2) := by decide +kernel
theorem n_103_27 : pm_ins 103 27 = some (.if_icmp .le 6, 3) := by decide +kernel
theorem n_103_30 : pm_ins 103 30 = some (.bipush (-2), 2) := by decide +kernel
theorem n_103_32 : pm_ins 103 32 = some (.ireturn, 1) := by decide +kernel
theorem n_103_33 : pm_ins 103 33 = some (.aload_n 0, 1) := by decide +kernel
theorem n_103_34 : pm_ins 103 34 = some (.iload_n 1, 1) := by decide +kernel
theorem n_103_35 : pm_ins 103 35 = some (.iload_n 2, 1) := by decide +kernel
theorem n_103_36 : pm_ins 103 36 = some (.iload 4, 2) := by decide +kernel
theorem n_103_38 : pm_ins 103 38 = some (.invokevirtual 123, 3) := by decide +kernel
theorem n_103_41 : pm_ins 103 41 = some (.ifCond .eq 7, 3) := by decide +kernel
theorem n_103_44 : pm_ins 103 44 = some (.iconst 0, 1) := by decide +kernel
theorem n_103_45 : pm_ins 103 45 = some (.goto 5, 3) := by decide +kernel
theorem n_103_48 : pm_ins 103 48 = some (.bipush (-3), 2) := by decide +kernel
theorem n_103_50 : pm_ins 103 50 = some (.ireturn, 1) := by decide +kernel
theorem n_104_0 : pm_ins 104 0 = some (.aload_n 0, 1) := by decide +kernel
theorem n_104_1 : pm_ins 104 1 = some (.iload_n 1, 1) := by decide +kernel
theorem n_104_2 : pm_ins 104 2 = some (.iload_n 2, 1) := by decide +kernel
theorem n_104_3 : pm_ins 104 3 = some (.iload_n 3, 1) := by decide +kernel
theorem n_104_4 : pm_ins 104 4 = some (.iconst 1, 1) := by decide +kernel
theorem n_104_5 : pm_ins 104 5 = some (.invokevirtual 126, 3) := by decide +kernel
theorem n_104_8 : pm_ins 104 8 = some (.istore 5, 2) := by decide +kernel
theorem n_104_10 : pm_ins 104 10 = some (.iload 5, 2) := by decide +kernel
theorem n_104_12 : pm_ins 104 12 = some (.ifCond .ne 16, 3) := by decide +kernel
theorem n_104_15 : pm_ins 104 15 = some (.aload_n 0, 1) := by decide +kernel
theorem n_104_16 : pm_ins 104 16 = some (.getfield 16, 3) := by decide +kernel
theorem n_104_19 : pm_ins 104 19 = some (.bipush 8, 2) := by decide +kernel
theorem n_104_21 : pm_ins 104 21 = some (.iload_n 2, 1) := by decide +kernel
theorem n_104_22 : pm_ins 104 22 = some (.imul, 1) := by decide +kernel
theorem n_104_23 : pm_ins 104 23 = some (.iload_n 3, 1) := by decide +kernel
theorem n_104_24 : pm_ins 104 24 = some (.iadd, 1) := by decide +kernel
theorem n_104_25 : pm_ins 104 25 = some (.iload 4, 2) := by decide +kernel
theorem n_104_27 : pm_ins 104 27 = some (.iastore, 1) := by decide +kernel
theorem n_104_28 : pm_ins 104 28 = some (.iload 5, 2) := by decide +kernel
theorem n_104_30 : pm_ins 104 30 = some (.ireturn, 1) := by decide +kernel
