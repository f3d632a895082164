theorem n_105_0 : pm_ins 105 0 = some (.iload_n 0, 1) := by decide +kernel
theorem n_105_1 : pm_ins 105 1 = some (.ifCond .ge 12, 3) := by decide +kernel
theorem n_105_4 : pm_ins 105 4 = some (.iload_n 0, 1) := by decide +kernel
theorem n_105_5 : pm_ins 105 5 = some (.i2l, 1) := by decide +kernel
theorem n_105_6 : pm_ins 105 6 = some (.ldc2_w 130, 3) := by decide +kernel
theorem n_105_9 : pm_ins 105 9 = some (.ladd, 1) := by decide +kernel
theorem n_105_10 : pm_ins 105 10 = some (.goto 5, 3) := by decide +kernel
theorem n_105_13 : pm_ins 105 13 = some (.iload_n 0, 1) := by decide +kernel
theorem n_105_14 : pm_ins 105 14 = some (.i2l, 1) := by decide +kernel
theorem n_105_15 : pm_ins 105 15 = some (.lreturn, 1) := by decide +kernel
theorem n_106_0 : pm_ins 106 0 = some (.aload_n 0, 1) := by decide +kernel
theorem n_106_1 : pm_ins 106 1 = some (.iload_n 1, 1) := by decide +kernel
theorem n_106_2 : pm_ins 106 2 = some (.iload_n 2, 1) := by decide +kernel
theorem n_106_3 : pm_ins 106 3 = some (.iload_n 3, 1) := by decide +kernel
theorem n_106_4 : pm_ins 106 4 = some (.iconst 0, 1) := by decide +kernel
theorem n_106_5 : pm_ins 106 5 = some (.invokevirtual 126, 3) := by decide +kernel
theorem n_106_8 : pm_ins 106 8 = some (.istore 4, 2) := by decide +kernel
theorem n_106_10 : pm_ins 106 10 = some (.iload 4, 2) := by decide +kernel
theorem n_106_12 : pm_ins 106 12 = some (.ifCond .ge 9, 3) := by decide +kernel
theorem n_106_15 : pm_ins 106 15 = some (.iload 4, 2) := by decide +kernel
theorem n_106_17 : pm_ins 106 17 = some (.i2l, 1) := by decide +kernel
theorem n_106_18 : pm_ins 106 18 = some (.goto 17, 3) := by decide +kernel
theorem n_106_21 : pm_ins 106 21 = some (.aload_n 0, 1) := by decide +kernel
theorem n_106_22 : pm_ins 106 22 = some (.getfield 16, 3) := by decide +kernel
theorem n_106_25 : pm_ins 106 25 = some (.bipush 8, 2) := by decide +kernel
theorem n_106_27 : pm_ins 106 27 = some (.iload_n 2, 1) := by decide +kernel
theorem n_106_28 : pm_ins 106 28 = some (.imul, 1) := by decide +kernel
theorem n_106_29 : pm_ins 106 29 = some (.iload_n 3, 1) := by decide +kernel
theorem n_106_30 : pm_ins 106 30 = some (.iadd, 1) := by decide +kernel
theorem n_106_31 : pm_ins 106 31 = some (.iaload, 1) := by decide +kernel
theorem n_106_32 : pm_ins 106 32 = some (.invokestatic 132, 3) := by decide +kernel
theorem n_106_35 : pm_ins 106 35 = some (.lreturn, 1) := by decide +kernel
theorem n_107_0 : pm_ins 107 0 = some (.aload_n 0, 1) := by decide +kernel
theorem n_107_1 : pm_ins 107 1 = some (.iload_n 1, 1) := by decide +kernel
theorem n_107_2 : pm_ins 107 2 = some (.invokevirtual 94, 3) := by decide +kernel
theorem n_107_5 : pm_ins 107 5 = some (.ifCond .ne 5, 3) := by decide +kernel
theorem n_107_8 : pm_ins 107 8 = some (.iconst (-1), 1) := by decide +kernel
theorem n_107_9 : pm_ins 107 9 = some (.ireturn, 1) := by decide +kernel
theorem n_107_10 : pm_ins 107 10 = some (.iload_n 2, 1) := by decide +kernel
theorem n_107_11 : pm_ins 107 11 = some (.ifCond .lt 13, 3) := by decide +kernel
theorem n_107_14 : pm_ins 107 14 = some (.iload_n 2, 1) := by decide +kernel
theorem n_107_15 : pm_ins 107 15 = some (.iconst 4, 1) := by decide +kernel
theorem n_107_16 : pm_ins 107 16 = some (.if_icmp .gt 8, 3) := by decide +kernel
theorem n_107_19 : pm_ins 107 19 = some (.iload_n 2, 1) := by decide +kernel
theorem n_107_20 : pm_ins 107 20 = some (.iload_n 1, 1) := by decide +kernel
theorem n_107_21 : pm_ins 107 21 = some (.if_icmp .ne 6, 3) := by decide +kernel
theorem n_107_24 : pm_ins 107 24 = some (.bipush (-2), 2) := by decide +kernel
theorem n_107_26 : pm_ins 107 26 = some (.ireturn, 1) := by decide +kernel
theorem n_107_27 : pm_ins 107 27 = some (.aload_n 0, 1) := by decide +kernel
theorem n_107_28 : pm_ins 107 28 = some (.iload_n 1, 1) := by decide +kernel
theorem n_107_29 : pm_ins 107 29 = some (.invokevirtual 136, 3) := by decide +kernel
theorem n_107_32 : pm_ins 107 32 = some (.istore_n 3, 1) := by decide +kernel
theorem n_107_33 : pm_ins 107 33 = some (.iload_n 3, 1) := by decide +kernel
theorem n_107_34 : pm_ins 107 34 = some (.ifCond .ge 6, 3) := by decide +kernel
theorem n_107_37 : pm_ins 107 37 = some (.bipush (-7), 2) := by decide +kernel
theorem n_107_39 : pm_ins 107 39 = some (.ireturn, 1) := by decide +kernel
theorem n_107_40 : pm_ins 107 40 = some (.aload_n 0, 1) := by decide +kernel
theorem n_107_41 : pm_ins 107 41 = some (.getfield 35, 3) := by decide +kernel
theorem n_107_44 : pm_ins 107 44 = some (.iconst 4, 1) := by decide +kernel
theorem n_107_45 : pm_ins 107 45 = some (.iload_n 1, 1) := by decide +kernel
theorem n_107_46 : pm_ins 107 46 = some (.imul, 1) := by decide +kernel
theorem n_107_47 : pm_ins 107 47 = some (.iload_n 3, 1) := by decide +kernel
theorem n_107_48 : pm_ins 107 48 = some (.iadd, 1) := by decide +kernel
theorem n_107_49 : pm_ins 107 49 = some (.iconst 1, 1) := by decide +kernel
theorem n_107_50 : pm_ins 107 50 = some (.iastore, 1) := by decide +kernel
theorem n_107_51 : pm_ins 107 51 = some (.aload_n 0, 1) := by decide +kernel
theorem n_107_52 : pm_ins 107 52 = some (.getfield 38, 3) := by decide +kernel
theorem n_107_55 : pm_ins 107 55 = some (.iconst 4, 1) := by decide +kernel
theorem n_107_56 : pm_ins 107 56 = some (.iload_n 1, 1) := by decide +kernel
theorem n_107_57 : pm_ins 107 57 = some (.imul, 1) := by decide +kernel
theorem n_107_58 : pm_ins 107 58 = some (.iload_n 3, 1) := by decide +kernel
theorem n_107_59 : pm_ins 107 59 = some (.iadd, 1) := by decide +kernel
theorem n_107_60 : pm_ins 107 60 = some (.iload_n 2, 1) := by decide +kernel
theorem n_107_61 : pm_ins 107 61 = some (.iastore, 1) := by decide +kernel
theorem n_107_62 : pm_ins 107 62 = some (.iload_n 3, 1) := by decide +kernel
theorem n_107_63 : pm_ins 107 63 = some (.ireturn, 1) := by decide +kernel
theorem n_108_0 : pm_ins 108 0 = some (.aload_n 0, 1) := by decide +kernel
theorem n_108_1 : pm_ins 108 1 = some (.iload_n 1, 1) := by decide +kernel
theorem n_108_2 : pm_ins 108 2 = some (.invokevirtual 94, 3) := by decide +kernel
theorem n_108_5 : pm_ins 108 5 = some (.ifCond .eq 11, 3) := by decide +kernel
theorem n_108_8 : pm_ins 108 8 = some (.aload_n 0, 1) := by decide +kernel
theorem n_108_9 : pm_ins 108 9 = some (.iload_n 2, 1) := by decide +kernel
theorem n_108_10 : pm_ins 108 10 = some (.invokevirtual 94, 3) := by decide +kernel
theorem n_108_13 : pm_ins 108 13 = some (.ifCond .ne 5, 3) := by decide +kernel
theorem n_108_16 : pm_ins 108 16 = some (.iconst (-1), 1) := by decide +kernel
theorem n_108_17 : pm_ins 108 17 = some (.ireturn, 1) := by decide +kernel
theorem n_108_18 : pm_ins 108 18 = some (.iload_n 3, 1) := by decide +kernel
theorem n_108_19 : pm_ins 108 19 = some (.ifCond .lt 36, 3) := by decide +kernel
theorem n_108_22 : pm_ins 108 22 = some (.iload_n 3, 1) := by decide +kernel
theorem n_108_23 : pm_ins 108 23 = some (.iconst 3, 1) := by decide +kernel
theorem n_108_24 : pm_ins 108 24 = some (.if_icmp .gt 31, 3) := by decide +kernel
theorem n_108_27 : pm_ins 108 27 = some (.aload_n 0, 1) := by decide +kernel
theorem n_108_28 : pm_ins 108 28 = some (.getfield 35, 3) := by decide +kernel
theorem n_108_31 : pm_ins 108 31 = some (.iconst 4, 1) := by decide +kernel
theorem n_108_32 : pm_ins 108 32 = some (.iload_n 2, 1) := by decide +kernel
theorem n_108_33 : pm_ins 108 33 = some (.imul, 1) := by decide +kernel
theorem n_108_34 : pm_ins 108 34 = some (.iload_n 3, 1) := by decide +kernel
theorem n_108_35 : pm_ins 108 35 = some (.iadd, 1) := by decide +kernel
theorem n_108_36 : pm_ins 108 36 = some (.iaload, 1) := by decide +kernel
theorem n_108_37 : pm_ins 108 37 = some (.iconst 1, 1) := by decide +kernel
theorem n_108_38 : pm_ins 108 38 = some (.if_icmp .ne 17, 3) := by decide +kernel
theorem n_108_41 : pm_ins 108 41 = some (.aload_n 0, 1) := by decide +kernel
theorem n_108_42 : pm_ins 108 42 = some (.getfield 38, 3) := by decide +kernel
theorem n_108_45 : pm_ins 108 45 = some (.iconst 4, 1) := by decide +kernel
theorem n_108_46 : pm_ins 108 46 = some (.iload_n 2, 1) := by decide +kernel
theorem n_108_47 : pm_ins 108 47 = some (.imul, 1) := by decide +kernel
theorem n_108_48 : pm_ins 108 48 = some (.iload_n 3, 1) := by decide +kernel
theorem n_108_49 : pm_ins 108 49 = some (.iadd, 1) := by decide +kernel
theorem n_108_50 : pm_ins 108 50 = some (.iaload, 1) := by decide +kernel
theorem n_108_51 : pm_ins 108 51 = some (.iload_n 1, 1) := by decide +kernel
theorem n_108_52 : pm_ins 108 52 = some (.if_icmp .eq 6, 3) := by decide +kernel
theorem n_108_55 : pm_ins 108 55 = some (.bipush (-8), 2) := by decide +kernel
theorem n_108_57 : pm_ins 108 57 = some (.ireturn, 1) := by decide +kernel
theorem n_108_58 : pm_ins 108 58 = some (.aload_n 0, 1) := by decide +kernel
theorem n_108_59 : pm_ins 108 59 = some (.iload_n 1, 1) := by decide +kernel
theorem n_108_60 : pm_ins 108 60 = some (.invokevirtual 136, 3) := by decide +kernel
theorem n_108_63 : pm_ins 108 63 = some (.istore 4, 2) := by decide +kernel
theorem n_108_65 : pm_ins 108 65 = some (.iload 4, 2) := by decide +kernel
theorem n_108_67 : pm_ins 108 67 = some (.ifCond .ge 6, 3) := by decide +kernel
theorem n_108_70 : pm_ins 108 70 = some (.bipush (-7), 2) := by decide +kernel
theorem n_108_72 : pm_ins 108 72 = some (.ireturn, 1) := by decide +kernel
theorem n_108_73 : pm_ins 108 73 = some (.aload_n 0, 1) := by decide +kernel
theorem n_108_74 : pm_ins 108 74 = some (.getfield 35, 3) := by decide +kernel
theorem n_108_77 : pm_ins 108 77 = some (.iconst 4, 1) := by decide +kernel
theorem n_108_78 : pm_ins 108 78 = some (.iload_n 1, 1) := by decide +kernel
theorem n_108_79 : pm_ins 108 79 = some (.imul, 1) := by decide +kernel
theorem n_108_80 : pm_ins 108 80 = some (.iload 4, 2) := by decide +kernel
theorem n_108_82 : pm_ins 108 82 = some (.iadd, 1) := by decide +kernel
theorem n_108_83 : pm_ins 108 83 = some (.iconst 2, 1) := by decide +kernel
theorem n_108_84 : pm_ins 108 84 = some (.iastore, 1) := by decide +kernel
theorem n_108_85 : pm_ins 108 85 = some (.aload_n 0, 1) := by decide +kernel
theorem n_108_86 : pm_ins 108 86 = some (.getfield 38, 3) := by decide +kernel
theorem n_108_89 : pm_ins 108 89 = some (.iconst 4, 1) := by decide +kernel
theorem n_108_90 : pm_ins 108 90 = some (.iload_n 1, 1) := by decide +kernel
theorem n_108_91 : pm_ins 108 91 = some (.imul, 1) := by decide +kernel
theorem n_108_92 : pm_ins 108 92 = some (.iload 4, 2) := by decide +kernel
theorem n_108_94 : pm_ins 108 94 = some (.iadd, 1) := by decide +kernel
theorem n_108_95 : pm_ins 108 95 = some (.iconst 4, 1) := by decide +kernel
theorem n_108_96 : pm_ins 108 96 = some (.iload_n 2, 1) := by decide +kernel
theorem n_108_97 : pm_ins 108 97 = some (.imul, 1) := by decide +kernel
theorem n_108_98 : pm_ins 108 98 = some (.iload_n 3, 1) := by decide +kernel
theorem n_108_99 : pm_ins 108 99 = some (.iadd, 1) := by decide +kernel
theorem n_108_100 : pm_ins 108 100 = some (.iastore, 1) := by decide +kernel
theorem n_108_101 : pm_ins 108 101 = some (.aload_n 0, 1) := by decide +kernel
theorem n_108_102 : pm_ins 108 102 = some (.getfield 35, 3) := by decide +kernel
theorem n_108_105 : pm_ins 108 105 = some (.iconst 4, 1) := by decide +kernel
theorem n_108_106 : pm_ins 108 106 = some (.iload_n 2, 1) := by decide +kernel
theorem n_108_107 : pm_ins 108 107 = some (.imul, 1) := by decide +kernel
theorem n_108_108 : pm_ins 108 108 = some (.iload_n 3, 1) := by decide +kernel
theorem n_108_109 : pm_ins 108 109 = some (.iadd, 1) := by decide +kernel
theorem n_108_110 : pm_ins 108 110 = some (.iconst 2, 1) := by decide +kernel
theorem n_108_111 : pm_ins 108 111 = some (.iastore, 1) := by decide +kernel
theorem n_108_112 : pm_ins 108 112 = some (.aload_n 0, 1) := by decide +kernel
theorem n_108_113 : pm_ins 108 113 = some (.getfield 38, 3) := by decide +kernel
theorem n_108_116 : pm_ins 108 116 = some (.iconst 4, 1) := by decide +kernel
theorem n_108_117 : pm_ins 108 117 = some (.iload_n 2, 1) := by decide +kernel
theorem n_108_118 : pm_ins 108 118 = some (.imul, 1) := by decide +kernel
theorem n_108_119 : pm_ins 108 119 = some (.iload_n 3, 1) := by decide +kernel
theorem n_108_120 : pm_ins 108 120 = some (.iadd, 1) := by decide +kernel
theorem n_108_121 : pm_ins 108 121 = some (.iconst 4, 1) := by decide +kernel
theorem n_108_122 : pm_ins 108 122 = some (.iload_n 1, 1) := by decide +kernel
theorem n_108_123 : pm_ins 108 123 = some (.imul, 1) := by decide +kernel
theorem n_108_124 : pm_ins 108 124 = some (.iload 4, 2) := by decide +kernel
theorem n_108_126 : pm_ins 108 126 = some (.iadd, 1) := by decide +kernel
theorem n_108_127 : pm_ins 108 127 = some (.iastore, 1) := by decide +kernel
theorem n_108_128 : pm_ins 108 128 = some (.iload 4, 2) := by decide +kernel
theorem n_108_130 : pm_ins 108 130 = some (.ireturn, 1) := by decide +kernel
theorem n_109_0 : pm_ins 109 0 = some (.aload_n 0, 1) := by decide +kernel
theorem n_109_1 : pm_ins 109 1 = some (.iload_n 1, 1) := by decide +kernel
theorem n_109_2 : pm_ins 109 2 = some (.invokevirtual 94, 3) := by decide +kernel
theorem n_109_5 : pm_ins 109 5 = some (.ifCond .ne 5, 3) := by decide +kernel
theorem n_109_8 : pm_ins 109 8 = some (.iconst (-1), 1) := by decide +kernel
theorem n_109_9 : pm_ins 109 9 = some (.ireturn, 1) := by decide +kernel
theorem n_109_10 : pm_ins 109 10 = some (.iload_n 2, 1) := by decide +kernel
theorem n_109_11 : pm_ins 109 11 = some (.ifCond .lt 22, 3) := by decide +kernel
theorem n_109_14 : pm_ins 109 14 = some (.iload_n 2, 1) := by decide +kernel
theorem n_109_15 : pm_ins 109 15 = some (.iconst 3, 1) := by decide +kernel
theorem n_109_16 : pm_ins 109 16 = some (.if_icmp .gt 17, 3) := by decide +kernel
theorem n_109_19 : pm_ins 109 19 = some (.aload_n 0, 1) := by decide +kernel
theorem n_109_20 : pm_ins 109 20 = some (.getfield 35, 3) := by decide +kernel
theorem n_109_23 : pm_ins 109 23 = some (.iconst 4, 1) := by decide +kernel
theorem n_109_24 : pm_ins 109 24 = some (.iload_n 1, 1) := by decide +kernel
theorem n_109_25 : pm_ins 109 25 = some (.imul, 1) := by decide +kernel
theorem n_109_26 : pm_ins 109 26 = some (.iload_n 2, 1) := by decide +kernel
theorem n_109_27 : pm_ins 109 27 = some (.iadd, 1) := by decide +kernel
theorem n_109_28 : pm_ins 109 28 = some (.iaload, 1) := by decide +kernel
theorem n_109_29 : pm_ins 109 29 = some (.iconst 2, 1) := by decide +kernel
theorem n_109_30 : pm_ins 109 30 = some (.if_icmp .eq 6, 3) := by decide +kernel
theorem n_109_33 : pm_ins 109 33 = some (.bipush (-8), 2) := by decide +kernel
theorem n_109_35 : pm_ins 109 35 = some (.ireturn, 1) := by decide +kernel
theorem n_109_36 : pm_ins 109 36 = some (.aload_n 0, 1) := by decide +kernel
theorem n_109_37 : pm_ins 109 37 = some (.getfield 41, 3) := by decide +kernel
theorem n_109_40 : pm_ins 109 40 = some (.aload_n 0, 1) := by decide +kernel
theorem n_109_41 : pm_ins 109 41 = some (.getfield 38, 3) := by decide +kernel
theorem n_109_44 : pm_ins 109 44 = some (.iconst 4, 1) := by decide +kernel
theorem n_109_45 : pm_ins 109 45 = some (.iload_n 1, 1) := by decide +kernel
theorem n_109_46 : pm_ins 109 46 = some (.imul, 1) := by decide +kernel
theorem n_109_47 : pm_ins 109 47 = some (.iload_n 2, 1) := by decide +kernel
theorem n_109_48 : pm_ins 109 48 = some (.iadd, 1) := by decide +kernel
theorem n_109_49 : pm_ins 109 49 = some (.iaload, 1) := by decide +kernel
theorem n_109_50 : pm_ins 109 50 = some (.baload, 1) := by decide +kernel
theorem n_109_51 : pm_ins 109 51 = some (.istore_n 3, 1) := by decide +kernel
theorem n_109_52 : pm_ins 109 52 = some (.aload_n 0, 1) := by decide +kernel
theorem n_109_53 : pm_ins 109 53 = some (.getfield 41, 3) := by decide +kernel
theorem n_109_56 : pm_ins 109 56 = some (.aload_n 0, 1) := by decide +kernel
theorem n_109_57 : pm_ins 109 57 = some (.getfield 38, 3) := by decide +kernel
theorem n_109_60 : pm_ins 109 60 = some (.iconst 4, 1) := by decide +kernel
theorem n_109_61 : pm_ins 109 61 = some (.iload_n 1, 1) := by decide +kernel
theorem n_109_62 : pm_ins 109 62 = some (.imul, 1) := by decide +kernel
theorem n_109_63 : pm_ins 109 63 = some (.iload_n 2, 1) := by decide +kernel
theorem n_109_64 : pm_ins 109 64 = some (.iadd, 1) := by decide +kernel
theorem n_109_65 : pm_ins 109 65 = some (.iaload, 1) := by decide +kernel
theorem n_109_66 : pm_ins 109 66 = some (.iconst 1, 1) := by decide +kernel
theorem n_109_67 : pm_ins 109 67 = some (.bastore, 1) := by decide +kernel
theorem n_109_68 : pm_ins 109 68 = some (.iload_n 3, 1) := by decide +kernel
theorem n_109_69 : pm_ins 109 69 = some (.ifCond .eq 7, 3) := by decide +kernel
theorem n_109_72 : pm_ins 109 72 = some (.iconst 0, 1) := by decide +kernel
theorem n_109_73 : pm_ins 109 73 = some (.goto 4, 3) := by decide +kernel
theorem n_109_76 : pm_ins 109 76 = some (.iconst 1, 1) := by decide +kernel
theorem n_109_77 : pm_ins 109 77 = some (.ireturn, 1) := by decide +kernel
theorem n_110_0 : pm_ins 110 0 = some (.aload_n 0, 1) := by decide +kernel
theorem n_110_1 : pm_ins 110 1 = some (.iload_n 1, 1) := by decide +kernel
theorem n_110_2 : pm_ins 110 2 = some (.invokevirtual 94, 3) := by decide +kernel
theorem n_110_5 : pm_ins 110 5 = some (.ifCond .ne 5, 3) := by decide +kernel
theorem n_110_8 : pm_ins 110 8 = some (.iconst (-1), 1) := by decide +kernel
theorem n_110_9 : pm_ins 110 9 = some (.ireturn, 1) := by decide +kernel
theorem n_110_10 : pm_ins 110 10 = some (.iconst 0, 1) := by decide +kernel
theorem n_110_11 : pm_ins 110 11 = some (.istore_n 2, 1) := by decide +kernel
theorem n_110_12 : pm_ins 110 12 = some (.iload_n 2, 1) := by decide +kernel
theorem n_110_13 : pm_ins 110 13 = some (.iconst 4, 1) := by decide +kernel
theorem n_110_14 : pm_ins 110 14 = some (.if_icmp .ge 35, 3) := by decide +kernel
theorem n_110_17 : pm_ins 110 17 = some (.aload_n 0, 1) := by decide +kernel
theorem n_110_18 : pm_ins 110 18 = some (.getfield 41, 3) := by decide +kernel
theorem n_110_21 : pm_ins 110 21 = some (.iconst 4, 1) := by decide +kernel
theorem n_110_22 : pm_ins 110 22 = some (.iload_n 1, 1) := by decide +kernel
theorem n_110_23 : pm_ins 110 23 = some (.imul, 1) := by decide +kernel
theorem n_110_24 : pm_ins 110 24 = some (.iload_n 2, 1) := by decide +kernel
theorem n_110_25 : pm_ins 110 25 = some (.iadd, 1) := by decide +kernel
theorem n_110_26 : pm_ins 110 26 = some (.baload, 1) := by decide +kernel
theorem n_110_27 : pm_ins 110 27 = some (.ifCond .eq 16, 3) := by decide +kernel
theorem n_110_30 : pm_ins 110 30 = some (.aload_n 0, 1) := by decide +kernel
theorem n_110_31 : pm_ins 110 31 = some (.getfield 41, 3) := by decide +kernel
theorem n_110_34 : pm_ins 110 34 = some (.iconst 4, 1) := by decide +kernel
theorem n_110_35 : pm_ins 110 35 = some (.iload_n 1, 1) := by decide +kernel
theorem n_110_36 : pm_ins 110 36 = some (.imul, 1) := by decide +kernel
theorem n_110_37 : pm_ins 110 37 = some (.iload_n 2, 1) := by decide +kernel
theorem n_110_38 : pm_ins 110 38 = some (.iadd, 1) := by decide +kernel
theorem n_110_39 : pm_ins 110 39 = some (.iconst 0, 1) := by decide +kernel
theorem n_110_40 : pm_ins 110 40 = some (.bastore, 1) := by decide +kernel
theorem n_110_41 : pm_ins 110 41 = some (.iload_n 2, 1) := by decide +kernel
theorem n_110_42 : pm_ins 110 42 = some (.ireturn, 1) := by decide +kernel
theorem n_110_43 : pm_ins 110 43 = some (.iinc 2 1, 3) := by decide +kernel
theorem n_110_46 : pm_ins 110 46 = some (.goto (-34), 3) := by decide +kernel
theorem n_110_49 : pm_ins 110 49 = some (.bipush (-11), 2) := by decide +kernel
theorem n_110_51 : pm_ins 110 51 = some (.ireturn, 1) := by decide +kernel
theorem n_111_0 : pm_ins 111 0 = some (.aload_n 0, 1) := by decide +kernel
theorem n_111_1 : pm_ins 111 1 = some (.iload_n 1, 1) := by decide +kernel
theorem n_111_2 : pm_ins 111 2 = some (.invokevirtual 94, 3) := by decide +kernel
theorem n_111_5 : pm_ins 111 5 = some (.ifCond .eq 11, 3) := by decide +kernel
theorem n_111_8 : pm_ins 111 8 = some (.aload_n 0, 1) := by decide +kernel
theorem n_111_9 : pm_ins 111 9 = some (.iload_n 2, 1) := by decide +kernel
theorem n_111_10 : pm_ins 111 10 = some (.invokevirtual 94, 3) := by decide +kernel
theorem n_111_13 : pm_ins 111 13 = some (.ifCond .ne 5, 3) := by decide +kernel
theorem n_111_16 : pm_ins 111 16 = some (.iconst (-1), 1) := by decide +kernel
theorem n_111_17 : pm_ins 111 17 = some (.ireturn, 1) := by decide +kernel
theorem n_111_18 : pm_ins 111 18 = some (.iload_n 1, 1) := by decide +kernel
theorem n_111_19 : pm_ins 111 19 = some (.iload_n 2, 1) := by decide +kernel
theorem n_111_20 : pm_ins 111 20 = some (.if_icmp .ne 6, 3) := by decide +kernel
theorem n_111_23 : pm_ins 111 23 = some (.bipush (-2), 2) := by decide +kernel
theorem n_111_25 : pm_ins 111 25 = some (.ireturn, 1) := by decide +kernel
theorem n_111_26 : pm_ins 111 26 = some (.iconst 0, 1) := by decide +kernel
theorem n_111_27 : pm_ins 111 27 = some (.istore_n 3, 1) := by decide +kernel
theorem n_111_28 : pm_ins 111 28 = some (.iload_n 3, 1) := by decide +kernel
theorem n_111_29 : pm_ins 111 29 = some (.iconst 3, 1) := by decide +kernel
theorem n_111_30 : pm_ins 111 30 = some (.if_icmp .ge 18, 3) := by decide +kernel
theorem n_111_33 : pm_ins 111 33 = some (.aload_n 0, 1) := by decide +kernel
theorem n_111_34 : pm_ins 111 34 = some (.getfield 44, 3) := by decide +kernel
theorem n_111_37 : pm_ins 111 37 = some (.iload_n 3, 1) := by decide +kernel
theorem n_111_38 : pm_ins 111 38 = some (.iaload, 1) := by decide +kernel
theorem n_111_39 : pm_ins 111 39 = some (.ifCond .le 9, 3) := by decide +kernel
theorem n_111_42 : pm_ins 111 42 = some (.iinc 3 1, 3) := by decide +kernel
theorem n_111_45 : pm_ins 111 45 = some (.goto (-17), 3) := by decide +kernel
theorem n_111_48 : pm_ins 111 48 = some (.iload_n 3, 1) := by decide +kernel
theorem n_111_49 : pm_ins 111 49 = some (.iconst 3, 1) := by decide +kernel
theorem n_111_50 : pm_ins 111 50 = some (.if_icmp .ge 32, 3) := by decide +kernel
theorem n_111_53 : pm_ins 111 53 = some (.aload_n 0, 1) := by decide +kernel
theorem n_111_54 : pm_ins 111 54 = some (.iload_n 1, 1) := by decide +kernel
theorem n_111_55 : pm_ins 111 55 = some (.invokevirtual 91, 3) := by decide +kernel
theorem n_111_58 : pm_ins 111 58 = some (.bipush 6, 2) := by decide +kernel
theorem n_111_60 : pm_ins 111 60 = some (.if_icmp .ge 22, 3) := by decide +kernel
theorem n_111_63 : pm_ins 111 63 = some (.aload_n 0, 1) := by decide +kernel
theorem n_111_64 : pm_ins 111 64 = some (.invokevirtual 109, 3) := by decide +kernel
theorem n_111_67 : pm_ins 111 67 = some (.ifCond .lt 15, 3) := by decide +kernel
theorem n_111_70 : pm_ins 111 70 = some (.aload_n 0, 1) := by decide +kernel
theorem n_111_71 : pm_ins 111 71 = some (.iload_n 1, 1) := by decide +kernel
theorem n_111_72 : pm_ins 111 72 = some (.invokevirtual 113, 3) := by decide +kernel
theorem n_111_75 : pm_ins 111 75 = some (.ifCond .lt 7, 3) := by decide +kernel
theorem n_111_78 : pm_ins 111 78 = some (.iconst 1, 1) := by decide +kernel
theorem n_111_79 : pm_ins 111 79 = some (.goto 4, 3) := by decide +kernel
theorem n_111_82 : pm_ins 111 82 = some (.iconst 0, 1) := by decide +kernel
theorem n_111_83 : pm_ins 111 83 = some (.istore 4, 2) := by decide +kernel
theorem n_111_85 : pm_ins 111 85 = some (.iload 4, 2) := by decide +kernel
theorem n_111_87 : pm_ins 111 87 = some (.ifCond .eq 27, 3) := by decide +kernel
theorem n_111_90 : pm_ins 111 90 = some (.aload_n 0, 1) := by decide +kernel
theorem n_111_91 : pm_ins 111 91 = some (.iload_n 2, 1) := by decide +kernel
theorem n_111_92 : pm_ins 111 92 = some (.invokevirtual 120, 3) := by decide +kernel
theorem n_111_95 : pm_ins 111 95 = some (.ifCond .lt 19, 3) := by decide +kernel
theorem n_111_98 : pm_ins 111 98 = some (.aload_n 0, 1) := by decide +kernel
theorem n_111_99 : pm_ins 111 99 = some (.iload_n 1, 1) := by decide +kernel
theorem n_111_100 : pm_ins 111 100 = some (.invokevirtual 136, 3) := by decide +kernel
theorem n_111_103 : pm_ins 111 103 = some (.ifCond .lt 11, 3) := by decide +kernel
theorem n_111_106 : pm_ins 111 106 = some (.aload_n 0, 1) := by decide +kernel
theorem n_111_107 : pm_ins 111 107 = some (.iload_n 2, 1) := by decide +kernel
theorem n_111_108 : pm_ins 111 108 = some (.invokevirtual 136, 3) := by decide +kernel
theorem n_111_111 : pm_ins 111 111 = some (.ifCond .ge 6, 3) := by decide +kernel
theorem n_111_114 : pm_ins 111 114 = some (.bipush (-7), 2) := by decide +kernel
theorem n_111_116 : pm_ins 111 116 = some (.ireturn, 1) := by decide +kernel
theorem n_111_117 : pm_ins 111 117 = some (.aload_n 0, 1) := by decide +kernel
theorem n_111_118 : pm_ins 111 118 = some (.getfield 44, 3) := by decide +kernel
theorem n_111_121 : pm_ins 111 121 = some (.iload_n 3, 1) := by decide +kernel
theorem n_111_122 : pm_ins 111 122 = some (.iload_n 1, 1) := by decide +kernel
theorem n_111_123 : pm_ins 111 123 = some (.iconst 1, 1) := by decide +kernel
theorem n_111_124 : pm_ins 111 124 = some (.iadd, 1) := by decide +kernel
theorem n_111_125 : pm_ins 111 125 = some (.iastore, 1) := by decide +kernel
theorem n_111_126 : pm_ins 111 126 = some (.aload_n 0, 1) := by decide +kernel
theorem n_111_127 : pm_ins 111 127 = some (.getfield 47, 3) := by decide +kernel
theorem n_111_130 : pm_ins 111 130 = some (.iload_n 3, 1) := by decide +kernel
theorem n_111_131 : pm_ins 111 131 = some (.iload_n 2, 1) := by decide +kernel
theorem n_111_132 : pm_ins 111 132 = some (.iastore, 1) := by decide +kernel
theorem n_111_133 : pm_ins 111 133 = some (.aload_n 0, 1) := by decide +kernel
theorem n_111_134 : pm_ins 111 134 = some (.getfield 50, 3) := by decide +kernel
theorem n_111_137 : pm_ins 111 137 = some (.iload_n 3, 1) := by decide +kernel
theorem n_111_138 : pm_ins 111 138 = some (.aload_n 0, 1) := by decide +kernel
theorem n_111_139 : pm_ins 111 139 = some (.iload_n 1, 1) := by decide +kernel
theorem n_111_140 : pm_ins 111 140 = some (.invokevirtual 139, 3) := by decide +kernel
theorem n_111_143 : pm_ins 111 143 = some (.iastore, 1) := by decide +kernel
theorem n_111_144 : pm_ins 111 144 = some (.aload_n 0, 1) := by decide +kernel
theorem n_111_145 : pm_ins 111 145 = some (.getfield 53, 3) := by decide +kernel
theorem n_111_148 : pm_ins 111 148 = some (.iload_n 3, 1) := by decide +kernel
theorem n_111_149 : pm_ins 111 149 = some (.aload_n 0, 1) := by decide +kernel
theorem n_111_150 : pm_ins 111 150 = some (.iload_n 1, 1) := by decide +kernel
theorem n_111_151 : pm_ins 111 151 = some (.iload_n 2, 1) := by decide +kernel
theorem n_111_152 : pm_ins 111 152 = some (.aload_n 0, 1) := by decide +kernel
theorem n_111_153 : pm_ins 111 153 = some (.getfield 50, 3) := by decide +kernel
theorem n_111_156 : pm_ins 111 156 = some (.iload_n 3, 1) := by decide +kernel
theorem n_111_157 : pm_ins 111 157 = some (.iaload, 1) := by decide +kernel
theorem n_111_158 : pm_ins 111 158 = some (.iconst 1, 1) := by decide +kernel
theorem n_111_159 : pm_ins 111 159 = some (.invokevirtual 142, 3) := by decide +kernel
theorem n_111_162 : pm_ins 111 162 = some (.iastore, 1) := by decide +kernel
theorem n_111_163 : pm_ins 111 163 = some (.aload_n 0, 1) := by decide +kernel
theorem n_111_164 : pm_ins 111 164 = some (.getfield 56, 3) := by decide +kernel
theorem n_111_167 : pm_ins 111 167 = some (.iload_n 3, 1) := by decide +kernel
theorem n_111_168 : pm_ins 111 168 = some (.aload_n 0, 1) := by decide +kernel
theorem n_111_169 : pm_ins 111 169 = some (.iload_n 2, 1) := by decide +kernel
theorem n_111_170 : pm_ins 111 170 = some (.iload_n 1, 1) := by decide +kernel
theorem n_111_171 : pm_ins 111 171 = some (.aload_n 0, 1) := by decide +kernel
theorem n_111_172 : pm_ins 111 172 = some (.getfield 53, 3) := by decide +kernel
theorem n_111_175 : pm_ins 111 175 = some (.iload_n 3, 1) := by decide +kernel
theorem n_111_176 : pm_ins 111 176 = some (.iaload, 1) := by decide +kernel
theorem n_111_177 : pm_ins 111 177 = some (.iconst 1, 1) := by decide +kernel
theorem n_111_178 : pm_ins 111 178 = some (.invokevirtual 146, 3) := by decide +kernel
theorem n_111_181 : pm_ins 111 181 = some (.iastore, 1) := by decide +kernel
theorem n_111_182 : pm_ins 111 182 = some (.aload_n 0, 1) := by decide +kernel
theorem n_111_183 : pm_ins 111 183 = some (.getfield 59, 3) := by decide +kernel
theorem n_111_186 : pm_ins 111 186 = some (.iload_n 3, 1) := by decide +kernel
theorem n_111_187 : pm_ins 111 187 = some (.aload_n 0, 1) := by decide +kernel
theorem n_111_188 : pm_ins 111 188 = some (.iload_n 1, 1) := by decide +kernel
theorem n_111_189 : pm_ins 111 189 = some (.iload_n 2, 1) := by decide +kernel
theorem n_111_190 : pm_ins 111 190 = some (.invokevirtual 149, 3) := by decide +kernel
theorem n_111_193 : pm_ins 111 193 = some (.iastore, 1) := by decide +kernel
theorem n_111_194 : pm_ins 111 194 = some (.aload_n 0, 1) := by decide +kernel
theorem n_111_195 : pm_ins 111 195 = some (.getfield 62, 3) := by decide +kernel
theorem n_111_198 : pm_ins 111 198 = some (.iload_n 3, 1) := by decide +kernel
theorem n_111_199 : pm_ins 111 199 = some (.aload_n 0, 1) := by decide +kernel
theorem n_111_200 : pm_ins 111 200 = some (.iload_n 2, 1) := by decide +kernel
theorem n_111_201 : pm_ins 111 201 = some (.iload_n 1, 1) := by decide +kernel
theorem n_111_202 : pm_ins 111 202 = some (.aload_n 0, 1) := by decide +kernel
theorem n_111_203 : pm_ins 111 203 = some (.getfield 59, 3) := by decide +kernel
theorem n_111_206 : pm_ins 111 206 = some (.iload_n 3, 1) := by decide +kernel
theorem n_111_207 : pm_ins 111 207 = some (.iaload, 1) := by decide +kernel
theorem n_111_208 : pm_ins 111 208 = some (.invokevirtual 152, 3) := by decide +kernel
theorem n_111_211 : pm_ins 111 211 = some (.iastore, 1) := by decide +kernel
theorem n_111_212 : pm_ins 111 212 = some (.aload_n 0, 1) := by decide +kernel
theorem n_111_213 : pm_ins 111 213 = some (.getfield 65, 3) := by decide +kernel
theorem n_111_216 : pm_ins 111 216 = some (.iload_n 3, 1) := by decide +kernel
theorem n_111_217 : pm_ins 111 217 = some (.iconst 0, 1) := by decide +kernel
theorem n_111_218 : pm_ins 111 218 = some (.iastore, 1) := by decide +kernel
theorem n_111_219 : pm_ins 111 219 = some (.aload_n 0, 1) := by decide +kernel
theorem n_111_220 : pm_ins 111 220 = some (.getfield 68, 3) := by decide +kernel
theorem n_111_223 : pm_ins 111 223 = some (.iload_n 3, 1) := by decide +kernel
theorem n_111_224 : pm_ins 111 224 = some (.iconst 0, 1) := by decide +kernel
theorem n_111_225 : pm_ins 111 225 = some (.iastore, 1) := by decide +kernel
theorem n_111_226 : pm_ins 111 226 = some (.aload_n 0, 1) := by decide +kernel
theorem n_111_227 : pm_ins 111 227 = some (.getfield 71, 3) := by decide +kernel
theorem n_111_230 : pm_ins 111 230 = some (.iload_n 3, 1) := by decide +kernel
theorem n_111_231 : pm_ins 111 231 = some (.iconst 0, 1) := by decide +kernel
theorem n_111_232 : pm_ins 111 232 = some (.iastore, 1) := by decide +kernel
theorem n_111_233 : pm_ins 111 233 = some (.iconst 0, 1) := by decide +kernel
theorem n_111_234 : pm_ins 111 234 = some (.istore 5, 2) := by decide +kernel
theorem n_111_236 : pm_ins 111 236 = some (.iload 5, 2) := by decide +kernel
theorem n_111_238 : pm_ins 111 238 = some (.bipush 8, 2) := by decide +kernel
theorem n_111_240 : pm_ins 111 240 = some (.if_icmp .ge 22, 3) := by decide +kernel
theorem n_111_243 : pm_ins 111 243 = some (.aload_n 0, 1) := by decide +kernel
theorem n_111_244 : pm_ins 111 244 = some (.getfield 80, 3) := by decide +kernel
theorem n_111_247 : pm_ins 111 247 = some (.bipush 8, 2) := by decide +kernel
theorem n_111_249 : pm_ins 111 249 = some (.iload_n 3, 1) := by decide +kernel
theorem n_111_250 : pm_ins 111 250 = some (.imul, 1) := by decide +kernel
theorem n_111_251 : pm_ins 111 251 = some (.iload 5, 2) := by decide +kernel
theorem n_111_253 : pm_ins 111 253 = some (.iadd, 1) := by decide +kernel
theorem n_111_254 : pm_ins 111 254 = some (.iconst 0, 1) := by decide +kernel
theorem n_111_255 : pm_ins 111 255 = some (.iastore, 1) := by decide +kernel
theorem n_111_256 : pm_ins 111 256 = some (.iinc 5 1, 3) := by decide +kernel
theorem n_111_259 : pm_ins 111 259 = some (.goto (-23), 3) := by decide +kernel
theorem n_111_262 : pm_ins 111 262 = some (.iload_n 3, 1) := by decide +kernel
theorem n_111_263 : pm_ins 111 263 = some (.ireturn, 1) := by decide +kernel
theorem n_112_0 : pm_ins 112 0 = some (.iload_n 1, 1) := by decide +kernel
theorem n_112_1 : pm_ins 112 1 = some (.ifCond .lt 17, 3) := by decide +kernel
theorem n_112_4 : pm_ins 112 4 = some (.iload_n 1, 1) := by decide +kernel
theorem n_112_5 : pm_ins 112 5 = some (.iconst 2, 1) := by decide +kernel
theorem n_112_6 : pm_ins 112 6 = some (.if_icmp .gt 12, 3) := by decide +kernel
theorem n_112_9 : pm_ins 112 9 = some (.aload_n 0, 1) := by decide +kernel
theorem n_112_10 : pm_ins 112 10 = some (.getfield 44, 3) := by decide +kernel
theorem n_112_13 : pm_ins 112 13 = some (.iload_n 1, 1) := by decide +kernel
theorem n_112_14 : pm_ins 112 14 = some (.iaload, 1) := by decide +kernel
theorem n_112_15 : pm_ins 112 15 = some (.ifCond .ne 6, 3) := by decide +kernel
theorem n_112_18 : pm_ins 112 18 = some (.bipush (-9), 2) := by decide +kernel
theorem n_112_20 : pm_ins 112 20 = some (.ireturn, 1) := by decide +kernel
theorem n_112_21 : pm_ins 112 21 = some (.iconst 5, 1) := by decide +kernel
theorem n_112_22 : pm_ins 112 22 = some (.aload_n 0, 1) := by decide +kernel
theorem n_112_23 : pm_ins 112 23 = some (.getfield 47, 3) := by decide +kernel
theorem n_112_26 : pm_ins 112 26 = some (.iload_n 1, 1) := by decide +kernel
theorem n_112_27 : pm_ins 112 27 = some (.iaload, 1) := by decide +kernel
theorem n_112_28 : pm_ins 112 28 = some (.imul, 1) := by decide +kernel
theorem n_112_29 : pm_ins 112 29 = some (.aload_n 0, 1) := by decide +kernel
theorem n_112_30 : pm_ins 112 30 = some (.getfield 56, 3) := by decide +kernel
theorem n_112_33 : pm_ins 112 33 = some (.iload_n 1, 1) := by decide +kernel
theorem n_112_34 : pm_ins 112 34 = some (.iaload, 1) := by decide +kernel
theorem n_112_35 : pm_ins 112 35 = some (.iadd, 1) := by decide +kernel
theorem n_112_36 : pm_ins 112 36 = some (.istore_n 2, 1) := by decide +kernel
theorem n_112_37 : pm_ins 112 37 = some (.bipush 6, 2) := by decide +kernel
theorem n_112_39 : pm_ins 112 39 = some (.aload_n 0, 1) := by decide +kernel
theorem n_112_40 : pm_ins 112 40 = some (.getfield 44, 3) := by decide +kernel
theorem n_112_43 : pm_ins 112 43 = some (.iload_n 1, 1) := by decide +kernel
theorem n_112_44 : pm_ins 112 44 = some (.iaload, 1) := by decide +kernel
theorem n_112_45 : pm_ins 112 45 = some (.iconst 1, 1) := by decide +kernel
theorem n_112_46 : pm_ins 112 46 = some (.isub, 1) := by decide +kernel
theorem n_112_47 : pm_ins 112 47 = some (.imul, 1) := by decide +kernel
theorem n_112_48 : pm_ins 112 48 = some (.aload_n 0, 1) := by decide +kernel
theorem n_112_49 : pm_ins 112 49 = some (.getfield 53, 3) := by decide +kernel
theorem n_112_52 : pm_ins 112 52 = some (.iload_n 1, 1) := by decide +kernel
theorem n_112_53 : pm_ins 112 53 = some (.iaload, 1) := by decide +kernel
theorem n_112_54 : pm_ins 112 54 = some (.iadd, 1) := by decide +kernel
theorem n_112_55 : pm_ins 112 55 = some (.istore_n 3, 1) := by decide +kernel
theorem n_112_56 : pm_ins 112 56 = some (.aload_n 0, 1) := by decide +kernel
theorem n_112_57 : pm_ins 112 57 = some (.getfield 28, 3) := by decide +kernel
theorem n_112_60 : pm_ins 112 60 = some (.iload_n 2, 1) := by decide +kernel
theorem n_112_61 : pm_ins 112 61 = some (.iaload, 1) := by decide +kernel
theorem n_112_62 : pm_ins 112 62 = some (.iload_n 3, 1) := by decide +kernel
theorem n_112_63 : pm_ins 112 63 = some (.iconst 1, 1) := by decide +kernel
theorem n_112_64 : pm_ins 112 64 = some (.iadd, 1) := by decide +kernel
theorem n_112_65 : pm_ins 112 65 = some (.if_icmp .ne 31, 3) := by decide +kernel
theorem n_112_68 : pm_ins 112 68 = some (.aload_n 0, 1) := by decide +kernel
theorem n_112_69 : pm_ins 112 69 = some (.getfield 31, 3) := by decide +kernel
theorem n_112_72 : pm_ins 112 72 = some (.iload_n 2, 1) := by decide +kernel
theorem n_112_73 : pm_ins 112 73 = some (.baload, 1) := by decide +kernel
theorem n_112_74 : pm_ins 112 74 = some (.ifCond .eq 22, 3) := by decide +kernel
theorem n_112_77 : pm_ins 112 77 = some (.aload_n 0, 1) := by decide +kernel
theorem n_112_78 : pm_ins 112 78 = some (.getfield 25, 3) := by decide +kernel
theorem n_112_81 : pm_ins 112 81 = some (.iload_n 3, 1) := by decide +kernel
theorem n_112_82 : pm_ins 112 82 = some (.iaload, 1) := by decide +kernel
theorem n_112_83 : pm_ins 112 83 = some (.aload_n 0, 1) := by decide +kernel
theorem n_112_84 : pm_ins 112 84 = some (.getfield 50, 3) := by decide +kernel
theorem n_112_87 : pm_ins 112 87 = some (.iload_n 1, 1) := by decide +kernel
theorem n_112_88 : pm_ins 112 88 = some (.iaload, 1) := by decide +kernel
theorem n_112_89 : pm_ins 112 89 = some (.if_icmp .ne 7, 3) := by decide +kernel
theorem n_112_92 : pm_ins 112 92 = some (.iconst 0, 1) := by decide +kernel
theorem n_112_93 : pm_ins 112 93 = some (.goto 5, 3) := by decide +kernel
theorem n_112_96 : pm_ins 112 96 = some (.bipush (-10), 2) := by decide +kernel
theorem n_112_98 : pm_ins 112 98 = some (.ireturn, 1) := by decide +kernel
theorem n_113_0 : pm_ins 113 0 = some (.aload_n 0, 1) := by decide +kernel
theorem n_113_1 : pm_ins 113 1 = some (.iload_n 1, 1) := by decide +kernel
theorem n_113_2 : pm_ins 113 2 = some (.invokevirtual 156, 3) := by decide +kernel
theorem n_113_5 : pm_ins 113 5 = some (.istore 5, 2) := by decide +kernel
theorem n_113_7 : pm_ins 113 7 = some (.iload 5, 2) := by decide +kernel
theorem n_113_9 : pm_ins 113 9 = some (.ifCond .ge 6, 3) := by decide +kernel
theorem n_113_12 : pm_ins 113 12 = some (.iload 5, 2) := by decide +kernel
theorem n_113_14 : pm_ins 113 14 = some (.ireturn, 1) := by decide +kernel
theorem n_113_15 : pm_ins 113 15 = some (.iload_n 3, 1) := by decide +kernel
theorem n_113_16 : pm_ins 113 16 = some (.ifCond .lt 9, 3) := by decide +kernel
theorem n_113_19 : pm_ins 113 19 = some (.iload_n 3, 1) := by decide +kernel
theorem n_113_20 : pm_ins 113 20 = some (.bipush 7, 2) := by decide +kernel
theorem n_113_22 : pm_ins 113 22 = some (.if_icmp .le 6, 3) := by decide +kernel
theorem n_113_25 : pm_ins 113 25 = some (.bipush (-2), 2) := by decide +kernel
theorem n_113_27 : pm_ins 113 27 = some (.ireturn, 1) := by decide +kernel
theorem n_113_28 : pm_ins 113 28 = some (.aload_n 0, 1) := by decide +kernel
theorem n_113_29 : pm_ins 113 29 = some (.getfield 44, 3) := by decide +kernel
theorem n_113_32 : pm_ins 113 32 = some (.iload_n 1, 1) := by decide +kernel
theorem n_113_33 : pm_ins 113 33 = some (.iaload, 1) := by decide +kernel
theorem n_113_34 : pm_ins 113 34 = some (.iconst 1, 1) := by decide +kernel
theorem n_113_35 : pm_ins 113 35 = some (.isub, 1) := by decide +kernel
theorem n_113_36 : pm_ins 113 36 = some (.istore 6, 2) := by decide +kernel
theorem n_113_38 : pm_ins 113 38 = some (.aload_n 0, 1) := by decide +kernel
theorem n_113_39 : pm_ins 113 39 = some (.getfield 65, 3) := by decide +kernel
theorem n_113_42 : pm_ins 113 42 = some (.iload_n 1, 1) := by decide +kernel
theorem n_113_43 : pm_ins 113 43 = some (.iaload, 1) := by decide +kernel
theorem n_113_44 : pm_ins 113 44 = some (.aload_n 0, 1) := by decide +kernel
theorem n_113_45 : pm_ins 113 45 = some (.getfield 68, 3) := by decide +kernel
theorem n_113_48 : pm_ins 113 48 = some (.iload_n 1, 1) := by decide +kernel
theorem n_113_49 : pm_ins 113 49 = some (.iaload, 1) := by decide +kernel
theorem n_113_50 : pm_ins 113 50 = some (.isub, 1) := by decide +kernel
theorem n_113_51 : pm_ins 113 51 = some (.iconst 3, 1) := by decide +kernel
theorem n_113_52 : pm_ins 113 52 = some (.if_icmp .eq 30, 3) := by decide +kernel
theorem n_113_55 : pm_ins 113 55 = some (.aload_n 0, 1) := by decide +kernel
theorem n_113_56 : pm_ins 113 56 = some (.iload 6, 2) := by decide +kernel
theorem n_113_58 : pm_ins 113 58 = some (.invokevirtual 91, 3) := by decide +kernel
theorem n_113_61 : pm_ins 113 61 = some (.bipush 6, 2) := by decide +kernel
theorem n_113_63 : pm_ins 113 63 = some (.if_icmp .ge 19, 3) := by decide +kernel
theorem n_113_66 : pm_ins 113 66 = some (.aload_n 0, 1) := by decide +kernel
theorem n_113_67 : pm_ins 113 67 = some (.invokevirtual 109, 3) := by decide +kernel
theorem n_113_70 : pm_ins 113 70 = some (.ifCond .lt 12, 3) := by decide +kernel
theorem n_113_73 : pm_ins 113 73 = some (.aload_n 0, 1) := by decide +kernel
theorem n_113_74 : pm_ins 113 74 = some (.iload 6, 2) := by decide +kernel
theorem n_113_76 : pm_ins 113 76 = some (.invokevirtual 113, 3) := by decide +kernel
theorem n_113_79 : pm_ins 113 79 = some (.ifCond .ge 6, 3) := by decide +kernel
theorem n_113_82 : pm_ins 113 82 = some (.bipush (-7), 2) := by decide +kernel
theorem n_113_84 : pm_ins 113 84 = some (.ireturn, 1) := by decide +kernel
theorem n_113_85 : pm_ins 113 85 = some (.aload_n 0, 1) := by decide +kernel
theorem n_113_86 : pm_ins 113 86 = some (.iload 6, 2) := by decide +kernel
theorem n_113_88 : pm_ins 113 88 = some (.invokevirtual 139, 3) := by decide +kernel
theorem n_113_91 : pm_ins 113 91 = some (.istore 7, 2) := by decide +kernel
theorem n_113_93 : pm_ins 113 93 = some (.iload_n 2, 1) := by decide +kernel
theorem n_113_94 : pm_ins 113 94 = some (.ifCond .eq 15, 3) := by decide +kernel
theorem n_113_97 : pm_ins 113 97 = some (.aload_n 0, 1) := by decide +kernel
theorem n_113_98 : pm_ins 113 98 = some (.getfield 16, 3) := by decide +kernel
theorem n_113_101 : pm_ins 113 101 = some (.bipush 8, 2) := by decide +kernel
theorem n_113_103 : pm_ins 113 103 = some (.iload 7, 2) := by decide +kernel
theorem n_113_105 : pm_ins 113 105 = some (.imul, 1) := by decide +kernel
theorem n_113_106 : pm_ins 113 106 = some (.iload 4, 2) := by decide +kernel
theorem n_113_108 : pm_ins 113 108 = some (.iastore, 1) := by decide +kernel
theorem n_113_109 : pm_ins 113 109 = some (.aload_n 0, 1) := by decide +kernel
theorem n_113_110 : pm_ins 113 110 = some (.iload 6, 2) := by decide +kernel
theorem n_113_112 : pm_ins 113 112 = some (.aload_n 0, 1) := by decide +kernel
theorem n_113_113 : pm_ins 113 113 = some (.getfield 47, 3) := by decide +kernel
theorem n_113_116 : pm_ins 113 116 = some (.iload_n 1, 1) := by decide +kernel
theorem n_113_117 : pm_ins 113 117 = some (.iaload, 1) := by decide +kernel
theorem n_113_118 : pm_ins 113 118 = some (.iload 7, 2) := by decide +kernel
theorem n_113_120 : pm_ins 113 120 = some (.iload_n 2, 1) := by decide +kernel
theorem n_113_121 : pm_ins 113 121 = some (.ifCond .eq 7, 3) := by decide +kernel
theorem n_113_124 : pm_ins 113 124 = some (.iconst 0, 1) := by decide +kernel
theorem n_113_125 : pm_ins 113 125 = some (.goto 4, 3) := by decide +kernel
theorem n_113_128 : pm_ins 113 128 = some (.iconst 1, 1) := by decide +kernel
theorem n_113_129 : pm_ins 113 129 = some (.invokevirtual 142, 3) := by decide +kernel
theorem n_113_132 : pm_ins 113 132 = some (.istore 8, 2) := by decide +kernel
theorem n_113_134 : pm_ins 113 134 = some (.aload_n 0, 1) := by decide +kernel
theorem n_113_135 : pm_ins 113 135 = some (.getfield 65, 3) := by decide +kernel
theorem n_113_138 : pm_ins 113 138 = some (.iload_n 1, 1) := by decide +kernel
theorem n_113_139 : pm_ins 113 139 = some (.iaload, 1) := by decide +kernel
theorem n_113_140 : pm_ins 113 140 = some (.istore 9, 2) := by decide +kernel
theorem n_113_142 : pm_ins 113 142 = some (.aload_n 0, 1) := by decide +kernel
theorem n_113_143 : pm_ins 113 143 = some (.getfield 74, 3) := by decide +kernel
theorem n_113_146 : pm_ins 113 146 = some (.iconst 3, 1) := by decide +kernel
theorem n_113_147 : pm_ins 113 147 = some (.iload_n 1, 1) := by decide +kernel
theorem n_113_148 : pm_ins 113 148 = some (.imul, 1) := by decide +kernel
theorem n_113_149 : pm_ins 113 149 = some (.iload 9, 2) := by decide +kernel
theorem n_113_151 : pm_ins 113 151 = some (.iconst 3, 1) := by decide +kernel
theorem n_113_152 : pm_ins 113 152 = some (.irem, 1) := by decide +kernel
theorem n_113_153 : pm_ins 113 153 = some (.iadd, 1) := by decide +kernel
theorem n_113_154 : pm_ins 113 154 = some (.iload 7, 2) := by decide +kernel
theorem n_113_156 : pm_ins 113 156 = some (.iastore, 1) := by decide +kernel
theorem n_113_157 : pm_ins 113 157 = some (.aload_n 0, 1) := by decide +kernel
theorem n_113_158 : pm_ins 113 158 = some (.getfield 77, 3) := by decide +kernel
theorem n_113_161 : pm_ins 113 161 = some (.iconst 3, 1) := by decide +kernel
theorem n_113_162 : pm_ins 113 162 = some (.iload_n 1, 1) := by decide +kernel
theorem n_113_163 : pm_ins 113 163 = some (.imul, 1) := by decide +kernel
theorem n_113_164 : pm_ins 113 164 = some (.iload 9, 2) := by decide +kernel
theorem n_113_166 : pm_ins 113 166 = some (.iconst 3, 1) := by decide +kernel
theorem n_113_167 : pm_ins 113 167 = some (.irem, 1) := by decide +kernel
theorem n_113_168 : pm_ins 113 168 = some (.iadd, 1) := by decide +kernel
theorem n_113_169 : pm_ins 113 169 = some (.iload 8, 2) := by decide +kernel
theorem n_113_171 : pm_ins 113 171 = some (.iastore, 1) := by decide +kernel
theorem n_113_172 : pm_ins 113 172 = some (.aload_n 0, 1) := by decide +kernel
theorem n_113_173 : pm_ins 113 173 = some (.getfield 16, 3) := by decide +kernel
theorem n_113_176 : pm_ins 113 176 = some (.bipush 8, 2) := by decide +kernel
theorem n_113_178 : pm_ins 113 178 = some (.aload_n 0, 1) := by decide +kernel
theorem n_113_179 : pm_ins 113 179 = some (.getfield 50, 3) := by decide +kernel
theorem n_113_182 : pm_ins 113 182 = some (.iload_n 1, 1) := by decide +kernel
theorem n_113_183 : pm_ins 113 183 = some (.iaload, 1) := by decide +kernel
theorem n_113_184 : pm_ins 113 184 = some (.imul, 1) := by decide +kernel
theorem n_113_185 : pm_ins 113 185 = some (.iconst 2, 1) := by decide +kernel
theorem n_113_186 : pm_ins 113 186 = some (.iadd, 1) := by decide +kernel
theorem n_113_187 : pm_ins 113 187 = some (.iload 9, 2) := by decide +kernel
theorem n_113_189 : pm_ins 113 189 = some (.iconst 3, 1) := by decide +kernel
theorem n_113_190 : pm_ins 113 190 = some (.irem, 1) := by decide +kernel
theorem n_113_191 : pm_ins 113 191 = some (.iadd, 1) := by decide +kernel
theorem n_113_192 : pm_ins 113 192 = some (.iload_n 3, 1) := by decide +kernel
theorem n_113_193 : pm_ins 113 193 = some (.iload_n 2, 1) := by decide +kernel
theorem n_113_194 : pm_ins 113 194 = some (.ifCond .eq 8, 3) := by decide +kernel
theorem n_113_197 : pm_ins 113 197 = some (.bipush 8, 2) := by decide +kernel
theorem n_113_199 : pm_ins 113 199 = some (.goto 4, 3) := by decide +kernel
theorem n_113_202 : pm_ins 113 202 = some (.iconst 0, 1) := by decide +kernel
theorem n_113_203 : pm_ins 113 203 = some (.iadd, 1) := by decide +kernel
theorem n_113_204 : pm_ins 113 204 = some (.bipush 16, 2) := by decide +kernel
theorem n_113_206 : pm_ins 113 206 = some (.iload 8, 2) := by decide +kernel
theorem n_113_208 : pm_ins 113 208 = some (.imul, 1) := by decide +kernel
theorem n_113_209 : pm_ins 113 209 = some (.iadd, 1) := by decide +kernel
theorem n_113_210 : pm_ins 113 210 = some (.iastore, 1) := by decide +kernel
theorem n_113_211 : pm_ins 113 211 = some (.aload_n 0, 1) := by decide +kernel
theorem n_113_212 : pm_ins 113 212 = some (.getfield 65, 3) := by decide +kernel
theorem n_113_215 : pm_ins 113 215 = some (.iload_n 1, 1) := by decide +kernel
theorem n_113_216 : pm_ins 113 216 = some (.iload 9, 2) := by decide +kernel
theorem n_113_218 : pm_ins 113 218 = some (.iconst 1, 1) := by decide +kernel
theorem n_113_219 : pm_ins 113 219 = some (.iadd, 1) := by decide +kernel
theorem n_113_220 : pm_ins 113 220 = some (.iastore, 1) := by decide +kernel
theorem n_113_221 : pm_ins 113 221 = some (.aload_n 0, 1) := by decide +kernel
theorem n_113_222 : pm_ins 113 222 = some (.getfield 16, 3) := by decide +kernel
theorem n_113_225 : pm_ins 113 225 = some (.bipush 8, 2) := by decide +kernel
theorem n_113_227 : pm_ins 113 227 = some (.aload_n 0, 1) := by decide +kernel
theorem n_113_228 : pm_ins 113 228 = some (.getfield 50, 3) := by decide +kernel
theorem n_113_231 : pm_ins 113 231 = some (.iload_n 1, 1) := by decide +kernel
theorem n_113_232 : pm_ins 113 232 = some (.iaload, 1) := by decide +kernel
theorem n_113_233 : pm_ins 113 233 = some (.imul, 1) := by decide +kernel
theorem n_113_234 : pm_ins 113 234 = some (.iload 9, 2) := by decide +kernel
theorem n_113_236 : pm_ins 113 236 = some (.iconst 1, 1) := by decide +kernel
theorem n_113_237 : pm_ins 113 237 = some (.iadd, 1) := by decide +kernel
theorem n_113_238 : pm_ins 113 238 = some (.iastore, 1) := by decide +kernel
theorem n_113_239 : pm_ins 113 239 = some (.aload_n 0, 1) := by decide +kernel
theorem n_113_240 : pm_ins 113 240 = some (.iload 6, 2) := by decide +kernel
theorem n_113_242 : pm_ins 113 242 = some (.aload_n 0, 1) := by decide +kernel
theorem n_113_243 : pm_ins 113 243 = some (.getfield 59, 3) := by decide +kernel
theorem n_113_246 : pm_ins 113 246 = some (.iload_n 1, 1) := by decide +kernel
theorem n_113_247 : pm_ins 113 247 = some (.iaload, 1) := by decide +kernel
theorem n_113_248 : pm_ins 113 248 = some (.invokevirtual 159, 3) := by decide +kernel
theorem n_113_251 : pm_ins 113 251 = some (.pop, 1) := by decide +kernel
theorem n_113_252 : pm_ins 113 252 = some (.iload 9, 2) := by decide +kernel
theorem n_113_254 : pm_ins 113 254 = some (.ireturn, 1) := by decide +kernel
theorem n_114_0 : pm_ins 114 0 = some (.aload_n 0, 1) := by decide +kernel
theorem n_114_1 : pm_ins 114 1 = some (.iload_n 1, 1) := by decide +kernel
theorem n_114_2 : pm_ins 114 2 = some (.invokevirtual 156, 3) := by decide +kernel
theorem n_114_5 : pm_ins 114 5 = some (.istore_n 2, 1) := by decide +kernel
theorem n_114_6 : pm_ins 114 6 = some (.iload_n 2, 1) := by decide +kernel
theorem n_114_7 : pm_ins 114 7 = some (.ifCond .ge 5, 3) := by decide +kernel
theorem n_114_10 : pm_ins 114 10 = some (.iload_n 2, 1) := by decide +kernel
theorem n_114_11 : pm_ins 114 11 = some (.ireturn, 1) := by decide +kernel
theorem n_114_12 : pm_ins 114 12 = some (.bipush 8, 2) := by decide +kernel
theorem n_114_14 : pm_ins 114 14 = some (.aload_n 0, 1) := by decide +kernel
theorem n_114_15 : pm_ins 114 15 = some (.getfield 50, 3) := by decide +kernel
theorem n_114_18 : pm_ins 114 18 = some (.iload_n 1, 1) := by decide +kernel
theorem n_114_19 : pm_ins 114 19 = some (.iaload, 1) := by decide +kernel
theorem n_114_20 : pm_ins 114 20 = some (.imul, 1) := by decide +kernel
theorem n_114_21 : pm_ins 114 21 = some (.istore_n 3, 1) := by decide +kernel
theorem n_114_22 : pm_ins 114 22 = some (.aload_n 0, 1) := by decide +kernel
theorem n_114_23 : pm_ins 114 23 = some (.getfield 71, 3) := by decide +kernel
theorem n_114_26 : pm_ins 114 26 = some (.iload_n 1, 1) := by decide +kernel
theorem n_114_27 : pm_ins 114 27 = some (.iaload, 1) := by decide +kernel
theorem n_114_28 : pm_ins 114 28 = some (.istore 4, 2) := by decide +kernel
theorem n_114_30 : pm_ins 114 30 = some (.aload_n 0, 1) := by decide +kernel
theorem n_114_31 : pm_ins 114 31 = some (.getfield 16, 3) := by decide +kernel
theorem n_114_34 : pm_ins 114 34 = some (.iload_n 3, 1) := by decide +kernel
theorem n_114_35 : pm_ins 114 35 = some (.iaload, 1) := by decide +kernel
theorem n_114_36 : pm_ins 114 36 = some (.i2l, 1) := by decide +kernel
theorem n_114_37 : pm_ins 114 37 = some (.iload 4, 2) := by decide +kernel
theorem n_114_39 : pm_ins 114 39 = some (.i2l, 1) := by decide +kernel
theorem n_114_40 : pm_ins 114 40 = some (.lsub, 1) := by decide +kernel
theorem n_114_41 : pm_ins 114 41 = some (.lstore 5, 2) := by decide +kernel
theorem n_114_43 : pm_ins 114 43 = some (.lload 5, 2) := by decide +kernel
theorem n_114_45 : pm_ins 114 45 = some (.lconst 1, 1) := by decide +kernel
theorem n_114_46 : pm_ins 114 46 = some (.lcmp, 1) := by decide +kernel
theorem n_114_47 : pm_ins 114 47 = some (.ifCond .lt 12, 3) := by decide +kernel
theorem n_114_50 : pm_ins 114 50 = some (.lload 5, 2) := by decide +kernel
theorem n_114_52 : pm_ins 114 52 = some (.ldc2_w 162, 3) := by decide +kernel
theorem n_114_55 : pm_ins 114 55 = some (.lcmp, 1) := by decide +kernel
theorem n_114_56 : pm_ins 114 56 = some (.ifCond .le 18, 3) := by decide +kernel
theorem n_114_59 : pm_ins 114 59 = some (.lload 5, 2) := by decide +kernel
theorem n_114_61 : pm_ins 114 61 = some (.lconst 0, 1) := by decide +kernel
theorem n_114_62 : pm_ins 114 62 = some (.lcmp, 1) := by decide +kernel
theorem n_114_63 : pm_ins 114 63 = some (.ifCond .ne 8, 3) := by decide +kernel
theorem n_114_66 : pm_ins 114 66 = some (.bipush (-11), 2) := by decide +kernel
theorem n_114_68 : pm_ins 114 68 = some (.goto 5, 3) := by decide +kernel
theorem n_114_71 : pm_ins 114 71 = some (.bipush (-12), 2) := by decide +kernel
theorem n_114_73 : pm_ins 114 73 = some (.ireturn, 1) := by decide +kernel
theorem n_114_74 : pm_ins 114 74 = some (.aload_n 0, 1) := by decide +kernel
theorem n_114_75 : pm_ins 114 75 = some (.getfield 16, 3) := by decide +kernel
theorem n_114_78 : pm_ins 114 78 = some (.iload_n 3, 1) := by decide +kernel
theorem n_114_79 : pm_ins 114 79 = some (.iconst 2, 1) := by decide +kernel
theorem n_114_80 : pm_ins 114 80 = some (.iadd, 1) := by decide +kernel
theorem n_114_81 : pm_ins 114 81 = some (.iload 4, 2) := by decide +kernel
theorem n_114_83 : pm_ins 114 83 = some (.iconst 3, 1) := by decide +kernel
theorem n_114_84 : pm_ins 114 84 = some (.irem, 1) := by decide +kernel
theorem n_114_85 : pm_ins 114 85 = some (.iadd, 1) := by decide +kernel
theorem n_114_86 : pm_ins 114 86 = some (.iaload, 1) := by decide +kernel
theorem n_114_87 : pm_ins 114 87 = some (.istore 7, 2) := by decide +kernel
theorem n_114_89 : pm_ins 114 89 = some (.iload 7, 2) := by decide +kernel
theorem n_114_91 : pm_ins 114 91 = some (.bipush 8, 2) := by decide +kernel
theorem n_114_93 : pm_ins 114 93 = some (.iand, 1) := by decide +kernel
theorem n_114_94 : pm_ins 114 94 = some (.ifCond .eq 7, 3) := by decide +kernel
theorem n_114_97 : pm_ins 114 97 = some (.iconst 1, 1) := by decide +kernel
theorem n_114_98 : pm_ins 114 98 = some (.goto 4, 3) := by decide +kernel
theorem n_114_101 : pm_ins 114 101 = some (.iconst 0, 1) := by decide +kernel
theorem n_114_102 : pm_ins 114 102 = some (.istore 8, 2) := by decide +kernel
theorem n_114_104 : pm_ins 114 104 = some (.aload_n 0, 1) := by decide +kernel
theorem n_114_105 : pm_ins 114 105 = some (.getfield 44, 3) := by decide +kernel
theorem n_114_108 : pm_ins 114 108 = some (.iload_n 1, 1) := by decide +kernel
theorem n_114_109 : pm_ins 114 109 = some (.iaload, 1) := by decide +kernel
theorem n_114_110 : pm_ins 114 110 = some (.iconst 1, 1) := by decide +kernel
theorem n_114_111 : pm_ins 114 111 = some (.isub, 1) := by decide +kernel
theorem n_114_112 : pm_ins 114 112 = some (.istore 9, 2) := by decide +kernel
theorem n_114_114 : pm_ins 114 114 = some (.aload_n 0, 1) := by decide +kernel
theorem n_114_115 : pm_ins 114 115 = some (.aload_n 0, 1) := by decide +kernel
theorem n_114_116 : pm_ins 114 116 = some (.getfield 47, 3) := by decide +kernel
theorem n_114_119 : pm_ins 114 119 = some (.iload_n 1, 1) := by decide +kernel
theorem n_114_120 : pm_ins 114 120 = some (.iaload, 1) := by decide +kernel
theorem n_114_121 : pm_ins 114 121 = some (.iload 9, 2) := by decide +kernel
theorem n_114_123 : pm_ins 114 123 = some (.iload 7, 2) := by decide +kernel
theorem n_114_125 : pm_ins 114 125 = some (.iconst 4, 1) := by decide +kernel
theorem n_114_126 : pm_ins 114 126 = some (.ishr, 1) := by decide +kernel
theorem n_114_127 : pm_ins 114 127 = some (.iload 8, 2) := by decide +kernel
theorem n_114_129 : pm_ins 114 129 = some (.ifCond .ne 7, 3) := by decide +kernel
theorem n_114_132 : pm_ins 114 132 = some (.iconst 1, 1) := by decide +kernel
theorem n_114_133 : pm_ins 114 133 = some (.goto 4, 3) := by decide +kernel
theorem n_114_136 : pm_ins 114 136 = some (.iconst 0, 1) := by decide +kernel
theorem n_114_137 : pm_ins 114 137 = some (.invokevirtual 146, 3) := by decide +kernel
theorem n_114_140 : pm_ins 114 140 = some (.istore 10, 2) := by decide +kernel
theorem n_114_142 : pm_ins 114 142 = some (.iload 10, 2) := by decide +kernel
theorem n_114_144 : pm_ins 114 144 = some (.ifCond .ge 8, 3) := by decide +kernel
theorem n_114_147 : pm_ins 114 147 = some (.iload 10, 2) := by decide +kernel
theorem n_114_149 : pm_ins 114 149 = some (.goto 4, 3) := by decide +kernel
theorem n_114_152 : pm_ins 114 152 = some (.iconst 0, 1) := by decide +kernel
theorem n_114_153 : pm_ins 114 153 = some (.istore 11, 2) := by decide +kernel
theorem n_114_155 : pm_ins 114 155 = some (.iload 10, 2) := by decide +kernel
theorem n_114_157 : pm_ins 114 157 = some (.ifCond .lt 86, 3) := by decide +kernel
theorem n_114_160 : pm_ins 114 160 = some (.bipush 8, 2) := by decide +kernel
theorem n_114_162 : pm_ins 114 162 = some (.aload_n 0, 1) := by decide +kernel
theorem n_114_163 : pm_ins 114 163 = some (.getfield 25, 3) := by decide +kernel
theorem n_114_166 : pm_ins 114 166 = some (.bipush 6, 2) := by decide +kernel
theorem n_114_168 : pm_ins 114 168 = some (.iload 9, 2) := by decide +kernel
theorem n_114_170 : pm_ins 114 170 = some (.imul, 1) := by decide +kernel
theorem n_114_171 : pm_ins 114 171 = some (.iload 7, 2) := by decide +kernel
theorem n_114_173 : pm_ins 114 173 = some (.iconst 4, 1) := by decide +kernel
theorem n_114_174 : pm_ins 114 174 = some (.ishr, 1) := by decide +kernel
theorem n_114_175 : pm_ins 114 175 = some (.iadd, 1) := by decide +kernel
theorem n_114_176 : pm_ins 114 176 = some (.iaload, 1) := by decide +kernel
theorem n_114_177 : pm_ins 114 177 = some (.imul, 1) := by decide +kernel
theorem n_114_178 : pm_ins 114 178 = some (.istore 12, 2) := by decide +kernel
theorem n_114_180 : pm_ins 114 180 = some (.bipush 8, 2) := by decide +kernel
theorem n_114_182 : pm_ins 114 182 = some (.iload_n 1, 1) := by decide +kernel
theorem n_114_183 : pm_ins 114 183 = some (.imul, 1) := by decide +kernel
theorem n_114_184 : pm_ins 114 184 = some (.iload 7, 2) := by decide +kernel
theorem n_114_186 : pm_ins 114 186 = some (.bipush 7, 2) := by decide +kernel
theorem n_114_188 : pm_ins 114 188 = some (.iand, 1) := by decide +kernel
theorem n_114_189 : pm_ins 114 189 = some (.iadd, 1) := by decide +kernel
theorem n_114_190 : pm_ins 114 190 = some (.istore 13, 2) := by decide +kernel
theorem n_114_192 : pm_ins 114 192 = some (.iload 8, 2) := by decide +kernel
theorem n_114_194 : pm_ins 114 194 = some (.ifCond .eq 20, 3) := by decide +kernel
theorem n_114_197 : pm_ins 114 197 = some (.aload_n 0, 1) := by decide +kernel
theorem n_114_198 : pm_ins 114 198 = some (.getfield 80, 3) := by decide +kernel
theorem n_114_201 : pm_ins 114 201 = some (.iload 13, 2) := by decide +kernel
theorem n_114_203 : pm_ins 114 203 = some (.aload_n 0, 1) := by decide +kernel
theorem n_114_204 : pm_ins 114 204 = some (.getfield 16, 3) := by decide +kernel
theorem n_114_207 : pm_ins 114 207 = some (.iload 12, 2) := by decide +kernel
theorem n_114_209 : pm_ins 114 209 = some (.iaload, 1) := by decide +kernel
theorem n_114_210 : pm_ins 114 210 = some (.iastore, 1) := by decide +kernel
theorem n_114_211 : pm_ins 114 211 = some (.goto 17, 3) := by decide +kernel
theorem n_114_214 : pm_ins 114 214 = some (.aload_n 0, 1) := by decide +kernel
theorem n_114_215 : pm_ins 114 215 = some (.getfield 16, 3) := by decide +kernel
theorem n_114_218 : pm_ins 114 218 = some (.iload 12, 2) := by decide +kernel
theorem n_114_220 : pm_ins 114 220 = some (.aload_n 0, 1) := by decide +kernel
theorem n_114_221 : pm_ins 114 221 = some (.getfield 80, 3) := by decide +kernel
theorem n_114_224 : pm_ins 114 224 = some (.iload 13, 2) := by decide +kernel
theorem n_114_226 : pm_ins 114 226 = some (.iaload, 1) := by decide +kernel
theorem n_114_227 : pm_ins 114 227 = some (.iastore, 1) := by decide +kernel
theorem n_114_228 : pm_ins 114 228 = some (.aload_n 0, 1) := by decide +kernel
theorem n_114_229 : pm_ins 114 229 = some (.iconst 5, 1) := by decide +kernel
theorem n_114_230 : pm_ins 114 230 = some (.aload_n 0, 1) := by decide +kernel
theorem n_114_231 : pm_ins 114 231 = some (.getfield 47, 3) := by decide +kernel
theorem n_114_234 : pm_ins 114 234 = some (.iload_n 1, 1) := by decide +kernel
theorem n_114_235 : pm_ins 114 235 = some (.iaload, 1) := by decide +kernel
theorem n_114_236 : pm_ins 114 236 = some (.imul, 1) := by decide +kernel
theorem n_114_237 : pm_ins 114 237 = some (.iload 10, 2) := by decide +kernel
theorem n_114_239 : pm_ins 114 239 = some (.iadd, 1) := by decide +kernel
theorem n_114_240 : pm_ins 114 240 = some (.invokevirtual 98, 3) := by decide +kernel
theorem n_114_243 : pm_ins 114 243 = some (.aload_n 0, 1) := by decide +kernel
theorem n_114_244 : pm_ins 114 244 = some (.getfield 16, 3) := by decide +kernel
theorem n_114_247 : pm_ins 114 247 = some (.iload_n 3, 1) := by decide +kernel
theorem n_114_248 : pm_ins 114 248 = some (.iconst 5, 1) := by decide +kernel
theorem n_114_249 : pm_ins 114 249 = some (.iadd, 1) := by decide +kernel
theorem n_114_250 : pm_ins 114 250 = some (.iload 4, 2) := by decide +kernel
theorem n_114_252 : pm_ins 114 252 = some (.iconst 3, 1) := by decide +kernel
theorem n_114_253 : pm_ins 114 253 = some (.irem, 1) := by decide +kernel
theorem n_114_254 : pm_ins 114 254 = some (.iadd, 1) := by decide +kernel
theorem n_114_255 : pm_ins 114 255 = some (.iload 11, 2) := by decide +kernel
theorem n_114_257 : pm_ins 114 257 = some (.iastore, 1) := by decide +kernel
theorem n_114_258 : pm_ins 114 258 = some (.aload_n 0, 1) := by decide +kernel
theorem n_114_259 : pm_ins 114 259 = some (.getfield 71, 3) := by decide +kernel
theorem n_114_262 : pm_ins 114 262 = some (.iload_n 1, 1) := by decide +kernel
theorem n_114_263 : pm_ins 114 263 = some (.iload 4, 2) := by decide +kernel
theorem n_114_265 : pm_ins 114 265 = some (.iconst 1, 1) := by decide +kernel
theorem n_114_266 : pm_ins 114 266 = some (.iadd, 1) := by decide +kernel
theorem n_114_267 : pm_ins 114 267 = some (.iastore, 1) := by decide +kernel
theorem n_114_268 : pm_ins 114 268 = some (.aload_n 0, 1) := by decide +kernel
theorem n_114_269 : pm_ins 114 269 = some (.getfield 16, 3) := by decide +kernel
theorem n_114_272 : pm_ins 114 272 = some (.iload_n 3, 1) := by decide +kernel
theorem n_114_273 : pm_ins 114 273 = some (.iconst 1, 1) := by decide +kernel
theorem n_114_274 : pm_ins 114 274 = some (.iadd, 1) := by decide +kernel
theorem n_114_275 : pm_ins 114 275 = some (.iload 4, 2) := by decide +kernel
theorem n_114_277 : pm_ins 114 277 = some (.iconst 1, 1) := by decide +kernel
theorem n_114_278 : pm_ins 114 278 = some (.iadd, 1) := by decide +kernel
theorem n_114_279 : pm_ins 114 279 = some (.iastore, 1) := by decide +kernel
theorem n_114_280 : pm_ins 114 280 = some (.aload_n 0, 1) := by decide +kernel
theorem n_114_281 : pm_ins 114 281 = some (.aload_n 0, 1) := by decide +kernel
theorem n_114_282 : pm_ins 114 282 = some (.getfield 47, 3) := by decide +kernel
theorem n_114_285 : pm_ins 114 285 = some (.iload_n 1, 1) := by decide +kernel
theorem n_114_286 : pm_ins 114 286 = some (.iaload, 1) := by decide +kernel
theorem n_114_287 : pm_ins 114 287 = some (.aload_n 0, 1) := by decide +kernel
theorem n_114_288 : pm_ins 114 288 = some (.getfield 62, 3) := by decide +kernel
theorem n_114_291 : pm_ins 114 291 = some (.iload_n 1, 1) := by decide +kernel
theorem n_114_292 : pm_ins 114 292 = some (.iaload, 1) := by decide +kernel
theorem n_114_293 : pm_ins 114 293 = some (.invokevirtual 159, 3) := by decide +kernel
theorem n_114_296 : pm_ins 114 296 = some (.pop, 1) := by decide +kernel
theorem n_114_297 : pm_ins 114 297 = some (.iload 11, 2) := by decide +kernel
theorem n_114_299 : pm_ins 114 299 = some (.ireturn, 1) := by decide +kernel
theorem n_115_0 : pm_ins 115 0 = some (.aload_n 0, 1) := by decide +kernel
theorem n_115_1 : pm_ins 115 1 = some (.iload_n 1, 1) := by decide +kernel
theorem n_115_2 : pm_ins 115 2 = some (.invokevirtual 156, 3) := by decide +kernel
theorem n_115_5 : pm_ins 115 5 = some (.istore_n 2, 1) := by decide +kernel
theorem n_115_6 : pm_ins 115 6 = some (.iload_n 2, 1) := by decide +kernel
theorem n_115_7 : pm_ins 115 7 = some (.ifCond .ge 6, 3) := by decide +kernel
theorem n_115_10 : pm_ins 115 10 = some (.iload_n 2, 1) := by decide +kernel
theorem n_115_11 : pm_ins 115 11 = some (.i2l, 1) := by decide +kernel
theorem n_115_12 : pm_ins 115 12 = some (.lreturn, 1) := by decide +kernel
theorem n_115_13 : pm_ins 115 13 = some (.bipush 8, 2) := by decide +kernel
theorem n_115_15 : pm_ins 115 15 = some (.aload_n 0, 1) := by decide +kernel
theorem n_115_16 : pm_ins 115 16 = some (.getfield 50, 3) := by decide +kernel
theorem n_115_19 : pm_ins 115 19 = some (.iload_n 1, 1) := by decide +kernel
theorem n_115_20 : pm_ins 115 20 = some (.iaload, 1) := by decide +kernel
theorem n_115_21 : pm_ins 115 21 = some (.imul, 1) := by decide +kernel
theorem n_115_22 : pm_ins 115 22 = some (.istore_n 3, 1) := by decide +kernel
theorem n_115_23 : pm_ins 115 23 = some (.aload_n 0, 1) := by decide +kernel
theorem n_115_24 : pm_ins 115 24 = some (.getfield 68, 3) := by decide +kernel
theorem n_115_27 : pm_ins 115 27 = some (.iload_n 1, 1) := by decide +kernel
theorem n_115_28 : pm_ins 115 28 = some (.iaload, 1) := by decide +kernel
theorem n_115_29 : pm_ins 115 29 = some (.istore 4, 2) := by decide +kernel
theorem n_115_31 : pm_ins 115 31 = some (.aload_n 0, 1) := by decide +kernel
theorem n_115_32 : pm_ins 115 32 = some (.getfield 16, 3) := by decide +kernel
theorem n_115_35 : pm_ins 115 35 = some (.iload_n 3, 1) := by decide +kernel
theorem n_115_36 : pm_ins 115 36 = some (.iconst 1, 1) := by decide +kernel
theorem n_115_37 : pm_ins 115 37 = some (.iadd, 1) := by decide +kernel
theorem n_115_38 : pm_ins 115 38 = some (.iaload, 1) := by decide +kernel
theorem n_115_39 : pm_ins 115 39 = some (.i2l, 1) := by decide +kernel
theorem n_115_40 : pm_ins 115 40 = some (.iload 4, 2) := by decide +kernel
theorem n_115_42 : pm_ins 115 42 = some (.i2l, 1) := by decide +kernel
theorem n_115_43 : pm_ins 115 43 = some (.lsub, 1) := by decide +kernel
theorem n_115_44 : pm_ins 115 44 = some (.lstore 5, 2) := by decide +kernel
theorem n_115_46 : pm_ins 115 46 = some (.lload 5, 2) := by decide +kernel
theorem n_115_48 : pm_ins 115 48 = some (.lconst 0, 1) := by decide +kernel
theorem n_115_49 : pm_ins 115 49 = some (.lcmp, 1) := by decide +kernel
theorem n_115_50 : pm_ins 115 50 = some (.ifCond .ne 7, 3) := by decide +kernel
theorem n_115_53 : pm_ins 115 53 = some (.ldc2_w 164, 3) := by decide +kernel
theorem n_115_56 : pm_ins 115 56 = some (.lreturn, 1) := by decide +kernel
theorem n_115_57 : pm_ins 115 57 = some (.lload 5, 2) := by decide +kernel
theorem n_115_59 : pm_ins 115 59 = some (.lconst 0, 1) := by decide +kernel
theorem n_115_60 : pm_ins 115 60 = some (.lcmp, 1) := by decide +kernel
theorem n_115_61 : pm_ins 115 61 = some (.ifCond .lt 19, 3) := by decide +kernel
theorem n_115_64 : pm_ins 115 64 = some (.lload 5, 2) := by decide +kernel
theorem n_115_66 : pm_ins 115 66 = some (.aload_n 0, 1) := by decide +kernel
theorem n_115_67 : pm_ins 115 67 = some (.getfield 65, 3) := by decide +kernel
theorem n_115_70 : pm_ins 115 70 = some (.iload_n 1, 1) := by decide +kernel
theorem n_115_71 : pm_ins 115 71 = some (.iaload, 1) := by decide +kernel
theorem n_115_72 : pm_ins 115 72 = some (.iload 4, 2) := by decide +kernel
theorem n_115_74 : pm_ins 115 74 = some (.isub, 1) := by decide +kernel
theorem n_115_75 : pm_ins 115 75 = some (.i2l, 1) := by decide +kernel
theorem n_115_76 : pm_ins 115 76 = some (.lcmp, 1) := by decide +kernel
theorem n_115_77 : pm_ins 115 77 = some (.ifCond .le 7, 3) := by decide +kernel
theorem n_115_80 : pm_ins 115 80 = some (.ldc2_w 166, 3) := by decide +kernel
theorem n_115_83 : pm_ins 115 83 = some (.lreturn, 1) := by decide +kernel
theorem n_115_84 : pm_ins 115 84 = some (.aload_n 0, 1) := by decide +kernel
theorem n_115_85 : pm_ins 115 85 = some (.getfield 16, 3) := by decide +kernel
theorem n_115_88 : pm_ins 115 88 = some (.iload_n 3, 1) := by decide +kernel
theorem n_115_89 : pm_ins 115 89 = some (.iconst 5, 1) := by decide +kernel
theorem n_115_90 : pm_ins 115 90 = some (.iadd, 1) := by decide +kernel
theorem n_115_91 : pm_ins 115 91 = some (.iload 4, 2) := by decide +kernel
theorem n_115_93 : pm_ins 115 93 = some (.iconst 3, 1) := by decide +kernel
theorem n_115_94 : pm_ins 115 94 = some (.irem, 1) := by decide +kernel
theorem n_115_95 : pm_ins 115 95 = some (.iadd, 1) := by decide +kernel
theorem n_115_96 : pm_ins 115 96 = some (.iaload, 1) := by decide +kernel
theorem n_115_97 : pm_ins 115 97 = some (.istore 7, 2) := by decide +kernel
theorem n_115_99 : pm_ins 115 99 = some (.aload_n 0, 1) := by decide +kernel
theorem n_115_100 : pm_ins 115 100 = some (.getfield 68, 3) := by decide +kernel
theorem n_115_103 : pm_ins 115 103 = some (.iload_n 1, 1) := by decide +kernel
theorem n_115_104 : pm_ins 115 104 = some (.iload 4, 2) := by decide +kernel
theorem n_115_106 : pm_ins 115 106 = some (.iconst 1, 1) := by decide +kernel
theorem n_115_107 : pm_ins 115 107 = some (.iadd, 1) := by decide +kernel
theorem n_115_108 : pm_ins 115 108 = some (.iastore, 1) := by decide +kernel
theorem n_115_109 : pm_ins 115 109 = some (.aload_n 0, 1) := by decide +kernel
theorem n_115_110 : pm_ins 115 110 = some (.getfield 44, 3) := by decide +kernel
theorem n_115_113 : pm_ins 115 113 = some (.iload_n 1, 1) := by decide +kernel
theorem n_115_114 : pm_ins 115 114 = some (.iaload, 1) := by decide +kernel
theorem n_115_115 : pm_ins 115 115 = some (.iconst 1, 1) := by decide +kernel
theorem n_115_116 : pm_ins 115 116 = some (.isub, 1) := by decide +kernel
theorem n_115_117 : pm_ins 115 117 = some (.istore 8, 2) := by decide +kernel
theorem n_115_119 : pm_ins 115 119 = some (.aload_n 0, 1) := by decide +kernel
theorem n_115_120 : pm_ins 115 120 = some (.getfield 74, 3) := by decide +kernel
theorem n_115_123 : pm_ins 115 123 = some (.iconst 3, 1) := by decide +kernel
theorem n_115_124 : pm_ins 115 124 = some (.iload_n 1, 1) := by decide +kernel
theorem n_115_125 : pm_ins 115 125 = some (.imul, 1) := by decide +kernel
theorem n_115_126 : pm_ins 115 126 = some (.iload 4, 2) := by decide +kernel
theorem n_115_128 : pm_ins 115 128 = some (.iconst 3, 1) := by decide +kernel
theorem n_115_129 : pm_ins 115 129 = some (.irem, 1) := by decide +kernel
theorem n_115_130 : pm_ins 115 130 = some (.iadd, 1) := by decide +kernel
theorem n_115_131 : pm_ins 115 131 = some (.iaload, 1) := by decide +kernel
theorem n_115_132 : pm_ins 115 132 = some (.istore 9, 2) := by decide +kernel
theorem n_115_134 : pm_ins 115 134 = some (.aload_n 0, 1) := by decide +kernel
theorem n_115_135 : pm_ins 115 135 = some (.iload 8, 2) := by decide +kernel
theorem n_115_137 : pm_ins 115 137 = some (.iload 9, 2) := by decide +kernel
theorem n_115_139 : pm_ins 115 139 = some (.iconst 0, 1) := by decide +kernel
theorem n_115_140 : pm_ins 115 140 = some (.invokevirtual 168, 3) := by decide +kernel
theorem n_115_143 : pm_ins 115 143 = some (.lstore 10, 2) := by decide +kernel
theorem n_115_145 : pm_ins 115 145 = some (.aload_n 0, 1) := by decide +kernel
theorem n_115_146 : pm_ins 115 146 = some (.iload 8, 2) := by decide +kernel
theorem n_115_148 : pm_ins 115 148 = some (.aload_n 0, 1) := by decide +kernel
theorem n_115_149 : pm_ins 115 149 = some (.getfield 77, 3) := by decide +kernel
theorem n_115_152 : pm_ins 115 152 = some (.iconst 3, 1) := by decide +kernel
theorem n_115_153 : pm_ins 115 153 = some (.iload_n 1, 1) := by decide +kernel
theorem n_115_154 : pm_ins 115 154 = some (.imul, 1) := by decide +kernel
theorem n_115_155 : pm_ins 115 155 = some (.iload 4, 2) := by decide +kernel
theorem n_115_157 : pm_ins 115 157 = some (.iconst 3, 1) := by decide +kernel
theorem n_115_158 : pm_ins 115 158 = some (.irem, 1) := by decide +kernel
theorem n_115_159 : pm_ins 115 159 = some (.iadd, 1) := by decide +kernel
theorem n_115_160 : pm_ins 115 160 = some (.iaload, 1) := by decide +kernel
theorem n_115_161 : pm_ins 115 161 = some (.invokevirtual 172, 3) := by decide +kernel
theorem n_115_164 : pm_ins 115 164 = some (.pop, 1) := by decide +kernel
theorem n_115_165 : pm_ins 115 165 = some (.aload_n 0, 1) := by decide +kernel
theorem n_115_166 : pm_ins 115 166 = some (.iload 8, 2) := by decide +kernel
theorem n_115_168 : pm_ins 115 168 = some (.iload 9, 2) := by decide +kernel
theorem n_115_170 : pm_ins 115 170 = some (.invokevirtual 175, 3) := by decide +kernel
theorem n_115_173 : pm_ins 115 173 = some (.pop, 1) := by decide +kernel
theorem n_115_174 : pm_ins 115 174 = some (.iload 7, 2) := by decide +kernel
theorem n_115_176 : pm_ins 115 176 = some (.ifCond .eq 9, 3) := by decide +kernel
theorem n_115_179 : pm_ins 115 179 = some (.ldc2_w 178, 3) := by decide +kernel
theorem n_115_182 : pm_ins 115 182 = some (.goto 5, 3) := by decide +kernel
theorem n_115_185 : pm_ins 115 185 = some (.lload 10, 2) := by decide +kernel
theorem n_115_187 : pm_ins 115 187 = some (.lreturn, 1) := by decide +kernel
theorem n_116_0 : pm_ins 116 0 = some (.iload_n 2, 1) := by decide +kernel
theorem n_116_1 : pm_ins 116 1 = some (.ifCond .lt 22, 3) := by decide +kernel
theorem n_116_4 : pm_ins 116 4 = some (.iload_n 3, 1) := by decide +kernel
theorem n_116_5 : pm_ins 116 5 = some (.ifCond .ge 22, 3) := by decide +kernel
theorem n_116_8 : pm_ins 116 8 = some (.iload_n 1, 1) := by decide +kernel
theorem n_116_9 : pm_ins 116 9 = some (.iconst 2, 1) := by decide +kernel
theorem n_116_10 : pm_ins 116 10 = some (.if_icmp .eq 13, 3) := by decide +kernel
theorem n_116_13 : pm_ins 116 13 = some (.iload_n 1, 1) := by decide +kernel
theorem n_116_14 : pm_ins 116 14 = some (.iconst 3, 1) := by decide +kernel
theorem n_116_15 : pm_ins 116 15 = some (.if_icmp .eq 8, 3) := by decide +kernel
theorem n_116_18 : pm_ins 116 18 = some (.iload_n 1, 1) := by decide +kernel
theorem n_116_19 : pm_ins 116 19 = some (.iconst 5, 1) := by decide +kernel
theorem n_116_20 : pm_ins 116 20 = some (.if_icmp .ne 7, 3) := by decide +kernel
theorem n_116_23 : pm_ins 116 23 = some (.ldc2_w 180, 3) := by decide +kernel
theorem n_116_26 : pm_ins 116 26 = some (.lreturn, 1) := by decide +kernel
theorem n_116_27 : pm_ins 116 27 = some (.iload_n 1, 1) := by decide +kernel
theorem n_116_28 : pm_ins 116 28 = some (.tableswitch 269 0 6 #[44, 63, 85, 127, 175, 193, 234], 44) := by decide +kernel
theorem n_116_72 : pm_ins 116 72 = some (.iload_n 2, 1) := by decide +kernel
theorem n_116_73 : pm_ins 116 73 = some (.iconst 4, 1) := by decide +kernel
theorem n_116_74 : pm_ins 116 74 = some (.if_icmp .le 9, 3) := by decide +kernel
theorem n_116_77 : pm_ins 116 77 = some (.ldc2_w 180, 3) := by decide +kernel
theorem n_116_80 : pm_ins 116 80 = some (.goto 10, 3) := by decide +kernel
theorem n_116_83 : pm_ins 116 83 = some (.aload_n 0, 1) := by decide +kernel
theorem n_116_84 : pm_ins 116 84 = some (.getfield 7, 3) := by decide +kernel
theorem n_116_87 : pm_ins 116 87 = some (.iload_n 2, 1) := by decide +kernel
theorem n_116_88 : pm_ins 116 88 = some (.iaload, 1) := by decide +kernel
theorem n_116_89 : pm_ins 116 89 = some (.i2l, 1) := by decide +kernel
theorem n_116_90 : pm_ins 116 90 = some (.lreturn, 1) := by decide +kernel
theorem n_116_91 : pm_ins 116 91 = some (.iload_n 2, 1) := by decide +kernel
theorem n_116_92 : pm_ins 116 92 = some (.bipush 19, 2) := by decide +kernel
theorem n_116_94 : pm_ins 116 94 = some (.if_icmp .le 9, 3) := by decide +kernel
theorem n_116_97 : pm_ins 116 97 = some (.ldc2_w 180, 3) := by decide +kernel
theorem n_116_100 : pm_ins 116 100 = some (.goto 12, 3) := by decide +kernel
theorem n_116_103 : pm_ins 116 103 = some (.aload_n 0, 1) := by decide +kernel
theorem n_116_104 : pm_ins 116 104 = some (.getfield 13, 3) := by decide +kernel
theorem n_116_107 : pm_ins 116 107 = some (.iload_n 2, 1) := by decide +kernel
theorem n_116_108 : pm_ins 116 108 = some (.iaload, 1) := by decide +kernel
theorem n_116_109 : pm_ins 116 109 = some (.i2l, 1) := by decide +kernel
theorem n_116_110 : pm_ins 116 110 = some (.lconst 1, 1) := by decide +kernel
theorem n_116_111 : pm_ins 116 111 = some (.lsub, 1) := by decide +kernel
theorem n_116_112 : pm_ins 116 112 = some (.lreturn, 1) := by decide +kernel
theorem n_116_113 : pm_ins 116 113 = some (.iload_n 2, 1) := by decide +kernel
theorem n_116_114 : pm_ins 116 114 = some (.iconst 4, 1) := by decide +kernel
theorem n_116_115 : pm_ins 116 115 = some (.if_icmp .gt 22, 3) := by decide +kernel
theorem n_116_118 : pm_ins 116 118 = some (.iload_n 3, 1) := by decide +kernel
theorem n_116_119 : pm_ins 116 119 = some (.iconst 5, 1) := by decide +kernel
theorem n_116_120 : pm_ins 116 120 = some (.if_icmp .gt 17, 3) := by decide +kernel
theorem n_116_123 : pm_ins 116 123 = some (.aload_n 0, 1) := by decide +kernel
theorem n_116_124 : pm_ins 116 124 = some (.getfield 19, 3) := by decide +kernel
theorem n_116_127 : pm_ins 116 127 = some (.bipush 6, 2) := by decide +kernel
theorem n_116_129 : pm_ins 116 129 = some (.iload_n 2, 1) := by decide +kernel
theorem n_116_130 : pm_ins 116 130 = some (.imul, 1) := by decide +kernel
theorem n_116_131 : pm_ins 116 131 = some (.iload_n 3, 1) := by decide +kernel
theorem n_116_132 : pm_ins 116 132 = some (.iadd, 1) := by decide +kernel
theorem n_116_133 : pm_ins 116 133 = some (.iaload, 1) := by decide +kernel
theorem n_116_134 : pm_ins 116 134 = some (.ifCond .ne 9, 3) := by decide +kernel
theorem n_116_137 : pm_ins 116 137 = some (.ldc2_w 180, 3) := by decide +kernel
theorem n_116_140 : pm_ins 116 140 = some (.goto 14, 3) := by decide +kernel
theorem n_116_143 : pm_ins 116 143 = some (.aload_n 0, 1) := by decide +kernel
theorem n_116_144 : pm_ins 116 144 = some (.bipush 6, 2) := by decide +kernel
theorem n_116_146 : pm_ins 116 146 = some (.iload_n 2, 1) := by decide +kernel
theorem n_116_147 : pm_ins 116 147 = some (.imul, 1) := by decide +kernel
theorem n_116_148 : pm_ins 116 148 = some (.iload_n 3, 1) := by decide +kernel
theorem n_116_149 : pm_ins 116 149 = some (.iadd, 1) := by decide +kernel
theorem n_116_150 : pm_ins 116 150 = some (.invokevirtual 83, 3) := by decide +kernel
theorem n_116_153 : pm_ins 116 153 = some (.i2l, 1) := by decide +kernel
theorem n_116_154 : pm_ins 116 154 = some (.lreturn, 1) := by decide +kernel
theorem n_116_155 : pm_ins 116 155 = some (.iload_n 2, 1) := by decide +kernel
theorem n_116_156 : pm_ins 116 156 = some (.iconst 4, 1) := by decide +kernel
theorem n_116_157 : pm_ins 116 157 = some (.if_icmp .gt 21, 3) := by decide +kernel
theorem n_116_160 : pm_ins 116 160 = some (.iload_n 3, 1) := by decide +kernel
theorem n_116_161 : pm_ins 116 161 = some (.iconst 4, 1) := by decide +kernel
theorem n_116_162 : pm_ins 116 162 = some (.if_icmp .gt 16, 3) := by decide +kernel
theorem n_116_165 : pm_ins 116 165 = some (.aload_n 0, 1) := by decide +kernel
theorem n_116_166 : pm_ins 116 166 = some (.getfield 28, 3) := by decide +kernel
theorem n_116_169 : pm_ins 116 169 = some (.iconst 5, 1) := by decide +kernel
theorem n_116_170 : pm_ins 116 170 = some (.iload_n 2, 1) := by decide +kernel
theorem n_116_171 : pm_ins 116 171 = some (.imul, 1) := by decide +kernel
theorem n_116_172 : pm_ins 116 172 = some (.iload_n 3, 1) := by decide +kernel
theorem n_116_173 : pm_ins 116 173 = some (.iadd, 1) := by decide +kernel
theorem n_116_174 : pm_ins 116 174 = some (.iaload, 1) := by decide +kernel
theorem n_116_175 : pm_ins 116 175 = some (.ifCond .ne 9, 3) := by decide +kernel
theorem n_116_178 : pm_ins 116 178 = some (.ldc2_w 180, 3) := by decide +kernel
theorem n_116_181 : pm_ins 116 181 = some (.goto 21, 3) := by decide +kernel
theorem n_116_184 : pm_ins 116 184 = some (.aload_n 0, 1) := by decide +kernel
theorem n_116_185 : pm_ins 116 185 = some (.getfield 25, 3) := by decide +kernel
theorem n_116_188 : pm_ins 116 188 = some (.aload_n 0, 1) := by decide +kernel
theorem n_116_189 : pm_ins 116 189 = some (.getfield 28, 3) := by decide +kernel
theorem n_116_192 : pm_ins 116 192 = some (.iconst 5, 1) := by decide +kernel
theorem n_116_193 : pm_ins 116 193 = some (.iload_n 2, 1) := by decide +kernel
theorem n_116_194 : pm_ins 116 194 = some (.imul, 1) := by decide +kernel
theorem n_116_195 : pm_ins 116 195 = some (.iload_n 3, 1) := by decide +kernel
theorem n_116_196 : pm_ins 116 196 = some (.iadd, 1) := by decide +kernel
theorem n_116_197 : pm_ins 116 197 = some (.iaload, 1) := by decide +kernel
theorem n_116_198 : pm_ins 116 198 = some (.iconst 1, 1) := by decide +kernel
theorem n_116_199 : pm_ins 116 199 = some (.isub, 1) := by decide +kernel
theorem n_116_200 : pm_ins 116 200 = some (.iaload, 1) := by decide +kernel
theorem n_116_201 : pm_ins 116 201 = some (.i2l, 1) := by decide +kernel
theorem n_116_202 : pm_ins 116 202 = some (.lreturn, 1) := by decide +kernel
theorem n_116_203 : pm_ins 116 203 = some (.iload_n 2, 1) := by decide +kernel
theorem n_116_204 : pm_ins 116 204 = some (.iconst 4, 1) := by decide +kernel
theorem n_116_205 : pm_ins 116 205 = some (.if_icmp .le 9, 3) := by decide +kernel
theorem n_116_208 : pm_ins 116 208 = some (.ldc2_w 180, 3) := by decide +kernel
theorem n_116_211 : pm_ins 116 211 = some (.goto 9, 3) := by decide +kernel
theorem n_116_214 : pm_ins 116 214 = some (.aload_n 0, 1) := by decide +kernel
theorem n_116_215 : pm_ins 116 215 = some (.iload_n 2, 1) := by decide +kernel
theorem n_116_216 : pm_ins 116 216 = some (.invokevirtual 91, 3) := by decide +kernel
theorem n_116_219 : pm_ins 116 219 = some (.i2l, 1) := by decide +kernel
theorem n_116_220 : pm_ins 116 220 = some (.lreturn, 1) := by decide +kernel
theorem n_116_221 : pm_ins 116 221 = some (.iload_n 2, 1) := by decide +kernel
theorem n_116_222 : pm_ins 116 222 = some (.iconst 2, 1) := by decide +kernel
theorem n_116_223 : pm_ins 116 223 = some (.if_icmp .gt 18, 3) := by decide +kernel
theorem n_116_226 : pm_ins 116 226 = some (.iload_n 3, 1) := by decide +kernel
theorem n_116_227 : pm_ins 116 227 = some (.bipush 7, 2) := by decide +kernel
theorem n_116_229 : pm_ins 116 229 = some (.if_icmp .gt 12, 3) := by decide +kernel
theorem n_116_232 : pm_ins 116 232 = some (.aload_n 0, 1) := by decide +kernel
theorem n_116_233 : pm_ins 116 233 = some (.getfield 44, 3) := by decide +kernel
theorem n_116_236 : pm_ins 116 236 = some (.iload_n 2, 1) := by decide +kernel
theorem n_116_237 : pm_ins 116 237 = some (.iaload, 1) := by decide +kernel
theorem n_116_238 : pm_ins 116 238 = some (.ifCond .ne 9, 3) := by decide +kernel
theorem n_116_241 : pm_ins 116 241 = some (.ldc2_w 180, 3) := by decide +kernel
theorem n_116_244 : pm_ins 116 244 = some (.goto 17, 3) := by decide +kernel
theorem n_116_247 : pm_ins 116 247 = some (.aload_n 0, 1) := by decide +kernel
theorem n_116_248 : pm_ins 116 248 = some (.getfield 80, 3) := by decide +kernel
theorem n_116_251 : pm_ins 116 251 = some (.bipush 8, 2) := by decide +kernel
theorem n_116_253 : pm_ins 116 253 = some (.iload_n 2, 1) := by decide +kernel
theorem n_116_254 : pm_ins 116 254 = some (.imul, 1) := by decide +kernel
theorem n_116_255 : pm_ins 116 255 = some (.iload_n 3, 1) := by decide +kernel
theorem n_116_256 : pm_ins 116 256 = some (.iadd, 1) := by decide +kernel
theorem n_116_257 : pm_ins 116 257 = some (.iaload, 1) := by decide +kernel
theorem n_116_258 : pm_ins 116 258 = some (.invokestatic 132, 3) := by decide +kernel
theorem n_116_261 : pm_ins 116 261 = some (.lreturn, 1) := by decide +kernel
theorem n_116_262 : pm_ins 116 262 = some (.iload_n 2, 1) := by decide +kernel
theorem n_116_263 : pm_ins 116 263 = some (.iconst 2, 1) := by decide +kernel
theorem n_116_264 : pm_ins 116 264 = some (.if_icmp .gt 12, 3) := by decide +kernel
theorem n_116_267 : pm_ins 116 267 = some (.aload_n 0, 1) := by decide +kernel
theorem n_116_268 : pm_ins 116 268 = some (.getfield 44, 3) := by decide +kernel
theorem n_116_271 : pm_ins 116 271 = some (.iload_n 2, 1) := by decide +kernel
theorem n_116_272 : pm_ins 116 272 = some (.iaload, 1) := by decide +kernel
theorem n_116_273 : pm_ins 116 273 = some (.ifCond .ne 9, 3) := by decide +kernel
theorem n_116_276 : pm_ins 116 276 = some (.ldc2_w 180, 3) := by decide +kernel
theorem n_116_279 : pm_ins 116 279 = some (.goto 17, 3) := by decide +kernel
theorem n_116_282 : pm_ins 116 282 = some (.aload_n 0, 1) := by decide +kernel
theorem n_116_283 : pm_ins 116 283 = some (.getfield 65, 3) := by decide +kernel
theorem n_116_286 : pm_ins 116 286 = some (.iload_n 2, 1) := by decide +kernel
theorem n_116_287 : pm_ins 116 287 = some (.iaload, 1) := by decide +kernel
theorem n_116_288 : pm_ins 116 288 = some (.aload_n 0, 1) := by decide +kernel
theorem n_116_289 : pm_ins 116 289 = some (.getfield 68, 3) := by decide +kernel
theorem n_116_292 : pm_ins 116 292 = some (.iload_n 2, 1) := by decide +kernel
theorem n_116_293 : pm_ins 116 293 = some (.iaload, 1) := by decide +kernel
theorem n_116_294 : pm_ins 116 294 = some (.isub, 1) := by decide +kernel
theorem n_116_295 : pm_ins 116 295 = some (.i2l, 1) := by decide +kernel
theorem n_116_296 : pm_ins 116 296 = some (.lreturn, 1) := by decide +kernel
theorem n_116_297 : pm_ins 116 297 = some (.ldc2_w 180, 3) := by decide +kernel
theorem n_116_300 : pm_ins 116 300 = some (.lreturn, 1) := by decide +kernel
