theorem fl_0_11 : pm_fl 0 11 = some (0, 0) := by decide +kernel
theorem fl_0_17 : pm_fl 0 17 = some (0, 1) := by decide +kernel
theorem fl_0_23 : pm_fl 0 23 = some (0, 2) := by decide +kernel
theorem fl_0_30 : pm_fl 0 30 = some (1, 0) := by decide +kernel
theorem fl_0_61 : pm_fl 0 61 = some (2, 0) := by decide +kernel
theorem fl_0_81 : pm_fl 0 81 = some (1, 1) := by decide +kernel
theorem fl_0_101 : pm_fl 0 101 = some (4, 1) := by decide +kernel
theorem fl_0_104 : pm_fl 0 104 = some (4, 0) := by decide +kernel
theorem fl_0_110 : pm_fl 0 110 = some (1, 2) := by decide +kernel
theorem fl_0_119 : pm_fl 0 119 = some (4, 3) := by decide +kernel
theorem fl_0_136 : pm_fl 0 136 = some (2, 1) := by decide +kernel
theorem fl_0_145 : pm_fl 0 145 = some (1, 3) := by decide +kernel
theorem fl_0_164 : pm_fl 0 164 = some (6, 0) := by decide +kernel
theorem fl_0_169 : pm_fl 0 169 = some (6, 3) := by decide +kernel
theorem fl_0_188 : pm_fl 0 188 = some (3, 3) := by decide +kernel
theorem fl_0_195 : pm_fl 0 195 = some (3, 4) := by decide +kernel
theorem fl_0_201 : pm_fl 0 201 = some (3, 5) := by decide +kernel
theorem fl_0_208 : pm_fl 0 208 = some (3, 6) := by decide +kernel
theorem fl_0_215 : pm_fl 0 215 = some (3, 7) := by decide +kernel
theorem fl_0_224 : pm_fl 0 224 = some (3, 1) := by decide +kernel
theorem fl_0_233 : pm_fl 0 233 = some (3, 2) := by decide +kernel
theorem fl_0_240 : pm_fl 0 240 = some (3, 10) := by decide +kernel
theorem fl_0_252 : pm_fl 0 252 = some (3, 9) := by decide +kernel
theorem fl_0_259 : pm_fl 0 259 = some (3, 11) := by decide +kernel
theorem fl_0_266 : pm_fl 0 266 = some (3, 12) := by decide +kernel
theorem fl_0_292 : pm_fl 0 292 = some (3, 13) := by decide +kernel
theorem fl_0_295 : pm_fl 0 295 = some (3, 0) := by decide +kernel
theorem fl_0_308 : pm_fl 0 308 = some (5, 2) := by decide +kernel
theorem fl_0_311 : pm_fl 0 311 = some (5, 0) := by decide +kernel
theorem fl_0_314 : pm_fl 0 314 = some (5, 1) := by decide +kernel
theorem fl_0_321 : pm_fl 0 321 = some (4, 2) := by decide +kernel
theorem fl_0_324 : pm_fl 0 324 = some (6, 1) := by decide +kernel
theorem fl_0_327 : pm_fl 0 327 = some (6, 2) := by decide +kernel
theorem fl_0_345 : pm_fl 0 345 = some (3, 8) := by decide +kernel
theorem cl_0_1 : pm_cal 0 1 = some (4, 0, 1) := by decide +kernel
theorem cl_0_27 : pm_cal 0 27 = some (2, 51, 1) := by decide +kernel
theorem cl_0_28 : pm_cal 0 28 = some (3, 60, 1) := by decide +kernel
theorem cl_0_29 : pm_cal 0 29 = some (3, 62, 1) := by decide +kernel
theorem cl_0_34 : pm_cal 0 34 = some (0, 25, 2) := by decide +kernel
theorem cl_0_38 : pm_cal 0 38 = some (0, 39, 2) := by decide +kernel
theorem cl_0_42 : pm_cal 0 42 = some (0, 40, 2) := by decide +kernel
theorem cl_0_45 : pm_cal 0 45 = some (0, 41, 2) := by decide +kernel
theorem cl_0_48 : pm_cal 0 48 = some (0, 59, 1) := by decide +kernel
theorem cl_0_51 : pm_cal 0 51 = some (0, 42, 2) := by decide +kernel
theorem cl_0_54 : pm_cal 0 54 = some (0, 38, 2) := by decide +kernel
theorem cl_0_57 : pm_cal 0 57 = some (0, 29, 2) := by decide +kernel
theorem cl_0_64 : pm_cal 0 64 = some (0, 61, 1) := by decide +kernel
theorem cl_0_67 : pm_cal 0 67 = some (0, 27, 3) := by decide +kernel
theorem cl_0_71 : pm_cal 0 71 = some (0, 54, 2) := by decide +kernel
theorem cl_0_74 : pm_cal 0 74 = some (1, 22, 2) := by decide +kernel
theorem cl_0_77 : pm_cal 0 77 = some (0, 56, 1) := by decide +kernel
theorem cl_0_85 : pm_cal 0 85 = some (0, 68, 4) := by decide +kernel
theorem cl_0_91 : pm_cal 0 91 = some (0, 52, 2) := by decide +kernel
theorem cl_0_94 : pm_cal 0 94 = some (0, 67, 1) := by decide +kernel
theorem cl_0_98 : pm_cal 0 98 = some (0, 69, 1) := by decide +kernel
theorem cl_0_107 : pm_cal 0 107 = some (0, 57, 1) := by decide +kernel
theorem cl_0_114 : pm_cal 0 114 = some (0, 72, 4) := by decide +kernel
theorem cl_0_122 : pm_cal 0 122 = some (0, 53, 2) := by decide +kernel
theorem cl_0_125 : pm_cal 0 125 = some (0, 36, 2) := by decide +kernel
theorem cl_0_129 : pm_cal 0 129 = some (0, 28, 2) := by decide +kernel
theorem cl_0_132 : pm_cal 0 132 = some (0, 31, 5) := by decide +kernel
theorem cl_0_142 : pm_cal 0 142 = some (0, 58, 1) := by decide +kernel
theorem cl_0_149 : pm_cal 0 149 = some (0, 76, 2) := by decide +kernel
theorem cl_0_154 : pm_cal 0 154 = some (1, 24, 1) := by decide +kernel
theorem cl_0_157 : pm_cal 0 157 = some (0, 75, 2) := by decide +kernel
theorem cl_0_160 : pm_cal 0 160 = some (0, 77, 3) := by decide +kernel
theorem cl_0_165 : pm_cal 0 165 = some (0, 35, 2) := by decide +kernel
theorem cl_0_173 : pm_cal 0 173 = some (0, 43, 1) := by decide +kernel
theorem cl_0_176 : pm_cal 0 176 = some (0, 45, 2) := by decide +kernel
theorem cl_0_179 : pm_cal 0 179 = some (0, 46, 2) := by decide +kernel
theorem cl_0_182 : pm_cal 0 182 = some (0, 63, 3) := by decide +kernel
theorem cl_0_185 : pm_cal 0 185 = some (0, 3, 2) := by decide +kernel
theorem cl_0_191 : pm_cal 0 191 = some (0, 5, 5) := by decide +kernel
theorem cl_0_198 : pm_cal 0 198 = some (0, 7, 5) := by decide +kernel
theorem cl_0_204 : pm_cal 0 204 = some (0, 12, 3) := by decide +kernel
theorem cl_0_211 : pm_cal 0 211 = some (0, 13, 4) := by decide +kernel
theorem cl_0_218 : pm_cal 0 218 = some (0, 47, 2) := by decide +kernel
theorem cl_0_221 : pm_cal 0 221 = some (0, 64, 1) := by decide +kernel
theorem cl_0_227 : pm_cal 0 227 = some (0, 44, 2) := by decide +kernel
theorem cl_0_230 : pm_cal 0 230 = some (0, 10, 5) := by decide +kernel
theorem cl_0_236 : pm_cal 0 236 = some (0, 49, 5) := by decide +kernel
theorem cl_0_245 : pm_cal 0 245 = some (0, 50, 3) := by decide +kernel
theorem cl_0_249 : pm_cal 0 249 = some (0, 14, 3) := by decide +kernel
theorem cl_0_262 : pm_cal 0 262 = some (0, 11, 4) := by decide +kernel
theorem cl_0_269 : pm_cal 0 269 = some (0, 6, 3) := by decide +kernel
theorem cl_0_272 : pm_cal 0 272 = some (0, 4, 3) := by decide +kernel
theorem cl_0_277 : pm_cal 0 277 = some (1, 21, 1) := by decide +kernel
theorem cl_0_282 : pm_cal 0 282 = some (1, 23, 1) := by decide +kernel
theorem cl_0_285 : pm_cal 0 285 = some (0, 34, 2) := by decide +kernel
theorem cl_0_289 : pm_cal 0 289 = some (0, 26, 2) := by decide +kernel
theorem cl_0_298 : pm_cal 0 298 = some (0, 30, 1) := by decide +kernel
theorem cl_0_301 : pm_cal 0 301 = some (0, 32, 4) := by decide +kernel
theorem cl_0_305 : pm_cal 0 305 = some (0, 71, 1) := by decide +kernel
theorem cl_0_317 : pm_cal 0 317 = some (0, 33, 2) := by decide +kernel
theorem cl_0_330 : pm_cal 0 330 = some (0, 73, 1) := by decide +kernel
theorem cl_0_331 : pm_cal 0 331 = some (0, 37, 3) := by decide +kernel
theorem cl_0_335 : pm_cal 0 335 = some (0, 55, 2) := by decide +kernel
theorem cl_0_338 : pm_cal 0 338 = some (0, 78, 1) := by decide +kernel
theorem cl_0_341 : pm_cal 0 341 = some (0, 48, 2) := by decide +kernel
theorem cl_0_348 : pm_cal 0 348 = some (0, 8, 3) := by decide +kernel
theorem l2_0_140 : pm_l2 0 140 = some (4294967295) := by decide +kernel
theorem l2_0_243 : pm_l2 0 243 = some (3) := by decide +kernel
theorem l2_0_255 : pm_l2 0 255 = some (-11) := by decide +kernel
theorem l2_0_257 : pm_l2 0 257 = some (-12) := by decide +kernel
theorem l2_0_275 : pm_l2 0 275 = some (-13) := by decide +kernel
theorem l2_0_280 : pm_l2 0 280 = some (-1) := by decide +kernel
theorem fl_1_9 : pm_fl 1 9 = some (1, 0) := by decide +kernel
theorem fl_1_17 : pm_fl 1 17 = some (1, 1) := by decide +kernel
theorem fl_1_23 : pm_fl 1 23 = some (1, 2) := by decide +kernel
theorem fl_1_29 : pm_fl 1 29 = some (1, 3) := by decide +kernel
theorem fl_1_41 : pm_fl 1 41 = some (4, 2) := by decide +kernel
theorem fl_1_47 : pm_fl 1 47 = some (6, 0) := by decide +kernel
theorem cl_1_3 : pm_cal 1 3 = some (4, 0, 1) := by decide +kernel
theorem cl_1_33 : pm_cal 1 33 = some (3, 65, 1) := by decide +kernel
theorem cl_1_34 : pm_cal 1 34 = some (3, 70, 1) := by decide +kernel
theorem cl_1_35 : pm_cal 1 35 = some (3, 74, 1) := by decide +kernel
theorem cl_1_36 : pm_cal 1 36 = some (0, 66, 1) := by decide +kernel
theorem cl_1_40 : pm_cal 1 40 = some (0, 71, 1) := by decide +kernel
theorem cl_1_44 : pm_cal 1 44 = some (0, 67, 1) := by decide +kernel
theorem cl_1_48 : pm_cal 1 48 = some (0, 69, 1) := by decide +kernel
theorem fl_2_9 : pm_fl 2 9 = some (2, 0) := by decide +kernel
theorem fl_2_15 : pm_fl 2 15 = some (2, 1) := by decide +kernel
theorem cl_2_3 : pm_cal 2 3 = some (4, 0, 1) := by decide +kernel
theorem fl_3_9 : pm_fl 3 9 = some (3, 0) := by decide +kernel
theorem fl_3_15 : pm_fl 3 15 = some (3, 1) := by decide +kernel
theorem fl_3_19 : pm_fl 3 19 = some (3, 2) := by decide +kernel
theorem fl_3_22 : pm_fl 3 22 = some (3, 3) := by decide +kernel
theorem fl_3_25 : pm_fl 3 25 = some (3, 4) := by decide +kernel
theorem fl_3_28 : pm_fl 3 28 = some (3, 5) := by decide +kernel
theorem fl_3_31 : pm_fl 3 31 = some (3, 6) := by decide +kernel
theorem fl_3_34 : pm_fl 3 34 = some (3, 7) := by decide +kernel
theorem fl_3_37 : pm_fl 3 37 = some (3, 8) := by decide +kernel
theorem fl_3_40 : pm_fl 3 40 = some (3, 9) := by decide +kernel
theorem fl_3_43 : pm_fl 3 43 = some (3, 10) := by decide +kernel
theorem fl_3_46 : pm_fl 3 46 = some (3, 11) := by decide +kernel
theorem fl_3_50 : pm_fl 3 50 = some (3, 12) := by decide +kernel
theorem fl_3_53 : pm_fl 3 53 = some (3, 13) := by decide +kernel
theorem cl_3_3 : pm_cal 3 3 = some (4, 0, 1) := by decide +kernel
theorem fl_4_9 : pm_fl 4 9 = some (4, 0) := by decide +kernel
theorem fl_4_15 : pm_fl 4 15 = some (4, 1) := by decide +kernel
theorem fl_4_18 : pm_fl 4 18 = some (4, 2) := by decide +kernel
theorem fl_4_21 : pm_fl 4 21 = some (4, 3) := by decide +kernel
theorem cl_4_3 : pm_cal 4 3 = some (4, 0, 1) := by decide +kernel
theorem cl_4_24 : pm_cal 4 24 = some (0, 68, 4) := by decide +kernel
theorem fl_5_9 : pm_fl 5 9 = some (5, 0) := by decide +kernel
theorem fl_5_15 : pm_fl 5 15 = some (5, 1) := by decide +kernel
theorem fl_5_18 : pm_fl 5 18 = some (5, 2) := by decide +kernel
theorem cl_5_3 : pm_cal 5 3 = some (4, 0, 1) := by decide +kernel
theorem cl_5_22 : pm_cal 5 22 = some (0, 72, 4) := by decide +kernel
theorem fl_6_9 : pm_fl 6 9 = some (6, 0) := by decide +kernel
theorem fl_6_15 : pm_fl 6 15 = some (6, 1) := by decide +kernel
theorem fl_6_18 : pm_fl 6 18 = some (6, 2) := by decide +kernel
theorem fl_6_21 : pm_fl 6 21 = some (6, 3) := by decide +kernel
theorem cl_6_3 : pm_cal 6 3 = some (4, 0, 1) := by decide +kernel
theorem cl_6_25 : pm_cal 6 25 = some (0, 79, 4) := by decide +kernel
theorem fl_7_7 : pm_fl 7 7 = some (7, 0) := by decide +kernel
theorem fl_7_13 : pm_fl 7 13 = some (7, 1) := by decide +kernel
theorem fl_7_16 : pm_fl 7 16 = some (7, 2) := by decide +kernel
theorem fl_7_19 : pm_fl 7 19 = some (7, 3) := by decide +kernel
theorem fl_7_22 : pm_fl 7 22 = some (7, 4) := by decide +kernel
theorem fl_7_25 : pm_fl 7 25 = some (7, 5) := by decide +kernel
theorem fl_7_28 : pm_fl 7 28 = some (7, 6) := by decide +kernel
theorem fl_7_31 : pm_fl 7 31 = some (7, 7) := by decide +kernel
theorem fl_7_35 : pm_fl 7 35 = some (7, 8) := by decide +kernel
theorem fl_7_38 : pm_fl 7 38 = some (7, 9) := by decide +kernel
theorem fl_7_41 : pm_fl 7 41 = some (7, 10) := by decide +kernel
theorem fl_7_44 : pm_fl 7 44 = some (7, 11) := by decide +kernel
theorem fl_7_47 : pm_fl 7 47 = some (7, 12) := by decide +kernel
theorem fl_7_50 : pm_fl 7 50 = some (7, 13) := by decide +kernel
theorem fl_7_53 : pm_fl 7 53 = some (7, 14) := by decide +kernel
theorem fl_7_56 : pm_fl 7 56 = some (7, 15) := by decide +kernel
theorem fl_7_59 : pm_fl 7 59 = some (7, 16) := by decide +kernel
theorem fl_7_62 : pm_fl 7 62 = some (7, 17) := by decide +kernel
theorem fl_7_65 : pm_fl 7 65 = some (7, 18) := by decide +kernel
theorem fl_7_68 : pm_fl 7 68 = some (7, 19) := by decide +kernel
theorem fl_7_71 : pm_fl 7 71 = some (7, 20) := by decide +kernel
theorem fl_7_74 : pm_fl 7 74 = some (7, 21) := by decide +kernel
theorem fl_7_77 : pm_fl 7 77 = some (7, 22) := by decide +kernel
theorem fl_7_80 : pm_fl 7 80 = some (7, 23) := by decide +kernel
theorem cl_7_1 : pm_cal 7 1 = some (4, 0, 1) := by decide +kernel
theorem cl_7_83 : pm_cal 7 83 = some (0, 88, 2) := by decide +kernel
theorem cl_7_87 : pm_cal 7 87 = some (0, 89, 4) := by decide +kernel
theorem cl_7_91 : pm_cal 7 91 = some (0, 83, 2) := by decide +kernel
theorem cl_7_94 : pm_cal 7 94 = some (0, 81, 2) := by decide +kernel
theorem cl_7_98 : pm_cal 7 98 = some (0, 91, 2) := by decide +kernel
theorem cl_7_102 : pm_cal 7 102 = some (0, 92, 2) := by decide +kernel
theorem cl_7_105 : pm_cal 7 105 = some (0, 82, 3) := by decide +kernel
theorem cl_7_109 : pm_cal 7 109 = some (0, 84, 1) := by decide +kernel
theorem cl_7_113 : pm_cal 7 113 = some (0, 85, 2) := by decide +kernel
theorem cl_7_116 : pm_cal 7 116 = some (0, 97, 3) := by decide +kernel
theorem cl_7_120 : pm_cal 7 120 = some (0, 86, 2) := by decide +kernel
theorem cl_7_123 : pm_cal 7 123 = some (0, 102, 4) := by decide +kernel
theorem cl_7_126 : pm_cal 7 126 = some (0, 103, 5) := by decide +kernel
theorem cl_7_132 : pm_cal 7 132 = some (1, 105, 1) := by decide +kernel
theorem cl_7_136 : pm_cal 7 136 = some (0, 87, 2) := by decide +kernel
theorem cl_7_139 : pm_cal 7 139 = some (0, 94, 2) := by decide +kernel
theorem cl_7_142 : pm_cal 7 142 = some (0, 96, 5) := by decide +kernel
theorem cl_7_146 : pm_cal 7 146 = some (0, 99, 5) := by decide +kernel
theorem cl_7_149 : pm_cal 7 149 = some (0, 107, 3) := by decide +kernel
theorem cl_7_152 : pm_cal 7 152 = some (0, 108, 4) := by decide +kernel
theorem cl_7_156 : pm_cal 7 156 = some (0, 112, 2) := by decide +kernel
theorem cl_7_159 : pm_cal 7 159 = some (0, 109, 3) := by decide +kernel
theorem cl_7_168 : pm_cal 7 168 = some (0, 106, 4) := by decide +kernel
theorem cl_7_172 : pm_cal 7 172 = some (0, 98, 3) := by decide +kernel
theorem cl_7_175 : pm_cal 7 175 = some (0, 95, 3) := by decide +kernel
theorem l2_7_130 : pm_l2 7 130 = some (4294967296) := by decide +kernel
theorem l2_7_162 : pm_l2 7 162 = some (3) := by decide +kernel
theorem l2_7_164 : pm_l2 7 164 = some (-11) := by decide +kernel
theorem l2_7_166 : pm_l2 7 166 = some (-12) := by decide +kernel
theorem l2_7_178 : pm_l2 7 178 = some (-13) := by decide +kernel
theorem l2_7_180 : pm_l2 7 180 = some (-1) := by decide +kernel
theorem cl_8_9 : pm_cal 8 9 = some (2, 0, 1) := by decide +kernel
theorem cl_8_12 : pm_cal 8 12 = some (2, 80, 1) := by decide +kernel
theorem cl_8_13 : pm_cal 8 13 = some (0, 1, 1) := by decide +kernel
theorem cl_8_17 : pm_cal 8 17 = some (0, 90, 1) := by decide +kernel
theorem cl_8_18 : pm_cal 8 18 = some (0, 2, 2) := by decide +kernel
theorem cl_8_22 : pm_cal 8 22 = some (0, 93, 2) := by decide +kernel
theorem cl_8_23 : pm_cal 8 23 = some (0, 3, 2) := by decide +kernel
theorem cl_8_26 : pm_cal 8 26 = some (0, 94, 2) := by decide +kernel
theorem cl_8_27 : pm_cal 8 27 = some (0, 4, 3) := by decide +kernel
theorem cl_8_31 : pm_cal 8 31 = some (0, 95, 3) := by decide +kernel
theorem cl_8_32 : pm_cal 8 32 = some (0, 5, 5) := by decide +kernel
theorem cl_8_36 : pm_cal 8 36 = some (0, 96, 5) := by decide +kernel
theorem cl_8_37 : pm_cal 8 37 = some (0, 6, 3) := by decide +kernel
theorem cl_8_40 : pm_cal 8 40 = some (0, 98, 3) := by decide +kernel
theorem cl_8_41 : pm_cal 8 41 = some (0, 7, 5) := by decide +kernel
theorem cl_8_45 : pm_cal 8 45 = some (0, 99, 5) := by decide +kernel
theorem cl_8_46 : pm_cal 8 46 = some (0, 8, 3) := by decide +kernel
theorem cl_8_49 : pm_cal 8 49 = some (0, 100, 3) := by decide +kernel
theorem cl_8_50 : pm_cal 8 50 = some (0, 9, 5) := by decide +kernel
theorem cl_8_53 : pm_cal 8 53 = some (0, 101, 5) := by decide +kernel
theorem cl_8_54 : pm_cal 8 54 = some (0, 10, 5) := by decide +kernel
theorem cl_8_57 : pm_cal 8 57 = some (0, 104, 5) := by decide +kernel
theorem cl_8_58 : pm_cal 8 58 = some (0, 11, 4) := by decide +kernel
theorem cl_8_62 : pm_cal 8 62 = some (0, 106, 4) := by decide +kernel
theorem cl_8_63 : pm_cal 8 63 = some (0, 12, 3) := by decide +kernel
theorem cl_8_66 : pm_cal 8 66 = some (0, 107, 3) := by decide +kernel
theorem cl_8_67 : pm_cal 8 67 = some (0, 13, 4) := by decide +kernel
theorem cl_8_71 : pm_cal 8 71 = some (0, 108, 4) := by decide +kernel
theorem cl_8_72 : pm_cal 8 72 = some (0, 14, 3) := by decide +kernel
theorem cl_8_75 : pm_cal 8 75 = some (0, 109, 3) := by decide +kernel
theorem cl_8_76 : pm_cal 8 76 = some (0, 15, 2) := by decide +kernel
theorem cl_8_79 : pm_cal 8 79 = some (0, 110, 2) := by decide +kernel
theorem cl_8_80 : pm_cal 8 80 = some (0, 16, 3) := by decide +kernel
theorem cl_8_83 : pm_cal 8 83 = some (0, 111, 3) := by decide +kernel
theorem cl_8_84 : pm_cal 8 84 = some (0, 17, 5) := by decide +kernel
theorem cl_8_88 : pm_cal 8 88 = some (0, 113, 5) := by decide +kernel
theorem cl_8_89 : pm_cal 8 89 = some (0, 18, 2) := by decide +kernel
theorem cl_8_92 : pm_cal 8 92 = some (0, 114, 2) := by decide +kernel
theorem cl_8_93 : pm_cal 8 93 = some (0, 19, 2) := by decide +kernel
theorem cl_8_97 : pm_cal 8 97 = some (0, 115, 2) := by decide +kernel
theorem cl_8_98 : pm_cal 8 98 = some (0, 20, 4) := by decide +kernel
theorem cl_8_101 : pm_cal 8 101 = some (0, 116, 4) := by decide +kernel
