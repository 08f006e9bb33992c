/-! What a pool number means, one row each. -/
theorem rF_3_9 : rF 3 9 = some (3, 0, 1) := by decide +kernel
theorem rF_3_15 : rF 3 15 = some (3, 1, 1) := by decide +kernel
theorem rF_6_9 : rF 6 9 = some (11, 0, 0) := by decide +kernel
theorem rF_6_48 : rF 6 48 = some (11, 1, 0) := by decide +kernel
theorem rF_7_7 : rF 7 7 = some (11, 2, 0) := by decide +kernel
theorem rF_6_63 : rF 6 63 = some (11, 2, 0) := by decide +kernel
theorem rF_9_20 : rF 9 20 = some (6, 0, 0) := by decide +kernel
theorem rF_9_14 : rF 9 14 = some (6, 1, 1) := by decide +kernel
theorem rF_5_12 : rF 5 12 = some (7, 0, 1) := by decide +kernel
theorem rF_5_21 : rF 5 21 = some (7, 1, 1) := by decide +kernel
theorem rF_5_30 : rF 5 30 = some (7, 2, 1) := by decide +kernel
theorem rF_5_53 : rF 5 53 = some (7, 3, 0) := by decide +kernel
theorem rF_5_61 : rF 5 61 = some (7, 4, 0) := by decide +kernel
theorem rF_5_34 : rF 5 34 = some (7, 5, 1) := by decide +kernel
theorem rF_5_38 : rF 5 38 = some (7, 6, 1) := by decide +kernel
theorem rF_10_30 : rF 10 30 = some (5, 0, 0) := by decide +kernel
theorem rF_10_9 : rF 10 9 = some (5, 1, 1) := by decide +kernel
theorem rF_10_20 : rF 10 20 = some (5, 2, 1) := by decide +kernel
theorem rF_10_24 : rF 10 24 = some (5, 3, 1) := by decide +kernel
theorem rF_10_34 : rF 10 34 = some (5, 4, 0) := by decide +kernel
theorem rF_10_27 : rF 10 27 = some (5, 5, 1) := by decide +kernel
theorem rF_10_37 : rF 10 37 = some (5, 6, 0) := by decide +kernel
theorem rF_11_22 : rF 11 22 = some (9, 0, 0) := by decide +kernel
theorem rF_11_26 : rF 11 26 = some (9, 1, 0) := by decide +kernel
theorem rF_11_9 : rF 11 9 = some (9, 2, 0) := by decide +kernel
theorem rF_11_18 : rF 11 18 = some (9, 3, 1) := by decide +kernel
theorem rF_12_14 : rF 12 14 = some (4, 0, 1) := by decide +kernel
theorem rF_12_20 : rF 12 20 = some (4, 1, 1) := by decide +kernel
theorem rF_12_24 : rF 12 24 = some (4, 2, 1) := by decide +kernel
theorem rF_12_30 : rF 12 30 = some (4, 3, 1) := by decide +kernel
theorem rF_12_34 : rF 12 34 = some (4, 4, 1) := by decide +kernel
theorem rF_12_50 : rF 12 50 = some (4, 5, 0) := by decide +kernel
theorem rF_12_67 : rF 12 67 = some (4, 6, 0) := by decide +kernel
theorem rF_13_11 : rF 13 11 = some (2, 0, 1) := by decide +kernel
theorem rF_13_64 : rF 13 64 = some (2, 1, 0) := by decide +kernel
theorem rF_13_17 : rF 13 17 = some (2, 2, 1) := by decide +kernel
theorem rF_13_21 : rF 13 21 = some (2, 3, 1) := by decide +kernel
theorem rF_13_24 : rF 13 24 = some (2, 4, 1) := by decide +kernel
theorem rF_13_68 : rF 13 68 = some (2, 5, 0) := by decide +kernel
theorem rF_13_71 : rF 13 71 = some (2, 6, 0) := by decide +kernel
theorem rF_13_28 : rF 13 28 = some (2, 7, 1) := by decide +kernel
theorem rF_13_31 : rF 13 31 = some (2, 8, 1) := by decide +kernel
theorem rF_13_39 : rF 13 39 = some (2, 9, 1) := by decide +kernel
theorem rF_13_43 : rF 13 43 = some (2, 10, 1) := by decide +kernel
theorem rF_13_46 : rF 13 46 = some (2, 11, 1) := by decide +kernel
theorem rF_13_50 : rF 13 50 = some (2, 12, 1) := by decide +kernel
theorem rF_13_53 : rF 13 53 = some (2, 13, 1) := by decide +kernel
theorem rF_13_161 : rF 13 161 = some (2, 14, 0) := by decide +kernel
theorem rF_13_56 : rF 13 56 = some (2, 15, 1) := by decide +kernel
theorem rF_13_112 : rF 13 112 = some (2, 16, 0) := by decide +kernel
theorem rF_1_12 : rF 1 12 = some (0, 0, 1) := by decide +kernel
theorem rF_1_21 : rF 1 21 = some (0, 1, 1) := by decide +kernel
theorem rF_1_28 : rF 1 28 = some (0, 2, 1) := by decide +kernel
theorem rF_1_35 : rF 1 35 = some (0, 3, 1) := by decide +kernel
theorem rF_1_42 : rF 1 42 = some (0, 4, 1) := by decide +kernel
theorem rF_1_49 : rF 1 49 = some (0, 5, 1) := by decide +kernel
theorem rF_24_30 : rF 24 30 = some (8, 0, 0) := by decide +kernel
theorem rF_24_9 : rF 24 9 = some (8, 1, 1) := by decide +kernel
theorem rF_24_15 : rF 24 15 = some (8, 2, 1) := by decide +kernel
theorem rF_24_18 : rF 24 18 = some (8, 3, 1) := by decide +kernel
theorem rF_24_26 : rF 24 26 = some (8, 4, 1) := by decide +kernel
theorem rF_17_62 : rF 17 62 = some (1, 0, 0) := by decide +kernel
theorem rF_17_73 : rF 17 73 = some (1, 1, 0) := by decide +kernel
theorem rF_17_9 : rF 17 9 = some (1, 2, 1) := by decide +kernel
theorem rF_17_15 : rF 17 15 = some (1, 3, 1) := by decide +kernel
theorem rF_17_23 : rF 17 23 = some (1, 4, 1) := by decide +kernel
theorem rF_17_27 : rF 17 27 = some (1, 5, 1) := by decide +kernel
theorem rF_17_30 : rF 17 30 = some (1, 6, 1) := by decide +kernel
theorem rF_17_33 : rF 17 33 = some (1, 7, 1) := by decide +kernel
theorem rF_17_36 : rF 17 36 = some (1, 8, 1) := by decide +kernel
theorem rF_17_39 : rF 17 39 = some (1, 9, 1) := by decide +kernel
theorem rF_17_80 : rF 17 80 = some (1, 10, 0) := by decide +kernel
theorem rF_17_42 : rF 17 42 = some (1, 11, 1) := by decide +kernel
theorem rF_17_48 : rF 17 48 = some (1, 12, 1) := by decide +kernel
theorem rF_26_178 : rF 26 178 = some (10, 0, 0) := by decide +kernel
theorem rF_26_212 : rF 26 212 = some (10, 1, 0) := by decide +kernel
theorem rF_26_7 : rF 26 7 = some (10, 2, 0) := by decide +kernel
theorem rF_26_215 : rF 26 215 = some (10, 3, 0) := by decide +kernel
theorem rF_26_13 : rF 26 13 = some (10, 4, 0) := by decide +kernel
theorem rF_26_16 : rF 26 16 = some (10, 5, 0) := by decide +kernel
theorem rF_26_21 : rF 26 21 = some (10, 6, 0) := by decide +kernel
theorem rF_26_24 : rF 26 24 = some (10, 7, 1) := by decide +kernel
theorem rF_26_28 : rF 26 28 = some (10, 8, 1) := by decide +kernel
theorem rF_26_32 : rF 26 32 = some (10, 9, 1) := by decide +kernel
theorem rF_26_35 : rF 26 35 = some (10, 10, 1) := by decide +kernel
theorem rF_26_39 : rF 26 39 = some (10, 11, 1) := by decide +kernel
theorem rF_26_42 : rF 26 42 = some (10, 12, 1) := by decide +kernel
theorem rF_26_45 : rF 26 45 = some (10, 13, 1) := by decide +kernel
theorem rF_26_218 : rF 26 218 = some (10, 14, 0) := by decide +kernel
theorem rF_26_48 : rF 26 48 = some (10, 15, 1) := by decide +kernel
theorem rF_26_51 : rF 26 51 = some (10, 16, 1) := by decide +kernel
theorem rF_26_54 : rF 26 54 = some (10, 17, 1) := by decide +kernel
theorem rF_26_57 : rF 26 57 = some (10, 18, 1) := by decide +kernel
theorem rF_26_60 : rF 26 60 = some (10, 19, 1) := by decide +kernel
theorem rF_26_63 : rF 26 63 = some (10, 20, 1) := by decide +kernel
theorem rF_26_66 : rF 26 66 = some (10, 21, 1) := by decide +kernel
theorem rF_26_69 : rF 26 69 = some (10, 22, 1) := by decide +kernel
theorem rF_26_72 : rF 26 72 = some (10, 23, 1) := by decide +kernel
theorem rF_26_75 : rF 26 75 = some (10, 24, 1) := by decide +kernel
theorem rF_26_78 : rF 26 78 = some (10, 25, 1) := by decide +kernel
theorem rF_26_81 : rF 26 81 = some (10, 26, 1) := by decide +kernel
theorem rF_26_84 : rF 26 84 = some (10, 27, 1) := by decide +kernel
theorem rF_26_87 : rF 26 87 = some (10, 28, 1) := by decide +kernel
theorem rF_26_90 : rF 26 90 = some (10, 29, 1) := by decide +kernel
theorem rF_26_242 : rF 26 242 = some (10, 30, 0) := by decide +kernel
theorem rF_26_93 : rF 26 93 = some (10, 31, 1) := by decide +kernel
theorem rF_26_96 : rF 26 96 = some (10, 32, 1) := by decide +kernel
theorem rF_26_99 : rF 26 99 = some (10, 33, 1) := by decide +kernel
theorem rF_26_102 : rF 26 102 = some (10, 34, 1) := by decide +kernel
theorem rF_26_105 : rF 26 105 = some (10, 35, 1) := by decide +kernel
theorem rF_26_245 : rF 26 245 = some (10, 36, 0) := by decide +kernel
theorem rF_26_108 : rF 26 108 = some (10, 37, 1) := by decide +kernel
theorem rF_26_280 : rF 26 280 = some (10, 38, 0) := by decide +kernel
theorem rF_26_111 : rF 26 111 = some (10, 39, 1) := by decide +kernel
theorem rF_26_283 : rF 26 283 = some (10, 40, 0) := by decide +kernel
theorem rF_26_114 : rF 26 114 = some (10, 41, 1) := by decide +kernel
theorem rF_26_117 : rF 26 117 = some (10, 42, 1) := by decide +kernel
theorem rF_26_358 : rF 26 358 = some (10, 43, 0) := by decide +kernel
theorem rF_26_120 : rF 26 120 = some (10, 44, 1) := by decide +kernel
theorem rF_26_123 : rF 26 123 = some (10, 45, 1) := by decide +kernel
theorem rF_26_126 : rF 26 126 = some (10, 46, 1) := by decide +kernel
theorem rF_26_129 : rF 26 129 = some (10, 47, 1) := by decide +kernel
theorem rF_26_132 : rF 26 132 = some (10, 48, 1) := by decide +kernel
theorem rF_26_135 : rF 26 135 = some (10, 49, 1) := by decide +kernel
theorem rF_26_305 : rF 26 305 = some (10, 50, 0) := by decide +kernel
theorem rF_26_320 : rF 26 320 = some (10, 51, 0) := by decide +kernel
theorem rF_26_324 : rF 26 324 = some (10, 52, 0) := by decide +kernel
theorem rF_26_138 : rF 26 138 = some (10, 53, 0) := by decide +kernel
theorem rF_26_142 : rF 26 142 = some (10, 54, 1) := by decide +kernel
theorem rF_26_145 : rF 26 145 = some (10, 55, 1) := by decide +kernel
theorem rF_26_148 : rF 26 148 = some (10, 56, 1) := by decide +kernel
theorem rF_26_189 : rF 26 189 = some (10, 57, 0) := by decide +kernel
theorem rF_26_192 : rF 26 192 = some (10, 58, 0) := by decide +kernel
theorem rF_26_151 : rF 26 151 = some (10, 59, 1) := by decide +kernel
theorem rF_26_154 : rF 26 154 = some (10, 60, 1) := by decide +kernel
theorem rF_26_157 : rF 26 157 = some (10, 61, 1) := by decide +kernel
theorem rF_26_160 : rF 26 160 = some (10, 62, 1) := by decide +kernel
theorem rF_26_163 : rF 26 163 = some (10, 63, 1) := by decide +kernel
theorem rF_26_166 : rF 26 166 = some (10, 64, 1) := by decide +kernel
theorem rF_26_169 : rF 26 169 = some (10, 65, 1) := by decide +kernel
theorem rF_26_172 : rF 26 172 = some (10, 66, 1) := by decide +kernel
theorem rF_26_175 : rF 26 175 = some (10, 67, 1) := by decide +kernel
theorem rF_1_57 : rF 1 57 = some (3, 0, 3) := by decide +kernel
theorem rF_17_122 : rF 17 122 = some (3, 0, 3) := by decide +kernel
theorem rF_13_198 : rF 13 198 = some (3, 0, 3) := by decide +kernel
theorem rF_17_126 : rF 17 126 = some (3, 1, 3) := by decide +kernel
theorem rF_13_195 : rF 13 195 = some (3, 1, 3) := by decide +kernel
theorem rF_1_248 : rF 1 248 = some (3, 1, 3) := by decide +kernel
theorem rF_1_79 : rF 1 79 = some (6, 0, 2) := by decide +kernel
theorem rF_17_111 : rF 17 111 = some (6, 0, 2) := by decide +kernel
theorem rF_5_68 : rF 5 68 = some (6, 1, 3) := by decide +kernel
theorem rF_1_89 : rF 1 89 = some (6, 1, 3) := by decide +kernel
theorem rF_17_95 : rF 17 95 = some (6, 1, 3) := by decide +kernel
theorem rF_13_100 : rF 13 100 = some (7, 0, 3) := by decide +kernel
theorem rF_1_105 : rF 1 105 = some (7, 0, 3) := by decide +kernel
theorem rF_12_144 : rF 12 144 = some (7, 0, 3) := by decide +kernel
theorem rF_12_41 : rF 12 41 = some (7, 1, 3) := by decide +kernel
theorem rF_13_74 : rF 13 74 = some (7, 1, 3) := by decide +kernel
theorem rF_1_75 : rF 1 75 = some (7, 1, 3) := by decide +kernel
theorem rF_1_64 : rF 1 64 = some (7, 2, 3) := by decide +kernel
theorem rF_12_126 : rF 12 126 = some (7, 2, 3) := by decide +kernel
theorem rF_13_176 : rF 13 176 = some (7, 2, 3) := by decide +kernel
theorem rF_1_98 : rF 1 98 = some (7, 5, 3) := by decide +kernel
theorem rF_1_102 : rF 1 102 = some (7, 6, 3) := by decide +kernel
theorem rF_12_54 : rF 12 54 = some (5, 0, 2) := by decide +kernel
theorem rF_1_160 : rF 1 160 = some (5, 0, 2) := by decide +kernel
theorem rF_13_87 : rF 13 87 = some (5, 1, 3) := by decide +kernel
theorem rF_12_148 : rF 12 148 = some (5, 1, 3) := by decide +kernel
theorem rF_1_238 : rF 1 238 = some (5, 1, 3) := by decide +kernel
theorem rF_12_74 : rF 12 74 = some (5, 2, 3) := by decide +kernel
theorem rF_13_169 : rF 13 169 = some (5, 2, 3) := by decide +kernel
theorem rF_1_163 : rF 1 163 = some (5, 2, 3) := by decide +kernel
theorem rF_12_85 : rF 12 85 = some (5, 3, 3) := by decide +kernel
theorem rF_13_158 : rF 13 158 = some (5, 3, 3) := by decide +kernel
theorem rF_1_166 : rF 1 166 = some (5, 3, 3) := by decide +kernel
theorem rF_13_83 : rF 13 83 = some (5, 4, 2) := by decide +kernel
theorem rF_1_202 : rF 1 202 = some (5, 4, 2) := by decide +kernel
theorem rF_13_86 : rF 13 86 = some (5, 5, 3) := by decide +kernel
theorem rF_1_241 : rF 1 241 = some (5, 5, 3) := by decide +kernel
theorem rF_1_261 : rF 1 261 = some (9, 0, 2) := by decide +kernel
theorem rF_1_229 : rF 1 229 = some (9, 1, 2) := by decide +kernel
theorem rF_1_232 : rF 1 232 = some (9, 2, 2) := by decide +kernel
theorem rF_1_265 : rF 1 265 = some (9, 3, 3) := by decide +kernel
theorem rF_1_182 : rF 1 182 = some (4, 3, 3) := by decide +kernel
theorem rF_1_179 : rF 1 179 = some (4, 6, 2) := by decide +kernel
theorem rF_1_272 : rF 1 272 = some (2, 5, 2) := by decide +kernel
theorem rF_1_281 : rF 1 281 = some (2, 7, 3) := by decide +kernel
theorem rF_1_213 : rF 1 213 = some (2, 16, 2) := by decide +kernel
theorem rF_17_89 : rF 17 89 = some (8, 0, 2) := by decide +kernel
theorem rF_17_92 : rF 17 92 = some (8, 1, 3) := by decide +kernel
theorem rF_17_98 : rF 17 98 = some (8, 2, 3) := by decide +kernel
theorem rF_17_101 : rF 17 101 = some (8, 3, 3) := by decide +kernel
theorem rF_17_104 : rF 17 104 = some (8, 4, 3) := by decide +kernel
theorem rF_1_129 : rF 1 129 = some (1, 0, 2) := by decide +kernel
theorem rF_1_289 : rF 1 289 = some (1, 1, 2) := by decide +kernel
theorem rF_1_292 : rF 1 292 = some (1, 8, 3) := by decide +kernel
theorem rC_0_8 : rC 0 8 = some (0) := by decide +kernel
theorem rC_1_7 : rC 1 7 = some (3) := by decide +kernel
theorem rC_1_18 : rC 1 18 = some (7) := by decide +kernel
theorem rC_5_9 : rC 5 9 = some (11) := by decide +kernel
theorem rC_5_18 : rC 5 18 = some (6) := by decide +kernel
theorem rC_9_9 : rC 9 9 = some (3) := by decide +kernel
theorem rC_5_25 : rC 5 25 = some (3) := by decide +kernel
theorem rC_1_25 : rC 1 25 = some (5) := by decide +kernel
theorem rC_10_15 : rC 10 15 = some (3) := by decide +kernel
theorem rC_1_32 : rC 1 32 = some (9) := by decide +kernel
theorem rC_11_15 : rC 11 15 = some (6) := by decide +kernel
theorem rC_1_39 : rC 1 39 = some (4) := by decide +kernel
theorem rC_12_9 : rC 12 9 = some (3) := by decide +kernel
theorem rC_12_27 : rC 12 27 = some (6) := by decide +kernel
theorem rC_1_46 : rC 1 46 = some (2) := by decide +kernel
theorem rC_13_9 : rC 13 9 = some (6) := by decide +kernel
theorem rC_13_34 : rC 13 34 = some (3) := by decide +kernel
theorem rC_12_121 : rC 12 121 = some (1) := by decide +kernel
theorem rC_0_13 : rC 0 13 = some (12) := by decide +kernel
theorem rC_1_61 : rC 1 61 = some (12) := by decide +kernel
theorem rC_0_25 : rC 0 25 = some (13) := by decide +kernel
theorem rC_1_235 : rC 1 235 = some (13) := by decide +kernel
theorem rC_0_41 : rC 0 41 = some (14) := by decide +kernel
theorem rC_1_196 : rC 1 196 = some (14) := by decide +kernel
theorem rC_1_118 : rC 1 118 = some (1) := by decide +kernel
theorem rC_17_18 : rC 17 18 = some (8) := by decide +kernel
theorem rC_24_21 : rC 24 21 = some (3) := by decide +kernel
theorem rC_17_45 : rC 17 45 = some (3) := by decide +kernel
theorem rC_13_110 : rC 13 110 = some (1) := by decide +kernel
theorem rC_0_92 : rC 0 92 = some (10) := by decide +kernel
theorem rK_1_255 : rK 1 255 = some (-100000 : Int32) := by decide +kernel
theorem rK_1_256 : rK 1 256 = some (100000 : Int32) := by decide +kernel
theorem rK_25_200 : rK 25 200 = some (2147483639 : Int32) := by decide +kernel
theorem rK_26_198 : rK 26 198 = some (-100000 : Int32) := by decide +kernel
theorem rK_26_199 : rK 26 199 = some (100000 : Int32) := by decide +kernel
theorem rJ_5_41 : rJ 5 41 = some (1000 : Int64) := by decide +kernel
theorem rJ_3_38 : rJ 3 38 = some (1000000000 : Int64) := by decide +kernel
theorem rJ_3_40 : rJ 3 40 = some (-1000000000 : Int64) := by decide +kernel
theorem rJ_13_201 : rJ 13 201 = some (100000 : Int64) := by decide +kernel
theorem rJ_13_203 : rJ 13 203 = some (10000 : Int64) := by decide +kernel
theorem rJ_26_19 : rJ 26 19 = some (1000 : Int64) := by decide +kernel
theorem rJ_26_278 : rJ 26 278 = some (1000000000 : Int64) := by decide +kernel
theorem rJ_26_356 : rJ 26 356 = some (10000 : Int64) := by decide +kernel
theorem rJ_26_361 : rJ 26 361 = some (100000 : Int64) := by decide +kernel
theorem rJ_26_374 : rJ 26 374 = some (-1 : Int64) := by decide +kernel
theorem rX_1_1 : rX 1 1 = some (0) := by decide +kernel
theorem rX_3_3 : rX 3 3 = some (0) := by decide +kernel
theorem rX_5_3 : rX 5 3 = some (0) := by decide +kernel
theorem rX_8_1 : rX 8 1 = some (0) := by decide +kernel
theorem rX_9_3 : rX 9 3 = some (0) := by decide +kernel
theorem rX_10_3 : rX 10 3 = some (0) := by decide +kernel
theorem rX_11_3 : rX 11 3 = some (0) := by decide +kernel
theorem rX_12_3 : rX 12 3 = some (0) := by decide +kernel
theorem rX_13_3 : rX 13 3 = some (0) := by decide +kernel
theorem rX_17_3 : rX 17 3 = some (0) := by decide +kernel
theorem rX_24_3 : rX 24 3 = some (0) := by decide +kernel
theorem rX_26_1 : rX 26 1 = some (0) := by decide +kernel
theorem rE_1_63 : rE 1 63 = some (12) := by decide +kernel
theorem rE_1_237 : rE 1 237 = some (13) := by decide +kernel
theorem rE_1_198 : rE 1 198 = some (14) := by decide +kernel
theorem rA_5_18 : rA 5 18 = some ("PlanJudge$State") := by decide +kernel
theorem rA_11_15 : rA 11 15 = some ("PlanJudge$State") := by decide +kernel
theorem rA_12_27 : rA 12 27 = some ("PlanJudge$State") := by decide +kernel
theorem rA_13_9 : rA 13 9 = some ("PlanJudge$State") := by decide +kernel
theorem rA_4_2 : rA 4 2 = some ("java/lang/Object") := by decide +kernel
theorem rA_6_7 : rA 6 7 = some ("java/lang/Object") := by decide +kernel
theorem rY_3_24 : rY 3 24 = some (0) := by decide +kernel
theorem rY_4_150 : rY 4 150 = some (0) := by decide +kernel
theorem rM_0_91 : rM 0 91 = some (2, 0, m_PJ_init) := rfl
theorem rM_1_9 : rM 1 9 = some (2, 1, m_Fractions_init) := rfl
theorem rM_3_18 : rM 3 18 = some (0, 2, m_Arrays_fill) := rfl
theorem rM_1_20 : rM 1 20 = some (2, 0, m_Task_init) := rfl
theorem rM_5_11 : rM 5 11 = some (2, 0, m_ArrayList_init) := rfl
theorem rM_6_1 : rM 6 1 = some (2, 0, m_AbstractList_init) := rfl
theorem rM_7_1 : rM 7 1 = some (2, 0, m_AbstractCollection_init) := rfl
theorem rM_9_11 : rM 9 11 = some (2, 1, m_Fractions_init) := rfl
theorem rM_5_27 : rM 5 27 = some (2, 1, m_Fractions_init) := rfl
theorem rM_5_43 : rM 5 43 = some (4, 3, m_Fractions_put) := rfl
theorem rM_5_47 : rM 5 47 = some (0, 2, m_Arrays_fill2) := rfl
theorem rM_10_17 : rM 10 17 = some (2, 1, m_Fractions_init) := rfl
theorem rM_12_11 : rM 12 11 = some (2, 1, m_Fractions_init) := rfl
theorem rM_1_48 : rM 1 48 = some (2, 0, m_Arranger_init) := rfl
theorem rM_13_36 : rM 13 36 = some (2, 1, m_Fractions_init) := rfl
theorem rM_0_151 : rM 0 151 = some (4, 0, m_PJ_clear) := rfl
theorem rM_1_172 : rM 1 172 = some (4, 0, m_Plan_empty) := rfl
theorem rM_0_155 : rM 0 155 = some (4, 0, m_PJ_judge) := rfl
theorem rM_1_175 : rM 1 175 = some (4, 2, m_Judge_findFault) := rfl
theorem rM_12_37 : rM 12 37 = some (4, 1, m_Judge_sortPoints) := rfl
theorem rM_12_77 : rM 12 77 = some (4, 3, m_Fractions_copy) := rfl
theorem rM_12_88 : rM 12 88 = some (4, 4, m_Fractions_alter) := rfl
theorem rM_3_30 : rM 3 30 = some (4, 3, m_Fractions_copy) := rfl
theorem rM_3_34 : rM 3 34 = some (4, 3, m_Fractions_put) := rfl
theorem rM_12_59 : rM 12 59 = some (4, 3, m_Fractions_orderTo) := rfl
theorem rM_3_46 : rM 3 46 = some (0, 2, m_Math_floorDiv) := rfl
theorem rM_12_46 : rM 12 46 = some (4, 1, m_State_copyFrom) := rfl
theorem rM_9_24 : rM 9 24 = some (4, 1, m_Fractions_copyAll) := rfl
theorem rM_12_63 : rM 12 63 = some (4, 4, m_Judge_faultAmong) := rfl
theorem rM_12_92 : rM 12 92 = some (4, 4, m_Judge_findInterference) := rfl
theorem rM_12_108 : rM 12 108 = some (4, 4, m_Judge_areTooNear) := rfl
theorem rM_12_112 : rM 12 112 = some (0, 3, m_Judge_actionAt) := rfl
theorem rM_12_151 : rM 12 151 = some (4, 1, m_ArrayList_get) := rfl
theorem rM_6_118 : rM 6 118 = some (0, 2, m_Objects_checkIndex) := rfl
theorem rM_15_105 : rM 15 105 = some (0, 3, m_Preconditions_checkIndex) := rfl
theorem rM_6_123 : rM 6 123 = some (4, 1, m_ArrayList_elementData) := rfl
theorem rM_1_193 : rM 1 193 = some (0, 1, m_PJ_isEnd) := rfl
theorem rM_12_120 : rM 12 120 = some (4, 3, m_Action_interferes) := rfl
theorem rM_12_95 : rM 12 95 = some (4, 4, m_Judge_findUnmetNeed) := rfl
theorem rM_12_129 : rM 12 129 = some (4, 2, m_Action_isMet) := rfl
theorem rM_17_83 : rM 17 83 = some (4, 2, m_State_hasFacts) := rfl
theorem rM_17_107 : rM 17 107 = some (4, 4, m_Fractions_isSo) := rfl
theorem rM_3_42 : rM 3 42 = some (4, 3, m_Fractions_orderTo) := rfl
theorem rM_12_98 : rM 12 98 = some (4, 4, m_Judge_findWrongDuration) := rfl
theorem rM_12_133 : rM 12 133 = some (4, 3, m_Judge_isDurationRight) := rfl
theorem rM_12_137 : rM 12 137 = some (4, 4, m_Action_writeBound) := rfl
theorem rM_17_76 : rM 17 76 = some (4, 3, m_Fractions_copy) := rfl
theorem rM_17_129 : rM 17 129 = some (4, 3, m_Fractions_put) := rfl
theorem rM_12_101 : rM 12 101 = some (4, 4, m_Judge_doChanges) := rfl
theorem rM_12_141 : rM 12 141 = some (4, 2, m_Action_changeState) := rfl
theorem rM_17_114 : rM 17 114 = some (4, 4, m_Fractions_alter) := rfl
theorem rM_17_118 : rM 17 118 = some (4, 1, m_Fractions_isTooLong) := rfl
theorem rM_12_104 : rM 12 104 = some (4, 2, m_Judge_findUnmetAllOver) := rfl
theorem rM_12_70 : rM 12 70 = some (4, 1, m_Task_isGoalMet) := rfl
theorem rM_5_64 : rM 5 64 = some (4, 2, m_State_hasFacts) := rfl
theorem rM_5_71 : rM 5 71 = some (4, 4, m_Fractions_isSo) := rfl
theorem rM_1_185 : rM 1 185 = some (4, 3, m_Verdict_write) := rfl
theorem rM_11_29 : rM 11 29 = some (4, 1, m_State_copyFrom) := rfl
theorem rM_0_162 : rM 0 162 = some (4, 0, m_PJ_pop) := rfl
theorem rM_1_205 : rM 1 205 = some (4, 0, m_Plan_dropLastPoint) := rfl
theorem rM_0_178 : rM 0 178 = some (4, 1, m_PJ_at) := rfl
theorem rM_0_95 : rM 0 95 = some (0, 3, m_Law_amount) := rfl
theorem rM_0_7 : rM 0 7 = some (4, 2, m_PJ_amount) := rfl
theorem rM_1_53 : rM 1 53 = some (4, 3, m_PJ_takeInHand) := rfl
theorem rM_1_92 : rM 1 92 = some (0, 3, m_PJ_checkChoice) := rfl
theorem rM_1_257 : rM 1 257 = some (4, 3, m_Fractions_put) := rfl
theorem rM_0_104 : rM 0 104 = some (0, 3, m_Law_moment) := rfl
theorem rM_0_15 : rM 0 15 = some (4, 2, m_PJ_moment) := rfl
theorem rM_0_107 : rM 0 107 = some (0, 1, m_Law_epsilon) := rfl
theorem rM_0_18 : rM 0 18 = some (4, 0, m_PJ_epsilon) := rfl
theorem rM_1_67 : rM 1 67 = some (4, 3, m_Fractions_copy) := rfl
theorem rM_0_111 : rM 0 111 = some (0, 3, m_Law_fact) := rfl
theorem rM_0_21 : rM 0 21 = some (4, 2, m_PJ_fact) := rfl
theorem rM_1_71 : rM 1 71 = some (0, 2, m_PJ_checkIndex) := rfl
theorem rM_1_85 : rM 1 85 = some (0, 1, m_PJ_factBit) := rfl
theorem rM_0_115 : rM 0 115 = some (0, 2, m_Law_number) := rfl
theorem rM_0_27 : rM 0 27 = some (4, 1, m_PJ_number) := rfl
theorem rM_0_119 : rM 0 119 = some (0, 3, m_Law_wish) := rfl
theorem rM_0_31 : rM 0 31 = some (4, 2, m_PJ_wish) := rfl
theorem rM_1_95 : rM 1 95 = some (4, 2, m_Task_wishFact) := rfl
theorem rM_0_122 : rM 0 122 = some (0, 3, m_Law_want) := rfl
theorem rM_0_34 : rM 0 34 = some (4, 2, m_PJ_want) := rfl
theorem rM_0_125 : rM 0 125 = some (0, 2, m_Law_action) := rfl
theorem rM_0_37 : rM 0 37 = some (4, 0, m_PJ_action) := rfl
theorem rM_1_109 : rM 1 109 = some (4, 0, m_ArrayList_size) := rfl
theorem rM_1_115 : rM 1 115 = some (0, 2, m_PJ_checkRoom) := rfl
theorem rM_1_120 : rM 1 120 = some (2, 0, m_Action_init) := rfl
theorem rM_17_20 : rM 17 20 = some (2, 1, m_Terms_init) := rfl
theorem rM_24_23 : rM 24 23 = some (2, 1, m_Fractions_init) := rfl
theorem rM_17_47 : rM 17 47 = some (2, 1, m_Fractions_init) := rfl
theorem rM_17_52 : rM 17 52 = some (0, 2, m_Arrays_fill2) := rfl
theorem rM_1_121 : rM 1 121 = some (4, 1, m_ArrayList_add) := rfl
theorem rM_6_131 : rM 6 131 = some (4, 3, m_ArrayList_add2) := rfl
theorem rM_6_129 : rM 6 129 = some (4, 0, m_ArrayList_grow) := rfl
theorem rM_6_69 : rM 6 69 = some (4, 1, m_ArrayList_grow2) := rfl
theorem rM_6_73 : rM 6 73 = some (0, 3, m_ArraysSupport_newLength) := rfl
theorem rM_25_194 : rM 25 194 = some (0, 2, m_Math_max) := rfl
theorem rM_25_201 : rM 25 201 = some (0, 2, m_ArraysSupport_hugeLength) := rfl
theorem rM_6_66 : rM 6 66 = some (0, 2, m_Arrays_copyOf) := rfl
theorem rM_4_300 : rM 4 300 = some (0, 3, m_Arrays_copyOf2) := rfl
theorem rM_4_304 : rM 4 304 = some (0, 2, m_Math_min) := rfl
theorem rM_6_79 : rM 6 79 = some (0, 2, m_Math_max) := rfl
theorem rM_0_129 : rM 0 129 = some (0, 5, m_Law_need) := rfl
theorem rM_0_43 : rM 0 43 = some (4, 4, m_PJ_need) := rfl
theorem rM_1_125 : rM 1 125 = some (4, 1, m_ArrayList_get) := rfl
theorem rM_1_132 : rM 1 132 = some (4, 3, m_Action_needFact) := rfl
theorem rM_0_133 : rM 0 133 = some (0, 5, m_Law_compare) := rfl
theorem rM_0_47 : rM 0 47 = some (4, 4, m_PJ_compare) := rfl
theorem rM_1_136 : rM 1 136 = some (4, 4, m_Action_needNumber) := rfl
theorem rM_17_66 : rM 17 66 = some (4, 4, m_Terms_tell) := rfl
theorem rM_24_34 : rM 24 34 = some (4, 3, m_Fractions_copy) := rfl
theorem rM_0_137 : rM 0 137 = some (0, 5, m_Law_make) := rfl
theorem rM_0_51 : rM 0 51 = some (4, 4, m_PJ_make) := rfl
theorem rM_1_140 : rM 1 140 = some (0, 1, m_PJ_checkTimeOfChange) := rfl
theorem rM_1_143 : rM 1 143 = some (0, 3, m_PJ_checkNewChange) := rfl
theorem rM_1_147 : rM 1 147 = some (4, 3, m_Action_changeFact) := rfl
theorem rM_0_140 : rM 0 140 = some (0, 5, m_Law_change) := rfl
theorem rM_0_54 : rM 0 54 = some (4, 4, m_PJ_change) := rfl
theorem rM_1_150 : rM 1 150 = some (0, 1, m_PJ_numberBit) := rfl
theorem rM_1_153 : rM 1 153 = some (4, 4, m_Action_changeNumber) := rfl
theorem rM_0_143 : rM 0 143 = some (0, 4, m_Law_last) := rfl
theorem rM_0_57 : rM 0 57 = some (4, 3, m_PJ_last) := rfl
theorem rM_1_156 : rM 1 156 = some (4, 3, m_Action_boundDuration) := rfl
theorem rM_0_147 : rM 0 147 = some (0, 3, m_Law_step) := rfl
theorem rM_0_61 : rM 0 61 = some (4, 1, m_PJ_step) := rfl
theorem rM_1_169 : rM 1 169 = some (4, 1, m_Plan_addStep) := rfl
theorem rM_0_159 : rM 0 159 = some (0, 2, m_Law_push) := rfl
theorem rM_0_65 : rM 0 65 = some (4, 1, m_PJ_push) := rfl
theorem rM_1_189 : rM 1 189 = some (4, 1, m_Plan_isInRow) := rfl
theorem rM_1_199 : rM 1 199 = some (4, 1, m_Plan_addToRow) := rfl
theorem rM_0_166 : rM 0 166 = some (0, 2, m_Law_arrange) := rfl
theorem rM_0_68 : rM 0 68 = some (4, 0, m_PJ_arrange) := rfl
theorem rM_1_208 : rM 1 208 = some (4, 2, m_Arranger_findFault) := rfl
theorem rM_13_80 : rM 13 80 = some (4, 1, m_Arranger_beginAt) := rfl
theorem rM_13_60 : rM 13 60 = some (4, 1, m_State_copyFrom) := rfl
theorem rM_13_88 : rM 13 88 = some (4, 3, m_Arranger_addPoint) := rfl
theorem rM_13_104 : rM 13 104 = some (4, 1, m_ArrayList_get) := rfl
theorem rM_13_115 : rM 13 115 = some (4, 2, m_Action_isMet) := rfl
theorem rM_13_119 : rM 13 119 = some (4, 2, m_Action_changeState) := rfl
theorem rM_13_122 : rM 13 122 = some (4, 3, m_Arranger_findUnmetAllOver) := rfl
theorem rM_13_126 : rM 13 126 = some (4, 3, m_Arranger_writeBounds) := rfl
theorem rM_13_172 : rM 13 172 = some (4, 4, m_Action_writeBound) := rfl
theorem rM_13_179 : rM 13 179 = some (4, 3, m_Fractions_orderTo) := rfl
theorem rM_13_183 : rM 13 183 = some (4, 3, m_Fractions_copy) := rfl
theorem rM_13_130 : rM 13 130 = some (4, 3, m_Arranger_findLatestInterfering) := rfl
theorem rM_13_187 : rM 13 187 = some (4, 3, m_Action_interferes) := rfl
theorem rM_13_92 : rM 13 92 = some (4, 1, m_Arranger_findLateFault) := rfl
theorem rM_13_138 : rM 13 138 = some (4, 1, m_Task_isGoalMet) := rfl
theorem rM_13_142 : rM 13 142 = some (4, 1, m_Arranger_findUnit) := rfl
theorem rM_13_191 : rM 13 191 = some (4, 2, m_Arranger_refineUnit) := rfl
theorem rM_13_165 : rM 13 165 = some (4, 3, m_Fractions_put) := rfl
theorem rM_13_205 : rM 13 205 = some (4, 2, m_Fractions_isAbove) := rfl
theorem rM_13_146 : rM 13 146 = some (4, 1, m_Arranger_findTimes) := rfl
theorem rM_13_209 : rM 13 209 = some (4, 2, m_Arranger_inUnits) := rfl
theorem rM_13_213 : rM 13 213 = some (0, 2, m_Arrays_fill) := rfl
theorem rM_13_219 : rM 13 219 = some (4, 1, m_Arranger_delayPoints) := rfl
theorem rM_13_227 : rM 13 227 = some (0, 2, m_Math_max2) := rfl
theorem rM_13_223 : rM 13 223 = some (4, 0, m_Arranger_delayStarts) := rfl
theorem rM_1_209 : rM 1 209 = some (4, 1, m_Arranger_tellTimes) := rfl
theorem rM_1_214 : rM 1 214 = some (4, 1, m_Arranger_reached) := rfl
theorem rM_0_169 : rM 0 169 = some (0, 3, m_Law_seek) := rfl
theorem rM_0_71 : rM 0 71 = some (4, 1, m_PJ_seek) := rfl
theorem rM_1_218 : rM 1 218 = some (4, 1, m_Arranger_beginAt) := rfl
theorem rM_1_222 : rM 1 222 = some (0, 3, m_PJ_completes) := rfl
theorem rM_1_268 : rM 1 268 = some (4, 1, m_Arranger_findLateFault) := rfl
theorem rM_1_275 : rM 1 275 = some (4, 0, m_Arranger_openSteps) := rfl
theorem rM_1_278 : rM 1 278 = some (4, 1, m_Arranger_isOpen) := rfl
theorem rM_1_282 : rM 1 282 = some (4, 3, m_Arranger_addPoint) := rfl
theorem rM_1_286 : rM 1 286 = some (4, 0, m_Arranger_takePointBack) := rfl
theorem rM_1_226 : rM 1 226 = some (4, 1, m_Arranger_tellRow) := rfl
theorem rM_13_149 : rM 13 149 = some (4, 0, m_Plan_empty) := rfl
theorem rM_13_152 : rM 13 152 = some (4, 1, m_Plan_addStep) := rfl
theorem rM_13_155 : rM 13 155 = some (4, 1, m_Plan_addToRow) := rfl
theorem rM_0_172 : rM 0 172 = some (0, 3, m_Law_count) := rfl
theorem rM_0_74 : rM 0 74 = some (4, 1, m_PJ_count) := rfl
theorem rM_0_175 : rM 0 175 = some (0, 3, m_Law_done) := rfl
theorem rM_0_77 : rM 0 77 = some (4, 1, m_PJ_done) := rfl
theorem rM_0_182 : rM 0 182 = some (0, 4, m_Law_above) := rfl
theorem rM_0_80 : rM 0 80 = some (4, 2, m_PJ_above) := rfl
theorem rM_1_244 : rM 1 244 = some (4, 2, m_PJ_rowAskedFor) := rfl
theorem rM_1_251 : rM 1 251 = some (4, 0, m_PJ_latestState) := rfl
theorem rM_0_186 : rM 0 186 = some (0, 4, m_Law_below) := rfl
theorem rM_0_84 : rM 0 84 = some (4, 2, m_PJ_below) := rfl
theorem rM_0_189 : rM 0 189 = some (0, 3, m_Law_holds) := rfl
theorem rM_0_87 : rM 0 87 = some (4, 1, m_PJ_holds) := rfl
theorem rM_0_94 : rM 0 94 = some (2, 0, m_Mo_init) := rfl
theorem rM_0_101 : rM 0 101 = some (4, 0, m_Mo_thrown) := rfl
theorem rM_0_100 : rM 0 100 = some (4, 2, m_Mo_amount) := rfl
theorem rM_26_204 : rM 26 204 = some (0, 2, m_Mo_isFraction) := rfl
theorem rM_26_200 : rM 26 200 = some (0, 3, m_Mo_in) := rfl
theorem rM_26_208 : rM 26 208 = some (4, 2, m_Mo_out) := rfl
theorem rM_26_185 : rM 26 185 = some (0, 2, m_Mo_common) := rfl
theorem rM_26_181 : rM 26 181 = some (0, 1, m_Mo_size) := rfl
theorem rM_0_106 : rM 0 106 = some (4, 2, m_Mo_moment) := rfl
theorem rM_0_110 : rM 0 110 = some (4, 0, m_Mo_epsilon) := rfl
theorem rM_0_114 : rM 0 114 = some (4, 2, m_Mo_fact) := rfl
theorem rM_26_221 : rM 26 221 = some (0, 1, m_Mo_isFact) := rfl
theorem rM_0_118 : rM 0 118 = some (4, 1, m_Mo_number) := rfl
theorem rM_26_225 : rM 26 225 = some (0, 1, m_Mo_isNumber) := rfl
theorem rM_0_121 : rM 0 121 = some (4, 2, m_Mo_wish) := rfl
theorem rM_0_124 : rM 0 124 = some (4, 2, m_Mo_want) := rfl
theorem rM_0_128 : rM 0 128 = some (4, 0, m_Mo_action) := rfl
theorem rM_0_132 : rM 0 132 = some (4, 4, m_Mo_need) := rfl
theorem rM_26_228 : rM 26 228 = some (4, 1, m_Mo_isAction) := rfl
theorem rM_26_231 : rM 26 231 = some (4, 4, m_Mo_addNeed) := rfl
theorem rM_0_136 : rM 0 136 = some (4, 4, m_Mo_compare) := rfl
theorem rM_0_139 : rM 0 139 = some (4, 4, m_Mo_make) := rfl
theorem rM_26_235 : rM 26 235 = some (4, 4, m_Mo_changing) := rfl
theorem rM_26_239 : rM 26 239 = some (4, 4, m_Mo_addChange) := rfl
theorem rM_0_142 : rM 0 142 = some (4, 4, m_Mo_change) := rfl
theorem rM_0_146 : rM 0 146 = some (4, 3, m_Mo_last) := rfl
theorem rM_0_150 : rM 0 150 = some (4, 1, m_Mo_step) := rfl
theorem rM_0_154 : rM 0 154 = some (4, 0, m_Mo_clear) := rfl
theorem rM_0_158 : rM 0 158 = some (4, 0, m_Mo_judge) := rfl
theorem rM_26_327 : rM 26 327 = some (4, 0, m_Mo_takePlan) := rfl
theorem rM_26_330 : rM 26 330 = some (4, 0, m_Mo_takeTimes) := rfl
theorem rM_26_333 : rM 26 333 = some (4, 0, m_Mo_beginState) := rfl
theorem rM_26_336 : rM 26 336 = some (4, 0, m_Mo_mark) := rfl
theorem rM_26_286 : rM 26 286 = some (4, 2, m_Mo_orderOf) := rfl
theorem rM_26_264 : rM 26 264 = some (0, 4, m_Mo_order) := rfl
theorem rM_26_195 : rM 26 195 = some (0, 2, m_Mo_floor) := rfl
theorem rM_26_340 : rM 26 340 = some (4, 0, m_Mo_passed) := rfl
theorem rM_26_308 : rM 26 308 = some (4, 2, m_Mo_isWrong) := rfl
theorem rM_26_296 : rM 26 296 = some (4, 1, m_Mo_isDisturbed) := rfl
theorem rM_26_290 : rM 26 290 = some (4, 2, m_Mo_interfere) := rfl
theorem rM_26_260 : rM 26 260 = some (4, 4, m_Mo_clash) := rfl
theorem rM_26_252 : rM 26 252 = some (4, 3, m_Mo_howChanged) := rfl
theorem rM_26_248 : rM 26 248 = some (0, 1, m_Mo_timeOf) := rfl
theorem rM_26_256 : rM 26 256 = some (4, 3, m_Mo_looksAt) := rfl
theorem rM_26_299 : rM 26 299 = some (4, 2, m_Mo_isFit) := rfl
theorem rM_26_271 : rM 26 271 = some (4, 1, m_Mo_isSo) := rfl
theorem rM_26_268 : rM 26 268 = some (0, 2, m_Mo_compares) := rfl
theorem rM_26_302 : rM 26 302 = some (4, 1, m_Mo_lastsRight) := rfl
theorem rM_26_293 : rM 26 293 = some (4, 2, m_Mo_duration) := rfl
theorem rM_26_311 : rM 26 311 = some (4, 0, m_Mo_keepState) := rfl
theorem rM_26_314 : rM 26 314 = some (4, 1, m_Mo_allChanged) := rfl
theorem rM_26_274 : rM 26 274 = some (4, 1, m_Mo_changed) := rfl
theorem rM_26_317 : rM 26 317 = some (4, 0, m_Mo_oldState) := rfl
theorem rM_26_344 : rM 26 344 = some (4, 0, m_Mo_isGoal) := rfl
theorem rM_26_347 : rM 26 347 = some (4, 1, m_Mo_tell) := rfl
theorem rM_0_161 : rM 0 161 = some (4, 1, m_Mo_push) := rfl
theorem rM_26_350 : rM 26 350 = some (4, 1, m_Mo_isInRow) := rfl
theorem rM_0_165 : rM 0 165 = some (4, 0, m_Mo_pop) := rfl
theorem rM_0_168 : rM 0 168 = some (4, 0, m_Mo_arrange) := rfl
theorem rM_26_385 : rM 26 385 = some (4, 0, m_Mo_arranged) := rfl
theorem rM_26_376 : rM 26 376 = some (4, 0, m_Mo_walk) := rfl
theorem rM_26_353 : rM 26 353 = some (4, 1, m_Mo_bound) := rfl
theorem rM_26_379 : rM 26 379 = some (4, 0, m_Mo_hasUnit) := rfl
theorem rM_26_363 : rM 26 363 = some (4, 2, m_Mo_joins) := rfl
theorem rM_26_382 : rM 26 382 = some (4, 0, m_Mo_liftAll) := rfl
theorem rM_26_367 : rM 26 367 = some (4, 2, m_Mo_units) := rfl
theorem rM_26_370 : rM 26 370 = some (4, 2, m_Mo_lift) := rfl
theorem rM_26_388 : rM 26 388 = some (4, 0, m_Mo_takeTried) := rfl
theorem rM_0_171 : rM 0 171 = some (4, 1, m_Mo_seek) := rfl
theorem rM_26_394 : rM 26 394 = some (4, 1, m_Mo_finds) := rfl
theorem rM_26_391 : rM 26 391 = some (4, 1, m_Mo_takeEvents) := rfl
theorem rM_0_174 : rM 0 174 = some (4, 1, m_Mo_count) := rfl
theorem rM_0_177 : rM 0 177 = some (4, 1, m_Mo_done) := rfl
theorem rM_0_181 : rM 0 181 = some (4, 1, m_Mo_at) := rfl
theorem rM_0_185 : rM 0 185 = some (4, 2, m_Mo_above) := rfl
theorem rM_26_397 : rM 26 397 = some (4, 3, m_Mo_told) := rfl
theorem rM_0_188 : rM 0 188 = some (4, 2, m_Mo_below) := rfl
theorem rM_0_191 : rM 0 191 = some (4, 1, m_Mo_holds) := rfl
theorem rM_5_20 : rM 5 20 = some (3, 0, m_State_init) := rfl
theorem rM_1_27 : rM 1 27 = some (3, 0, m_Plan_init) := rfl
theorem rM_1_34 : rM 1 34 = some (3, 0, m_Verdict_init) := rfl
theorem rM_11_17 : rM 11 17 = some (3, 0, m_State_init) := rfl
theorem rM_1_41 : rM 1 41 = some (3, 0, m_Judge_init) := rfl
theorem rM_12_29 : rM 12 29 = some (3, 0, m_State_init) := rfl
theorem rM_13_59 : rM 13 59 = some (3, 0, m_State_init) := rfl
theorem rM_12_81 : rM 12 81 = some (1, 1, m_PJ_isEnd) := rfl
theorem rM_12_116 : rM 12 116 = some (1, 1, m_PJ_timeOf) := rfl
theorem rM_5_57 : rM 5 57 = some (1, 1, m_PJ_factBit) := rfl
theorem rM_17_58 : rM 17 58 = some (1, 1, m_PJ_factBit) := rfl
theorem rM_17_70 : rM 17 70 = some (1, 1, m_PJ_numberBit) := rfl
theorem rM_13_96 : rM 13 96 = some (1, 1, m_PJ_timeOf) := rfl
theorem rM_13_134 : rM 13 134 = some (1, 1, m_PJ_isEnd) := rfl
section RCALL
variable {φ : Bool} {d : Nat} {M : MI} {n0 pc : Nat} {L : AL} {st : List Value} {mem : AM} {o : Option Value ⊕ Nat} {mem' : AM}
theorem one_S {i kd n : Nat} {M' : MI} {as rest : List Value} (hy : rY (mH M) i = none) (hr : rM (mH M) i = some (kd, n, M')) (hk : kd = 0 ∨ kd = 1) (hn : n ≤ st.length) (ha : (st.take n).reverse = as) (hb : st.drop n = rest) : one M (.invokestatic i) pc L st mem = some (.inr (.inr (.inl (M', as, rest)))) := by
  dsimp only [one]
  rw [hy, hr]
  dsimp only
  rw [if_pos ⟨hk, hn⟩, ha, hb]
theorem one_I {i kd n a : Nat} {M' : MI} {as rest : List Value} (hx : rX (mH M) i = none) (hr : rM (mH M) i = some (kd, n, M')) (hk : kd = 2 ∨ kd = 3) (hn : n ≤ st.length) (ha : (st.take n).reverse = as) (hb : st.drop n = .ref a :: rest) : one M (.invokespecial i) pc L st mem = some (.inr (.inr (.inl (M', .ref a :: as, rest)))) := by
  dsimp only [one]
  rw [hx, hr]
  dsimp only
  rw [if_pos ⟨hk, hn⟩, hb]
  dsimp only
  rw [ha]
theorem one_V {i kd n a ci : Nat} {M' : MI} {as rest fs : List Value} (hr : rM (mH M) i = some (kd, n, M')) (hk : kd = 4 ∨ kd = 5) (hn : n ≤ st.length) (ha : (st.take n).reverse = as) (hb : st.drop n = .ref a :: rest) (hm : mem[a]? = some (.inr (ci, fs))) (hc : clH[ci]? = some (mH M')) : one M (.invokevirtual i) pc L st mem = some (.inr (.inr (.inl (M', .ref a :: as, rest)))) := by
  dsimp only [one]
  rw [hr]
  dsimp only
  rw [if_pos ⟨hk, hn⟩, hb]
  dsimp only
  rw [hm]
  dsimp only
  rw [if_pos hc, ha]
end RCALL
