set_option maxRecDepth 100000 in
theorem lf_0_9 : zlk zLFs 0 9 = some (0, 0) := rfl
set_option maxRecDepth 100000 in
theorem lf_0_13 : zlk zLFs 0 13 = some (0, 1) := rfl
set_option maxRecDepth 100000 in
theorem lf_0_16 : zlk zLFs 0 16 = some (0, 2) := rfl
set_option maxRecDepth 100000 in
theorem lf_0_23 : zlk zLFs 0 23 = some (0, 4) := rfl
set_option maxRecDepth 100000 in
theorem lf_0_26 : zlk zLFs 0 26 = some (0, 5) := rfl
set_option maxRecDepth 100000 in
theorem lf_0_36 : zlk zLFs 0 36 = some (0, 3) := rfl
set_option maxRecDepth 100000 in
theorem lf_1_9 : zlk zLFs 1 9 = some (1, 0) := rfl
set_option maxRecDepth 100000 in
theorem lf_1_13 : zlk zLFs 1 13 = some (1, 1) := rfl
set_option maxRecDepth 100000 in
theorem lf_1_23 : zlk zLFs 1 23 = some (1, 2) := rfl
set_option maxRecDepth 100000 in
theorem lf_2_11 : zlk zLFs 2 11 = some (2, 0) := rfl
set_option maxRecDepth 100000 in
theorem lf_2_17 : zlk zLFs 2 17 = some (2, 1) := rfl
set_option maxRecDepth 100000 in
theorem lf_2_20 : zlk zLFs 2 20 = some (2, 2) := rfl
set_option maxRecDepth 100000 in
theorem lf_2_23 : zlk zLFs 2 23 = some (2, 3) := rfl
set_option maxRecDepth 100000 in
theorem lf_2_27 : zlk zLFs 2 27 = some (2, 4) := rfl
set_option maxRecDepth 100000 in
theorem lf_2_41 : zlk zLFs 2 41 = some (2, 10) := rfl
set_option maxRecDepth 100000 in
theorem lf_2_45 : zlk zLFs 2 45 = some (2, 9) := rfl
set_option maxRecDepth 100000 in
theorem lf_2_48 : zlk zLFs 2 48 = some (2, 8) := rfl
set_option maxRecDepth 100000 in
theorem lf_2_51 : zlk zLFs 2 51 = some (2, 7) := rfl
set_option maxRecDepth 100000 in
theorem lf_2_66 : zlk zLFs 2 66 = some (2, 5) := rfl
set_option maxRecDepth 100000 in
theorem lf_2_76 : zlk zLFs 2 76 = some (8, 0) := rfl
set_option maxRecDepth 100000 in
theorem lf_2_88 : zlk zLFs 2 88 = some (8, 6) := rfl
set_option maxRecDepth 100000 in
theorem lf_2_89 : zlk zLFs 2 89 = some (8, 1) := rfl
set_option maxRecDepth 100000 in
theorem lf_2_92 : zlk zLFs 2 92 = some (5, 3) := rfl
set_option maxRecDepth 100000 in
theorem lf_3_11 : zlk zLFs 3 11 = some (3, 0) := rfl
set_option maxRecDepth 100000 in
theorem lf_3_15 : zlk zLFs 3 15 = some (3, 1) := rfl
set_option maxRecDepth 100000 in
theorem lf_3_18 : zlk zLFs 3 18 = some (3, 2) := rfl
set_option maxRecDepth 100000 in
theorem lf_3_21 : zlk zLFs 3 21 = some (3, 4) := rfl
set_option maxRecDepth 100000 in
theorem lf_3_25 : zlk zLFs 3 25 = some (3, 3) := rfl
set_option maxRecDepth 100000 in
theorem lf_3_57 : zlk zLFs 3 57 = some (2, 7) := rfl
set_option maxRecDepth 100000 in
theorem lf_4_11 : zlk zLFs 4 11 = some (4, 0) := rfl
set_option maxRecDepth 100000 in
theorem lf_4_15 : zlk zLFs 4 15 = some (4, 3) := rfl
set_option maxRecDepth 100000 in
theorem lf_4_19 : zlk zLFs 4 19 = some (5, 3) := rfl
set_option maxRecDepth 100000 in
theorem lf_4_25 : zlk zLFs 4 25 = some (4, 2) := rfl
set_option maxRecDepth 100000 in
theorem lf_4_36 : zlk zLFs 4 36 = some (4, 1) := rfl
set_option maxRecDepth 100000 in
theorem lf_5_11 : zlk zLFs 5 11 = some (5, 0) := rfl
set_option maxRecDepth 100000 in
theorem lf_5_15 : zlk zLFs 5 15 = some (5, 1) := rfl
set_option maxRecDepth 100000 in
theorem lf_5_18 : zlk zLFs 5 18 = some (5, 2) := rfl
set_option maxRecDepth 100000 in
theorem lf_5_21 : zlk zLFs 5 21 = some (5, 3) := rfl
set_option maxRecDepth 100000 in
theorem lf_6_9 : zlk zLFs 6 9 = some (6, 0) := rfl
set_option maxRecDepth 100000 in
theorem lf_6_13 : zlk zLFs 6 13 = some (6, 1) := rfl
set_option maxRecDepth 100000 in
theorem lf_6_17 : zlk zLFs 6 17 = some (6, 2) := rfl
set_option maxRecDepth 100000 in
theorem lf_6_20 : zlk zLFs 6 20 = some (6, 3) := rfl
set_option maxRecDepth 100000 in
theorem lf_7_9 : zlk zLFs 7 9 = some (7, 0) := rfl
set_option maxRecDepth 100000 in
theorem lf_7_15 : zlk zLFs 7 15 = some (7, 1) := rfl
set_option maxRecDepth 100000 in
theorem lf_7_18 : zlk zLFs 7 18 = some (7, 5) := rfl
set_option maxRecDepth 100000 in
theorem lf_7_22 : zlk zLFs 7 22 = some (7, 2) := rfl
set_option maxRecDepth 100000 in
theorem lf_7_25 : zlk zLFs 7 25 = some (7, 3) := rfl
set_option maxRecDepth 100000 in
theorem lf_7_28 : zlk zLFs 7 28 = some (7, 4) := rfl
set_option maxRecDepth 100000 in
theorem lf_8_11 : zlk zLFs 8 11 = some (8, 0) := rfl
set_option maxRecDepth 100000 in
theorem lf_8_15 : zlk zLFs 8 15 = some (8, 1) := rfl
set_option maxRecDepth 100000 in
theorem lf_8_20 : zlk zLFs 8 20 = some (8, 2) := rfl
set_option maxRecDepth 100000 in
theorem lf_8_23 : zlk zLFs 8 23 = some (8, 3) := rfl
set_option maxRecDepth 100000 in
theorem lf_8_26 : zlk zLFs 8 26 = some (8, 4) := rfl
set_option maxRecDepth 100000 in
theorem lf_8_29 : zlk zLFs 8 29 = some (8, 5) := rfl
set_option maxRecDepth 100000 in
theorem lf_8_32 : zlk zLFs 8 32 = some (8, 6) := rfl
set_option maxRecDepth 100000 in
theorem lf_9_10 : zlk zLFs 9 10 = some (9, 0) := rfl
set_option maxRecDepth 100000 in
theorem lf_9_16 : zlk zLFs 9 16 = some (9, 1) := rfl
set_option maxRecDepth 100000 in
theorem lf_9_22 : zlk zLFs 9 22 = some (9, 2) := rfl
set_option maxRecDepth 100000 in
theorem lf_9_29 : zlk zLFs 9 29 = some (9, 3) := rfl
set_option maxRecDepth 100000 in
theorem lf_9_36 : zlk zLFs 9 36 = some (9, 4) := rfl
set_option maxRecDepth 100000 in
theorem lf_9_43 : zlk zLFs 9 43 = some (9, 5) := rfl
set_option maxRecDepth 100000 in
theorem lf_9_47 : zlk zLFs 9 47 = some (9, 6) := rfl
set_option maxRecDepth 100000 in
theorem lf_9_50 : zlk zLFs 9 50 = some (9, 7) := rfl
set_option maxRecDepth 100000 in
theorem lf_9_56 : zlk zLFs 9 56 = some (9, 8) := rfl
set_option maxRecDepth 100000 in
theorem lf_9_63 : zlk zLFs 9 63 = some (9, 9) := rfl
set_option maxRecDepth 100000 in
theorem lf_9_69 : zlk zLFs 9 69 = some (9, 10) := rfl
set_option maxRecDepth 100000 in
theorem lf_9_76 : zlk zLFs 9 76 = some (9, 11) := rfl
set_option maxRecDepth 100000 in
theorem lf_9_80 : zlk zLFs 9 80 = some (9, 12) := rfl
set_option maxRecDepth 100000 in
theorem lf_9_83 : zlk zLFs 9 83 = some (9, 16) := rfl
set_option maxRecDepth 100000 in
theorem lf_9_92 : zlk zLFs 9 92 = some (8, 6) := rfl
set_option maxRecDepth 100000 in
theorem lf_9_95 : zlk zLFs 9 95 = some (7, 0) := rfl
set_option maxRecDepth 100000 in
theorem lf_9_98 : zlk zLFs 9 98 = some (7, 1) := rfl
set_option maxRecDepth 100000 in
theorem lf_9_105 : zlk zLFs 9 105 = some (2, 6) := rfl
set_option maxRecDepth 100000 in
theorem lf_9_109 : zlk zLFs 9 109 = some (8, 0) := rfl
set_option maxRecDepth 100000 in
theorem lf_9_113 : zlk zLFs 9 113 = some (8, 1) := rfl
set_option maxRecDepth 100000 in
theorem lf_9_128 : zlk zLFs 9 128 = some (6, 1) := rfl
set_option maxRecDepth 100000 in
theorem lf_9_135 : zlk zLFs 9 135 = some (6, 0) := rfl
set_option maxRecDepth 100000 in
theorem lf_9_139 : zlk zLFs 9 139 = some (3, 3) := rfl
set_option maxRecDepth 100000 in
theorem lf_9_175 : zlk zLFs 9 175 = some (8, 2) := rfl
set_option maxRecDepth 100000 in
theorem lf_9_179 : zlk zLFs 9 179 = some (8, 3) := rfl
set_option maxRecDepth 100000 in
theorem lf_9_182 : zlk zLFs 9 182 = some (9, 14) := rfl
set_option maxRecDepth 100000 in
theorem lf_9_185 : zlk zLFs 9 185 = some (9, 15) := rfl
set_option maxRecDepth 100000 in
theorem lf_9_191 : zlk zLFs 9 191 = some (3, 0) := rfl
set_option maxRecDepth 100000 in
theorem lf_9_194 : zlk zLFs 9 194 = some (3, 1) := rfl
set_option maxRecDepth 100000 in
theorem lf_9_197 : zlk zLFs 9 197 = some (3, 2) := rfl
set_option maxRecDepth 100000 in
theorem lf_9_200 : zlk zLFs 9 200 = some (3, 4) := rfl
set_option maxRecDepth 100000 in
theorem lf_9_207 : zlk zLFs 9 207 = some (7, 2) := rfl
set_option maxRecDepth 100000 in
theorem lf_9_210 : zlk zLFs 9 210 = some (4, 1) := rfl
set_option maxRecDepth 100000 in
theorem lf_9_211 : zlk zLFs 9 211 = some (4, 0) := rfl
set_option maxRecDepth 100000 in
theorem lf_9_218 : zlk zLFs 9 218 = some (4, 2) := rfl
set_option maxRecDepth 100000 in
theorem lf_9_254 : zlk zLFs 9 254 = some (2, 7) := rfl
set_option maxRecDepth 100000 in
theorem lf_9_257 : zlk zLFs 9 257 = some (2, 8) := rfl
set_option maxRecDepth 100000 in
theorem lf_9_260 : zlk zLFs 9 260 = some (2, 9) := rfl
set_option maxRecDepth 100000 in
theorem lf_9_263 : zlk zLFs 9 263 = some (2, 10) := rfl
set_option maxRecDepth 100000 in
theorem lf_9_284 : zlk zLFs 9 284 = some (7, 3) := rfl
set_option maxRecDepth 100000 in
theorem lf_9_304 : zlk zLFs 9 304 = some (6, 3) := rfl
set_option maxRecDepth 100000 in
theorem lf_9_307 : zlk zLFs 9 307 = some (7, 4) := rfl
set_option maxRecDepth 100000 in
theorem lf_9_310 : zlk zLFs 9 310 = some (7, 5) := rfl
set_option maxRecDepth 100000 in
theorem lf_9_313 : zlk zLFs 9 313 = some (9, 13) := rfl
set_option maxRecDepth 100000 in
theorem lf_9_316 : zlk zLFs 9 316 = some (1, 1) := rfl
set_option maxRecDepth 100000 in
theorem lf_9_328 : zlk zLFs 9 328 = some (1, 2) := rfl
set_option maxRecDepth 100000 in
theorem lf_9_334 : zlk zLFs 9 334 = some (0, 2) := rfl
set_option maxRecDepth 100000 in
theorem lf_9_335 : zlk zLFs 9 335 = some (0, 0) := rfl
set_option maxRecDepth 100000 in
theorem lf_9_338 : zlk zLFs 9 338 = some (0, 3) := rfl
set_option maxRecDepth 100000 in
theorem lf_9_345 : zlk zLFs 9 345 = some (0, 1) := rfl
set_option maxRecDepth 100000 in
theorem lf_9_348 : zlk zLFs 9 348 = some (6, 2) := rfl
set_option maxRecDepth 100000 in
theorem lf_10_9 : zlk zLFs 10 9 = some (10, 0) := rfl
set_option maxRecDepth 100000 in
theorem lf_10_13 : zlk zLFs 10 13 = some (10, 1) := rfl
set_option maxRecDepth 100000 in
theorem lf_10_16 : zlk zLFs 10 16 = some (10, 2) := rfl
set_option maxRecDepth 100000 in
theorem lf_10_19 : zlk zLFs 10 19 = some (10, 3) := rfl
set_option maxRecDepth 100000 in
theorem lf_10_22 : zlk zLFs 10 22 = some (10, 7) := rfl
set_option maxRecDepth 100000 in
theorem lf_10_25 : zlk zLFs 10 25 = some (10, 11) := rfl
set_option maxRecDepth 100000 in
theorem lf_10_28 : zlk zLFs 10 28 = some (10, 12) := rfl
set_option maxRecDepth 100000 in
theorem lf_10_31 : zlk zLFs 10 31 = some (10, 13) := rfl
set_option maxRecDepth 100000 in
theorem lf_10_34 : zlk zLFs 10 34 = some (10, 15) := rfl
set_option maxRecDepth 100000 in
theorem lf_10_37 : zlk zLFs 10 37 = some (10, 22) := rfl
set_option maxRecDepth 100000 in
theorem lf_10_40 : zlk zLFs 10 40 = some (10, 23) := rfl
set_option maxRecDepth 100000 in
theorem lf_10_43 : zlk zLFs 10 43 = some (10, 24) := rfl
set_option maxRecDepth 100000 in
theorem lf_10_46 : zlk zLFs 10 46 = some (10, 25) := rfl
set_option maxRecDepth 100000 in
theorem lf_10_49 : zlk zLFs 10 49 = some (10, 26) := rfl
set_option maxRecDepth 100000 in
theorem lf_10_52 : zlk zLFs 10 52 = some (10, 27) := rfl
set_option maxRecDepth 100000 in
theorem lf_10_55 : zlk zLFs 10 55 = some (10, 28) := rfl
set_option maxRecDepth 100000 in
theorem lf_10_58 : zlk zLFs 10 58 = some (10, 39) := rfl
set_option maxRecDepth 100000 in
theorem lf_10_61 : zlk zLFs 10 61 = some (10, 41) := rfl
set_option maxRecDepth 100000 in
theorem lf_10_64 : zlk zLFs 10 64 = some (10, 42) := rfl
set_option maxRecDepth 100000 in
theorem lf_10_67 : zlk zLFs 10 67 = some (10, 46) := rfl
set_option maxRecDepth 100000 in
theorem lf_10_70 : zlk zLFs 10 70 = some (10, 47) := rfl
set_option maxRecDepth 100000 in
theorem lf_10_73 : zlk zLFs 10 73 = some (10, 48) := rfl
set_option maxRecDepth 100000 in
theorem lf_10_77 : zlk zLFs 10 77 = some (10, 49) := rfl
set_option maxRecDepth 100000 in
theorem lf_10_80 : zlk zLFs 10 80 = some (10, 16) := rfl
set_option maxRecDepth 100000 in
theorem lf_10_84 : zlk zLFs 10 84 = some (10, 8) := rfl
set_option maxRecDepth 100000 in
theorem lf_10_87 : zlk zLFs 10 87 = some (10, 9) := rfl
set_option maxRecDepth 100000 in
theorem lf_10_90 : zlk zLFs 10 90 = some (10, 36) := rfl
set_option maxRecDepth 100000 in
theorem lf_10_93 : zlk zLFs 10 93 = some (10, 5) := rfl
set_option maxRecDepth 100000 in
theorem lf_10_96 : zlk zLFs 10 96 = some (10, 4) := rfl
set_option maxRecDepth 100000 in
theorem lf_10_99 : zlk zLFs 10 99 = some (10, 6) := rfl
set_option maxRecDepth 100000 in
theorem lf_10_114 : zlk zLFs 10 114 = some (10, 10) := rfl
set_option maxRecDepth 100000 in
theorem lf_10_172 : zlk zLFs 10 172 = some (10, 33) := rfl
set_option maxRecDepth 100000 in
theorem lf_10_191 : zlk zLFs 10 191 = some (10, 14) := rfl
set_option maxRecDepth 100000 in
theorem lf_10_194 : zlk zLFs 10 194 = some (10, 18) := rfl
set_option maxRecDepth 100000 in
theorem lf_10_197 : zlk zLFs 10 197 = some (10, 19) := rfl
set_option maxRecDepth 100000 in
theorem lf_10_200 : zlk zLFs 10 200 = some (10, 17) := rfl
set_option maxRecDepth 100000 in
theorem lf_10_203 : zlk zLFs 10 203 = some (10, 20) := rfl
set_option maxRecDepth 100000 in
theorem lf_10_227 : zlk zLFs 10 227 = some (10, 21) := rfl
set_option maxRecDepth 100000 in
theorem lf_10_259 : zlk zLFs 10 259 = some (10, 29) := rfl
set_option maxRecDepth 100000 in
theorem lf_10_262 : zlk zLFs 10 262 = some (10, 30) := rfl
set_option maxRecDepth 100000 in
theorem lf_10_265 : zlk zLFs 10 265 = some (10, 31) := rfl
set_option maxRecDepth 100000 in
theorem lf_10_268 : zlk zLFs 10 268 = some (10, 32) := rfl
set_option maxRecDepth 100000 in
theorem lf_10_295 : zlk zLFs 10 295 = some (10, 37) := rfl
set_option maxRecDepth 100000 in
theorem lf_10_301 : zlk zLFs 10 301 = some (10, 34) := rfl
set_option maxRecDepth 100000 in
theorem lf_10_310 : zlk zLFs 10 310 = some (10, 35) := rfl
set_option maxRecDepth 100000 in
theorem lf_10_322 : zlk zLFs 10 322 = some (10, 38) := rfl
set_option maxRecDepth 100000 in
theorem lf_10_326 : zlk zLFs 10 326 = some (10, 40) := rfl
set_option maxRecDepth 100000 in
theorem lf_10_331 : zlk zLFs 10 331 = some (10, 43) := rfl
set_option maxRecDepth 100000 in
theorem lf_10_340 : zlk zLFs 10 340 = some (10, 45) := rfl
set_option maxRecDepth 100000 in
theorem lf_10_346 : zlk zLFs 10 346 = some (10, 44) := rfl
set_option maxRecDepth 100000 in
theorem lm_0_1 : zlk zLMs 0 1 = some 999 := rfl
set_option maxRecDepth 100000 in
theorem lm_0_29 : zlk zLMs 0 29 = some 4 := rfl
set_option maxRecDepth 100000 in
theorem lm_0_39 : zlk zLMs 0 39 = some 5 := rfl
set_option maxRecDepth 100000 in
theorem lm_1_1 : zlk zLMs 1 1 = some 999 := rfl
set_option maxRecDepth 100000 in
theorem lm_1_17 : zlk zLMs 1 17 = some 903 := rfl
set_option maxRecDepth 100000 in
theorem lm_2_3 : zlk zLMs 2 3 = some 999 := rfl
set_option maxRecDepth 100000 in
theorem lm_2_26 : zlk zLMs 2 26 = some 57 := rfl
set_option maxRecDepth 100000 in
theorem lm_2_31 : zlk zLMs 2 31 = some 16 := rfl
set_option maxRecDepth 100000 in
theorem lm_2_35 : zlk zLMs 2 35 = some 902 := rfl
set_option maxRecDepth 100000 in
theorem lm_2_54 : zlk zLMs 2 54 = some 15 := rfl
set_option maxRecDepth 100000 in
theorem lm_2_58 : zlk zLMs 2 58 = some 69 := rfl
set_option maxRecDepth 100000 in
theorem lm_2_62 : zlk zLMs 2 62 = some 70 := rfl
set_option maxRecDepth 100000 in
theorem lm_2_69 : zlk zLMs 2 69 = some 19 := rfl
set_option maxRecDepth 100000 in
theorem lm_2_72 : zlk zLMs 2 72 = some 17 := rfl
set_option maxRecDepth 100000 in
theorem lm_2_79 : zlk zLMs 2 79 = some 18 := rfl
set_option maxRecDepth 100000 in
theorem lm_2_82 : zlk zLMs 2 82 = some 64 := rfl
set_option maxRecDepth 100000 in
theorem lm_2_85 : zlk zLMs 2 85 = some 63 := rfl
set_option maxRecDepth 100000 in
theorem lm_2_95 : zlk zLMs 2 95 = some 44 := rfl
set_option maxRecDepth 100000 in
theorem lm_2_99 : zlk zLMs 2 99 = some 901 := rfl
set_option maxRecDepth 100000 in
theorem lm_2_102 : zlk zLMs 2 102 = some 900 := rfl
set_option maxRecDepth 100000 in
theorem lm_2_105 : zlk zLMs 2 105 = some 13 := rfl
set_option maxRecDepth 100000 in
theorem lm_3_3 : zlk zLMs 3 3 = some 999 := rfl
set_option maxRecDepth 100000 in
theorem lm_3_28 : zlk zLMs 3 28 = some 901 := rfl
set_option maxRecDepth 100000 in
theorem lm_3_34 : zlk zLMs 3 34 = some 20 := rfl
set_option maxRecDepth 100000 in
theorem lm_3_40 : zlk zLMs 3 40 = some 26 := rfl
set_option maxRecDepth 100000 in
theorem lm_3_43 : zlk zLMs 3 43 = some 900 := rfl
set_option maxRecDepth 100000 in
theorem lm_3_46 : zlk zLMs 3 46 = some 30 := rfl
set_option maxRecDepth 100000 in
theorem lm_3_50 : zlk zLMs 3 50 = some 25 := rfl
set_option maxRecDepth 100000 in
theorem lm_3_54 : zlk zLMs 3 54 = some 31 := rfl
set_option maxRecDepth 100000 in
theorem lm_4_3 : zlk zLMs 4 3 = some 999 := rfl
set_option maxRecDepth 100000 in
theorem lm_4_28 : zlk zLMs 4 28 = some 34 := rfl
set_option maxRecDepth 100000 in
theorem lm_4_32 : zlk zLMs 4 32 = some 38 := rfl
set_option maxRecDepth 100000 in
theorem lm_4_37 : zlk zLMs 4 37 = some 35 := rfl
set_option maxRecDepth 100000 in
theorem lm_4_41 : zlk zLMs 4 41 = some 43 := rfl
set_option maxRecDepth 100000 in
theorem lm_4_45 : zlk zLMs 4 45 = some 36 := rfl
set_option maxRecDepth 100000 in
theorem lm_4_49 : zlk zLMs 4 49 = some 41 := rfl
set_option maxRecDepth 100000 in
theorem lm_4_53 : zlk zLMs 4 53 = some 39 := rfl
set_option maxRecDepth 100000 in
theorem lm_4_56 : zlk zLMs 4 56 = some 37 := rfl
set_option maxRecDepth 100000 in
theorem lm_4_59 : zlk zLMs 4 59 = some 40 := rfl
set_option maxRecDepth 100000 in
theorem lm_5_3 : zlk zLMs 5 3 = some 999 := rfl
set_option maxRecDepth 100000 in
theorem lm_5_25 : zlk zLMs 5 25 = some 45 := rfl
set_option maxRecDepth 100000 in
theorem lm_5_29 : zlk zLMs 5 29 = some 46 := rfl
set_option maxRecDepth 100000 in
theorem lm_6_1 : zlk zLMs 6 1 = some 999 := rfl
set_option maxRecDepth 100000 in
theorem lm_7_3 : zlk zLMs 7 3 = some 999 := rfl
set_option maxRecDepth 100000 in
theorem lm_7_31 : zlk zLMs 7 31 = some 53 := rfl
set_option maxRecDepth 100000 in
theorem lm_7_35 : zlk zLMs 7 35 = some 54 := rfl
set_option maxRecDepth 100000 in
theorem lm_7_39 : zlk zLMs 7 39 = some 901 := rfl
set_option maxRecDepth 100000 in
theorem lm_8_3 : zlk zLMs 8 3 = some 999 := rfl
set_option maxRecDepth 100000 in
theorem lm_8_36 : zlk zLMs 8 36 = some 64 := rfl
set_option maxRecDepth 100000 in
theorem lm_8_39 : zlk zLMs 8 39 = some 903 := rfl
set_option maxRecDepth 100000 in
theorem lm_8_45 : zlk zLMs 8 45 = some 65 := rfl
set_option maxRecDepth 100000 in
theorem lm_8_49 : zlk zLMs 8 49 = some 902 := rfl
set_option maxRecDepth 100000 in
theorem lm_8_55 : zlk zLMs 8 55 = some 900 := rfl
set_option maxRecDepth 100000 in
theorem lm_8_59 : zlk zLMs 8 59 = some 66 := rfl
set_option maxRecDepth 100000 in
theorem lm_8_62 : zlk zLMs 8 62 = some 67 := rfl
set_option maxRecDepth 100000 in
theorem lm_8_65 : zlk zLMs 8 65 = some 68 := rfl
set_option maxRecDepth 100000 in
theorem lm_9_1 : zlk zLMs 9 1 = some 999 := rfl
set_option maxRecDepth 100000 in
theorem lm_9_9 : zlk zLMs 9 9 = some 57 := rfl
set_option maxRecDepth 100000 in
theorem lm_9_21 : zlk zLMs 9 21 = some 21 := rfl
set_option maxRecDepth 100000 in
theorem lm_9_28 : zlk zLMs 9 28 = some 32 := rfl
set_option maxRecDepth 100000 in
theorem lm_9_35 : zlk zLMs 9 35 = some 12 := rfl
set_option maxRecDepth 100000 in
theorem lm_9_42 : zlk zLMs 9 42 = some 52 := rfl
set_option maxRecDepth 100000 in
theorem lm_9_55 : zlk zLMs 9 55 = some 6 := rfl
set_option maxRecDepth 100000 in
theorem lm_9_62 : zlk zLMs 9 62 = some 0 := rfl
set_option maxRecDepth 100000 in
theorem lm_9_75 : zlk zLMs 9 75 = some 42 := rfl
set_option maxRecDepth 100000 in
theorem lm_9_87 : zlk zLMs 9 87 = some 47 := rfl
set_option maxRecDepth 100000 in
theorem lm_9_88 : zlk zLMs 9 88 = some 58 := rfl
set_option maxRecDepth 100000 in
theorem lm_9_101 : zlk zLMs 9 101 = some 60 := rfl
set_option maxRecDepth 100000 in
theorem lm_9_115 : zlk zLMs 9 115 = some 901 := rfl
set_option maxRecDepth 100000 in
theorem lm_9_121 : zlk zLMs 9 121 = some 61 := rfl
set_option maxRecDepth 100000 in
theorem lm_9_124 : zlk zLMs 9 124 = some 120 := rfl
set_option maxRecDepth 100000 in
theorem lm_9_131 : zlk zLMs 9 131 = some 50 := rfl
set_option maxRecDepth 100000 in
theorem lm_9_140 : zlk zLMs 9 140 = some 23 := rfl
set_option maxRecDepth 100000 in
theorem lm_9_144 : zlk zLMs 9 144 = some 84 := rfl
set_option maxRecDepth 100000 in
theorem lm_9_147 : zlk zLMs 9 147 = some 85 := rfl
set_option maxRecDepth 100000 in
theorem lm_9_152 : zlk zLMs 9 152 = some 86 := rfl
set_option maxRecDepth 100000 in
theorem lm_9_155 : zlk zLMs 9 155 = some 87 := rfl
set_option maxRecDepth 100000 in
theorem lm_9_159 : zlk zLMs 9 159 = some 7 := rfl
set_option maxRecDepth 100000 in
theorem lm_9_161 : zlk zLMs 9 161 = some 59 := rfl
set_option maxRecDepth 100000 in
theorem lm_9_164 : zlk zLMs 9 164 = some 79 := rfl
set_option maxRecDepth 100000 in
theorem lm_9_167 : zlk zLMs 9 167 = some 22 := rfl
set_option maxRecDepth 100000 in
theorem lm_9_168 : zlk zLMs 9 168 = some 80 := rfl
set_option maxRecDepth 100000 in
theorem lm_9_171 : zlk zLMs 9 171 = some 81 := rfl
set_option maxRecDepth 100000 in
theorem lm_9_188 : zlk zLMs 9 188 = some 68 := rfl
set_option maxRecDepth 100000 in
theorem lm_9_203 : zlk zLMs 9 203 = some 24 := rfl
set_option maxRecDepth 100000 in
theorem lm_9_214 : zlk zLMs 9 214 = some 33 := rfl
set_option maxRecDepth 100000 in
theorem lm_9_221 : zlk zLMs 9 221 = some 62 := rfl
set_option maxRecDepth 100000 in
theorem lm_9_224 : zlk zLMs 9 224 = some 69 := rfl
set_option maxRecDepth 100000 in
theorem lm_9_227 : zlk zLMs 9 227 = some 70 := rfl
set_option maxRecDepth 100000 in
theorem lm_9_231 : zlk zLMs 9 231 = some 66 := rfl
set_option maxRecDepth 100000 in
theorem lm_9_234 : zlk zLMs 9 234 = some 67 := rfl
set_option maxRecDepth 100000 in
theorem lm_9_237 : zlk zLMs 9 237 = some 63 := rfl
set_option maxRecDepth 100000 in
theorem lm_9_241 : zlk zLMs 9 241 = some 64 := rfl
set_option maxRecDepth 100000 in
theorem lm_9_244 : zlk zLMs 9 244 = some 13 := rfl
set_option maxRecDepth 100000 in
theorem lm_9_247 : zlk zLMs 9 247 = some 99 := rfl
set_option maxRecDepth 100000 in
theorem lm_9_251 : zlk zLMs 9 251 = some 19 := rfl
set_option maxRecDepth 100000 in
theorem lm_9_266 : zlk zLMs 9 266 = some 25 := rfl
set_option maxRecDepth 100000 in
theorem lm_9_270 : zlk zLMs 9 270 = some 27 := rfl
set_option maxRecDepth 100000 in
theorem lm_9_274 : zlk zLMs 9 274 = some 28 := rfl
set_option maxRecDepth 100000 in
theorem lm_9_277 : zlk zLMs 9 277 = some 29 := rfl
set_option maxRecDepth 100000 in
theorem lm_9_280 : zlk zLMs 9 280 = some 14 := rfl
set_option maxRecDepth 100000 in
theorem lm_9_287 : zlk zLMs 9 287 = some 216 := rfl
set_option maxRecDepth 100000 in
theorem lm_9_292 : zlk zLMs 9 292 = some 56 := rfl
set_option maxRecDepth 100000 in
theorem lm_9_295 : zlk zLMs 9 295 = some 55 := rfl
set_option maxRecDepth 100000 in
theorem lm_9_298 : zlk zLMs 9 298 = some 53 := rfl
set_option maxRecDepth 100000 in
theorem lm_9_301 : zlk zLMs 9 301 = some 54 := rfl
set_option maxRecDepth 100000 in
theorem lm_9_319 : zlk zLMs 9 319 = some 8 := rfl
set_option maxRecDepth 100000 in
theorem lm_9_322 : zlk zLMs 9 322 = some 9 := rfl
set_option maxRecDepth 100000 in
theorem lm_9_325 : zlk zLMs 9 325 = some 10 := rfl
set_option maxRecDepth 100000 in
theorem lm_9_331 : zlk zLMs 9 331 = some 11 := rfl
set_option maxRecDepth 100000 in
theorem lm_9_341 : zlk zLMs 9 341 = some 1 := rfl
set_option maxRecDepth 100000 in
theorem lm_9_342 : zlk zLMs 9 342 = some 3 := rfl
set_option maxRecDepth 100000 in
theorem lm_9_351 : zlk zLMs 9 351 = some 48 := rfl
set_option maxRecDepth 100000 in
theorem lm_9_354 : zlk zLMs 9 354 = some 49 := rfl
set_option maxRecDepth 100000 in
theorem lm_9_357 : zlk zLMs 9 357 = some 121 := rfl
set_option maxRecDepth 100000 in
theorem lm_9_360 : zlk zLMs 9 360 = some 51 := rfl
set_option maxRecDepth 100000 in
theorem lm_9_368 : zlk zLMs 9 368 = some 903 := rfl
set_option maxRecDepth 100000 in
theorem lm_9_374 : zlk zLMs 9 374 = some 2 := rfl
set_option maxRecDepth 100000 in
theorem lm_9_377 : zlk zLMs 9 377 = some 71 := rfl
set_option maxRecDepth 100000 in
theorem lm_10_3 : zlk zLMs 10 3 = some 999 := rfl
set_option maxRecDepth 100000 in
theorem lm_10_102 : zlk zLMs 10 102 = some 126 := rfl
set_option maxRecDepth 100000 in
theorem lm_10_106 : zlk zLMs 10 106 = some 127 := rfl
set_option maxRecDepth 100000 in
theorem lm_10_110 : zlk zLMs 10 110 = some 122 := rfl
set_option maxRecDepth 100000 in
theorem lm_10_123 : zlk zLMs 10 123 = some 132 := rfl
set_option maxRecDepth 100000 in
theorem lm_10_127 : zlk zLMs 10 127 = some 133 := rfl
set_option maxRecDepth 100000 in
theorem lm_10_131 : zlk zLMs 10 131 = some 135 := rfl
set_option maxRecDepth 100000 in
theorem lm_10_135 : zlk zLMs 10 135 = some 206 := rfl
set_option maxRecDepth 100000 in
theorem lm_10_142 : zlk zLMs 10 142 = some 130 := rfl
set_option maxRecDepth 100000 in
theorem lm_10_145 : zlk zLMs 10 145 = some 125 := rfl
set_option maxRecDepth 100000 in
theorem lm_10_152 : zlk zLMs 10 152 = some 131 := rfl
set_option maxRecDepth 100000 in
theorem lm_10_159 : zlk zLMs 10 159 = some 140 := rfl
set_option maxRecDepth 100000 in
theorem lm_10_162 : zlk zLMs 10 162 = some 158 := rfl
set_option maxRecDepth 100000 in
theorem lm_10_165 : zlk zLMs 10 165 = some 160 := rfl
set_option maxRecDepth 100000 in
theorem lm_10_168 : zlk zLMs 10 168 = some 143 := rfl
set_option maxRecDepth 100000 in
theorem lm_10_177 : zlk zLMs 10 177 = some 141 := rfl
set_option maxRecDepth 100000 in
theorem lm_10_186 : zlk zLMs 10 186 = some 142 := rfl
set_option maxRecDepth 100000 in
theorem lm_10_206 : zlk zLMs 10 206 = some 146 := rfl
set_option maxRecDepth 100000 in
theorem lm_10_209 : zlk zLMs 10 209 = some 150 := rfl
set_option maxRecDepth 100000 in
theorem lm_10_212 : zlk zLMs 10 212 = some 148 := rfl
set_option maxRecDepth 100000 in
theorem lm_10_215 : zlk zLMs 10 215 = some 151 := rfl
set_option maxRecDepth 100000 in
theorem lm_10_218 : zlk zLMs 10 218 = some 152 := rfl
set_option maxRecDepth 100000 in
theorem lm_10_221 : zlk zLMs 10 221 = some 153 := rfl
set_option maxRecDepth 100000 in
theorem lm_10_224 : zlk zLMs 10 224 = some 155 := rfl
set_option maxRecDepth 100000 in
theorem lm_10_230 : zlk zLMs 10 230 = some 147 := rfl
set_option maxRecDepth 100000 in
theorem lm_10_233 : zlk zLMs 10 233 = some 149 := rfl
set_option maxRecDepth 100000 in
theorem lm_10_236 : zlk zLMs 10 236 = some 154 := rfl
set_option maxRecDepth 100000 in
theorem lm_10_239 : zlk zLMs 10 239 = some 156 := rfl
set_option maxRecDepth 100000 in
theorem lm_10_242 : zlk zLMs 10 242 = some 159 := rfl
set_option maxRecDepth 100000 in
theorem lm_10_245 : zlk zLMs 10 245 = some 123 := rfl
set_option maxRecDepth 100000 in
theorem lm_10_248 : zlk zLMs 10 248 = some 161 := rfl
set_option maxRecDepth 100000 in
theorem lm_10_251 : zlk zLMs 10 251 = some 162 := rfl
set_option maxRecDepth 100000 in
theorem lm_10_256 : zlk zLMs 10 256 = some 169 := rfl
set_option maxRecDepth 100000 in
theorem lm_10_271 : zlk zLMs 10 271 = some 170 := rfl
set_option maxRecDepth 100000 in
theorem lm_10_274 : zlk zLMs 10 274 = some 171 := rfl
set_option maxRecDepth 100000 in
theorem lm_10_279 : zlk zLMs 10 279 = some 172 := rfl
set_option maxRecDepth 100000 in
theorem lm_10_282 : zlk zLMs 10 282 = some 175 := rfl
set_option maxRecDepth 100000 in
theorem lm_10_286 : zlk zLMs 10 286 = some 176 := rfl
set_option maxRecDepth 100000 in
theorem lm_10_289 : zlk zLMs 10 289 = some 178 := rfl
set_option maxRecDepth 100000 in
theorem lm_10_292 : zlk zLMs 10 292 = some 180 := rfl
set_option maxRecDepth 100000 in
theorem lm_10_304 : zlk zLMs 10 304 = some 182 := rfl
set_option maxRecDepth 100000 in
theorem lm_10_307 : zlk zLMs 10 307 = some 183 := rfl
set_option maxRecDepth 100000 in
theorem lm_10_315 : zlk zLMs 10 315 = some 185 := rfl
set_option maxRecDepth 100000 in
theorem lm_10_319 : zlk zLMs 10 319 = some 189 := rfl
set_option maxRecDepth 100000 in
theorem lm_10_334 : zlk zLMs 10 334 = some 199 := rfl
set_option maxRecDepth 100000 in
theorem lm_10_337 : zlk zLMs 10 337 = some 200 := rfl
set_option maxRecDepth 100000 in
theorem lm_10_343 : zlk zLMs 10 343 = some 201 := rfl
set_option maxRecDepth 100000 in
theorem lm_10_349 : zlk zLMs 10 349 = some 202 := rfl
set_option maxRecDepth 100000 in
theorem lm_10_352 : zlk zLMs 10 352 = some 203 := rfl
set_option maxRecDepth 100000 in
theorem lm_10_355 : zlk zLMs 10 355 = some 195 := rfl
set_option maxRecDepth 100000 in
theorem lm_10_360 : zlk zLMs 10 360 = some 209 := rfl
set_option maxRecDepth 100000 in
theorem lm_10_363 : zlk zLMs 10 363 = some 210 := rfl
set_option maxRecDepth 100000 in
theorem lm_10_371 : zlk zLMs 10 371 = some 196 := rfl
set_option maxRecDepth 100000 in
theorem lm_10_374 : zlk zLMs 10 374 = some 198 := rfl
set_option maxRecDepth 100000 in
theorem lm_10_377 : zlk zLMs 10 377 = some 194 := rfl
set_option maxRecDepth 100000 in
theorem lm_12_9 : zlk zLMs 12 9 = some 72 := rfl
set_option maxRecDepth 100000 in
theorem lm_12_12 : zlk zLMs 12 12 = some 124 := rfl
set_option maxRecDepth 100000 in
theorem lm_12_13 : zlk zLMs 12 13 = some 73 := rfl
set_option maxRecDepth 100000 in
theorem lm_12_17 : zlk zLMs 12 17 = some 134 := rfl
set_option maxRecDepth 100000 in
theorem lm_12_18 : zlk zLMs 12 18 = some 74 := rfl
set_option maxRecDepth 100000 in
theorem lm_12_22 : zlk zLMs 12 22 = some 136 := rfl
set_option maxRecDepth 100000 in
theorem lm_12_23 : zlk zLMs 12 23 = some 75 := rfl
set_option maxRecDepth 100000 in
theorem lm_12_27 : zlk zLMs 12 27 = some 137 := rfl
set_option maxRecDepth 100000 in
theorem lm_12_28 : zlk zLMs 12 28 = some 76 := rfl
set_option maxRecDepth 100000 in
theorem lm_12_32 : zlk zLMs 12 32 = some 138 := rfl
set_option maxRecDepth 100000 in
theorem lm_12_33 : zlk zLMs 12 33 = some 77 := rfl
set_option maxRecDepth 100000 in
theorem lm_12_36 : zlk zLMs 12 36 = some 139 := rfl
set_option maxRecDepth 100000 in
theorem lm_12_37 : zlk zLMs 12 37 = some 78 := rfl
set_option maxRecDepth 100000 in
theorem lm_12_40 : zlk zLMs 12 40 = some 144 := rfl
set_option maxRecDepth 100000 in
theorem lm_12_41 : zlk zLMs 12 41 = some 82 := rfl
set_option maxRecDepth 100000 in
theorem lm_12_44 : zlk zLMs 12 44 = some 145 := rfl
set_option maxRecDepth 100000 in
theorem lm_12_45 : zlk zLMs 12 45 = some 83 := rfl
set_option maxRecDepth 100000 in
theorem lm_12_48 : zlk zLMs 12 48 = some 157 := rfl
set_option maxRecDepth 100000 in
theorem lm_12_49 : zlk zLMs 12 49 = some 88 := rfl
set_option maxRecDepth 100000 in
theorem lm_12_52 : zlk zLMs 12 52 = some 163 := rfl
set_option maxRecDepth 100000 in
theorem lm_12_53 : zlk zLMs 12 53 = some 89 := rfl
set_option maxRecDepth 100000 in
theorem lm_12_56 : zlk zLMs 12 56 = some 164 := rfl
set_option maxRecDepth 100000 in
theorem lm_12_57 : zlk zLMs 12 57 = some 90 := rfl
set_option maxRecDepth 100000 in
theorem lm_12_60 : zlk zLMs 12 60 = some 165 := rfl
set_option maxRecDepth 100000 in
theorem lm_12_61 : zlk zLMs 12 61 = some 91 := rfl
set_option maxRecDepth 100000 in
theorem lm_12_64 : zlk zLMs 12 64 = some 166 := rfl
set_option maxRecDepth 100000 in
theorem lm_12_65 : zlk zLMs 12 65 = some 92 := rfl
set_option maxRecDepth 100000 in
theorem lm_12_68 : zlk zLMs 12 68 = some 167 := rfl
set_option maxRecDepth 100000 in
theorem lm_12_69 : zlk zLMs 12 69 = some 93 := rfl
set_option maxRecDepth 100000 in
theorem lm_12_72 : zlk zLMs 12 72 = some 168 := rfl
set_option maxRecDepth 100000 in
theorem lm_12_73 : zlk zLMs 12 73 = some 94 := rfl
set_option maxRecDepth 100000 in
theorem lm_12_76 : zlk zLMs 12 76 = some 173 := rfl
set_option maxRecDepth 100000 in
theorem lm_12_77 : zlk zLMs 12 77 = some 95 := rfl
set_option maxRecDepth 100000 in
theorem lm_12_80 : zlk zLMs 12 80 = some 174 := rfl
set_option maxRecDepth 100000 in
theorem lm_12_81 : zlk zLMs 12 81 = some 96 := rfl
set_option maxRecDepth 100000 in
theorem lm_12_84 : zlk zLMs 12 84 = some 177 := rfl
set_option maxRecDepth 100000 in
theorem lm_12_85 : zlk zLMs 12 85 = some 97 := rfl
set_option maxRecDepth 100000 in
theorem lm_12_88 : zlk zLMs 12 88 = some 179 := rfl
set_option maxRecDepth 100000 in
theorem lm_12_89 : zlk zLMs 12 89 = some 98 := rfl
set_option maxRecDepth 100000 in
theorem lm_12_92 : zlk zLMs 12 92 = some 181 := rfl
set_option maxRecDepth 100000 in
theorem lm_12_93 : zlk zLMs 12 93 = some 100 := rfl
set_option maxRecDepth 100000 in
theorem lm_12_96 : zlk zLMs 12 96 = some 184 := rfl
set_option maxRecDepth 100000 in
theorem lm_12_97 : zlk zLMs 12 97 = some 101 := rfl
set_option maxRecDepth 100000 in
theorem lm_12_100 : zlk zLMs 12 100 = some 186 := rfl
set_option maxRecDepth 100000 in
theorem lm_12_101 : zlk zLMs 12 101 = some 102 := rfl
set_option maxRecDepth 100000 in
theorem lm_12_104 : zlk zLMs 12 104 = some 187 := rfl
set_option maxRecDepth 100000 in
theorem lm_12_105 : zlk zLMs 12 105 = some 103 := rfl
set_option maxRecDepth 100000 in
theorem lm_12_108 : zlk zLMs 12 108 = some 188 := rfl
set_option maxRecDepth 100000 in
theorem lm_12_109 : zlk zLMs 12 109 = some 104 := rfl
set_option maxRecDepth 100000 in
theorem lm_12_112 : zlk zLMs 12 112 = some 190 := rfl
set_option maxRecDepth 100000 in
theorem lm_12_113 : zlk zLMs 12 113 = some 105 := rfl
set_option maxRecDepth 100000 in
theorem lm_12_116 : zlk zLMs 12 116 = some 191 := rfl
set_option maxRecDepth 100000 in
theorem lm_12_117 : zlk zLMs 12 117 = some 106 := rfl
set_option maxRecDepth 100000 in
theorem lm_12_120 : zlk zLMs 12 120 = some 192 := rfl
set_option maxRecDepth 100000 in
theorem lm_12_121 : zlk zLMs 12 121 = some 107 := rfl
set_option maxRecDepth 100000 in
theorem lm_12_124 : zlk zLMs 12 124 = some 193 := rfl
set_option maxRecDepth 100000 in
theorem lm_12_125 : zlk zLMs 12 125 = some 108 := rfl
set_option maxRecDepth 100000 in
theorem lm_12_128 : zlk zLMs 12 128 = some 128 := rfl
set_option maxRecDepth 100000 in
theorem lm_12_129 : zlk zLMs 12 129 = some 109 := rfl
set_option maxRecDepth 100000 in
theorem lm_12_132 : zlk zLMs 12 132 = some 129 := rfl
set_option maxRecDepth 100000 in
theorem lm_12_133 : zlk zLMs 12 133 = some 110 := rfl
set_option maxRecDepth 100000 in
theorem lm_12_136 : zlk zLMs 12 136 = some 197 := rfl
set_option maxRecDepth 100000 in
theorem lm_12_137 : zlk zLMs 12 137 = some 111 := rfl
set_option maxRecDepth 100000 in
theorem lm_12_140 : zlk zLMs 12 140 = some 204 := rfl
set_option maxRecDepth 100000 in
theorem lm_12_141 : zlk zLMs 12 141 = some 112 := rfl
set_option maxRecDepth 100000 in
theorem lm_12_144 : zlk zLMs 12 144 = some 205 := rfl
set_option maxRecDepth 100000 in
theorem lm_12_145 : zlk zLMs 12 145 = some 113 := rfl
set_option maxRecDepth 100000 in
theorem lm_12_148 : zlk zLMs 12 148 = some 207 := rfl
set_option maxRecDepth 100000 in
theorem lm_12_149 : zlk zLMs 12 149 = some 114 := rfl
set_option maxRecDepth 100000 in
theorem lm_12_152 : zlk zLMs 12 152 = some 208 := rfl
set_option maxRecDepth 100000 in
theorem lm_12_155 : zlk zLMs 12 155 = some 115 := rfl
set_option maxRecDepth 100000 in
theorem lm_12_159 : zlk zLMs 12 159 = some 211 := rfl
set_option maxRecDepth 100000 in
theorem lm_12_160 : zlk zLMs 12 160 = some 116 := rfl
set_option maxRecDepth 100000 in
theorem lm_12_164 : zlk zLMs 12 164 = some 212 := rfl
set_option maxRecDepth 100000 in
theorem lm_12_165 : zlk zLMs 12 165 = some 117 := rfl
set_option maxRecDepth 100000 in
theorem lm_12_169 : zlk zLMs 12 169 = some 213 := rfl
set_option maxRecDepth 100000 in
theorem lm_12_170 : zlk zLMs 12 170 = some 118 := rfl
set_option maxRecDepth 100000 in
theorem lm_12_173 : zlk zLMs 12 173 = some 214 := rfl
set_option maxRecDepth 100000 in
theorem lm_12_174 : zlk zLMs 12 174 = some 119 := rfl
set_option maxRecDepth 100000 in
theorem lm_12_177 : zlk zLMs 12 177 = some 215 := rfl
theorem lk_7_21 : zlk zLKs 7 21 = some 1103515245 := rfl
theorem lk_9_151 : zlk zLKs 9 151 = some (-2000000000) := rfl
theorem lk_10_149 : zlk zLKs 10 149 = some (-2000000000) := rfl
theorem lk_10_298 : zlk zLKs 10 298 = some 1103515245 := rfl
theorem lk_11_265 : zlk zLKs 11 265 = some 1431655765 := rfl
theorem lk_11_266 : zlk zLKs 11 266 = some 858993459 := rfl
theorem lk_11_267 : zlk zLKs 11 267 = some 252645135 := rfl
set_option maxRecDepth 100000 in
theorem lj_9_366 : zlk zLJs 9 366 = some (-9223372036854775808) := rfl
set_option maxRecDepth 100000 in
theorem lj_10_117 : zlk zLJs 10 117 = some 9 := rfl
set_option maxRecDepth 100000 in
theorem lj_10_119 : zlk zLJs 10 119 = some (-4) := rfl
set_option maxRecDepth 100000 in
theorem lj_10_121 : zlk zLJs 10 121 = some 4 := rfl
set_option maxRecDepth 100000 in
theorem lj_10_138 : zlk zLJs 10 138 = some 15 := rfl
set_option maxRecDepth 100000 in
theorem lj_10_140 : zlk zLJs 10 140 = some 99 := rfl
set_option maxRecDepth 100000 in
theorem lj_10_150 : zlk zLJs 10 150 = some (-9) := rfl
set_option maxRecDepth 100000 in
theorem lj_10_155 : zlk zLJs 10 155 = some 999 := rfl
set_option maxRecDepth 100000 in
theorem lj_10_157 : zlk zLJs 10 157 = some 12 := rfl
set_option maxRecDepth 100000 in
theorem lj_10_175 : zlk zLJs 10 175 = some 6 := rfl
set_option maxRecDepth 100000 in
theorem lj_10_180 : zlk zLJs 10 180 = some 10 := rfl
set_option maxRecDepth 100000 in
theorem lj_10_182 : zlk zLJs 10 182 = some 20 := rfl
set_option maxRecDepth 100000 in
theorem lj_10_184 : zlk zLJs 10 184 = some 28 := rfl
set_option maxRecDepth 100000 in
theorem lj_10_189 : zlk zLJs 10 189 = some 255 := rfl
set_option maxRecDepth 100000 in
theorem lj_10_254 : zlk zLJs 10 254 = some 3 := rfl
set_option maxRecDepth 100000 in
theorem lj_10_277 : zlk zLJs 10 277 = some 60 := rfl
set_option maxRecDepth 100000 in
theorem lj_10_299 : zlk zLJs 10 299 = some 29 := rfl
set_option maxRecDepth 100000 in
theorem lj_10_313 : zlk zLJs 10 313 = some 30 := rfl
set_option maxRecDepth 100000 in
theorem lj_10_329 : zlk zLJs 10 329 = some 7 := rfl
set_option maxRecDepth 100000 in
theorem lj_10_358 : zlk zLJs 10 358 = some 5 := rfl
set_option maxRecDepth 100000 in
theorem lj_10_369 : zlk zLJs 10 369 = some (-9223372036854775808) := rfl
set_option maxRecDepth 100000 in
theorem lj_12_153 : zlk zLJs 12 153 = some 4294967295 := rfl
theorem lg_0_33 : zlk zLGs 0 33 = some 1000001 := rfl
theorem lg_0_20 : zlk zLGs 0 20 = some 1000002 := rfl
set_option maxRecDepth 100000 in
theorem m_0 : zM 0 = some zi_0 := rfl
set_option maxRecDepth 100000 in
theorem kd_0 : zkds[0]? = some 2 := rfl
set_option maxRecDepth 100000 in
theorem m_1 : zM 1 = some zi_1 := rfl
set_option maxRecDepth 100000 in
theorem kd_1 : zkds[1]? = some 1 := rfl
set_option maxRecDepth 100000 in
theorem m_2 : zM 2 = some zi_2 := rfl
set_option maxRecDepth 100000 in
theorem kd_2 : zkds[2]? = some 0 := rfl
set_option maxRecDepth 100000 in
theorem m_3 : zM 3 = some zi_3 := rfl
set_option maxRecDepth 100000 in
theorem kd_3 : zkds[3]? = some 1 := rfl
set_option maxRecDepth 100000 in
theorem m_4 : zM 4 = some zi_4 := rfl
set_option maxRecDepth 100000 in
theorem kd_4 : zkds[4]? = some 1 := rfl
set_option maxRecDepth 100000 in
theorem m_5 : zM 5 = some zi_5 := rfl
set_option maxRecDepth 100000 in
theorem kd_5 : zkds[5]? = some 1 := rfl
set_option maxRecDepth 100000 in
theorem m_6 : zM 6 = some zi_6 := rfl
set_option maxRecDepth 100000 in
theorem kd_6 : zkds[6]? = some 2 := rfl
set_option maxRecDepth 100000 in
theorem m_7 : zM 7 = some zi_7 := rfl
set_option maxRecDepth 100000 in
theorem kd_7 : zkds[7]? = some 1 := rfl
set_option maxRecDepth 100000 in
theorem m_8 : zM 8 = some zi_8 := rfl
set_option maxRecDepth 100000 in
theorem kd_8 : zkds[8]? = some 1 := rfl
set_option maxRecDepth 100000 in
theorem m_9 : zM 9 = some zi_9 := rfl
set_option maxRecDepth 100000 in
theorem kd_9 : zkds[9]? = some 1 := rfl
set_option maxRecDepth 100000 in
theorem m_10 : zM 10 = some zi_10 := rfl
set_option maxRecDepth 100000 in
theorem kd_10 : zkds[10]? = some 1 := rfl
set_option maxRecDepth 100000 in
theorem m_11 : zM 11 = some zi_11 := rfl
set_option maxRecDepth 100000 in
theorem kd_11 : zkds[11]? = some 1 := rfl
set_option maxRecDepth 100000 in
theorem m_12 : zM 12 = some zi_12 := rfl
set_option maxRecDepth 100000 in
theorem kd_12 : zkds[12]? = some 2 := rfl
set_option maxRecDepth 100000 in
theorem m_13 : zM 13 = some zi_13 := rfl
set_option maxRecDepth 100000 in
theorem kd_13 : zkds[13]? = some 0 := rfl
set_option maxRecDepth 100000 in
theorem m_14 : zM 14 = some zi_14 := rfl
set_option maxRecDepth 100000 in
theorem kd_14 : zkds[14]? = some 1 := rfl
set_option maxRecDepth 100000 in
theorem m_15 : zM 15 = some zi_15 := rfl
set_option maxRecDepth 100000 in
theorem kd_15 : zkds[15]? = some 1 := rfl
set_option maxRecDepth 100000 in
theorem m_16 : zM 16 = some zi_16 := rfl
set_option maxRecDepth 100000 in
theorem kd_16 : zkds[16]? = some 1 := rfl
set_option maxRecDepth 100000 in
theorem m_17 : zM 17 = some zi_17 := rfl
set_option maxRecDepth 100000 in
theorem kd_17 : zkds[17]? = some 1 := rfl
set_option maxRecDepth 100000 in
theorem m_18 : zM 18 = some zi_18 := rfl
set_option maxRecDepth 100000 in
theorem kd_18 : zkds[18]? = some 0 := rfl
set_option maxRecDepth 100000 in
theorem m_19 : zM 19 = some zi_19 := rfl
set_option maxRecDepth 100000 in
theorem kd_19 : zkds[19]? = some 1 := rfl
set_option maxRecDepth 100000 in
theorem m_20 : zM 20 = some zi_20 := rfl
set_option maxRecDepth 100000 in
theorem kd_20 : zkds[20]? = some 1 := rfl
set_option maxRecDepth 100000 in
theorem m_21 : zM 21 = some zi_21 := rfl
set_option maxRecDepth 100000 in
theorem kd_21 : zkds[21]? = some 2 := rfl
set_option maxRecDepth 100000 in
theorem m_22 : zM 22 = some zi_22 := rfl
set_option maxRecDepth 100000 in
theorem kd_22 : zkds[22]? = some 1 := rfl
set_option maxRecDepth 100000 in
theorem m_23 : zM 23 = some zi_23 := rfl
set_option maxRecDepth 100000 in
theorem kd_23 : zkds[23]? = some 1 := rfl
set_option maxRecDepth 100000 in
theorem m_24 : zM 24 = some zi_24 := rfl
set_option maxRecDepth 100000 in
theorem kd_24 : zkds[24]? = some 1 := rfl
set_option maxRecDepth 100000 in
theorem m_25 : zM 25 = some zi_25 := rfl
set_option maxRecDepth 100000 in
theorem kd_25 : zkds[25]? = some 1 := rfl
set_option maxRecDepth 100000 in
theorem m_26 : zM 26 = some zi_26 := rfl
set_option maxRecDepth 100000 in
theorem kd_26 : zkds[26]? = some 0 := rfl
set_option maxRecDepth 100000 in
theorem m_27 : zM 27 = some zi_27 := rfl
set_option maxRecDepth 100000 in
theorem kd_27 : zkds[27]? = some 1 := rfl
set_option maxRecDepth 100000 in
theorem m_28 : zM 28 = some zi_28 := rfl
set_option maxRecDepth 100000 in
theorem kd_28 : zkds[28]? = some 1 := rfl
set_option maxRecDepth 100000 in
theorem m_29 : zM 29 = some zi_29 := rfl
set_option maxRecDepth 100000 in
theorem kd_29 : zkds[29]? = some 1 := rfl
set_option maxRecDepth 100000 in
theorem m_30 : zM 30 = some zi_30 := rfl
set_option maxRecDepth 100000 in
theorem kd_30 : zkds[30]? = some 0 := rfl
set_option maxRecDepth 100000 in
theorem m_31 : zM 31 = some zi_31 := rfl
set_option maxRecDepth 100000 in
theorem kd_31 : zkds[31]? = some 1 := rfl
set_option maxRecDepth 100000 in
theorem m_32 : zM 32 = some zi_32 := rfl
set_option maxRecDepth 100000 in
theorem kd_32 : zkds[32]? = some 2 := rfl
set_option maxRecDepth 100000 in
theorem m_33 : zM 33 = some zi_33 := rfl
set_option maxRecDepth 100000 in
theorem kd_33 : zkds[33]? = some 1 := rfl
set_option maxRecDepth 100000 in
theorem m_34 : zM 34 = some zi_34 := rfl
set_option maxRecDepth 100000 in
theorem kd_34 : zkds[34]? = some 1 := rfl
set_option maxRecDepth 100000 in
theorem m_35 : zM 35 = some zi_35 := rfl
set_option maxRecDepth 100000 in
theorem kd_35 : zkds[35]? = some 1 := rfl
set_option maxRecDepth 100000 in
theorem m_36 : zM 36 = some zi_36 := rfl
set_option maxRecDepth 100000 in
theorem kd_36 : zkds[36]? = some 1 := rfl
set_option maxRecDepth 100000 in
theorem m_37 : zM 37 = some zi_37 := rfl
set_option maxRecDepth 100000 in
theorem kd_37 : zkds[37]? = some 1 := rfl
set_option maxRecDepth 100000 in
theorem m_38 : zM 38 = some zi_38 := rfl
set_option maxRecDepth 100000 in
theorem kd_38 : zkds[38]? = some 1 := rfl
set_option maxRecDepth 100000 in
theorem m_39 : zM 39 = some zi_39 := rfl
set_option maxRecDepth 100000 in
theorem kd_39 : zkds[39]? = some 0 := rfl
set_option maxRecDepth 100000 in
theorem m_40 : zM 40 = some zi_40 := rfl
set_option maxRecDepth 100000 in
theorem kd_40 : zkds[40]? = some 0 := rfl
set_option maxRecDepth 100000 in
theorem m_41 : zM 41 = some zi_41 := rfl
set_option maxRecDepth 100000 in
theorem kd_41 : zkds[41]? = some 0 := rfl
set_option maxRecDepth 100000 in
theorem m_42 : zM 42 = some zi_42 := rfl
set_option maxRecDepth 100000 in
theorem kd_42 : zkds[42]? = some 2 := rfl
set_option maxRecDepth 100000 in
theorem m_43 : zM 43 = some zi_43 := rfl
set_option maxRecDepth 100000 in
theorem kd_43 : zkds[43]? = some 1 := rfl
set_option maxRecDepth 100000 in
theorem m_44 : zM 44 = some zi_44 := rfl
set_option maxRecDepth 100000 in
theorem kd_44 : zkds[44]? = some 1 := rfl
set_option maxRecDepth 100000 in
theorem m_45 : zM 45 = some zi_45 := rfl
set_option maxRecDepth 100000 in
theorem kd_45 : zkds[45]? = some 0 := rfl
set_option maxRecDepth 100000 in
theorem m_46 : zM 46 = some zi_46 := rfl
set_option maxRecDepth 100000 in
theorem kd_46 : zkds[46]? = some 0 := rfl
set_option maxRecDepth 100000 in
theorem m_47 : zM 47 = some zi_47 := rfl
set_option maxRecDepth 100000 in
theorem kd_47 : zkds[47]? = some 2 := rfl
set_option maxRecDepth 100000 in
theorem m_48 : zM 48 = some zi_48 := rfl
set_option maxRecDepth 100000 in
theorem kd_48 : zkds[48]? = some 0 := rfl
set_option maxRecDepth 100000 in
theorem m_49 : zM 49 = some zi_49 := rfl
set_option maxRecDepth 100000 in
theorem kd_49 : zkds[49]? = some 1 := rfl
set_option maxRecDepth 100000 in
theorem m_50 : zM 50 = some zi_50 := rfl
set_option maxRecDepth 100000 in
theorem kd_50 : zkds[50]? = some 1 := rfl
set_option maxRecDepth 100000 in
theorem m_51 : zM 51 = some zi_51 := rfl
set_option maxRecDepth 100000 in
theorem kd_51 : zkds[51]? = some 0 := rfl
set_option maxRecDepth 100000 in
theorem m_52 : zM 52 = some zi_52 := rfl
set_option maxRecDepth 100000 in
theorem kd_52 : zkds[52]? = some 2 := rfl
set_option maxRecDepth 100000 in
theorem m_53 : zM 53 = some zi_53 := rfl
set_option maxRecDepth 100000 in
theorem kd_53 : zkds[53]? = some 0 := rfl
set_option maxRecDepth 100000 in
theorem m_54 : zM 54 = some zi_54 := rfl
set_option maxRecDepth 100000 in
theorem kd_54 : zkds[54]? = some 0 := rfl
set_option maxRecDepth 100000 in
theorem m_55 : zM 55 = some zi_55 := rfl
set_option maxRecDepth 100000 in
theorem kd_55 : zkds[55]? = some 1 := rfl
set_option maxRecDepth 100000 in
theorem m_56 : zM 56 = some zi_56 := rfl
set_option maxRecDepth 100000 in
theorem kd_56 : zkds[56]? = some 1 := rfl
set_option maxRecDepth 100000 in
theorem m_57 : zM 57 = some zi_57 := rfl
set_option maxRecDepth 100000 in
theorem kd_57 : zkds[57]? = some 2 := rfl
set_option maxRecDepth 100000 in
theorem m_58 : zM 58 = some zi_58 := rfl
set_option maxRecDepth 100000 in
theorem kd_58 : zkds[58]? = some 0 := rfl
set_option maxRecDepth 100000 in
theorem m_59 : zM 59 = some zi_59 := rfl
set_option maxRecDepth 100000 in
theorem kd_59 : zkds[59]? = some 1 := rfl
set_option maxRecDepth 100000 in
theorem m_60 : zM 60 = some zi_60 := rfl
set_option maxRecDepth 100000 in
theorem kd_60 : zkds[60]? = some 1 := rfl
set_option maxRecDepth 100000 in
theorem m_61 : zM 61 = some zi_61 := rfl
set_option maxRecDepth 100000 in
theorem kd_61 : zkds[61]? = some 1 := rfl
set_option maxRecDepth 100000 in
theorem m_62 : zM 62 = some zi_62 := rfl
set_option maxRecDepth 100000 in
theorem kd_62 : zkds[62]? = some 1 := rfl
set_option maxRecDepth 100000 in
theorem m_63 : zM 63 = some zi_63 := rfl
set_option maxRecDepth 100000 in
theorem kd_63 : zkds[63]? = some 1 := rfl
set_option maxRecDepth 100000 in
theorem m_64 : zM 64 = some zi_64 := rfl
set_option maxRecDepth 100000 in
theorem kd_64 : zkds[64]? = some 1 := rfl
set_option maxRecDepth 100000 in
theorem m_65 : zM 65 = some zi_65 := rfl
set_option maxRecDepth 100000 in
theorem kd_65 : zkds[65]? = some 1 := rfl
set_option maxRecDepth 100000 in
theorem m_66 : zM 66 = some zi_66 := rfl
set_option maxRecDepth 100000 in
theorem kd_66 : zkds[66]? = some 1 := rfl
set_option maxRecDepth 100000 in
theorem m_67 : zM 67 = some zi_67 := rfl
set_option maxRecDepth 100000 in
theorem kd_67 : zkds[67]? = some 1 := rfl
set_option maxRecDepth 100000 in
theorem m_68 : zM 68 = some zi_68 := rfl
set_option maxRecDepth 100000 in
theorem kd_68 : zkds[68]? = some 1 := rfl
set_option maxRecDepth 100000 in
theorem m_69 : zM 69 = some zi_69 := rfl
set_option maxRecDepth 100000 in
theorem kd_69 : zkds[69]? = some 1 := rfl
set_option maxRecDepth 100000 in
theorem m_70 : zM 70 = some zi_70 := rfl
set_option maxRecDepth 100000 in
theorem kd_70 : zkds[70]? = some 1 := rfl
set_option maxRecDepth 100000 in
theorem m_71 : zM 71 = some zi_71 := rfl
set_option maxRecDepth 100000 in
theorem kd_71 : zkds[71]? = some 1 := rfl
set_option maxRecDepth 100000 in
theorem m_72 : zM 72 = some zi_72 := rfl
set_option maxRecDepth 100000 in
theorem kd_72 : zkds[72]? = some 2 := rfl
set_option maxRecDepth 100000 in
theorem m_73 : zM 73 = some zi_73 := rfl
set_option maxRecDepth 100000 in
theorem kd_73 : zkds[73]? = some 1 := rfl
set_option maxRecDepth 100000 in
theorem m_74 : zM 74 = some zi_74 := rfl
set_option maxRecDepth 100000 in
theorem kd_74 : zkds[74]? = some 1 := rfl
set_option maxRecDepth 100000 in
theorem m_75 : zM 75 = some zi_75 := rfl
set_option maxRecDepth 100000 in
theorem kd_75 : zkds[75]? = some 1 := rfl
set_option maxRecDepth 100000 in
theorem m_76 : zM 76 = some zi_76 := rfl
set_option maxRecDepth 100000 in
theorem kd_76 : zkds[76]? = some 1 := rfl
set_option maxRecDepth 100000 in
theorem m_77 : zM 77 = some zi_77 := rfl
set_option maxRecDepth 100000 in
theorem kd_77 : zkds[77]? = some 1 := rfl
set_option maxRecDepth 100000 in
theorem m_78 : zM 78 = some zi_78 := rfl
set_option maxRecDepth 100000 in
theorem kd_78 : zkds[78]? = some 1 := rfl
set_option maxRecDepth 100000 in
theorem m_79 : zM 79 = some zi_79 := rfl
set_option maxRecDepth 100000 in
theorem kd_79 : zkds[79]? = some 1 := rfl
set_option maxRecDepth 100000 in
theorem m_80 : zM 80 = some zi_80 := rfl
set_option maxRecDepth 100000 in
theorem kd_80 : zkds[80]? = some 1 := rfl
set_option maxRecDepth 100000 in
theorem m_81 : zM 81 = some zi_81 := rfl
set_option maxRecDepth 100000 in
theorem kd_81 : zkds[81]? = some 1 := rfl
set_option maxRecDepth 100000 in
theorem m_82 : zM 82 = some zi_82 := rfl
set_option maxRecDepth 100000 in
theorem kd_82 : zkds[82]? = some 1 := rfl
set_option maxRecDepth 100000 in
theorem m_83 : zM 83 = some zi_83 := rfl
set_option maxRecDepth 100000 in
theorem kd_83 : zkds[83]? = some 1 := rfl
set_option maxRecDepth 100000 in
theorem m_84 : zM 84 = some zi_84 := rfl
set_option maxRecDepth 100000 in
theorem kd_84 : zkds[84]? = some 1 := rfl
set_option maxRecDepth 100000 in
theorem m_85 : zM 85 = some zi_85 := rfl
set_option maxRecDepth 100000 in
theorem kd_85 : zkds[85]? = some 1 := rfl
set_option maxRecDepth 100000 in
theorem m_86 : zM 86 = some zi_86 := rfl
set_option maxRecDepth 100000 in
theorem kd_86 : zkds[86]? = some 1 := rfl
set_option maxRecDepth 100000 in
theorem m_87 : zM 87 = some zi_87 := rfl
set_option maxRecDepth 100000 in
theorem kd_87 : zkds[87]? = some 1 := rfl
set_option maxRecDepth 100000 in
theorem m_88 : zM 88 = some zi_88 := rfl
set_option maxRecDepth 100000 in
theorem kd_88 : zkds[88]? = some 1 := rfl
set_option maxRecDepth 100000 in
theorem m_89 : zM 89 = some zi_89 := rfl
set_option maxRecDepth 100000 in
theorem kd_89 : zkds[89]? = some 1 := rfl
set_option maxRecDepth 100000 in
theorem m_90 : zM 90 = some zi_90 := rfl
set_option maxRecDepth 100000 in
theorem kd_90 : zkds[90]? = some 1 := rfl
set_option maxRecDepth 100000 in
theorem m_91 : zM 91 = some zi_91 := rfl
set_option maxRecDepth 100000 in
theorem kd_91 : zkds[91]? = some 1 := rfl
set_option maxRecDepth 100000 in
theorem m_92 : zM 92 = some zi_92 := rfl
set_option maxRecDepth 100000 in
theorem kd_92 : zkds[92]? = some 1 := rfl
set_option maxRecDepth 100000 in
theorem m_93 : zM 93 = some zi_93 := rfl
set_option maxRecDepth 100000 in
theorem kd_93 : zkds[93]? = some 1 := rfl
set_option maxRecDepth 100000 in
theorem m_94 : zM 94 = some zi_94 := rfl
set_option maxRecDepth 100000 in
theorem kd_94 : zkds[94]? = some 1 := rfl
set_option maxRecDepth 100000 in
theorem m_95 : zM 95 = some zi_95 := rfl
set_option maxRecDepth 100000 in
theorem kd_95 : zkds[95]? = some 1 := rfl
set_option maxRecDepth 100000 in
theorem m_96 : zM 96 = some zi_96 := rfl
set_option maxRecDepth 100000 in
theorem kd_96 : zkds[96]? = some 1 := rfl
set_option maxRecDepth 100000 in
theorem m_97 : zM 97 = some zi_97 := rfl
set_option maxRecDepth 100000 in
theorem kd_97 : zkds[97]? = some 1 := rfl
set_option maxRecDepth 100000 in
theorem m_98 : zM 98 = some zi_98 := rfl
set_option maxRecDepth 100000 in
theorem kd_98 : zkds[98]? = some 1 := rfl
set_option maxRecDepth 100000 in
theorem m_99 : zM 99 = some zi_99 := rfl
set_option maxRecDepth 100000 in
theorem kd_99 : zkds[99]? = some 1 := rfl
set_option maxRecDepth 100000 in
theorem m_100 : zM 100 = some zi_100 := rfl
set_option maxRecDepth 100000 in
theorem kd_100 : zkds[100]? = some 1 := rfl
set_option maxRecDepth 100000 in
theorem m_101 : zM 101 = some zi_101 := rfl
set_option maxRecDepth 100000 in
theorem kd_101 : zkds[101]? = some 1 := rfl
set_option maxRecDepth 100000 in
theorem m_102 : zM 102 = some zi_102 := rfl
set_option maxRecDepth 100000 in
theorem kd_102 : zkds[102]? = some 1 := rfl
set_option maxRecDepth 100000 in
theorem m_103 : zM 103 = some zi_103 := rfl
set_option maxRecDepth 100000 in
theorem kd_103 : zkds[103]? = some 1 := rfl
set_option maxRecDepth 100000 in
theorem m_104 : zM 104 = some zi_104 := rfl
set_option maxRecDepth 100000 in
theorem kd_104 : zkds[104]? = some 1 := rfl
set_option maxRecDepth 100000 in
theorem m_105 : zM 105 = some zi_105 := rfl
set_option maxRecDepth 100000 in
theorem kd_105 : zkds[105]? = some 1 := rfl
set_option maxRecDepth 100000 in
theorem m_106 : zM 106 = some zi_106 := rfl
set_option maxRecDepth 100000 in
theorem kd_106 : zkds[106]? = some 1 := rfl
set_option maxRecDepth 100000 in
theorem m_107 : zM 107 = some zi_107 := rfl
set_option maxRecDepth 100000 in
theorem kd_107 : zkds[107]? = some 1 := rfl
set_option maxRecDepth 100000 in
theorem m_108 : zM 108 = some zi_108 := rfl
set_option maxRecDepth 100000 in
theorem kd_108 : zkds[108]? = some 1 := rfl
set_option maxRecDepth 100000 in
theorem m_109 : zM 109 = some zi_109 := rfl
set_option maxRecDepth 100000 in
theorem kd_109 : zkds[109]? = some 1 := rfl
set_option maxRecDepth 100000 in
theorem m_110 : zM 110 = some zi_110 := rfl
set_option maxRecDepth 100000 in
theorem kd_110 : zkds[110]? = some 1 := rfl
set_option maxRecDepth 100000 in
theorem m_111 : zM 111 = some zi_111 := rfl
set_option maxRecDepth 100000 in
theorem kd_111 : zkds[111]? = some 1 := rfl
set_option maxRecDepth 100000 in
theorem m_112 : zM 112 = some zi_112 := rfl
set_option maxRecDepth 100000 in
theorem kd_112 : zkds[112]? = some 1 := rfl
set_option maxRecDepth 100000 in
theorem m_113 : zM 113 = some zi_113 := rfl
set_option maxRecDepth 100000 in
theorem kd_113 : zkds[113]? = some 1 := rfl
set_option maxRecDepth 100000 in
theorem m_114 : zM 114 = some zi_114 := rfl
set_option maxRecDepth 100000 in
theorem kd_114 : zkds[114]? = some 1 := rfl
set_option maxRecDepth 100000 in
theorem m_115 : zM 115 = some zi_115 := rfl
set_option maxRecDepth 100000 in
theorem kd_115 : zkds[115]? = some 1 := rfl
set_option maxRecDepth 100000 in
theorem m_116 : zM 116 = some zi_116 := rfl
set_option maxRecDepth 100000 in
theorem kd_116 : zkds[116]? = some 1 := rfl
set_option maxRecDepth 100000 in
theorem m_117 : zM 117 = some zi_117 := rfl
set_option maxRecDepth 100000 in
theorem kd_117 : zkds[117]? = some 1 := rfl
set_option maxRecDepth 100000 in
theorem m_118 : zM 118 = some zi_118 := rfl
set_option maxRecDepth 100000 in
theorem kd_118 : zkds[118]? = some 1 := rfl
set_option maxRecDepth 100000 in
theorem m_119 : zM 119 = some zi_119 := rfl
set_option maxRecDepth 100000 in
theorem kd_119 : zkds[119]? = some 1 := rfl
set_option maxRecDepth 100000 in
theorem m_120 : zM 120 = some zi_120 := rfl
set_option maxRecDepth 100000 in
theorem kd_120 : zkds[120]? = some 0 := rfl
set_option maxRecDepth 100000 in
theorem m_121 : zM 121 = some zi_121 := rfl
set_option maxRecDepth 100000 in
theorem kd_121 : zkds[121]? = some 1 := rfl
set_option maxRecDepth 100000 in
theorem m_122 : zM 122 = some zi_122 := rfl
set_option maxRecDepth 100000 in
theorem kd_122 : zkds[122]? = some 0 := rfl
set_option maxRecDepth 100000 in
theorem m_123 : zM 123 = some zi_123 := rfl
set_option maxRecDepth 100000 in
theorem kd_123 : zkds[123]? = some 0 := rfl
set_option maxRecDepth 100000 in
theorem m_124 : zM 124 = some zi_124 := rfl
set_option maxRecDepth 100000 in
theorem kd_124 : zkds[124]? = some 2 := rfl
set_option maxRecDepth 100000 in
theorem m_125 : zM 125 = some zi_125 := rfl
set_option maxRecDepth 100000 in
theorem kd_125 : zkds[125]? = some 1 := rfl
set_option maxRecDepth 100000 in
theorem m_126 : zM 126 = some zi_126 := rfl
set_option maxRecDepth 100000 in
theorem kd_126 : zkds[126]? = some 1 := rfl
set_option maxRecDepth 100000 in
theorem m_127 : zM 127 = some zi_127 := rfl
set_option maxRecDepth 100000 in
theorem kd_127 : zkds[127]? = some 1 := rfl
set_option maxRecDepth 100000 in
theorem m_128 : zM 128 = some zi_128 := rfl
set_option maxRecDepth 100000 in
theorem kd_128 : zkds[128]? = some 1 := rfl
set_option maxRecDepth 100000 in
theorem m_129 : zM 129 = some zi_129 := rfl
set_option maxRecDepth 100000 in
theorem kd_129 : zkds[129]? = some 1 := rfl
set_option maxRecDepth 100000 in
theorem m_130 : zM 130 = some zi_130 := rfl
set_option maxRecDepth 100000 in
theorem kd_130 : zkds[130]? = some 1 := rfl
set_option maxRecDepth 100000 in
theorem m_131 : zM 131 = some zi_131 := rfl
set_option maxRecDepth 100000 in
theorem kd_131 : zkds[131]? = some 1 := rfl
set_option maxRecDepth 100000 in
theorem m_132 : zM 132 = some zi_132 := rfl
set_option maxRecDepth 100000 in
theorem kd_132 : zkds[132]? = some 0 := rfl
set_option maxRecDepth 100000 in
theorem m_133 : zM 133 = some zi_133 := rfl
set_option maxRecDepth 100000 in
theorem kd_133 : zkds[133]? = some 1 := rfl
set_option maxRecDepth 100000 in
theorem m_134 : zM 134 = some zi_134 := rfl
set_option maxRecDepth 100000 in
theorem kd_134 : zkds[134]? = some 1 := rfl
set_option maxRecDepth 100000 in
theorem m_135 : zM 135 = some zi_135 := rfl
set_option maxRecDepth 100000 in
theorem kd_135 : zkds[135]? = some 0 := rfl
set_option maxRecDepth 100000 in
theorem m_136 : zM 136 = some zi_136 := rfl
set_option maxRecDepth 100000 in
theorem kd_136 : zkds[136]? = some 1 := rfl
set_option maxRecDepth 100000 in
theorem m_137 : zM 137 = some zi_137 := rfl
set_option maxRecDepth 100000 in
theorem kd_137 : zkds[137]? = some 1 := rfl
set_option maxRecDepth 100000 in
theorem m_138 : zM 138 = some zi_138 := rfl
set_option maxRecDepth 100000 in
theorem kd_138 : zkds[138]? = some 1 := rfl
set_option maxRecDepth 100000 in
theorem m_139 : zM 139 = some zi_139 := rfl
set_option maxRecDepth 100000 in
theorem kd_139 : zkds[139]? = some 1 := rfl
set_option maxRecDepth 100000 in
theorem m_140 : zM 140 = some zi_140 := rfl
set_option maxRecDepth 100000 in
theorem kd_140 : zkds[140]? = some 1 := rfl
set_option maxRecDepth 100000 in
theorem m_141 : zM 141 = some zi_141 := rfl
set_option maxRecDepth 100000 in
theorem kd_141 : zkds[141]? = some 1 := rfl
set_option maxRecDepth 100000 in
theorem m_142 : zM 142 = some zi_142 := rfl
set_option maxRecDepth 100000 in
theorem kd_142 : zkds[142]? = some 1 := rfl
set_option maxRecDepth 100000 in
theorem m_143 : zM 143 = some zi_143 := rfl
set_option maxRecDepth 100000 in
theorem kd_143 : zkds[143]? = some 1 := rfl
set_option maxRecDepth 100000 in
theorem m_144 : zM 144 = some zi_144 := rfl
set_option maxRecDepth 100000 in
theorem kd_144 : zkds[144]? = some 1 := rfl
set_option maxRecDepth 100000 in
theorem m_145 : zM 145 = some zi_145 := rfl
set_option maxRecDepth 100000 in
theorem kd_145 : zkds[145]? = some 1 := rfl
set_option maxRecDepth 100000 in
theorem m_146 : zM 146 = some zi_146 := rfl
set_option maxRecDepth 100000 in
theorem kd_146 : zkds[146]? = some 1 := rfl
set_option maxRecDepth 100000 in
theorem m_147 : zM 147 = some zi_147 := rfl
set_option maxRecDepth 100000 in
theorem kd_147 : zkds[147]? = some 1 := rfl
set_option maxRecDepth 100000 in
theorem m_148 : zM 148 = some zi_148 := rfl
set_option maxRecDepth 100000 in
theorem kd_148 : zkds[148]? = some 1 := rfl
set_option maxRecDepth 100000 in
theorem m_149 : zM 149 = some zi_149 := rfl
set_option maxRecDepth 100000 in
theorem kd_149 : zkds[149]? = some 1 := rfl
set_option maxRecDepth 100000 in
theorem m_150 : zM 150 = some zi_150 := rfl
set_option maxRecDepth 100000 in
theorem kd_150 : zkds[150]? = some 1 := rfl
set_option maxRecDepth 100000 in
theorem m_151 : zM 151 = some zi_151 := rfl
set_option maxRecDepth 100000 in
theorem kd_151 : zkds[151]? = some 1 := rfl
set_option maxRecDepth 100000 in
theorem m_152 : zM 152 = some zi_152 := rfl
set_option maxRecDepth 100000 in
theorem kd_152 : zkds[152]? = some 1 := rfl
set_option maxRecDepth 100000 in
theorem m_153 : zM 153 = some zi_153 := rfl
set_option maxRecDepth 100000 in
theorem kd_153 : zkds[153]? = some 1 := rfl
set_option maxRecDepth 100000 in
theorem m_154 : zM 154 = some zi_154 := rfl
set_option maxRecDepth 100000 in
theorem kd_154 : zkds[154]? = some 0 := rfl
set_option maxRecDepth 100000 in
theorem m_155 : zM 155 = some zi_155 := rfl
set_option maxRecDepth 100000 in
theorem kd_155 : zkds[155]? = some 1 := rfl
set_option maxRecDepth 100000 in
theorem m_156 : zM 156 = some zi_156 := rfl
set_option maxRecDepth 100000 in
theorem kd_156 : zkds[156]? = some 1 := rfl
set_option maxRecDepth 100000 in
theorem m_157 : zM 157 = some zi_157 := rfl
set_option maxRecDepth 100000 in
theorem kd_157 : zkds[157]? = some 1 := rfl
set_option maxRecDepth 100000 in
theorem m_158 : zM 158 = some zi_158 := rfl
set_option maxRecDepth 100000 in
theorem kd_158 : zkds[158]? = some 1 := rfl
set_option maxRecDepth 100000 in
theorem m_159 : zM 159 = some zi_159 := rfl
set_option maxRecDepth 100000 in
theorem kd_159 : zkds[159]? = some 1 := rfl
set_option maxRecDepth 100000 in
theorem m_160 : zM 160 = some zi_160 := rfl
set_option maxRecDepth 100000 in
theorem kd_160 : zkds[160]? = some 1 := rfl
set_option maxRecDepth 100000 in
theorem m_161 : zM 161 = some zi_161 := rfl
set_option maxRecDepth 100000 in
theorem kd_161 : zkds[161]? = some 1 := rfl
set_option maxRecDepth 100000 in
theorem m_162 : zM 162 = some zi_162 := rfl
set_option maxRecDepth 100000 in
theorem kd_162 : zkds[162]? = some 1 := rfl
set_option maxRecDepth 100000 in
theorem m_163 : zM 163 = some zi_163 := rfl
set_option maxRecDepth 100000 in
theorem kd_163 : zkds[163]? = some 1 := rfl
set_option maxRecDepth 100000 in
theorem m_164 : zM 164 = some zi_164 := rfl
set_option maxRecDepth 100000 in
theorem kd_164 : zkds[164]? = some 1 := rfl
set_option maxRecDepth 100000 in
theorem m_165 : zM 165 = some zi_165 := rfl
set_option maxRecDepth 100000 in
theorem kd_165 : zkds[165]? = some 1 := rfl
set_option maxRecDepth 100000 in
theorem m_166 : zM 166 = some zi_166 := rfl
set_option maxRecDepth 100000 in
theorem kd_166 : zkds[166]? = some 1 := rfl
set_option maxRecDepth 100000 in
theorem m_167 : zM 167 = some zi_167 := rfl
set_option maxRecDepth 100000 in
theorem kd_167 : zkds[167]? = some 1 := rfl
set_option maxRecDepth 100000 in
theorem m_168 : zM 168 = some zi_168 := rfl
set_option maxRecDepth 100000 in
theorem kd_168 : zkds[168]? = some 1 := rfl
set_option maxRecDepth 100000 in
theorem m_169 : zM 169 = some zi_169 := rfl
set_option maxRecDepth 100000 in
theorem kd_169 : zkds[169]? = some 1 := rfl
set_option maxRecDepth 100000 in
theorem m_170 : zM 170 = some zi_170 := rfl
set_option maxRecDepth 100000 in
theorem kd_170 : zkds[170]? = some 1 := rfl
set_option maxRecDepth 100000 in
theorem m_171 : zM 171 = some zi_171 := rfl
set_option maxRecDepth 100000 in
theorem kd_171 : zkds[171]? = some 1 := rfl
set_option maxRecDepth 100000 in
theorem m_172 : zM 172 = some zi_172 := rfl
set_option maxRecDepth 100000 in
theorem kd_172 : zkds[172]? = some 1 := rfl
set_option maxRecDepth 100000 in
theorem m_173 : zM 173 = some zi_173 := rfl
set_option maxRecDepth 100000 in
theorem kd_173 : zkds[173]? = some 1 := rfl
set_option maxRecDepth 100000 in
theorem m_174 : zM 174 = some zi_174 := rfl
set_option maxRecDepth 100000 in
theorem kd_174 : zkds[174]? = some 1 := rfl
set_option maxRecDepth 100000 in
theorem m_175 : zM 175 = some zi_175 := rfl
set_option maxRecDepth 100000 in
theorem kd_175 : zkds[175]? = some 1 := rfl
set_option maxRecDepth 100000 in
theorem m_176 : zM 176 = some zi_176 := rfl
set_option maxRecDepth 100000 in
theorem kd_176 : zkds[176]? = some 1 := rfl
set_option maxRecDepth 100000 in
theorem m_177 : zM 177 = some zi_177 := rfl
set_option maxRecDepth 100000 in
theorem kd_177 : zkds[177]? = some 1 := rfl
set_option maxRecDepth 100000 in
theorem m_178 : zM 178 = some zi_178 := rfl
set_option maxRecDepth 100000 in
theorem kd_178 : zkds[178]? = some 1 := rfl
set_option maxRecDepth 100000 in
theorem m_179 : zM 179 = some zi_179 := rfl
set_option maxRecDepth 100000 in
theorem kd_179 : zkds[179]? = some 1 := rfl
set_option maxRecDepth 100000 in
theorem m_180 : zM 180 = some zi_180 := rfl
set_option maxRecDepth 100000 in
theorem kd_180 : zkds[180]? = some 1 := rfl
set_option maxRecDepth 100000 in
theorem m_181 : zM 181 = some zi_181 := rfl
set_option maxRecDepth 100000 in
theorem kd_181 : zkds[181]? = some 1 := rfl
set_option maxRecDepth 100000 in
theorem m_182 : zM 182 = some zi_182 := rfl
set_option maxRecDepth 100000 in
theorem kd_182 : zkds[182]? = some 0 := rfl
set_option maxRecDepth 100000 in
theorem m_183 : zM 183 = some zi_183 := rfl
set_option maxRecDepth 100000 in
theorem kd_183 : zkds[183]? = some 1 := rfl
set_option maxRecDepth 100000 in
theorem m_184 : zM 184 = some zi_184 := rfl
set_option maxRecDepth 100000 in
theorem kd_184 : zkds[184]? = some 1 := rfl
set_option maxRecDepth 100000 in
theorem m_185 : zM 185 = some zi_185 := rfl
set_option maxRecDepth 100000 in
theorem kd_185 : zkds[185]? = some 1 := rfl
set_option maxRecDepth 100000 in
theorem m_186 : zM 186 = some zi_186 := rfl
set_option maxRecDepth 100000 in
theorem kd_186 : zkds[186]? = some 1 := rfl
set_option maxRecDepth 100000 in
theorem m_187 : zM 187 = some zi_187 := rfl
set_option maxRecDepth 100000 in
theorem kd_187 : zkds[187]? = some 1 := rfl
set_option maxRecDepth 100000 in
theorem m_188 : zM 188 = some zi_188 := rfl
set_option maxRecDepth 100000 in
theorem kd_188 : zkds[188]? = some 1 := rfl
set_option maxRecDepth 100000 in
theorem m_189 : zM 189 = some zi_189 := rfl
set_option maxRecDepth 100000 in
theorem kd_189 : zkds[189]? = some 1 := rfl
set_option maxRecDepth 100000 in
theorem m_190 : zM 190 = some zi_190 := rfl
set_option maxRecDepth 100000 in
theorem kd_190 : zkds[190]? = some 1 := rfl
set_option maxRecDepth 100000 in
theorem m_191 : zM 191 = some zi_191 := rfl
set_option maxRecDepth 100000 in
theorem kd_191 : zkds[191]? = some 1 := rfl
set_option maxRecDepth 100000 in
theorem m_192 : zM 192 = some zi_192 := rfl
set_option maxRecDepth 100000 in
theorem kd_192 : zkds[192]? = some 1 := rfl
set_option maxRecDepth 100000 in
theorem m_193 : zM 193 = some zi_193 := rfl
set_option maxRecDepth 100000 in
theorem kd_193 : zkds[193]? = some 1 := rfl
set_option maxRecDepth 100000 in
theorem m_194 : zM 194 = some zi_194 := rfl
set_option maxRecDepth 100000 in
theorem kd_194 : zkds[194]? = some 1 := rfl
set_option maxRecDepth 100000 in
theorem m_195 : zM 195 = some zi_195 := rfl
set_option maxRecDepth 100000 in
theorem kd_195 : zkds[195]? = some 1 := rfl
set_option maxRecDepth 100000 in
theorem m_196 : zM 196 = some zi_196 := rfl
set_option maxRecDepth 100000 in
theorem kd_196 : zkds[196]? = some 1 := rfl
set_option maxRecDepth 100000 in
theorem m_197 : zM 197 = some zi_197 := rfl
set_option maxRecDepth 100000 in
theorem kd_197 : zkds[197]? = some 1 := rfl
set_option maxRecDepth 100000 in
theorem m_198 : zM 198 = some zi_198 := rfl
set_option maxRecDepth 100000 in
theorem kd_198 : zkds[198]? = some 0 := rfl
set_option maxRecDepth 100000 in
theorem m_199 : zM 199 = some zi_199 := rfl
set_option maxRecDepth 100000 in
theorem kd_199 : zkds[199]? = some 1 := rfl
set_option maxRecDepth 100000 in
theorem m_200 : zM 200 = some zi_200 := rfl
set_option maxRecDepth 100000 in
theorem kd_200 : zkds[200]? = some 1 := rfl
set_option maxRecDepth 100000 in
theorem m_201 : zM 201 = some zi_201 := rfl
set_option maxRecDepth 100000 in
theorem kd_201 : zkds[201]? = some 1 := rfl
set_option maxRecDepth 100000 in
theorem m_202 : zM 202 = some zi_202 := rfl
set_option maxRecDepth 100000 in
theorem kd_202 : zkds[202]? = some 1 := rfl
set_option maxRecDepth 100000 in
theorem m_203 : zM 203 = some zi_203 := rfl
set_option maxRecDepth 100000 in
theorem kd_203 : zkds[203]? = some 1 := rfl
set_option maxRecDepth 100000 in
theorem m_204 : zM 204 = some zi_204 := rfl
set_option maxRecDepth 100000 in
theorem kd_204 : zkds[204]? = some 1 := rfl
set_option maxRecDepth 100000 in
theorem m_205 : zM 205 = some zi_205 := rfl
set_option maxRecDepth 100000 in
theorem kd_205 : zkds[205]? = some 1 := rfl
set_option maxRecDepth 100000 in
theorem m_206 : zM 206 = some zi_206 := rfl
set_option maxRecDepth 100000 in
theorem kd_206 : zkds[206]? = some 0 := rfl
set_option maxRecDepth 100000 in
theorem m_207 : zM 207 = some zi_207 := rfl
set_option maxRecDepth 100000 in
theorem kd_207 : zkds[207]? = some 1 := rfl
set_option maxRecDepth 100000 in
theorem m_208 : zM 208 = some zi_208 := rfl
set_option maxRecDepth 100000 in
theorem kd_208 : zkds[208]? = some 1 := rfl
set_option maxRecDepth 100000 in
theorem m_209 : zM 209 = some zi_209 := rfl
set_option maxRecDepth 100000 in
theorem kd_209 : zkds[209]? = some 1 := rfl
set_option maxRecDepth 100000 in
theorem m_210 : zM 210 = some zi_210 := rfl
set_option maxRecDepth 100000 in
theorem kd_210 : zkds[210]? = some 0 := rfl
set_option maxRecDepth 100000 in
theorem m_211 : zM 211 = some zi_211 := rfl
set_option maxRecDepth 100000 in
theorem kd_211 : zkds[211]? = some 1 := rfl
set_option maxRecDepth 100000 in
theorem m_212 : zM 212 = some zi_212 := rfl
set_option maxRecDepth 100000 in
theorem kd_212 : zkds[212]? = some 1 := rfl
set_option maxRecDepth 100000 in
theorem m_213 : zM 213 = some zi_213 := rfl
set_option maxRecDepth 100000 in
theorem kd_213 : zkds[213]? = some 1 := rfl
set_option maxRecDepth 100000 in
theorem m_214 : zM 214 = some zi_214 := rfl
set_option maxRecDepth 100000 in
theorem kd_214 : zkds[214]? = some 1 := rfl
set_option maxRecDepth 100000 in
theorem m_215 : zM 215 = some zi_215 := rfl
set_option maxRecDepth 100000 in
theorem kd_215 : zkds[215]? = some 1 := rfl
set_option maxRecDepth 100000 in
theorem m_216 : zM 216 = some zi_216 := rfl
set_option maxRecDepth 100000 in
theorem kd_216 : zkds[216]? = some 0 := rfl
set_option maxRecDepth 100000 in
theorem m_217 : zM 217 = some zi_217 := rfl
set_option maxRecDepth 100000 in
theorem kd_217 : zkds[217]? = some 1 := rfl
/-- the cells behind the two constructors -/
def zSH : List zSh := [.inl 9, .inl 8, .inr (.int, 24), .inr (.int, 24), .inr (.array .int, 2), .inr (.int, 24), .inr (.int, 24), .inr (.array .int, 2), .inr (.int, 24), .inr (.int, 24), .inr (.int, 24), .inr (.array .int, 2), .inr (.int, 24), .inr (.int, 24), .inl 8, .inr (.int, 24), .inr (.int, 24), .inr (.array .int, 2), .inr (.int, 24), .inr (.int, 24), .inr (.array .int, 2), .inr (.int, 24), .inr (.int, 24), .inr (.int, 24), .inr (.array .int, 2), .inr (.int, 24), .inr (.int, 24), .inl 3, .inr (.int, 8), .inr (.int, 8), .inr (.int, 8), .inl 4, .inr (.int, 120), .inl 2, .inr (.int, 24), .inr (.int, 24), .inr (.int, 1464), .inr (.int, 6), .inl 8, .inr (.int, 24), .inr (.int, 24), .inr (.array .int, 2), .inr (.int, 24), .inr (.int, 24), .inr (.array .int, 2), .inr (.int, 24), .inr (.int, 24), .inr (.int, 24), .inr (.array .int, 2), .inr (.int, 24), .inr (.int, 24), .inl 7, .inl 7, .inl 7, .inl 1, .inr (.int, 160), .inl 0, .inr (.int, 50), .inr (.int, 24), .inr (.object "PalletSky$Shelf", 6), .inl 5, .inr (.int, 121), .inr (.int, 121), .inr (.int, 121), .inl 5, .inr (.int, 121), .inr (.int, 121), .inr (.int, 121), .inl 6, .inr (.long, 60), .inl 6, .inr (.long, 60), .inl 6, .inr (.long, 60), .inl 6, .inr (.long, 60), .inl 6, .inr (.long, 60), .inl 6, .inr (.long, 60), .inl 10, .inr (.int, 84), .inr (.int, 40), .inr (.int, 40), .inr (.int, 40), .inr (.int, 24), .inr (.int, 8), .inr (.int, 8), .inr (.int, 120), .inr (.int, 120), .inr (.int, 6), .inr (.int, 25), .inr (.int, 48), .inr (.int, 24), .inr (.int, 24), .inr (.int, 1464), .inr (.int, 1464), .inr (.int, 6), .inr (.int, 50), .inr (.int, 24), .inr (.int, 6), .inr (.int, 6), .inr (.long, 360), .inr (.long, 60)]
theorem sh_0 : zSH[0]? = some (.inl 9) := rfl
theorem sh_1 : zSH[1]? = some (.inl 8) := rfl
theorem sk_2 : zAk zSH 2 = some .int := rfl
theorem sn_2 : zAn zSH 2 = 24 := rfl
theorem sk_3 : zAk zSH 3 = some .int := rfl
theorem sn_3 : zAn zSH 3 = 24 := rfl
theorem sk_4 : zAk zSH 4 = some (.array .int) := rfl
theorem sn_4 : zAn zSH 4 = 2 := rfl
theorem sk_5 : zAk zSH 5 = some .int := rfl
theorem sn_5 : zAn zSH 5 = 24 := rfl
theorem sk_6 : zAk zSH 6 = some .int := rfl
theorem sn_6 : zAn zSH 6 = 24 := rfl
theorem sk_7 : zAk zSH 7 = some (.array .int) := rfl
theorem sn_7 : zAn zSH 7 = 2 := rfl
theorem sk_8 : zAk zSH 8 = some .int := rfl
theorem sn_8 : zAn zSH 8 = 24 := rfl
theorem sk_9 : zAk zSH 9 = some .int := rfl
theorem sn_9 : zAn zSH 9 = 24 := rfl
theorem sk_10 : zAk zSH 10 = some .int := rfl
theorem sn_10 : zAn zSH 10 = 24 := rfl
theorem sk_11 : zAk zSH 11 = some (.array .int) := rfl
theorem sn_11 : zAn zSH 11 = 2 := rfl
theorem sk_12 : zAk zSH 12 = some .int := rfl
theorem sn_12 : zAn zSH 12 = 24 := rfl
theorem sk_13 : zAk zSH 13 = some .int := rfl
theorem sn_13 : zAn zSH 13 = 24 := rfl
theorem sh_14 : zSH[14]? = some (.inl 8) := rfl
theorem sk_15 : zAk zSH 15 = some .int := rfl
theorem sn_15 : zAn zSH 15 = 24 := rfl
theorem sk_16 : zAk zSH 16 = some .int := rfl
theorem sn_16 : zAn zSH 16 = 24 := rfl
theorem sk_17 : zAk zSH 17 = some (.array .int) := rfl
theorem sn_17 : zAn zSH 17 = 2 := rfl
theorem sk_18 : zAk zSH 18 = some .int := rfl
theorem sn_18 : zAn zSH 18 = 24 := rfl
theorem sk_19 : zAk zSH 19 = some .int := rfl
theorem sn_19 : zAn zSH 19 = 24 := rfl
theorem sk_20 : zAk zSH 20 = some (.array .int) := rfl
theorem sn_20 : zAn zSH 20 = 2 := rfl
theorem sk_21 : zAk zSH 21 = some .int := rfl
theorem sn_21 : zAn zSH 21 = 24 := rfl
theorem sk_22 : zAk zSH 22 = some .int := rfl
theorem sn_22 : zAn zSH 22 = 24 := rfl
theorem sk_23 : zAk zSH 23 = some .int := rfl
theorem sn_23 : zAn zSH 23 = 24 := rfl
theorem sk_24 : zAk zSH 24 = some (.array .int) := rfl
theorem sn_24 : zAn zSH 24 = 2 := rfl
theorem sk_25 : zAk zSH 25 = some .int := rfl
theorem sn_25 : zAn zSH 25 = 24 := rfl
theorem sk_26 : zAk zSH 26 = some .int := rfl
theorem sn_26 : zAn zSH 26 = 24 := rfl
theorem sh_27 : zSH[27]? = some (.inl 3) := rfl
theorem sk_28 : zAk zSH 28 = some .int := rfl
theorem sn_28 : zAn zSH 28 = 8 := rfl
theorem sk_29 : zAk zSH 29 = some .int := rfl
theorem sn_29 : zAn zSH 29 = 8 := rfl
theorem sk_30 : zAk zSH 30 = some .int := rfl
theorem sn_30 : zAn zSH 30 = 8 := rfl
theorem sh_31 : zSH[31]? = some (.inl 4) := rfl
theorem sk_32 : zAk zSH 32 = some .int := rfl
theorem sn_32 : zAn zSH 32 = 120 := rfl
theorem sh_33 : zSH[33]? = some (.inl 2) := rfl
theorem sk_34 : zAk zSH 34 = some .int := rfl
theorem sn_34 : zAn zSH 34 = 24 := rfl
theorem sk_35 : zAk zSH 35 = some .int := rfl
theorem sn_35 : zAn zSH 35 = 24 := rfl
theorem sk_36 : zAk zSH 36 = some .int := rfl
theorem sn_36 : zAn zSH 36 = 1464 := rfl
theorem sk_37 : zAk zSH 37 = some .int := rfl
theorem sn_37 : zAn zSH 37 = 6 := rfl
theorem sh_38 : zSH[38]? = some (.inl 8) := rfl
theorem sk_39 : zAk zSH 39 = some .int := rfl
theorem sn_39 : zAn zSH 39 = 24 := rfl
theorem sk_40 : zAk zSH 40 = some .int := rfl
theorem sn_40 : zAn zSH 40 = 24 := rfl
theorem sk_41 : zAk zSH 41 = some (.array .int) := rfl
theorem sn_41 : zAn zSH 41 = 2 := rfl
theorem sk_42 : zAk zSH 42 = some .int := rfl
theorem sn_42 : zAn zSH 42 = 24 := rfl
theorem sk_43 : zAk zSH 43 = some .int := rfl
theorem sn_43 : zAn zSH 43 = 24 := rfl
theorem sk_44 : zAk zSH 44 = some (.array .int) := rfl
theorem sn_44 : zAn zSH 44 = 2 := rfl
theorem sk_45 : zAk zSH 45 = some .int := rfl
theorem sn_45 : zAn zSH 45 = 24 := rfl
theorem sk_46 : zAk zSH 46 = some .int := rfl
theorem sn_46 : zAn zSH 46 = 24 := rfl
theorem sk_47 : zAk zSH 47 = some .int := rfl
theorem sn_47 : zAn zSH 47 = 24 := rfl
theorem sk_48 : zAk zSH 48 = some (.array .int) := rfl
theorem sn_48 : zAn zSH 48 = 2 := rfl
theorem sk_49 : zAk zSH 49 = some .int := rfl
theorem sn_49 : zAn zSH 49 = 24 := rfl
theorem sk_50 : zAk zSH 50 = some .int := rfl
theorem sn_50 : zAn zSH 50 = 24 := rfl
theorem sh_51 : zSH[51]? = some (.inl 7) := rfl
theorem sh_52 : zSH[52]? = some (.inl 7) := rfl
theorem sh_53 : zSH[53]? = some (.inl 7) := rfl
theorem sh_54 : zSH[54]? = some (.inl 1) := rfl
theorem sk_55 : zAk zSH 55 = some .int := rfl
theorem sn_55 : zAn zSH 55 = 160 := rfl
theorem sh_56 : zSH[56]? = some (.inl 0) := rfl
theorem sk_57 : zAk zSH 57 = some .int := rfl
theorem sn_57 : zAn zSH 57 = 50 := rfl
theorem sk_58 : zAk zSH 58 = some .int := rfl
theorem sn_58 : zAn zSH 58 = 24 := rfl
theorem sk_59 : zAk zSH 59 = some (.object "PalletSky$Shelf") := rfl
theorem sn_59 : zAn zSH 59 = 6 := rfl
theorem sh_60 : zSH[60]? = some (.inl 5) := rfl
theorem sk_61 : zAk zSH 61 = some .int := rfl
theorem sn_61 : zAn zSH 61 = 121 := rfl
theorem sk_62 : zAk zSH 62 = some .int := rfl
theorem sn_62 : zAn zSH 62 = 121 := rfl
theorem sk_63 : zAk zSH 63 = some .int := rfl
theorem sn_63 : zAn zSH 63 = 121 := rfl
theorem sh_64 : zSH[64]? = some (.inl 5) := rfl
theorem sk_65 : zAk zSH 65 = some .int := rfl
theorem sn_65 : zAn zSH 65 = 121 := rfl
theorem sk_66 : zAk zSH 66 = some .int := rfl
theorem sn_66 : zAn zSH 66 = 121 := rfl
theorem sk_67 : zAk zSH 67 = some .int := rfl
theorem sn_67 : zAn zSH 67 = 121 := rfl
theorem sh_68 : zSH[68]? = some (.inl 6) := rfl
theorem sk_69 : zAk zSH 69 = some .long := rfl
theorem sn_69 : zAn zSH 69 = 60 := rfl
theorem sh_70 : zSH[70]? = some (.inl 6) := rfl
theorem sk_71 : zAk zSH 71 = some .long := rfl
theorem sn_71 : zAn zSH 71 = 60 := rfl
theorem sh_72 : zSH[72]? = some (.inl 6) := rfl
theorem sk_73 : zAk zSH 73 = some .long := rfl
theorem sn_73 : zAn zSH 73 = 60 := rfl
theorem sh_74 : zSH[74]? = some (.inl 6) := rfl
theorem sk_75 : zAk zSH 75 = some .long := rfl
theorem sn_75 : zAn zSH 75 = 60 := rfl
theorem sh_76 : zSH[76]? = some (.inl 6) := rfl
theorem sk_77 : zAk zSH 77 = some .long := rfl
theorem sn_77 : zAn zSH 77 = 60 := rfl
theorem sh_78 : zSH[78]? = some (.inl 6) := rfl
theorem sk_79 : zAk zSH 79 = some .long := rfl
theorem sn_79 : zAn zSH 79 = 60 := rfl
theorem sh_80 : zSH[80]? = some (.inl 10) := rfl
theorem sk_81 : zAk zSH 81 = some .int := rfl
theorem sn_81 : zAn zSH 81 = 84 := rfl
theorem sk_82 : zAk zSH 82 = some .int := rfl
theorem sn_82 : zAn zSH 82 = 40 := rfl
theorem sk_83 : zAk zSH 83 = some .int := rfl
theorem sn_83 : zAn zSH 83 = 40 := rfl
theorem sk_84 : zAk zSH 84 = some .int := rfl
theorem sn_84 : zAn zSH 84 = 40 := rfl
theorem sk_85 : zAk zSH 85 = some .int := rfl
theorem sn_85 : zAn zSH 85 = 24 := rfl
theorem sk_86 : zAk zSH 86 = some .int := rfl
theorem sn_86 : zAn zSH 86 = 8 := rfl
theorem sk_87 : zAk zSH 87 = some .int := rfl
theorem sn_87 : zAn zSH 87 = 8 := rfl
theorem sk_88 : zAk zSH 88 = some .int := rfl
theorem sn_88 : zAn zSH 88 = 120 := rfl
theorem sk_89 : zAk zSH 89 = some .int := rfl
theorem sn_89 : zAn zSH 89 = 120 := rfl
theorem sk_90 : zAk zSH 90 = some .int := rfl
theorem sn_90 : zAn zSH 90 = 6 := rfl
theorem sk_91 : zAk zSH 91 = some .int := rfl
theorem sn_91 : zAn zSH 91 = 25 := rfl
theorem sk_92 : zAk zSH 92 = some .int := rfl
theorem sn_92 : zAn zSH 92 = 48 := rfl
theorem sk_93 : zAk zSH 93 = some .int := rfl
theorem sn_93 : zAn zSH 93 = 24 := rfl
theorem sk_94 : zAk zSH 94 = some .int := rfl
theorem sn_94 : zAn zSH 94 = 24 := rfl
theorem sk_95 : zAk zSH 95 = some .int := rfl
theorem sn_95 : zAn zSH 95 = 1464 := rfl
theorem sk_96 : zAk zSH 96 = some .int := rfl
theorem sn_96 : zAn zSH 96 = 1464 := rfl
theorem sk_97 : zAk zSH 97 = some .int := rfl
theorem sn_97 : zAn zSH 97 = 6 := rfl
theorem sk_98 : zAk zSH 98 = some .int := rfl
theorem sn_98 : zAn zSH 98 = 50 := rfl
theorem sk_99 : zAk zSH 99 = some .int := rfl
theorem sn_99 : zAn zSH 99 = 24 := rfl
theorem sk_100 : zAk zSH 100 = some .int := rfl
theorem sn_100 : zAn zSH 100 = 6 := rfl
theorem sk_101 : zAk zSH 101 = some .int := rfl
theorem sn_101 : zAn zSH 101 = 6 := rfl
theorem sk_102 : zAk zSH 102 = some .long := rfl
theorem sn_102 : zAn zSH 102 = 360 := rfl
theorem sk_103 : zAk zSH 103 = some .long := rfl
theorem sn_103 : zAn zSH 103 = 60 := rfl
