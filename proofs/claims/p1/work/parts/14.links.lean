set_option maxRecDepth 100000 in
theorem f_0_15 : am_fld 0 15 = some (0, 0) := by decide +kernel
set_option maxRecDepth 100000 in
theorem f_0_19 : am_fld 0 19 = some (0, 1) := by decide +kernel
set_option maxRecDepth 100000 in
theorem f_0_22 : am_fld 0 22 = some (0, 2) := by decide +kernel
set_option maxRecDepth 100000 in
theorem f_0_30 : am_fld 0 30 = some (0, 3) := by decide +kernel
set_option maxRecDepth 100000 in
theorem f_0_34 : am_fld 0 34 = some (0, 8) := by decide +kernel
set_option maxRecDepth 100000 in
theorem f_0_37 : am_fld 0 37 = some (0, 9) := by decide +kernel
set_option maxRecDepth 100000 in
theorem f_0_40 : am_fld 0 40 = some (0, 4) := by decide +kernel
set_option maxRecDepth 100000 in
theorem f_0_44 : am_fld 0 44 = some (0, 5) := by decide +kernel
set_option maxRecDepth 100000 in
theorem f_0_47 : am_fld 0 47 = some (0, 6) := by decide +kernel
set_option maxRecDepth 100000 in
theorem f_0_50 : am_fld 0 50 = some (0, 7) := by decide +kernel
set_option maxRecDepth 100000 in
theorem f_0_85 : am_fld 0 85 = some (4, 1) := by decide +kernel
set_option maxRecDepth 100000 in
theorem f_0_88 : am_fld 0 88 = some (4, 0) := by decide +kernel
set_option maxRecDepth 100000 in
theorem f_0_102 : am_fld 0 102 = some (4, 2) := by decide +kernel
set_option maxRecDepth 100000 in
theorem f_1_12 : am_fld 1 12 = some (1, 0) := by decide +kernel
set_option maxRecDepth 100000 in
theorem f_1_25 : am_fld 1 25 = some (1, 1) := by decide +kernel
set_option maxRecDepth 100000 in
theorem f_1_29 : am_fld 1 29 = some (1, 2) := by decide +kernel
set_option maxRecDepth 100000 in
theorem f_1_32 : am_fld 1 32 = some (1, 3) := by decide +kernel
set_option maxRecDepth 100000 in
theorem f_1_35 : am_fld 1 35 = some (1, 4) := by decide +kernel
set_option maxRecDepth 100000 in
theorem f_1_39 : am_fld 1 39 = some (2, 0) := by decide +kernel
set_option maxRecDepth 100000 in
theorem f_1_43 : am_fld 1 43 = some (1, 5) := by decide +kernel
set_option maxRecDepth 100000 in
theorem f_1_44 : am_fld 1 44 = some (1, 6) := by decide +kernel
set_option maxRecDepth 100000 in
theorem f_1_48 : am_fld 1 48 = some (1, 7) := by decide +kernel
set_option maxRecDepth 100000 in
theorem f_1_52 : am_fld 1 52 = some (1, 8) := by decide +kernel
set_option maxRecDepth 100000 in
theorem f_1_55 : am_fld 1 55 = some (1, 9) := by decide +kernel
set_option maxRecDepth 100000 in
theorem f_1_69 : am_fld 1 69 = some (5, 0) := by decide +kernel
set_option maxRecDepth 100000 in
theorem f_1_74 : am_fld 1 74 = some (5, 3) := by decide +kernel
set_option maxRecDepth 100000 in
theorem f_1_78 : am_fld 1 78 = some (5, 1) := by decide +kernel
set_option maxRecDepth 100000 in
theorem f_1_82 : am_fld 1 82 = some (4, 1) := by decide +kernel
set_option maxRecDepth 100000 in
theorem f_1_101 : am_fld 1 101 = some (4, 0) := by decide +kernel
set_option maxRecDepth 100000 in
theorem f_1_112 : am_fld 1 112 = some (2, 3) := by decide +kernel
set_option maxRecDepth 100000 in
theorem f_1_115 : am_fld 1 115 = some (8, 6) := by decide +kernel
set_option maxRecDepth 100000 in
theorem f_1_119 : am_fld 1 119 = some (8, 1) := by decide +kernel
set_option maxRecDepth 100000 in
theorem f_1_122 : am_fld 1 122 = some (8, 0) := by decide +kernel
set_option maxRecDepth 100000 in
theorem f_1_131 : am_fld 1 131 = some (8, 5) := by decide +kernel
set_option maxRecDepth 100000 in
theorem f_1_135 : am_fld 1 135 = some (8, 7) := by decide +kernel
set_option maxRecDepth 100000 in
theorem f_1_138 : am_fld 1 138 = some (4, 2) := by decide +kernel
set_option maxRecDepth 100000 in
theorem f_1_141 : am_fld 1 141 = some (0, 7) := by decide +kernel
set_option maxRecDepth 100000 in
theorem f_1_142 : am_fld 1 142 = some (0, 3) := by decide +kernel
set_option maxRecDepth 100000 in
theorem f_1_148 : am_fld 1 148 = some (2, 7) := by decide +kernel
set_option maxRecDepth 100000 in
theorem f_1_151 : am_fld 1 151 = some (2, 2) := by decide +kernel
set_option maxRecDepth 100000 in
theorem f_1_158 : am_fld 1 158 = some (2, 6) := by decide +kernel
set_option maxRecDepth 100000 in
theorem f_1_161 : am_fld 1 161 = some (2, 4) := by decide +kernel
set_option maxRecDepth 100000 in
theorem f_1_164 : am_fld 1 164 = some (0, 4) := by decide +kernel
set_option maxRecDepth 100000 in
theorem f_1_169 : am_fld 1 169 = some (8, 2) := by decide +kernel
set_option maxRecDepth 100000 in
theorem f_1_192 : am_fld 1 192 = some (8, 4) := by decide +kernel
set_option maxRecDepth 100000 in
theorem f_1_205 : am_fld 1 205 = some (8, 3) := by decide +kernel
set_option maxRecDepth 100000 in
theorem f_2_12 : am_fld 2 12 = some (2, 0) := by decide +kernel
set_option maxRecDepth 100000 in
theorem f_2_18 : am_fld 2 18 = some (2, 1) := by decide +kernel
set_option maxRecDepth 100000 in
theorem f_2_27 : am_fld 2 27 = some (2, 2) := by decide +kernel
set_option maxRecDepth 100000 in
theorem f_2_31 : am_fld 2 31 = some (2, 3) := by decide +kernel
set_option maxRecDepth 100000 in
theorem f_2_35 : am_fld 2 35 = some (2, 4) := by decide +kernel
set_option maxRecDepth 100000 in
theorem f_2_38 : am_fld 2 38 = some (2, 5) := by decide +kernel
set_option maxRecDepth 100000 in
theorem f_2_41 : am_fld 2 41 = some (2, 6) := by decide +kernel
set_option maxRecDepth 100000 in
theorem f_2_44 : am_fld 2 44 = some (2, 7) := by decide +kernel
set_option maxRecDepth 100000 in
theorem f_2_48 : am_fld 2 48 = some (2, 8) := by decide +kernel
set_option maxRecDepth 100000 in
theorem f_2_55 : am_fld 2 55 = some (0, 4) := by decide +kernel
set_option maxRecDepth 100000 in
theorem f_3_11 : am_fld 3 11 = some (3, 3) := by decide +kernel
set_option maxRecDepth 100000 in
theorem f_3_15 : am_fld 3 15 = some (3, 4) := by decide +kernel
set_option maxRecDepth 100000 in
theorem f_3_23 : am_fld 3 23 = some (3, 1) := by decide +kernel
set_option maxRecDepth 100000 in
theorem f_3_27 : am_fld 3 27 = some (3, 2) := by decide +kernel
set_option maxRecDepth 100000 in
theorem f_3_30 : am_fld 3 30 = some (3, 0) := by decide +kernel
set_option maxRecDepth 100000 in
theorem f_3_34 : am_fld 3 34 = some (3, 5) := by decide +kernel
set_option maxRecDepth 100000 in
theorem f_3_37 : am_fld 3 37 = some (3, 6) := by decide +kernel
set_option maxRecDepth 100000 in
theorem f_3_40 : am_fld 3 40 = some (3, 7) := by decide +kernel
set_option maxRecDepth 100000 in
theorem f_3_43 : am_fld 3 43 = some (3, 8) := by decide +kernel
set_option maxRecDepth 100000 in
theorem f_3_47 : am_fld 3 47 = some (3, 9) := by decide +kernel
set_option maxRecDepth 100000 in
theorem f_3_55 : am_fld 3 55 = some (7, 1) := by decide +kernel
set_option maxRecDepth 100000 in
theorem f_4_9 : am_fld 4 9 = some (4, 0) := by decide +kernel
set_option maxRecDepth 100000 in
theorem f_4_15 : am_fld 4 15 = some (4, 1) := by decide +kernel
set_option maxRecDepth 100000 in
theorem f_4_19 : am_fld 4 19 = some (4, 2) := by decide +kernel
set_option maxRecDepth 100000 in
theorem f_5_13 : am_fld 5 13 = some (5, 1) := by decide +kernel
set_option maxRecDepth 100000 in
theorem f_5_17 : am_fld 5 17 = some (5, 2) := by decide +kernel
set_option maxRecDepth 100000 in
theorem f_5_22 : am_fld 5 22 = some (5, 3) := by decide +kernel
set_option maxRecDepth 100000 in
theorem f_5_28 : am_fld 5 28 = some (5, 4) := by decide +kernel
set_option maxRecDepth 100000 in
theorem f_5_36 : am_fld 5 36 = some (5, 0) := by decide +kernel
set_option maxRecDepth 100000 in
theorem f_6_13 : am_fld 6 13 = some (6, 0) := by decide +kernel
set_option maxRecDepth 100000 in
theorem f_6_17 : am_fld 6 17 = some (6, 2) := by decide +kernel
set_option maxRecDepth 100000 in
theorem f_6_20 : am_fld 6 20 = some (6, 3) := by decide +kernel
set_option maxRecDepth 100000 in
theorem f_6_23 : am_fld 6 23 = some (6, 4) := by decide +kernel
set_option maxRecDepth 100000 in
theorem f_6_26 : am_fld 6 26 = some (6, 1) := by decide +kernel
set_option maxRecDepth 100000 in
theorem f_6_60 : am_fld 6 60 = some (4, 1) := by decide +kernel
set_option maxRecDepth 100000 in
theorem f_6_61 : am_fld 6 61 = some (4, 0) := by decide +kernel
set_option maxRecDepth 100000 in
theorem f_7_11 : am_fld 7 11 = some (7, 2) := by decide +kernel
set_option maxRecDepth 100000 in
theorem f_7_17 : am_fld 7 17 = some (7, 3) := by decide +kernel
set_option maxRecDepth 100000 in
theorem f_7_20 : am_fld 7 20 = some (7, 4) := by decide +kernel
set_option maxRecDepth 100000 in
theorem f_7_23 : am_fld 7 23 = some (7, 5) := by decide +kernel
set_option maxRecDepth 100000 in
theorem f_7_26 : am_fld 7 26 = some (7, 6) := by decide +kernel
set_option maxRecDepth 100000 in
theorem f_7_34 : am_fld 7 34 = some (7, 1) := by decide +kernel
set_option maxRecDepth 100000 in
theorem f_7_38 : am_fld 7 38 = some (7, 0) := by decide +kernel
set_option maxRecDepth 100000 in
theorem f_7_42 : am_fld 7 42 = some (7, 7) := by decide +kernel
set_option maxRecDepth 100000 in
theorem f_7_45 : am_fld 7 45 = some (7, 8) := by decide +kernel
set_option maxRecDepth 100000 in
theorem f_7_58 : am_fld 7 58 = some (4, 1) := by decide +kernel
set_option maxRecDepth 100000 in
theorem f_7_68 : am_fld 7 68 = some (4, 0) := by decide +kernel
set_option maxRecDepth 100000 in
theorem f_8_13 : am_fld 8 13 = some (8, 8) := by decide +kernel
set_option maxRecDepth 100000 in
theorem f_8_22 : am_fld 8 22 = some (8, 7) := by decide +kernel
set_option maxRecDepth 100000 in
theorem f_8_26 : am_fld 8 26 = some (8, 0) := by decide +kernel
set_option maxRecDepth 100000 in
theorem f_8_30 : am_fld 8 30 = some (8, 1) := by decide +kernel
set_option maxRecDepth 100000 in
theorem f_8_33 : am_fld 8 33 = some (8, 2) := by decide +kernel
set_option maxRecDepth 100000 in
theorem f_8_36 : am_fld 8 36 = some (8, 3) := by decide +kernel
set_option maxRecDepth 100000 in
theorem f_8_39 : am_fld 8 39 = some (8, 4) := by decide +kernel
set_option maxRecDepth 100000 in
theorem f_8_42 : am_fld 8 42 = some (8, 6) := by decide +kernel
set_option maxRecDepth 100000 in
theorem f_8_45 : am_fld 8 45 = some (8, 5) := by decide +kernel
set_option maxRecDepth 100000 in
theorem f_8_52 : am_fld 8 52 = some (4, 1) := by decide +kernel
set_option maxRecDepth 100000 in
theorem f_9_13 : am_fld 9 13 = some (9, 0) := by decide +kernel
set_option maxRecDepth 100000 in
theorem f_9_17 : am_fld 9 17 = some (9, 1) := by decide +kernel
set_option maxRecDepth 100000 in
theorem f_9_20 : am_fld 9 20 = some (9, 2) := by decide +kernel
set_option maxRecDepth 100000 in
theorem f_9_23 : am_fld 9 23 = some (9, 3) := by decide +kernel
set_option maxRecDepth 100000 in
theorem f_9_26 : am_fld 9 26 = some (9, 4) := by decide +kernel
set_option maxRecDepth 100000 in
theorem f_9_29 : am_fld 9 29 = some (9, 6) := by decide +kernel
set_option maxRecDepth 100000 in
theorem f_9_32 : am_fld 9 32 = some (9, 7) := by decide +kernel
set_option maxRecDepth 100000 in
theorem f_9_35 : am_fld 9 35 = some (9, 8) := by decide +kernel
set_option maxRecDepth 100000 in
theorem f_9_38 : am_fld 9 38 = some (9, 5) := by decide +kernel
set_option maxRecDepth 100000 in
theorem f_9_42 : am_fld 9 42 = some (9, 9) := by decide +kernel
set_option maxRecDepth 100000 in
theorem f_10_12 : am_fld 10 12 = some (10, 2) := by decide +kernel
set_option maxRecDepth 100000 in
theorem f_10_18 : am_fld 10 18 = some (10, 3) := by decide +kernel
set_option maxRecDepth 100000 in
theorem f_10_22 : am_fld 10 22 = some (10, 0) := by decide +kernel
set_option maxRecDepth 100000 in
theorem f_10_26 : am_fld 10 26 = some (10, 1) := by decide +kernel
set_option maxRecDepth 100000 in
theorem f_10_29 : am_fld 10 29 = some (10, 4) := by decide +kernel
set_option maxRecDepth 100000 in
theorem f_10_32 : am_fld 10 32 = some (10, 5) := by decide +kernel
set_option maxRecDepth 100000 in
theorem f_10_36 : am_fld 10 36 = some (10, 6) := by decide +kernel
set_option maxRecDepth 100000 in
theorem f_10_40 : am_fld 10 40 = some (10, 7) := by decide +kernel
set_option maxRecDepth 100000 in
theorem f_10_43 : am_fld 10 43 = some (10, 8) := by decide +kernel
set_option maxRecDepth 100000 in
theorem f_10_46 : am_fld 10 46 = some (10, 9) := by decide +kernel
set_option maxRecDepth 100000 in
theorem f_10_49 : am_fld 10 49 = some (10, 10) := by decide +kernel
set_option maxRecDepth 100000 in
theorem f_10_88 : am_fld 10 88 = some (5, 4) := by decide +kernel
set_option maxRecDepth 100000 in
theorem f_11_10 : am_fld 11 10 = some (11, 7) := by decide +kernel
set_option maxRecDepth 100000 in
theorem f_11_16 : am_fld 11 16 = some (11, 8) := by decide +kernel
set_option maxRecDepth 100000 in
theorem f_11_22 : am_fld 11 22 = some (11, 1) := by decide +kernel
set_option maxRecDepth 100000 in
theorem f_11_29 : am_fld 11 29 = some (11, 5) := by decide +kernel
set_option maxRecDepth 100000 in
theorem f_11_33 : am_fld 11 33 = some (11, 6) := by decide +kernel
set_option maxRecDepth 100000 in
theorem f_11_41 : am_fld 11 41 = some (11, 0) := by decide +kernel
set_option maxRecDepth 100000 in
theorem f_11_50 : am_fld 11 50 = some (11, 2) := by decide +kernel
set_option maxRecDepth 100000 in
theorem f_11_59 : am_fld 11 59 = some (11, 3) := by decide +kernel
set_option maxRecDepth 100000 in
theorem f_11_66 : am_fld 11 66 = some (11, 4) := by decide +kernel
set_option maxRecDepth 100000 in
theorem f_11_70 : am_fld 11 70 = some (11, 9) := by decide +kernel
set_option maxRecDepth 100000 in
theorem f_11_74 : am_fld 11 74 = some (11, 10) := by decide +kernel
set_option maxRecDepth 100000 in
theorem f_11_78 : am_fld 11 78 = some (11, 11) := by decide +kernel
set_option maxRecDepth 100000 in
theorem f_11_86 : am_fld 11 86 = some (3, 0) := by decide +kernel
set_option maxRecDepth 100000 in
theorem f_11_111 : am_fld 11 111 = some (3, 1) := by decide +kernel
set_option maxRecDepth 100000 in
theorem f_11_115 : am_fld 11 115 = some (3, 2) := by decide +kernel
set_option maxRecDepth 100000 in
theorem f_11_122 : am_fld 11 122 = some (2, 4) := by decide +kernel
set_option maxRecDepth 100000 in
theorem f_11_131 : am_fld 11 131 = some (2, 3) := by decide +kernel
set_option maxRecDepth 100000 in
theorem f_11_134 : am_fld 11 134 = some (2, 2) := by decide +kernel
set_option maxRecDepth 100000 in
theorem f_11_137 : am_fld 11 137 = some (2, 0) := by decide +kernel
set_option maxRecDepth 100000 in
theorem f_11_141 : am_fld 11 141 = some (0, 5) := by decide +kernel
set_option maxRecDepth 100000 in
theorem f_11_146 : am_fld 11 146 = some (0, 6) := by decide +kernel
set_option maxRecDepth 100000 in
theorem f_11_149 : am_fld 11 149 = some (0, 4) := by decide +kernel
set_option maxRecDepth 100000 in
theorem f_11_152 : am_fld 11 152 = some (2, 5) := by decide +kernel
set_option maxRecDepth 100000 in
theorem f_11_155 : am_fld 11 155 = some (2, 6) := by decide +kernel
set_option maxRecDepth 100000 in
theorem f_11_162 : am_fld 11 162 = some (4, 1) := by decide +kernel
set_option maxRecDepth 100000 in
theorem f_11_165 : am_fld 11 165 = some (4, 0) := by decide +kernel
set_option maxRecDepth 100000 in
theorem f_11_179 : am_fld 11 179 = some (2, 1) := by decide +kernel
set_option maxRecDepth 100000 in
theorem f_11_182 : am_fld 11 182 = some (0, 0) := by decide +kernel
set_option maxRecDepth 100000 in
theorem f_11_185 : am_fld 11 185 = some (0, 1) := by decide +kernel
set_option maxRecDepth 100000 in
theorem f_11_191 : am_fld 11 191 = some (0, 2) := by decide +kernel
set_option maxRecDepth 100000 in
theorem f_11_194 : am_fld 11 194 = some (0, 3) := by decide +kernel
set_option maxRecDepth 100000 in
theorem f_11_212 : am_fld 11 212 = some (2, 8) := by decide +kernel
set_option maxRecDepth 100000 in
theorem f_11_214 : am_fld 11 214 = some (5, 0) := by decide +kernel
set_option maxRecDepth 100000 in
theorem f_11_218 : am_fld 11 218 = some (5, 3) := by decide +kernel
set_option maxRecDepth 100000 in
theorem f_11_221 : am_fld 11 221 = some (5, 1) := by decide +kernel
set_option maxRecDepth 100000 in
theorem f_11_224 : am_fld 11 224 = some (5, 2) := by decide +kernel
set_option maxRecDepth 100000 in
theorem f_11_227 : am_fld 11 227 = some (5, 4) := by decide +kernel
set_option maxRecDepth 100000 in
theorem f_11_231 : am_fld 11 231 = some (7, 0) := by decide +kernel
set_option maxRecDepth 100000 in
theorem f_11_235 : am_fld 11 235 = some (10, 0) := by decide +kernel
set_option maxRecDepth 100000 in
theorem f_11_238 : am_fld 11 238 = some (10, 1) := by decide +kernel
set_option maxRecDepth 100000 in
theorem f_12_9 : am_fld 12 9 = some (12, 1) := by decide +kernel
set_option maxRecDepth 100000 in
theorem f_12_13 : am_fld 12 13 = some (12, 5) := by decide +kernel
set_option maxRecDepth 100000 in
theorem f_12_17 : am_fld 12 17 = some (12, 7) := by decide +kernel
set_option maxRecDepth 100000 in
theorem f_12_20 : am_fld 12 20 = some (12, 8) := by decide +kernel
set_option maxRecDepth 100000 in
theorem f_12_24 : am_fld 12 24 = some (12, 11) := by decide +kernel
set_option maxRecDepth 100000 in
theorem f_12_27 : am_fld 12 27 = some (12, 12) := by decide +kernel
set_option maxRecDepth 100000 in
theorem f_12_30 : am_fld 12 30 = some (12, 13) := by decide +kernel
set_option maxRecDepth 100000 in
theorem f_12_33 : am_fld 12 33 = some (12, 17) := by decide +kernel
set_option maxRecDepth 100000 in
theorem f_12_36 : am_fld 12 36 = some (12, 18) := by decide +kernel
set_option maxRecDepth 100000 in
theorem f_12_39 : am_fld 12 39 = some (12, 19) := by decide +kernel
set_option maxRecDepth 100000 in
theorem f_12_42 : am_fld 12 42 = some (12, 20) := by decide +kernel
set_option maxRecDepth 100000 in
theorem f_12_45 : am_fld 12 45 = some (12, 24) := by decide +kernel
set_option maxRecDepth 100000 in
theorem f_12_48 : am_fld 12 48 = some (12, 34) := by decide +kernel
set_option maxRecDepth 100000 in
theorem f_12_51 : am_fld 12 51 = some (12, 41) := by decide +kernel
set_option maxRecDepth 100000 in
theorem f_12_55 : am_fld 12 55 = some (12, 44) := by decide +kernel
set_option maxRecDepth 100000 in
theorem f_12_58 : am_fld 12 58 = some (12, 45) := by decide +kernel
set_option maxRecDepth 100000 in
theorem f_12_61 : am_fld 12 61 = some (12, 46) := by decide +kernel
set_option maxRecDepth 100000 in
theorem f_12_64 : am_fld 12 64 = some (12, 47) := by decide +kernel
set_option maxRecDepth 100000 in
theorem f_12_67 : am_fld 12 67 = some (12, 51) := by decide +kernel
set_option maxRecDepth 100000 in
theorem f_12_71 : am_fld 12 71 = some (12, 52) := by decide +kernel
set_option maxRecDepth 100000 in
theorem f_12_74 : am_fld 12 74 = some (12, 53) := by decide +kernel
set_option maxRecDepth 100000 in
theorem f_12_77 : am_fld 12 77 = some (12, 54) := by decide +kernel
set_option maxRecDepth 100000 in
theorem f_12_80 : am_fld 12 80 = some (12, 59) := by decide +kernel
set_option maxRecDepth 100000 in
theorem f_12_83 : am_fld 12 83 = some (12, 60) := by decide +kernel
set_option maxRecDepth 100000 in
theorem f_12_86 : am_fld 12 86 = some (12, 61) := by decide +kernel
set_option maxRecDepth 100000 in
theorem f_12_89 : am_fld 12 89 = some (12, 62) := by decide +kernel
set_option maxRecDepth 100000 in
theorem f_12_92 : am_fld 12 92 = some (12, 63) := by decide +kernel
set_option maxRecDepth 100000 in
theorem f_12_95 : am_fld 12 95 = some (12, 64) := by decide +kernel
set_option maxRecDepth 100000 in
theorem f_12_98 : am_fld 12 98 = some (12, 65) := by decide +kernel
set_option maxRecDepth 100000 in
theorem f_12_101 : am_fld 12 101 = some (12, 66) := by decide +kernel
set_option maxRecDepth 100000 in
theorem f_12_104 : am_fld 12 104 = some (12, 67) := by decide +kernel
set_option maxRecDepth 100000 in
theorem f_12_107 : am_fld 12 107 = some (12, 68) := by decide +kernel
set_option maxRecDepth 100000 in
theorem f_12_110 : am_fld 12 110 = some (12, 69) := by decide +kernel
set_option maxRecDepth 100000 in
theorem f_12_113 : am_fld 12 113 = some (12, 0) := by decide +kernel
set_option maxRecDepth 100000 in
theorem f_12_116 : am_fld 12 116 = some (12, 2) := by decide +kernel
set_option maxRecDepth 100000 in
theorem f_12_127 : am_fld 12 127 = some (12, 3) := by decide +kernel
set_option maxRecDepth 100000 in
theorem f_12_134 : am_fld 12 134 = some (12, 4) := by decide +kernel
set_option maxRecDepth 100000 in
theorem f_12_137 : am_fld 12 137 = some (12, 6) := by decide +kernel
set_option maxRecDepth 100000 in
theorem f_12_160 : am_fld 12 160 = some (12, 9) := by decide +kernel
set_option maxRecDepth 100000 in
theorem f_12_188 : am_fld 12 188 = some (12, 10) := by decide +kernel
set_option maxRecDepth 100000 in
theorem f_12_209 : am_fld 12 209 = some (12, 14) := by decide +kernel
set_option maxRecDepth 100000 in
theorem f_12_212 : am_fld 12 212 = some (12, 16) := by decide +kernel
set_option maxRecDepth 100000 in
theorem f_12_219 : am_fld 12 219 = some (12, 15) := by decide +kernel
set_option maxRecDepth 100000 in
theorem f_12_249 : am_fld 12 249 = some (12, 21) := by decide +kernel
set_option maxRecDepth 100000 in
theorem f_12_252 : am_fld 12 252 = some (12, 22) := by decide +kernel
set_option maxRecDepth 100000 in
theorem f_12_258 : am_fld 12 258 = some (12, 23) := by decide +kernel
set_option maxRecDepth 100000 in
theorem f_12_264 : am_fld 12 264 = some (12, 29) := by decide +kernel
set_option maxRecDepth 100000 in
theorem f_12_273 : am_fld 12 273 = some (12, 25) := by decide +kernel
set_option maxRecDepth 100000 in
theorem f_12_279 : am_fld 12 279 = some (12, 30) := by decide +kernel
set_option maxRecDepth 100000 in
theorem f_12_282 : am_fld 12 282 = some (12, 31) := by decide +kernel
set_option maxRecDepth 100000 in
theorem f_12_285 : am_fld 12 285 = some (12, 26) := by decide +kernel
set_option maxRecDepth 100000 in
theorem f_12_288 : am_fld 12 288 = some (12, 27) := by decide +kernel
set_option maxRecDepth 100000 in
theorem f_12_291 : am_fld 12 291 = some (12, 28) := by decide +kernel
set_option maxRecDepth 100000 in
theorem f_12_294 : am_fld 12 294 = some (12, 32) := by decide +kernel
set_option maxRecDepth 100000 in
theorem f_12_297 : am_fld 12 297 = some (12, 33) := by decide +kernel
set_option maxRecDepth 100000 in
theorem f_12_336 : am_fld 12 336 = some (12, 35) := by decide +kernel
set_option maxRecDepth 100000 in
theorem f_12_408 : am_fld 12 408 = some (12, 48) := by decide +kernel
set_option maxRecDepth 100000 in
theorem f_12_411 : am_fld 12 411 = some (12, 49) := by decide +kernel
set_option maxRecDepth 100000 in
theorem f_12_414 : am_fld 12 414 = some (12, 43) := by decide +kernel
set_option maxRecDepth 100000 in
theorem f_12_425 : am_fld 12 425 = some (12, 42) := by decide +kernel
set_option maxRecDepth 100000 in
theorem f_12_428 : am_fld 12 428 = some (12, 40) := by decide +kernel
set_option maxRecDepth 100000 in
theorem f_12_431 : am_fld 12 431 = some (12, 36) := by decide +kernel
set_option maxRecDepth 100000 in
theorem f_12_435 : am_fld 12 435 = some (12, 38) := by decide +kernel
set_option maxRecDepth 100000 in
theorem f_12_441 : am_fld 12 441 = some (12, 50) := by decide +kernel
set_option maxRecDepth 100000 in
theorem f_12_444 : am_fld 12 444 = some (12, 39) := by decide +kernel
set_option maxRecDepth 100000 in
theorem f_12_447 : am_fld 12 447 = some (12, 37) := by decide +kernel
set_option maxRecDepth 100000 in
theorem f_12_456 : am_fld 12 456 = some (12, 55) := by decide +kernel
set_option maxRecDepth 100000 in
theorem f_12_462 : am_fld 12 462 = some (12, 56) := by decide +kernel
set_option maxRecDepth 100000 in
theorem f_12_468 : am_fld 12 468 = some (12, 57) := by decide +kernel
set_option maxRecDepth 100000 in
theorem f_12_475 : am_fld 12 475 = some (12, 58) := by decide +kernel
set_option maxRecDepth 100000 in
theorem f_12_526 : am_fld 12 526 = some (12, 70) := by decide +kernel
set_option maxRecDepth 100000 in
theorem f_12_532 : am_fld 12 532 = some (12, 71) := by decide +kernel
set_option maxRecDepth 100000 in
theorem f_12_535 : am_fld 12 535 = some (12, 73) := by decide +kernel
set_option maxRecDepth 100000 in
theorem f_12_538 : am_fld 12 538 = some (12, 72) := by decide +kernel
set_option maxRecDepth 100000 in
theorem mt_0_54 : am_mth 0 54 0 = some mX4_clear := rfl
set_option maxRecDepth 100000 in
theorem mt_0_57 : am_mth 0 57 0 = some mX4_keptLength := rfl
set_option maxRecDepth 100000 in
theorem mt_0_61 : am_mth 0 61 0 = some mX0_put := rfl
set_option maxRecDepth 100000 in
theorem mt_0_65 : am_mth 0 65 0 = some mX4_keep := rfl
set_option maxRecDepth 100000 in
theorem mt_0_69 : am_mth 0 69 1 = some mX4_sign := rfl
set_option maxRecDepth 100000 in
theorem mt_0_73 : am_mth 0 73 0 = some mX4_keepSign := rfl
set_option maxRecDepth 100000 in
theorem mt_0_76 : am_mth 0 76 0 = some mX0_placeOf := rfl
set_option maxRecDepth 100000 in
theorem mt_0_79 : am_mth 0 79 1 = some mX4_kindOf := rfl
set_option maxRecDepth 100000 in
theorem mt_0_82 : am_mth 0 82 1 = some mX4_numberOf := rfl
set_option maxRecDepth 100000 in
theorem mt_0_91 : am_mth 0 91 0 = some mX0_standsAhead := rfl
set_option maxRecDepth 100000 in
theorem mt_0_95 : am_mth 0 95 0 = some mX0_openPlace := rfl
set_option maxRecDepth 100000 in
theorem mt_0_98 : am_mth 0 98 0 = some mX4_add := rfl
set_option maxRecDepth 100000 in
theorem mt_0_105 : am_mth 0 105 0 = some mX0_solvedType := rfl
set_option maxRecDepth 100000 in
theorem mt_1_58 : am_mth 1 58 0 = some mX2_start := rfl
set_option maxRecDepth 100000 in
theorem mt_1_62 : am_mth 1 62 0 = some mX8_clear := rfl
set_option maxRecDepth 100000 in
theorem mt_1_65 : am_mth 1 65 0 = some mX4_clear := rfl
set_option maxRecDepth 100000 in
theorem mt_1_66 : am_mth 1 66 0 = some mX1_start := rfl
set_option maxRecDepth 100000 in
theorem mt_1_85 : am_mth 1 85 0 = some mX0_addName := rfl
set_option maxRecDepth 100000 in
theorem mt_1_91 : am_mth 1 91 0 = some mX7_root := rfl
set_option maxRecDepth 100000 in
theorem mt_1_97 : am_mth 1 97 0 = some mX8_push := rfl
set_option maxRecDepth 100000 in
theorem mt_1_104 : am_mth 1 104 0 = some mX4_put := rfl
set_option maxRecDepth 100000 in
theorem mt_1_108 : am_mth 1 108 0 = some mX1_pushBelow := rfl
set_option maxRecDepth 100000 in
theorem mt_1_116 : am_mth 1 116 0 = some mX8_pop := rfl
set_option maxRecDepth 100000 in
theorem mt_1_125 : am_mth 1 125 0 = some mX1_begin := rfl
set_option maxRecDepth 100000 in
theorem mt_1_128 : am_mth 1 128 0 = some mX1_goOn := rfl
set_option maxRecDepth 100000 in
theorem mt_1_145 : am_mth 1 145 0 = some mX1_finish := rfl
set_option maxRecDepth 100000 in
theorem mt_1_154 : am_mth 1 154 0 = some mX0_take := rfl
set_option maxRecDepth 100000 in
theorem mt_1_165 : am_mth 1 165 0 = some mX1_takeTypes := rfl
set_option maxRecDepth 100000 in
theorem mt_1_172 : am_mth 1 172 0 = some mX7_at := rfl
set_option maxRecDepth 100000 in
theorem mt_1_176 : am_mth 1 176 0 = some mX2_note := rfl
set_option maxRecDepth 100000 in
theorem mt_1_180 : am_mth 1 180 0 = some mX1_check := rfl
set_option maxRecDepth 100000 in
theorem mt_1_183 : am_mth 1 183 0 = some mX1_infer := rfl
set_option maxRecDepth 100000 in
theorem mt_1_186 : am_mth 1 186 0 = some mX1_apply := rfl
set_option maxRecDepth 100000 in
theorem mt_1_189 : am_mth 1 189 0 = some mX1_compareHeads := rfl
set_option maxRecDepth 100000 in
theorem mt_1_195 : am_mth 1 195 0 = some mX1_solve := rfl
set_option maxRecDepth 100000 in
theorem mt_1_199 : am_mth 1 199 0 = some mX2_noteRule := rfl
set_option maxRecDepth 100000 in
theorem mt_1_202 : am_mth 1 202 0 = some mX1_fail := rfl
set_option maxRecDepth 100000 in
theorem mt_1_208 : am_mth 1 208 0 = some mX1_takeHeld := rfl
set_option maxRecDepth 100000 in
theorem mt_1_212 : am_mth 1 212 0 = some mX8_letGo := rfl
set_option maxRecDepth 100000 in
theorem mt_1_215 : am_mth 1 215 0 = some mX4_keptLength := rfl
set_option maxRecDepth 100000 in
theorem mt_1_218 : am_mth 1 218 0 = some mX4_keep := rfl
set_option maxRecDepth 100000 in
theorem mt_1_222 : am_mth 1 222 0 = some mX1_hold := rfl
set_option maxRecDepth 100000 in
theorem mt_1_226 : am_mth 1 226 0 = some mX4_kindAt := rfl
set_option maxRecDepth 100000 in
theorem mt_1_229 : am_mth 1 229 0 = some mX1_checkAll := rfl
set_option maxRecDepth 100000 in
theorem mt_1_232 : am_mth 1 232 0 = some mX7_op := rfl
set_option maxRecDepth 100000 in
theorem mt_1_235 : am_mth 1 235 0 = some mX1_checkFunction := rfl
set_option maxRecDepth 100000 in
theorem mt_1_238 : am_mth 1 238 0 = some mX1_checkInferred := rfl
set_option maxRecDepth 100000 in
theorem mt_1_241 : am_mth 1 241 0 = some mX1_checkPair := rfl
set_option maxRecDepth 100000 in
theorem mt_1_244 : am_mth 1 244 0 = some mX1_checkIf := rfl
set_option maxRecDepth 100000 in
theorem mt_1_247 : am_mth 1 247 0 = some mX1_checkLet := rfl
set_option maxRecDepth 100000 in
theorem mt_1_250 : am_mth 1 250 0 = some mX1_openConstant := rfl
set_option maxRecDepth 100000 in
theorem mt_1_254 : am_mth 1 254 0 = some mX1_pushCheck := rfl
set_option maxRecDepth 100000 in
theorem mt_1_258 : am_mth 1 258 0 = some mX4_past := rfl
set_option maxRecDepth 100000 in
theorem mt_1_261 : am_mth 1 261 0 = some mX7_number := rfl
set_option maxRecDepth 100000 in
theorem mt_1_264 : am_mth 1 264 0 = some mX1_pushCut := rfl
set_option maxRecDepth 100000 in
theorem mt_1_267 : am_mth 1 267 0 = some mX7_part := rfl
set_option maxRecDepth 100000 in
theorem mt_1_270 : am_mth 1 270 0 = some mX4_keepSign := rfl
set_option maxRecDepth 100000 in
theorem mt_1_273 : am_mth 1 273 0 = some mX1_pushGoOn := rfl
set_option maxRecDepth 100000 in
theorem mt_1_277 : am_mth 1 277 0 = some mX1_pushInfer := rfl
set_option maxRecDepth 100000 in
theorem mt_1_280 : am_mth 1 280 0 = some mX1_inferName := rfl
set_option maxRecDepth 100000 in
theorem mt_1_283 : am_mth 1 283 0 = some mX1_inferSign := rfl
set_option maxRecDepth 100000 in
theorem mt_1_286 : am_mth 1 286 0 = some mX1_inferNoted := rfl
set_option maxRecDepth 100000 in
theorem mt_1_289 : am_mth 1 289 0 = some mX1_inferFunction := rfl
set_option maxRecDepth 100000 in
theorem mt_1_292 : am_mth 1 292 0 = some mX1_inferLet := rfl
set_option maxRecDepth 100000 in
theorem mt_1_295 : am_mth 1 295 0 = some mX1_inferOfNumbers := rfl
set_option maxRecDepth 100000 in
theorem mt_1_298 : am_mth 1 298 0 = some mX0_nameType := rfl
set_option maxRecDepth 100000 in
theorem mt_1_301 : am_mth 1 301 0 = some mX4_add := rfl
set_option maxRecDepth 100000 in
theorem mt_1_304 : am_mth 1 304 0 = some mX7_putType := rfl
set_option maxRecDepth 100000 in
theorem mt_1_307 : am_mth 1 307 0 = some mX0_addGuess := rfl
set_option maxRecDepth 100000 in
theorem mt_1_310 : am_mth 1 310 0 = some mX0_addGuessedName := rfl
set_option maxRecDepth 100000 in
theorem mt_1_313 : am_mth 1 313 1 = some mX4_sign := rfl
set_option maxRecDepth 100000 in
theorem mt_1_316 : am_mth 1 316 0 = some mX4_open := rfl
set_option maxRecDepth 100000 in
theorem mt_1_319 : am_mth 1 319 0 = some mX1_openGuess := rfl
set_option maxRecDepth 100000 in
theorem mt_1_322 : am_mth 1 322 0 = some mX0_split := rfl
set_option maxRecDepth 100000 in
theorem mt_1_325 : am_mth 1 325 0 = some mX4_at := rfl
set_option maxRecDepth 100000 in
theorem mt_1_326 : am_mth 1 326 1 = some mX4_numberOf := rfl
set_option maxRecDepth 100000 in
theorem mt_1_329 : am_mth 1 329 0 = some mX0_openPlace := rfl
set_option maxRecDepth 100000 in
theorem mt_1_332 : am_mth 1 332 0 = some mX1_openMarked := rfl
set_option maxRecDepth 100000 in
theorem mt_1_335 : am_mth 1 335 0 = some mX4_has := rfl
set_option maxRecDepth 100000 in
theorem mt_1_339 : am_mth 1 339 0 = some mX1_compareParts := rfl
set_option maxRecDepth 100000 in
theorem mt_1_342 : am_mth 1 342 0 = some mX4_alls := rfl
set_option maxRecDepth 100000 in
theorem mt_1_345 : am_mth 1 345 0 = some mX0_allAhead := rfl
set_option maxRecDepth 100000 in
theorem mt_1_349 : am_mth 1 349 0 = some mX0_solve := rfl
set_option maxRecDepth 100000 in
theorem mt_1_351 : am_mth 1 351 0 = some mX0_solveAs := rfl
set_option maxRecDepth 100000 in
theorem mt_1_354 : am_mth 1 354 0 = some mX1_solveParts := rfl
set_option maxRecDepth 100000 in
theorem mt_1_357 : am_mth 1 357 0 = some mX1_solveAll := rfl
set_option maxRecDepth 100000 in
theorem mt_1_360 : am_mth 1 360 0 = some mX1_pushSolve := rfl
set_option maxRecDepth 100000 in
theorem mt_1_363 : am_mth 1 363 0 = some mX0_addConstant := rfl
set_option maxRecDepth 100000 in
theorem mt_1_366 : am_mth 1 366 0 = some mX0_addMark := rfl
set_option maxRecDepth 100000 in
theorem mt_1_369 : am_mth 1 369 0 = some mX0_cutAt := rfl
set_option maxRecDepth 100000 in
theorem mt_1_372 : am_mth 1 372 0 = some mX0_removeName := rfl
set_option maxRecDepth 100000 in
theorem mt_1_375 : am_mth 1 375 0 = some mX1_bind := rfl
set_option maxRecDepth 100000 in
theorem mt_1_378 : am_mth 1 378 0 = some mX1_give := rfl
set_option maxRecDepth 100000 in
theorem mt_1_381 : am_mth 1 381 0 = some mX1_giveArrow := rfl
set_option maxRecDepth 100000 in
theorem mt_1_384 : am_mth 1 384 0 = some mX1_outBelow := rfl
set_option maxRecDepth 100000 in
theorem mt_1_387 : am_mth 1 387 0 = some mX1_outElse := rfl
set_option maxRecDepth 100000 in
theorem mt_1_390 : am_mth 1 390 0 = some mX1_outSecond := rfl
set_option maxRecDepth 100000 in
theorem mt_1_393 : am_mth 1 393 0 = some mX1_outPair := rfl
set_option maxRecDepth 100000 in
theorem mt_1_396 : am_mth 1 396 0 = some mX1_outPart := rfl
set_option maxRecDepth 100000 in
theorem mt_1_399 : am_mth 1 399 0 = some mX1_takeOut := rfl
set_option maxRecDepth 100000 in
theorem mt_1_402 : am_mth 1 402 0 = some mX1_putHeld := rfl
set_option maxRecDepth 100000 in
theorem mt_2_51 : am_mth 2 51 0 = some mX0_clear := rfl
set_option maxRecDepth 100000 in
theorem mt_2_54 : am_mth 2 54 0 = some mX4_clear := rfl
set_option maxRecDepth 100000 in
theorem mt_3_50 : am_mth 3 50 0 = some mX7_clear := rfl
set_option maxRecDepth 100000 in
theorem mt_3_58 : am_mth 3 58 0 = some mX3_readPart := rfl
set_option maxRecDepth 100000 in
theorem mt_3_61 : am_mth 3 61 0 = some mX3_readEnd := rfl
set_option maxRecDepth 100000 in
theorem mt_3_64 : am_mth 3 64 0 = some mX4_clear := rfl
set_option maxRecDepth 100000 in
theorem mt_3_65 : am_mth 3 65 0 = some mX3_readType := rfl
set_option maxRecDepth 100000 in
theorem mt_3_68 : am_mth 3 68 0 = some mX3_nextSign := rfl
set_option maxRecDepth 100000 in
theorem mt_3_72 : am_mth 3 72 0 = some mX3_refuse := rfl
set_option maxRecDepth 100000 in
theorem mt_3_75 : am_mth 3 75 1 = some mX3_isDigit := rfl
set_option maxRecDepth 100000 in
theorem mt_3_79 : am_mth 3 79 1 = some mX3_isLetter := rfl
set_option maxRecDepth 100000 in
theorem mt_3_82 : am_mth 3 82 1 = some mX3_opOf := rfl
set_option maxRecDepth 100000 in
theorem mt_3_86 : am_mth 3 86 0 = some mX7_add := rfl
set_option maxRecDepth 100000 in
theorem mt_3_90 : am_mth 3 90 0 = some mX3_readHead := rfl
set_option maxRecDepth 100000 in
theorem mt_3_94 : am_mth 3 94 1 = some mX7_partsOf := rfl
set_option maxRecDepth 100000 in
theorem mt_3_97 : am_mth 3 97 0 = some mX7_close := rfl
set_option maxRecDepth 100000 in
theorem mt_3_100 : am_mth 3 100 0 = some mX7_beginType := rfl
set_option maxRecDepth 100000 in
theorem mt_3_103 : am_mth 3 103 0 = some mX3_readNumber := rfl
set_option maxRecDepth 100000 in
theorem mt_3_106 : am_mth 3 106 0 = some mX7_setNumber := rfl
set_option maxRecDepth 100000 in
theorem mt_3_110 : am_mth 3 110 0 = some mX3_readLetter := rfl
set_option maxRecDepth 100000 in
theorem mt_3_113 : am_mth 3 113 0 = some mX3_here := rfl
set_option maxRecDepth 100000 in
theorem mt_3_116 : am_mth 3 116 0 = some mX3_readTypePart := rfl
set_option maxRecDepth 100000 in
theorem mt_3_119 : am_mth 3 119 0 = some mX3_readLeaf := rfl
set_option maxRecDepth 100000 in
theorem mt_3_122 : am_mth 3 122 0 = some mX3_readTwo := rfl
set_option maxRecDepth 100000 in
theorem mt_3_125 : am_mth 3 125 0 = some mX3_readAll := rfl
set_option maxRecDepth 100000 in
theorem mt_3_128 : am_mth 3 128 0 = some mX3_readVariable := rfl
set_option maxRecDepth 100000 in
theorem mt_3_131 : am_mth 3 131 0 = some mX4_add := rfl
set_option maxRecDepth 100000 in
theorem mt_3_133 : am_mth 3 133 1 = some mX4_sign := rfl
set_option maxRecDepth 100000 in
theorem mt_4_23 : am_mth 4 23 0 = some mX4_add := rfl
set_option maxRecDepth 100000 in
theorem mt_4_33 : am_mth 4 33 0 = some mX4_at := rfl
set_option maxRecDepth 100000 in
theorem mt_4_37 : am_mth 4 37 1 = some mX4_kindOf := rfl
set_option maxRecDepth 100000 in
theorem mt_4_40 : am_mth 4 40 1 = some mX4_partsOf := rfl
set_option maxRecDepth 100000 in
theorem mt_4_43 : am_mth 4 43 1 = some mX4_numberOf := rfl
set_option maxRecDepth 100000 in
theorem mt_4_46 : am_mth 4 46 1 = some mX4_sign := rfl
set_option maxRecDepth 100000 in
theorem mt_5_40 : am_mth 5 40 0 = some mX5_placeOf := rfl
set_option maxRecDepth 100000 in
theorem mt_5_50 : am_mth 5 50 0 = some mX7_copy := rfl
set_option maxRecDepth 100000 in
theorem mt_5_54 : am_mth 5 54 0 = some mX4_clear := rfl
set_option maxRecDepth 100000 in
theorem mt_6_30 : am_mth 6 30 1 = some mX4_kindOf := rfl
set_option maxRecDepth 100000 in
theorem mt_6_36 : am_mth 6 36 0 = some mX6_name := rfl
set_option maxRecDepth 100000 in
theorem mt_6_40 : am_mth 6 40 0 = some mX6_write := rfl
set_option maxRecDepth 100000 in
theorem mt_6_44 : am_mth 6 44 0 = some mX6_nameOf := rfl
set_option maxRecDepth 100000 in
theorem mt_6_47 : am_mth 6 47 0 = some mX6_see := rfl
set_option maxRecDepth 100000 in
theorem mt_6_51 : am_mth 6 51 0 = some mX6_orderOf := rfl
set_option maxRecDepth 100000 in
theorem mt_6_54 : am_mth 6 54 1 = some mX6_plain := rfl
set_option maxRecDepth 100000 in
theorem mt_6_57 : am_mth 6 57 1 = some mX4_numberOf := rfl
set_option maxRecDepth 100000 in
theorem mt_6_64 : am_mth 6 64 0 = some mX6_guessesIn := rfl
set_option maxRecDepth 100000 in
theorem mt_6_68 : am_mth 6 68 0 = some mX4_clear := rfl
set_option maxRecDepth 100000 in
theorem mt_6_71 : am_mth 6 71 1 = some mX4_sign := rfl
set_option maxRecDepth 100000 in
theorem mt_6_74 : am_mth 6 74 0 = some mX4_add := rfl
set_option maxRecDepth 100000 in
theorem mt_6_77 : am_mth 6 77 1 = some mX4_partsOf := rfl
set_option maxRecDepth 100000 in
theorem mt_7_48 : am_mth 7 48 0 = some mX4_clear := rfl
set_option maxRecDepth 100000 in
theorem mt_7_51 : am_mth 7 51 0 = some mX7_unwrap := rfl
set_option maxRecDepth 100000 in
theorem mt_7_54 : am_mth 7 54 0 = some mX7_has := rfl
set_option maxRecDepth 100000 in
theorem mt_7_61 : am_mth 7 61 0 = some mX7_standsFor := rfl
set_option maxRecDepth 100000 in
theorem mt_7_65 : am_mth 7 65 0 = some mX7_isWrapping := rfl
set_option maxRecDepth 100000 in
theorem mt_7_71 : am_mth 7 71 0 = some mX4_put := rfl
set_option maxRecDepth 100000 in
theorem mt_7_75 : am_mth 7 75 0 = some mX4_past := rfl
set_option maxRecDepth 100000 in
theorem mt_7_78 : am_mth 7 78 0 = some mX7_clear := rfl
set_option maxRecDepth 100000 in
theorem mt_8_49 : am_mth 8 49 0 = some mX4_clear := rfl
set_option maxRecDepth 100000 in
theorem mt_9_51 : am_mth 9 51 0 = some mX9_make := rfl
set_option maxRecDepth 100000 in
theorem mt_9_55 : am_mth 9 55 0 = some mX9_countOf := rfl
set_option maxRecDepth 100000 in
theorem mt_9_60 : am_mth 9 60 0 = some mX9_has := rfl
set_option maxRecDepth 100000 in
theorem mt_10_52 : am_mth 10 52 0 = some mX9_clear := rfl
set_option maxRecDepth 100000 in
theorem mt_10_55 : am_mth 10 55 0 = some mX7_root := rfl
set_option maxRecDepth 100000 in
theorem mt_10_61 : am_mth 10 61 0 = some mX10_goTo := rfl
set_option maxRecDepth 100000 in
theorem mt_10_66 : am_mth 10 66 0 = some mX10_pace := rfl
set_option maxRecDepth 100000 in
theorem mt_10_69 : am_mth 10 69 0 = some mX10_resume := rfl
set_option maxRecDepth 100000 in
theorem mt_10_72 : am_mth 10 72 0 = some mX9_kindOf := rfl
set_option maxRecDepth 100000 in
theorem mt_10_76 : am_mth 10 76 0 = some mX9_firstOf := rfl
set_option maxRecDepth 100000 in
theorem mt_10_79 : am_mth 10 79 0 = some mX9_countOf := rfl
set_option maxRecDepth 100000 in
theorem mt_10_82 : am_mth 10 82 0 = some mX5_has := rfl
set_option maxRecDepth 100000 in
theorem mt_10_92 : am_mth 10 92 0 = some mX10_termAt := rfl
set_option maxRecDepth 100000 in
theorem mt_10_96 : am_mth 10 96 0 = some mX7_op := rfl
set_option maxRecDepth 100000 in
theorem mt_10_99 : am_mth 10 99 0 = some mX7_number := rfl
set_option maxRecDepth 100000 in
theorem mt_10_102 : am_mth 10 102 0 = some mX10_workName := rfl
set_option maxRecDepth 100000 in
theorem mt_10_106 : am_mth 10 106 0 = some mX9_makePlain := rfl
set_option maxRecDepth 100000 in
theorem mt_10_110 : am_mth 10 110 0 = some mX10_give := rfl
set_option maxRecDepth 100000 in
theorem mt_10_113 : am_mth 10 113 0 = some mX9_makeFunction := rfl
set_option maxRecDepth 100000 in
theorem mt_10_117 : am_mth 10 117 0 = some mX7_part := rfl
set_option maxRecDepth 100000 in
theorem mt_10_120 : am_mth 10 120 0 = some mX10_await := rfl
set_option maxRecDepth 100000 in
theorem mt_10_124 : am_mth 10 124 0 = some mX9_find := rfl
set_option maxRecDepth 100000 in
theorem mt_10_127 : am_mth 10 127 0 = some mX5_placeOf := rfl
set_option maxRecDepth 100000 in
theorem mt_10_130 : am_mth 10 130 0 = some mX10_goOnWithFirst := rfl
set_option maxRecDepth 100000 in
theorem mt_10_134 : am_mth 10 134 0 = some mX10_goOnWithBoth := rfl
set_option maxRecDepth 100000 in
theorem mt_10_137 : am_mth 10 137 0 = some mX9_bind := rfl
set_option maxRecDepth 100000 in
theorem mt_10_140 : am_mth 10 140 0 = some mX10_must := rfl
set_option maxRecDepth 100000 in
theorem mt_10_143 : am_mth 10 143 0 = some mX9_secondOf := rfl
set_option maxRecDepth 100000 in
theorem mt_10_146 : am_mth 10 146 0 = some mX10_workFunction := rfl
set_option maxRecDepth 100000 in
theorem mt_10_149 : am_mth 10 149 0 = some mX9_makePair := rfl
set_option maxRecDepth 100000 in
theorem mt_10_152 : am_mth 10 152 0 = some mX9_homeOf := rfl
set_option maxRecDepth 100000 in
theorem mt_11_82 : am_mth 11 82 1 = some mX3_bytesIn := rfl
set_option maxRecDepth 100000 in
theorem mt_11_89 : am_mth 11 89 0 = some mX3_put := rfl
set_option maxRecDepth 100000 in
theorem mt_11_93 : am_mth 11 93 0 = some mX3_readTerm := rfl
set_option maxRecDepth 100000 in
theorem mt_11_97 : am_mth 11 97 0 = some mX3_readTypes := rfl
set_option maxRecDepth 100000 in
theorem mt_11_100 : am_mth 11 100 0 = some mX1_startTerm := rfl
set_option maxRecDepth 100000 in
theorem mt_11_104 : am_mth 11 104 0 = some mX1_run := rfl
set_option maxRecDepth 100000 in
theorem mt_11_107 : am_mth 11 107 0 = some mX11_counted := rfl
set_option maxRecDepth 100000 in
theorem mt_11_118 : am_mth 11 118 0 = some mX1_startTypes := rfl
set_option maxRecDepth 100000 in
theorem mt_11_158 : am_mth 11 158 0 = some mX6_guessesIn := rfl
set_option maxRecDepth 100000 in
theorem mt_11_168 : am_mth 11 168 0 = some mX6_rank := rfl
set_option maxRecDepth 100000 in
theorem mt_11_172 : am_mth 11 172 0 = some mX6_told := rfl
set_option maxRecDepth 100000 in
theorem mt_11_188 : am_mth 11 188 0 = some mX0_lengthOf := rfl
set_option maxRecDepth 100000 in
theorem mt_11_197 : am_mth 11 197 0 = some mX2_mayBeKept := rfl
set_option maxRecDepth 100000 in
theorem mt_11_201 : am_mth 11 201 0 = some mX5_takes := rfl
set_option maxRecDepth 100000 in
theorem mt_11_205 : am_mth 11 205 0 = some mX5_put := rfl
set_option maxRecDepth 100000 in
theorem mt_11_208 : am_mth 11 208 0 = some mX6_close := rfl
set_option maxRecDepth 100000 in
theorem mt_11_215 : am_mth 11 215 0 = some mX5_has := rfl
set_option maxRecDepth 100000 in
theorem mt_11_232 : am_mth 11 232 0 = some mX10_workOut := rfl
set_option maxRecDepth 100000 in
theorem mt_11_241 : am_mth 11 241 0 = some mX10_answerKind := rfl
set_option maxRecDepth 100000 in
theorem mt_11_244 : am_mth 11 244 0 = some mX10_answerNumber := rfl
set_option maxRecDepth 100000 in
theorem mt_11_247 : am_mth 11 247 0 = some mX7_wrap := rfl
set_option maxRecDepth 100000 in
theorem mt_11_254 : am_mth 11 254 0 = some mX7_at := rfl
set_option maxRecDepth 100000 in
theorem mt_11_257 : am_mth 11 257 0 = some mX7_unwrap := rfl
set_option maxRecDepth 100000 in
theorem mt_11_260 : am_mth 11 260 0 = some mX4_same := rfl
set_option maxRecDepth 100000 in
theorem mt_11_264 : am_mth 11 264 0 = some mX4_alls := rfl
set_option maxRecDepth 100000 in
theorem mt_12_119 : am_mth 12 119 1 = some mX12_bytesOf := rfl
set_option maxRecDepth 100000 in
theorem mt_12_123 : am_mth 12 123 0 = some mX12_brings := rfl
set_option maxRecDepth 100000 in
theorem mt_12_130 : am_mth 12 130 0 = some mX12_here := rfl
set_option maxRecDepth 100000 in
theorem mt_12_140 : am_mth 12 140 0 = some mX12_look := rfl
set_option maxRecDepth 100000 in
theorem mt_12_143 : am_mth 12 143 1 = some mX12_isLetter := rfl
set_option maxRecDepth 100000 in
theorem mt_12_147 : am_mth 12 147 0 = some mX12_fails := rfl
set_option maxRecDepth 100000 in
theorem mt_12_150 : am_mth 12 150 0 = some mX12_puts := rfl
set_option maxRecDepth 100000 in
theorem mt_12_153 : am_mth 12 153 0 = some mX12_readsType := rfl
set_option maxRecDepth 100000 in
theorem mt_12_157 : am_mth 12 157 0 = some mX12_letter := rfl
set_option maxRecDepth 100000 in
theorem mt_12_163 : am_mth 12 163 1 = some mX12_isDigit := rfl
set_option maxRecDepth 100000 in
theorem mt_12_166 : am_mth 12 166 1 = some mX12_kindOf := rfl
set_option maxRecDepth 100000 in
theorem mt_12_169 : am_mth 12 169 0 = some mX12_opens := rfl
set_option maxRecDepth 100000 in
theorem mt_12_173 : am_mth 12 173 0 = some mX12_number := rfl
set_option maxRecDepth 100000 in
theorem mt_12_176 : am_mth 12 176 0 = some mX12_puts_ := rfl
set_option maxRecDepth 100000 in
theorem mt_12_179 : am_mth 12 179 1 = some mX12_parts := rfl
set_option maxRecDepth 100000 in
theorem mt_12_182 : am_mth 12 182 0 = some mX12_readsExpression := rfl
set_option maxRecDepth 100000 in
theorem mt_12_185 : am_mth 12 185 0 = some mX12_begins := rfl
set_option maxRecDepth 100000 in
theorem mt_12_191 : am_mth 12 191 0 = some mX12_endsText := rfl
set_option maxRecDepth 100000 in
theorem mt_12_194 : am_mth 12 194 0 = some mX12_readsWhole := rfl
set_option maxRecDepth 100000 in
theorem mt_12_199 : am_mth 12 199 1 = some mX12_isIn := rfl
set_option maxRecDepth 100000 in
theorem mt_12_203 : am_mth 12 203 0 = some mX12_readsTypes := rfl
set_option maxRecDepth 100000 in
theorem mt_12_206 : am_mth 12 206 0 = some mX12_of := rfl
set_option maxRecDepth 100000 in
theorem mt_12_215 : am_mth 12 215 0 = some mX12_makes := rfl
set_option maxRecDepth 100000 in
theorem mt_12_222 : am_mth 12 222 0 = some mX12_builds := rfl
set_option maxRecDepth 100000 in
theorem mt_12_225 : am_mth 12 225 0 = some mX12_with := rfl
set_option maxRecDepth 100000 in
theorem mt_12_228 : am_mth 12 228 0 = some mX12_isBoth := rfl
set_option maxRecDepth 100000 in
theorem mt_12_231 : am_mth 12 231 0 = some mX12_signs := rfl
set_option maxRecDepth 100000 in
theorem mt_12_234 : am_mth 12 234 0 = some mX12_rank := rfl
set_option maxRecDepth 100000 in
theorem mt_12_242 : am_mth 12 242 0 = some mX12_hasAll := rfl
set_option maxRecDepth 100000 in
theorem mt_12_245 : am_mth 12 245 0 = some mX12_hasGuess := rfl
set_option maxRecDepth 100000 in
theorem mt_12_255 : am_mth 12 255 0 = some mX12_comes := rfl
set_option maxRecDepth 100000 in
theorem mt_12_261 : am_mth 12 261 0 = some mX12_placeOf := rfl
set_option maxRecDepth 100000 in
theorem mt_12_267 : am_mth 12 267 0 = some mX12_signsBy := rfl
set_option maxRecDepth 100000 in
theorem mt_12_270 : am_mth 12 270 0 = some mX12_replaced := rfl
set_option maxRecDepth 100000 in
theorem mt_12_276 : am_mth 12 276 0 = some mX12_by := rfl
set_option maxRecDepth 100000 in
theorem mt_12_300 : am_mth 12 300 0 = some mX12_begins_ := rfl
set_option maxRecDepth 100000 in
theorem mt_12_303 : am_mth 12 303 0 = some mX12_checks := rfl
set_option maxRecDepth 100000 in
theorem mt_12_306 : am_mth 12 306 0 = some mX12_rule := rfl
set_option maxRecDepth 100000 in
theorem mt_12_309 : am_mth 12 309 0 = some mX12_freshConstant := rfl
set_option maxRecDepth 100000 in
theorem mt_12_312 : am_mth 12 312 0 = some mX12_inside := rfl
set_option maxRecDepth 100000 in
theorem mt_12_315 : am_mth 12 315 0 = some mX12_check := rfl
set_option maxRecDepth 100000 in
theorem mt_12_318 : am_mth 12 318 0 = some mX12_cuts := rfl
set_option maxRecDepth 100000 in
theorem mt_12_321 : am_mth 12 321 0 = some mX12_marked := rfl
set_option maxRecDepth 100000 in
theorem mt_12_324 : am_mth 12 324 0 = some mX12_cutsAt := rfl
set_option maxRecDepth 100000 in
theorem mt_12_327 : am_mth 12 327 0 = some mX12_plain := rfl
set_option maxRecDepth 100000 in
theorem mt_12_330 : am_mth 12 330 0 = some mX12_infer := rfl
set_option maxRecDepth 100000 in
theorem mt_12_333 : am_mth 12 333 0 = some mX12_below := rfl
set_option maxRecDepth 100000 in
theorem mt_12_339 : am_mth 12 339 0 = some mX12_entryOwn := rfl
set_option maxRecDepth 100000 in
theorem mt_12_342 : am_mth 12 342 0 = some mX12_placeOfMark := rfl
set_option maxRecDepth 100000 in
theorem mt_12_345 : am_mth 12 345 0 = some mX12_infers := rfl
set_option maxRecDepth 100000 in
theorem mt_12_348 : am_mth 12 348 0 = some mX12_failsNow := rfl
set_option maxRecDepth 100000 in
theorem mt_12_351 : am_mth 12 351 0 = some mX12_noted := rfl
set_option maxRecDepth 100000 in
theorem mt_12_354 : am_mth 12 354 0 = some mX12_typeFrom := rfl
set_option maxRecDepth 100000 in
theorem mt_12_357 : am_mth 12 357 0 = some mX12_freshGuess := rfl
set_option maxRecDepth 100000 in
theorem mt_12_360 : am_mth 12 360 0 = some mX12_apply := rfl
set_option maxRecDepth 100000 in
theorem mt_12_363 : am_mth 12 363 0 = some mX12_takesOut := rfl
set_option maxRecDepth 100000 in
theorem mt_12_366 : am_mth 12 366 0 = some mX12_partOf := rfl
set_option maxRecDepth 100000 in
theorem mt_12_370 : am_mth 12 370 0 = some mX12_isOpen := rfl
set_option maxRecDepth 100000 in
theorem mt_12_373 : am_mth 12 373 0 = some mX12_splitsPair := rfl
set_option maxRecDepth 100000 in
theorem mt_12_376 : am_mth 12 376 0 = some mX12_splits := rfl
set_option maxRecDepth 100000 in
theorem mt_12_379 : am_mth 12 379 0 = some mX12_applies := rfl
set_option maxRecDepth 100000 in
theorem mt_12_382 : am_mth 12 382 0 = some mX12_isBelow := rfl
set_option maxRecDepth 100000 in
theorem mt_12_385 : am_mth 12 385 0 = some mX12_areSame := rfl
set_option maxRecDepth 100000 in
theorem mt_12_388 : am_mth 12 388 0 = some mX12_left := rfl
set_option maxRecDepth 100000 in
theorem mt_12_390 : am_mth 12 390 0 = some mX12_right := rfl
set_option maxRecDepth 100000 in
theorem mt_12_392 : am_mth 12 392 0 = some mX12_isAhead := rfl
set_option maxRecDepth 100000 in
theorem mt_12_395 : am_mth 12 395 0 = some mX12_solves := rfl
set_option maxRecDepth 100000 in
theorem mt_12_398 : am_mth 12 398 0 = some mX12_becomesLeft := rfl
set_option maxRecDepth 100000 in
theorem mt_12_401 : am_mth 12 401 0 = some mX12_meets := rfl
set_option maxRecDepth 100000 in
theorem mt_12_405 : am_mth 12 405 0 = some mX12_becomesRight := rfl
set_option maxRecDepth 100000 in
theorem mt_12_417 : am_mth 12 417 1 = some mX12_typeRowOf := rfl
set_option maxRecDepth 100000 in
theorem mt_12_421 : am_mth 12 421 0 = some mX12_clears := rfl
set_option maxRecDepth 100000 in
theorem mt_12_438 : am_mth 12 438 0 = some mX12_copies := rfl
set_option maxRecDepth 100000 in
theorem mt_12_450 : am_mth 12 450 0 = some mX12_judges := rfl
set_option maxRecDepth 100000 in
theorem mt_12_453 : am_mth 12 453 0 = some mX12_counted := rfl
set_option maxRecDepth 100000 in
theorem mt_12_459 : am_mth 12 459 0 = some mX12_writes := rfl
set_option maxRecDepth 100000 in
theorem mt_12_465 : am_mth 12 465 0 = some mX12_writesType := rfl
set_option maxRecDepth 100000 in
theorem mt_12_471 : am_mth 12 471 1 = some mX12_among := rfl
set_option maxRecDepth 100000 in
theorem mt_12_478 : am_mth 12 478 0 = some mX12_hasType := rfl
set_option maxRecDepth 100000 in
theorem mt_12_482 : am_mth 12 482 0 = some mX12_tellsType := rfl
set_option maxRecDepth 100000 in
theorem mt_12_485 : am_mth 12 485 0 = some mX12_openOf := rfl
set_option maxRecDepth 100000 in
theorem mt_12_490 : am_mth 12 490 0 = some mX12_isEntry := rfl
set_option maxRecDepth 100000 in
theorem mt_12_495 : am_mth 12 495 0 = some mX12_encodes := rfl
set_option maxRecDepth 100000 in
theorem mt_12_500 : am_mth 12 500 0 = some mX12_isOnShelf := rfl
set_option maxRecDepth 100000 in
theorem mt_12_503 : am_mth 12 503 1 = some mX12_rowOf := rfl
set_option maxRecDepth 100000 in
theorem mt_12_506 : am_mth 12 506 0 = some mX12_allsIn := rfl
set_option maxRecDepth 100000 in
theorem mt_12_509 : am_mth 12 509 0 = some mX12_tellsOf := rfl
set_option maxRecDepth 100000 in
theorem mt_12_512 : am_mth 12 512 0 = some mX12_laysAside := rfl
set_option maxRecDepth 100000 in
theorem mt_12_515 : am_mth 12 515 0 = some mX12_takesBack := rfl
set_option maxRecDepth 100000 in
theorem mt_12_518 : am_mth 12 518 0 = some mX12_judgesNoted := rfl
set_option maxRecDepth 100000 in
theorem mt_12_523 : am_mth 12 523 0 = some mX12_areAlike := rfl
set_option maxRecDepth 100000 in
theorem mt_12_541 : am_mth 12 541 0 = some mX12_worksName := rfl
set_option maxRecDepth 100000 in
theorem mt_12_544 : am_mth 12 544 0 = some mX12_value := rfl
set_option maxRecDepth 100000 in
theorem mt_12_547 : am_mth 12 547 0 = some mX12_works := rfl
set_option maxRecDepth 100000 in
theorem mt_12_550 : am_mth 12 550 0 = some mX12_is := rfl
set_option maxRecDepth 100000 in
theorem mt_12_553 : am_mth 12 553 0 = some mX12_linked := rfl
set_option maxRecDepth 100000 in
theorem mt_12_556 : am_mth 12 556 0 = some mX12_worksBoth := rfl
set_option maxRecDepth 100000 in
theorem mt_12_559 : am_mth 12 559 0 = some mX12_sticks := rfl
