/-! rows: shapes, links, constants (wip/gen/gen_blocks.py) -/
theorem sh_0 : shp[0]? = some (9, 0, [3, 4, 5, 6, 7, 8, 9, 10, 11]) := rfl
theorem sh_1 : shp[1]? = some (2, 0, [12, 0, 0, 13, 14, 15, 16, 17, 18]) := rfl
theorem sh_2 : shp[2]? = some (1, 0, [29, 30, 31, 32, 0, 3, 33]) := rfl
theorem sh_3 : shp[3]? = some (4, 0, [0, 0, 0, 0, 0, 3, 34, 35, 36, 37, 38]) := rfl
theorem sh_4 : shp[4]? = some (6, 0, [39, 0]) := rfl
theorem sh_5 : shp[5]? = some (3, 0, [0, 6, 40, 41, 0, 0, 0, 0, 0, 0, 0, 0]) := rfl
theorem sh_6 : shp[6]? = some (8, 0, [0, 0, 42, 43]) := rfl
theorem sh_7 : shp[7]? = some (7, 0, [0, 0, 0, 0, 3, 44]) := rfl
theorem sh_8 : shp[8]? = some (0, 0, [0, 3, 45, 46, 47, 48, 49]) := rfl
theorem sh_9 : shp[9]? = some (5, 0, [0, 3, 50, 51, 52]) := rfl
theorem sh_10 : shp[10]? = some (100, 10, []) := rfl
theorem sh_11 : shp[11]? = some (100, 10, []) := rfl
theorem sh_12 : shp[12]? = some (100, 10, []) := rfl
theorem sh_13 : shp[13]? = some (100, 8, []) := rfl
theorem sh_14 : shp[14]? = some (100, 8, []) := rfl
theorem sh_15 : shp[15]? = some (100, 8, []) := rfl
theorem sh_16 : shp[16]? = some (102, 10, [17, 18, 19, 20, 21, 22, 23, 24, 25, 26]) := rfl
theorem sh_17 : shp[17]? = some (100, 10, []) := rfl
theorem sh_18 : shp[18]? = some (100, 10, []) := rfl
theorem sh_19 : shp[19]? = some (100, 10, []) := rfl
theorem sh_20 : shp[20]? = some (100, 10, []) := rfl
theorem sh_21 : shp[21]? = some (100, 10, []) := rfl
theorem sh_22 : shp[22]? = some (100, 10, []) := rfl
theorem sh_23 : shp[23]? = some (100, 10, []) := rfl
theorem sh_24 : shp[24]? = some (100, 10, []) := rfl
theorem sh_25 : shp[25]? = some (100, 10, []) := rfl
theorem sh_26 : shp[26]? = some (100, 10, []) := rfl
theorem sh_27 : shp[27]? = some (100, 10, []) := rfl
theorem sh_28 : shp[28]? = some (100, 10, []) := rfl
theorem sh_29 : shp[29]? = some (100, 10, []) := rfl
theorem sh_30 : shp[30]? = some (100, 10, []) := rfl
theorem sh_31 : shp[31]? = some (100, 10, []) := rfl
theorem sh_32 : shp[32]? = some (100, 6, []) := rfl
theorem sh_33 : shp[33]? = some (100, 6, []) := rfl
theorem sh_34 : shp[34]? = some (100, 6, []) := rfl
theorem sh_35 : shp[35]? = some (100, 6, []) := rfl
theorem sh_36 : shp[36]? = some (100, 6, []) := rfl
theorem sh_37 : shp[37]? = some (100, 200, []) := rfl
theorem sh_38 : shp[38]? = some (100, 10, []) := rfl
theorem sh_39 : shp[39]? = some (100, 50, []) := rfl
theorem sh_40 : shp[40]? = some (100, 2, []) := rfl
theorem sh_41 : shp[41]? = some (100, 2, []) := rfl
theorem sh_42 : shp[42]? = some (100, 12, []) := rfl
theorem sh_43 : shp[43]? = some (100, 10, []) := rfl
theorem sh_44 : shp[44]? = some (100, 10, []) := rfl
theorem sh_45 : shp[45]? = some (100, 10, []) := rfl
theorem sh_46 : shp[46]? = some (100, 10, []) := rfl
theorem sh_47 : shp[47]? = some (100, 10, []) := rfl
theorem sh_48 : shp[48]? = some (100, 12, []) := rfl
theorem sh_49 : shp[49]? = some (100, 12, []) := rfl
theorem sh_50 : shp[50]? = some (100, 12, []) := rfl
theorem sh_51 : shp[51]? = some (10, 0, [0, 54, 55, 0, 56, 0, 57, 0, 58, 59, 0, 60, 0, 0, 1, 0, 0, 0, 0, 0, 0, 0, 0, 61, 0, 0, 62, 63, 0, 64, 0, 65, 0, 66, 67, 68, 69]) := rfl
theorem sh_52 : shp[52]? = some (100, 10, []) := rfl
theorem sh_53 : shp[53]? = some (100, 10, []) := rfl
theorem sh_54 : shp[54]? = some (100, 24, []) := rfl
theorem sh_55 : shp[55]? = some (100, 30, []) := rfl
theorem sh_56 : shp[56]? = some (100, 30, []) := rfl
theorem sh_57 : shp[57]? = some (100, 100, []) := rfl
theorem sh_58 : shp[58]? = some (100, 200, []) := rfl
theorem sh_59 : shp[59]? = some (100, 60, []) := rfl
theorem sh_60 : shp[60]? = some (100, 4, []) := rfl
theorem sh_61 : shp[61]? = some (101, 2, []) := rfl
theorem sh_62 : shp[62]? = some (100, 12, []) := rfl
theorem sh_63 : shp[63]? = some (100, 40, []) := rfl
theorem sh_64 : shp[64]? = some (100, 36, []) := rfl
theorem sh_65 : shp[65]? = some (100, 10, []) := rfl
theorem sh_66 : shp[66]? = some (100, 10, []) := rfl
theorem sh_67 : shp[67]? = some (100, 10, []) := rfl
theorem f9_10 : fld 9 10 = some (9, 0) := by decide +kernel
theorem f9_21 : fld 9 21 = some (9, 1) := by decide +kernel
theorem f9_28 : fld 9 28 = some (9, 2) := by decide +kernel
theorem f9_35 : fld 9 35 = some (9, 3) := by decide +kernel
theorem f9_44 : fld 9 44 = some (9, 4) := by decide +kernel
theorem f9_51 : fld 9 51 = some (9, 5) := by decide +kernel
theorem f9_58 : fld 9 58 = some (9, 6) := by decide +kernel
theorem f9_65 : fld 9 65 = some (9, 7) := by decide +kernel
theorem f9_72 : fld 9 72 = some (9, 8) := by decide +kernel
theorem f9_84 : fld 9 84 = some (2, 1) := by decide +kernel
theorem f9_88 : fld 9 88 = some (2, 2) := by decide +kernel
theorem f9_91 : fld 9 91 = some (1, 4) := by decide +kernel
theorem f9_92 : fld 9 92 = some (4, 0) := by decide +kernel
theorem f9_97 : fld 9 97 = some (3, 0) := by decide +kernel
theorem f9_118 : fld 9 118 = some (2, 0) := by decide +kernel
theorem f9_144 : fld 9 144 = some (1, 0) := by decide +kernel
theorem f9_147 : fld 9 147 = some (1, 1) := by decide +kernel
theorem f9_150 : fld 9 150 = some (1, 2) := by decide +kernel
theorem f9_157 : fld 9 157 = some (8, 0) := by decide +kernel
theorem f9_162 : fld 9 162 = some (8, 1) := by decide +kernel
theorem f9_171 : fld 9 171 = some (1, 3) := by decide +kernel
theorem f9_193 : fld 9 193 = some (7, 0) := by decide +kernel
theorem f9_197 : fld 9 197 = some (7, 1) := by decide +kernel
theorem f9_200 : fld 9 200 = some (7, 2) := by decide +kernel
theorem f9_203 : fld 9 203 = some (7, 3) := by decide +kernel
theorem f9_210 : fld 9 210 = some (4, 1) := by decide +kernel
theorem f9_213 : fld 9 213 = some (4, 2) := by decide +kernel
theorem f9_216 : fld 9 216 = some (4, 3) := by decide +kernel
theorem f9_219 : fld 9 219 = some (4, 4) := by decide +kernel
theorem f9_251 : fld 9 251 = some (0, 0) := by decide +kernel
theorem f9_252 : fld 9 252 = some (5, 0) := by decide +kernel
theorem f9_253 : fld 9 253 = some (6, 1) := by decide +kernel
theorem f0_9 : fld 0 9 = some (0, 2) := by decide +kernel
theorem f0_15 : fld 0 15 = some (0, 3) := by decide +kernel
theorem f0_18 : fld 0 18 = some (0, 4) := by decide +kernel
theorem f0_21 : fld 0 21 = some (0, 5) := by decide +kernel
theorem f0_24 : fld 0 24 = some (0, 6) := by decide +kernel
theorem f0_27 : fld 0 27 = some (0, 1) := by decide +kernel
theorem f0_31 : fld 0 31 = some (0, 0) := by decide +kernel
theorem f0_35 : fld 0 35 = some (2, 0) := by decide +kernel
theorem f0_49 : fld 0 49 = some (2, 1) := by decide +kernel
theorem f1_9 : fld 1 9 = some (1, 0) := by decide +kernel
theorem f1_15 : fld 1 15 = some (1, 1) := by decide +kernel
theorem f1_18 : fld 1 18 = some (1, 2) := by decide +kernel
theorem f1_21 : fld 1 21 = some (1, 3) := by decide +kernel
theorem f1_24 : fld 1 24 = some (1, 6) := by decide +kernel
theorem f1_27 : fld 1 27 = some (1, 5) := by decide +kernel
theorem f1_31 : fld 1 31 = some (1, 4) := by decide +kernel
theorem f1_74 : fld 1 74 = some (2, 0) := by decide +kernel
theorem f1_80 : fld 1 80 = some (2, 1) := by decide +kernel
theorem f2_9 : fld 2 9 = some (2, 0) := by decide +kernel
theorem f2_15 : fld 2 15 = some (2, 3) := by decide +kernel
theorem f2_18 : fld 2 18 = some (2, 4) := by decide +kernel
theorem f2_21 : fld 2 21 = some (2, 5) := by decide +kernel
theorem f2_24 : fld 2 24 = some (2, 6) := by decide +kernel
theorem f2_27 : fld 2 27 = some (2, 7) := by decide +kernel
theorem f2_32 : fld 2 32 = some (2, 8) := by decide +kernel
theorem f2_42 : fld 2 42 = some (2, 1) := by decide +kernel
theorem f2_46 : fld 2 46 = some (2, 2) := by decide +kernel
theorem f3_9 : fld 3 9 = some (3, 2) := by decide +kernel
theorem f3_15 : fld 3 15 = some (3, 3) := by decide +kernel
theorem f3_18 : fld 3 18 = some (3, 1) := by decide +kernel
theorem f3_22 : fld 3 22 = some (3, 0) := by decide +kernel
theorem f3_26 : fld 3 26 = some (3, 8) := by decide +kernel
theorem f3_29 : fld 3 29 = some (3, 9) := by decide +kernel
theorem f3_32 : fld 3 32 = some (3, 10) := by decide +kernel
theorem f3_35 : fld 3 35 = some (3, 11) := by decide +kernel
theorem f3_38 : fld 3 38 = some (3, 4) := by decide +kernel
theorem f3_45 : fld 3 45 = some (3, 6) := by decide +kernel
theorem f3_51 : fld 3 51 = some (3, 5) := by decide +kernel
theorem f3_69 : fld 3 69 = some (3, 7) := by decide +kernel
theorem f3_83 : fld 3 83 = some (6, 1) := by decide +kernel
theorem f3_88 : fld 3 88 = some (6, 0) := by decide +kernel
theorem f4_9 : fld 4 9 = some (4, 6) := by decide +kernel
theorem f4_15 : fld 4 15 = some (4, 7) := by decide +kernel
theorem f4_18 : fld 4 18 = some (4, 8) := by decide +kernel
theorem f4_21 : fld 4 21 = some (4, 9) := by decide +kernel
theorem f4_24 : fld 4 24 = some (4, 10) := by decide +kernel
theorem f4_27 : fld 4 27 = some (4, 5) := by decide +kernel
theorem f4_31 : fld 4 31 = some (4, 0) := by decide +kernel
theorem f4_49 : fld 4 49 = some (4, 1) := by decide +kernel
theorem f4_56 : fld 4 56 = some (4, 2) := by decide +kernel
theorem f4_59 : fld 4 59 = some (4, 3) := by decide +kernel
theorem f4_62 : fld 4 62 = some (4, 4) := by decide +kernel
theorem f5_9 : fld 5 9 = some (5, 2) := by decide +kernel
theorem f5_15 : fld 5 15 = some (5, 3) := by decide +kernel
theorem f5_18 : fld 5 18 = some (5, 4) := by decide +kernel
theorem f5_21 : fld 5 21 = some (5, 1) := by decide +kernel
theorem f5_25 : fld 5 25 = some (5, 0) := by decide +kernel
theorem f6_9 : fld 6 9 = some (6, 0) := by decide +kernel
theorem f6_15 : fld 6 15 = some (6, 1) := by decide +kernel
theorem f7_9 : fld 7 9 = some (7, 5) := by decide +kernel
theorem f7_15 : fld 7 15 = some (7, 4) := by decide +kernel
theorem f7_19 : fld 7 19 = some (7, 0) := by decide +kernel
theorem f7_23 : fld 7 23 = some (7, 1) := by decide +kernel
theorem f7_26 : fld 7 26 = some (7, 2) := by decide +kernel
theorem f7_29 : fld 7 29 = some (7, 3) := by decide +kernel
theorem f8_9 : fld 8 9 = some (8, 2) := by decide +kernel
theorem f8_15 : fld 8 15 = some (8, 3) := by decide +kernel
theorem f8_21 : fld 8 21 = some (8, 0) := by decide +kernel
theorem f8_25 : fld 8 25 = some (8, 1) := by decide +kernel
theorem f10_7 : fld 10 7 = some (10, 0) := by decide +kernel
theorem f10_13 : fld 10 13 = some (10, 1) := by decide +kernel
theorem f10_17 : fld 10 17 = some (10, 2) := by decide +kernel
theorem f10_20 : fld 10 20 = some (10, 4) := by decide +kernel
theorem f10_23 : fld 10 23 = some (10, 6) := by decide +kernel
theorem f10_26 : fld 10 26 = some (10, 8) := by decide +kernel
theorem f10_29 : fld 10 29 = some (10, 9) := by decide +kernel
theorem f10_32 : fld 10 32 = some (10, 11) := by decide +kernel
theorem f10_35 : fld 10 35 = some (10, 23) := by decide +kernel
theorem f10_38 : fld 10 38 = some (10, 26) := by decide +kernel
theorem f10_41 : fld 10 41 = some (10, 27) := by decide +kernel
theorem f10_45 : fld 10 45 = some (10, 29) := by decide +kernel
theorem f10_48 : fld 10 48 = some (10, 31) := by decide +kernel
theorem f10_51 : fld 10 51 = some (10, 33) := by decide +kernel
theorem f10_54 : fld 10 54 = some (10, 34) := by decide +kernel
theorem f10_57 : fld 10 57 = some (10, 35) := by decide +kernel
theorem f10_60 : fld 10 60 = some (10, 36) := by decide +kernel
theorem f10_73 : fld 10 73 = some (10, 5) := by decide +kernel
theorem f10_76 : fld 10 76 = some (10, 3) := by decide +kernel
theorem f10_79 : fld 10 79 = some (10, 7) := by decide +kernel
theorem f10_83 : fld 10 83 = some (10, 10) := by decide +kernel
theorem f10_88 : fld 10 88 = some (10, 12) := by decide +kernel
theorem f10_91 : fld 10 91 = some (10, 13) := by decide +kernel
theorem f10_94 : fld 10 94 = some (10, 15) := by decide +kernel
theorem f10_97 : fld 10 97 = some (10, 16) := by decide +kernel
theorem f10_102 : fld 10 102 = some (10, 14) := by decide +kernel
theorem f10_116 : fld 10 116 = some (10, 17) := by decide +kernel
theorem f10_129 : fld 10 129 = some (10, 19) := by decide +kernel
theorem f10_132 : fld 10 132 = some (10, 20) := by decide +kernel
theorem f10_135 : fld 10 135 = some (10, 21) := by decide +kernel
theorem f10_138 : fld 10 138 = some (10, 22) := by decide +kernel
theorem f10_168 : fld 10 168 = some (10, 18) := by decide +kernel
theorem f10_181 : fld 10 181 = some (10, 24) := by decide +kernel
theorem f10_184 : fld 10 184 = some (10, 25) := by decide +kernel
theorem f10_187 : fld 10 187 = some (10, 28) := by decide +kernel
theorem f10_190 : fld 10 190 = some (10, 30) := by decide +kernel
theorem f10_193 : fld 10 193 = some (10, 32) := by decide +kernel
theorem k9_76 : lnk 9 76 = some (0, 69) := by decide +kernel
theorem k9_80 : lnk 9 80 = some (0, 70) := by decide +kernel
theorem k9_93 : lnk 9 93 = some (0, 43) := by decide +kernel
theorem k9_100 : lnk 9 100 = some (0, 113) := by decide +kernel
theorem k9_104 : lnk 9 104 = some (0, 28) := by decide +kernel
theorem k9_107 : lnk 9 107 = some (0, 13) := by decide +kernel
theorem k9_108 : lnk 9 108 = some (0, 76) := by decide +kernel
theorem k9_111 : lnk 9 111 = some (0, 73) := by decide +kernel
theorem k9_112 : lnk 9 112 = some (0, 2) := by decide +kernel
theorem k9_113 : lnk 9 113 = some (0, 64) := by decide +kernel
theorem k9_114 : lnk 9 114 = some (0, 32) := by decide +kernel
theorem k9_122 : lnk 9 122 = some (0, 33) := by decide +kernel
theorem k9_127 : lnk 9 127 = some (0, 34) := by decide +kernel
theorem k9_130 : lnk 9 130 = some (0, 35) := by decide +kernel
theorem k9_133 : lnk 9 133 = some (0, 37) := by decide +kernel
theorem k9_137 : lnk 9 137 = some (0, 38) := by decide +kernel
theorem k9_140 : lnk 9 140 = some (0, 39) := by decide +kernel
theorem k9_143 : lnk 9 143 = some (0, 11) := by decide +kernel
theorem k9_153 : lnk 9 153 = some (0, 12) := by decide +kernel
theorem k9_159 : lnk 9 159 = some (0, 77) := by decide +kernel
theorem k9_165 : lnk 9 165 = some (0, 78) := by decide +kernel
theorem k9_168 : lnk 9 168 = some (0, 79) := by decide +kernel
theorem k9_174 : lnk 9 174 = some (0, 16) := by decide +kernel
theorem k9_178 : lnk 9 178 = some (0, 15) := by decide +kernel
theorem k9_181 : lnk 9 181 = some (0, 17) := by decide +kernel
theorem k9_184 : lnk 9 184 = some (0, 18) := by decide +kernel
theorem k9_187 : lnk 9 187 = some (0, 19) := by decide +kernel
theorem k9_190 : lnk 9 190 = some (0, 72) := by decide +kernel
theorem k9_194 : lnk 9 194 = some (0, 74) := by decide +kernel
theorem k9_206 : lnk 9 206 = some (0, 61) := by decide +kernel
theorem k9_220 : lnk 9 220 = some (1, 114) := by decide +kernel
theorem k9_223 : lnk 9 223 = some (0, 1) := by decide +kernel
theorem k9_225 : lnk 9 225 = some (0, 3) := by decide +kernel
theorem k9_228 : lnk 9 228 = some (1, 180) := by decide +kernel
theorem k9_233 : lnk 9 233 = some (0, 63) := by decide +kernel
theorem k9_236 : lnk 9 236 = some (0, 66) := by decide +kernel
theorem k9_239 : lnk 9 239 = some (0, 67) := by decide +kernel
theorem k9_242 : lnk 9 242 = some (0, 22) := by decide +kernel
theorem k9_245 : lnk 9 245 = some (0, 21) := by decide +kernel
theorem k9_248 : lnk 9 248 = some (1, 115) := by decide +kernel
theorem k9_256 : lnk 9 256 = some (0, 42) := by decide +kernel
theorem k9_259 : lnk 9 259 = some (0, 41) := by decide +kernel
theorem k9_262 : lnk 9 262 = some (0, 24) := by decide +kernel
theorem k9_264 : lnk 9 264 = some (0, 25) := by decide +kernel
theorem k9_267 : lnk 9 267 = some (0, 26) := by decide +kernel
theorem k9_270 : lnk 9 270 = some (0, 27) := by decide +kernel
theorem k9_274 : lnk 9 274 = some (0, 10) := by decide +kernel
theorem k9_276 : lnk 9 276 = some (0, 59) := by decide +kernel
theorem k0_40 : lnk 0 40 = some (1, 182) := by decide +kernel
theorem k0_46 : lnk 0 46 = some (0, 4) := by decide +kernel
theorem k0_50 : lnk 0 50 = some (0, 7) := by decide +kernel
theorem k0_54 : lnk 0 54 = some (0, 5) := by decide +kernel
theorem k0_57 : lnk 0 57 = some (0, 6) := by decide +kernel
theorem k0_61 : lnk 0 61 = some (0, 8) := by decide +kernel
theorem k0_64 : lnk 0 64 = some (1, 180) := by decide +kernel
theorem k1_35 : lnk 1 35 = some (0, 36) := by decide +kernel
theorem k1_41 : lnk 1 41 = some (0, 12) := by decide +kernel
theorem k1_45 : lnk 1 45 = some (0, 33) := by decide +kernel
theorem k1_48 : lnk 1 48 = some (0, 14) := by decide +kernel
theorem k1_52 : lnk 1 52 = some (0, 15) := by decide +kernel
theorem k1_55 : lnk 1 55 = some (0, 16) := by decide +kernel
theorem k1_58 : lnk 1 58 = some (1, 184) := by decide +kernel
theorem k1_63 : lnk 1 63 = some (0, 18) := by decide +kernel
theorem k1_67 : lnk 1 67 = some (0, 20) := by decide +kernel
theorem k1_70 : lnk 1 70 = some (0, 11) := by decide +kernel
theorem k1_77 : lnk 1 77 = some (1, 183) := by decide +kernel
theorem k1_81 : lnk 1 81 = some (0, 21) := by decide +kernel
theorem k2_35 : lnk 2 35 = some (0, 24) := by decide +kernel
theorem k2_39 : lnk 2 39 = some (0, 28) := by decide +kernel
theorem k2_49 : lnk 2 49 = some (0, 32) := by decide +kernel
theorem k2_53 : lnk 2 53 = some (0, 29) := by decide +kernel
theorem k2_56 : lnk 2 56 = some (0, 31) := by decide +kernel
theorem k2_60 : lnk 2 60 = some (0, 30) := by decide +kernel
theorem k2_64 : lnk 2 64 = some (1, 185) := by decide +kernel
theorem k2_70 : lnk 2 70 = some (1, 182) := by decide +kernel
theorem k2_73 : lnk 2 73 = some (1, 181) := by decide +kernel
theorem k2_76 : lnk 2 76 = some (0, 37) := by decide +kernel
theorem k3_41 : lnk 3 41 = some (0, 44) := by decide +kernel
theorem k3_48 : lnk 3 48 = some (0, 51) := by decide +kernel
theorem k3_54 : lnk 3 54 = some (0, 56) := by decide +kernel
theorem k3_58 : lnk 3 58 = some (0, 46) := by decide +kernel
theorem k3_61 : lnk 3 61 = some (1, 48) := by decide +kernel
theorem k3_65 : lnk 3 65 = some (0, 45) := by decide +kernel
theorem k3_72 : lnk 3 72 = some (0, 47) := by decide +kernel
theorem k3_76 : lnk 3 76 = some (1, 49) := by decide +kernel
theorem k3_80 : lnk 3 80 = some (0, 50) := by decide +kernel
theorem k3_91 : lnk 3 91 = some (1, 54) := by decide +kernel
theorem k3_94 : lnk 3 94 = some (0, 52) := by decide +kernel
theorem k3_97 : lnk 3 97 = some (1, 55) := by decide +kernel
theorem k3_100 : lnk 3 100 = some (0, 53) := by decide +kernel
theorem k3_105 : lnk 3 105 = some (0, 57) := by decide +kernel
theorem k3_121 : lnk 3 121 = some (0, 186) := by decide +kernel
theorem k3_125 : lnk 3 125 = some (0, 187) := by decide +kernel
theorem k4_35 : lnk 4 35 = some (0, 33) := by decide +kernel
theorem k4_41 : lnk 4 41 = some (0, 34) := by decide +kernel
theorem k4_44 : lnk 4 44 = some (1, 182) := by decide +kernel
theorem k4_52 : lnk 4 52 = some (0, 60) := by decide +kernel
theorem k5_29 : lnk 5 29 = some (0, 36) := by decide +kernel
theorem k5_35 : lnk 5 35 = some (0, 33) := by decide +kernel
theorem k5_38 : lnk 5 38 = some (1, 183) := by decide +kernel
theorem k5_44 : lnk 5 44 = some (0, 65) := by decide +kernel
theorem k5_47 : lnk 5 47 = some (0, 66) := by decide +kernel
theorem k7_32 : lnk 7 32 = some (0, 35) := by decide +kernel
theorem k7_38 : lnk 7 38 = some (0, 33) := by decide +kernel
theorem k8_18 : lnk 8 18 = some (0, 76) := by decide +kernel
theorem k11_15 : lnk 11 15 = some (0, 81) := by decide +kernel
theorem k11_19 : lnk 11 19 = some (0, 123) := by decide +kernel
theorem k11_20 : lnk 11 20 = some (0, 82) := by decide +kernel
theorem k11_24 : lnk 11 24 = some (0, 124) := by decide +kernel
theorem k11_25 : lnk 11 25 = some (0, 83) := by decide +kernel
theorem k11_28 : lnk 11 28 = some (0, 134) := by decide +kernel
theorem k11_29 : lnk 11 29 = some (0, 84) := by decide +kernel
theorem k11_32 : lnk 11 32 = some (0, 136) := by decide +kernel
theorem k11_33 : lnk 11 33 = some (0, 85) := by decide +kernel
theorem k11_37 : lnk 11 37 = some (0, 138) := by decide +kernel
theorem k11_38 : lnk 11 38 = some (0, 86) := by decide +kernel
theorem k11_42 : lnk 11 42 = some (0, 139) := by decide +kernel
theorem k11_43 : lnk 11 43 = some (0, 87) := by decide +kernel
theorem k11_47 : lnk 11 47 = some (0, 142) := by decide +kernel
theorem k11_48 : lnk 11 48 = some (0, 88) := by decide +kernel
theorem k11_51 : lnk 11 51 = some (0, 144) := by decide +kernel
theorem k11_52 : lnk 11 52 = some (0, 89) := by decide +kernel
theorem k11_55 : lnk 11 55 = some (0, 145) := by decide +kernel
theorem k11_56 : lnk 11 56 = some (0, 90) := by decide +kernel
theorem k11_59 : lnk 11 59 = some (0, 147) := by decide +kernel
theorem k11_60 : lnk 11 60 = some (0, 91) := by decide +kernel
theorem k11_63 : lnk 11 63 = some (0, 148) := by decide +kernel
theorem k11_64 : lnk 11 64 = some (0, 92) := by decide +kernel
theorem k11_67 : lnk 11 67 = some (0, 149) := by decide +kernel
theorem k11_68 : lnk 11 68 = some (0, 93) := by decide +kernel
theorem k11_71 : lnk 11 71 = some (0, 150) := by decide +kernel
theorem k11_72 : lnk 11 72 = some (0, 94) := by decide +kernel
theorem k11_75 : lnk 11 75 = some (0, 151) := by decide +kernel
theorem k11_76 : lnk 11 76 = some (0, 95) := by decide +kernel
theorem k11_79 : lnk 11 79 = some (0, 152) := by decide +kernel
theorem k11_80 : lnk 11 80 = some (0, 96) := by decide +kernel
theorem k11_83 : lnk 11 83 = some (0, 154) := by decide +kernel
theorem k11_84 : lnk 11 84 = some (0, 97) := by decide +kernel
theorem k11_87 : lnk 11 87 = some (0, 157) := by decide +kernel
theorem k11_88 : lnk 11 88 = some (0, 98) := by decide +kernel
theorem k11_91 : lnk 11 91 = some (0, 159) := by decide +kernel
theorem k11_92 : lnk 11 92 = some (0, 99) := by decide +kernel
theorem k11_95 : lnk 11 95 = some (0, 160) := by decide +kernel
theorem k11_96 : lnk 11 96 = some (0, 100) := by decide +kernel
theorem k11_99 : lnk 11 99 = some (0, 161) := by decide +kernel
theorem k11_100 : lnk 11 100 = some (0, 101) := by decide +kernel
theorem k11_103 : lnk 11 103 = some (0, 162) := by decide +kernel
theorem k11_104 : lnk 11 104 = some (0, 102) := by decide +kernel
theorem k11_107 : lnk 11 107 = some (0, 164) := by decide +kernel
theorem k11_108 : lnk 11 108 = some (0, 103) := by decide +kernel
theorem k11_112 : lnk 11 112 = some (0, 165) := by decide +kernel
theorem k11_113 : lnk 11 113 = some (0, 104) := by decide +kernel
theorem k11_116 : lnk 11 116 = some (0, 166) := by decide +kernel
theorem k11_117 : lnk 11 117 = some (0, 105) := by decide +kernel
theorem k11_120 : lnk 11 120 = some (0, 171) := by decide +kernel
theorem k11_121 : lnk 11 121 = some (0, 106) := by decide +kernel
theorem k11_124 : lnk 11 124 = some (0, 172) := by decide +kernel
theorem k11_125 : lnk 11 125 = some (0, 107) := by decide +kernel
theorem k11_128 : lnk 11 128 = some (0, 173) := by decide +kernel
theorem k11_129 : lnk 11 129 = some (0, 108) := by decide +kernel
theorem k11_132 : lnk 11 132 = some (0, 175) := by decide +kernel
theorem k11_133 : lnk 11 133 = some (0, 109) := by decide +kernel
theorem k11_136 : lnk 11 136 = some (0, 176) := by decide +kernel
theorem k11_137 : lnk 11 137 = some (0, 110) := by decide +kernel
theorem k11_140 : lnk 11 140 = some (0, 177) := by decide +kernel
theorem k11_141 : lnk 11 141 = some (0, 111) := by decide +kernel
theorem k11_144 : lnk 11 144 = some (0, 178) := by decide +kernel
theorem k11_145 : lnk 11 145 = some (0, 112) := by decide +kernel
theorem k11_148 : lnk 11 148 = some (0, 179) := by decide +kernel
theorem k10_63 : lnk 10 63 = some (0, 121) := by decide +kernel
theorem k10_66 : lnk 10 66 = some (0, 122) := by decide +kernel
theorem k10_69 : lnk 10 69 = some (1, 117) := by decide +kernel
theorem k10_119 : lnk 10 119 = some (0, 125) := by decide +kernel
theorem k10_122 : lnk 10 122 = some (0, 126) := by decide +kernel
theorem k10_126 : lnk 10 126 = some (0, 127) := by decide +kernel
theorem k10_155 : lnk 10 155 = some (0, 128) := by decide +kernel
theorem k10_159 : lnk 10 159 = some (0, 129) := by decide +kernel
theorem k10_162 : lnk 10 162 = some (0, 130) := by decide +kernel
theorem k10_165 : lnk 10 165 = some (0, 131) := by decide +kernel
theorem k10_171 : lnk 10 171 = some (0, 132) := by decide +kernel
theorem k10_174 : lnk 10 174 = some (0, 133) := by decide +kernel
theorem k10_177 : lnk 10 177 = some (0, 135) := by decide +kernel
theorem k10_196 : lnk 10 196 = some (0, 119) := by decide +kernel
theorem k10_199 : lnk 10 199 = some (0, 137) := by decide +kernel
theorem k10_205 : lnk 10 205 = some (0, 141) := by decide +kernel
theorem k10_209 : lnk 10 209 = some (0, 140) := by decide +kernel
theorem k10_212 : lnk 10 212 = some (0, 143) := by decide +kernel
theorem k10_215 : lnk 10 215 = some (0, 120) := by decide +kernel
theorem k10_218 : lnk 10 218 = some (0, 146) := by decide +kernel
theorem k10_221 : lnk 10 221 = some (0, 153) := by decide +kernel
theorem k10_225 : lnk 10 225 = some (0, 155) := by decide +kernel
theorem k10_228 : lnk 10 228 = some (0, 156) := by decide +kernel
theorem k10_231 : lnk 10 231 = some (0, 158) := by decide +kernel
theorem k10_234 : lnk 10 234 = some (0, 163) := by decide +kernel
theorem k10_237 : lnk 10 237 = some (0, 168) := by decide +kernel
theorem k10_241 : lnk 10 241 = some (1, 118) := by decide +kernel
theorem k10_244 : lnk 10 244 = some (0, 167) := by decide +kernel
theorem k10_247 : lnk 10 247 = some (1, 170) := by decide +kernel
theorem k10_250 : lnk 10 250 = some (0, 169) := by decide +kernel
theorem k10_253 : lnk 10 253 = some (0, 174) := by decide +kernel
theorem k10_257 : lnk 10 257 = some (0, 175) := by decide +kernel
theorem k20_335 : lnk 20 335 = some (0, 188) := by decide +kernel
theorem k20_492 : lnk 20 492 = some (0, 189) := by decide +kernel
theorem k20_495 : lnk 20 495 = some (1, 191) := by decide +kernel
theorem k20_498 : lnk 20 498 = some (1, 194) := by decide +kernel
theorem k20_1059 : lnk 20 1059 = some (1, 196) := by decide +kernel
theorem k21_9 : lnk 21 9 = some (1, 190) := by decide +kernel
theorem k22_48 : lnk 22 48 = some (1, 193) := by decide +kernel
theorem k22_67 : lnk 22 67 = some (1, 195) := by decide +kernel
theorem k22_71 : lnk 22 71 = some (1, 192) := by decide +kernel
theorem k22_414 : lnk 22 414 = some (1, 190) := by decide +kernel
theorem cs9_126 : cst 9 126 = some (.int 99999) := by decide +kernel
theorem cs9_136 : cst 9 136 = some (.int 100000) := by decide +kernel
theorem cs2_59 : cst 2 59 = some (.int 1000000) := by decide +kernel
theorem cs6_19 : cst 6 19 = some (.long 255) := by decide +kernel
theorem cs8_28 : cst 8 28 = some (.int 99999) := by decide +kernel
theorem cs11_13 : cst 11 13 = some (.long 4294967295) := by decide +kernel
theorem cs10_82 : cst 10 82 = some (.int 100000) := by decide +kernel
theorem cs10_86 : cst 10 86 = some (.long 255) := by decide +kernel
theorem cs10_100 : cst 10 100 = some (.long (-2)) := by decide +kernel
theorem cs10_106 : cst 10 106 = some (.long 27) := by decide +kernel
theorem cs10_108 : cst 10 108 = some (.long 96) := by decide +kernel
theorem cs10_110 : cst 10 110 = some (.long (-4)) := by decide +kernel
theorem cs10_112 : cst 10 112 = some (.long (-1)) := by decide +kernel
theorem cs10_114 : cst 10 114 = some (.long (-3)) := by decide +kernel
theorem cs10_141 : cst 10 141 = some (.long 283616147) := by decide +kernel
theorem cs10_143 : cst 10 143 = some (.long 31519426) := by decide +kernel
theorem cs10_145 : cst 10 145 = some (.long 16819) := by decide +kernel
theorem cs10_147 : cst 10 147 = some (.long 453774) := by decide +kernel
theorem cs10_149 : cst 10 149 = some (.long 82516) := by decide +kernel
theorem cs10_151 : cst 10 151 = some (.long 380230) := by decide +kernel
theorem cs10_153 : cst 10 153 = some (.long 400354) := by decide +kernel
theorem cs10_203 : cst 10 203 = some (.int 144000) := by decide +kernel
theorem cs10_204 : cst 10 204 = some (.int 99999) := by decide +kernel
theorem cs26_265 : cst 26 265 = some (.int 1431655765) := by decide +kernel
theorem cs26_266 : cst 26 266 = some (.int 858993459) := by decide +kernel
theorem cs26_267 : cst 26 267 = some (.int 252645135) := by decide +kernel
theorem cs3_103 : cst 3 103 = some (.ref 1000) := by decide +kernel
theorem cs3_109 : cst 3 109 = some (.ref 1001) := by decide +kernel
theorem cs3_111 : cst 3 111 = some (.ref 1002) := by decide +kernel
theorem cs3_113 : cst 3 113 = some (.ref 1003) := by decide +kernel
theorem cs3_115 : cst 3 115 = some (.ref 1004) := by decide +kernel
theorem cs3_117 : cst 3 117 = some (.ref 1005) := by decide +kernel
theorem cs3_119 : cst 3 119 = some (.ref 1006) := by decide +kernel
theorem tmod_bd (a : Int) {b : Int} (hb : 0 < b) : -b < Int.tmod a b ∧ Int.tmod a b < b := ⟨Int.lt_tmod_of_pos a hb, Int.tmod_lt_of_pos a hb⟩
theorem tdiv_bd (a : Int) {b : Int} (hb : 0 < b) : ((0 ≤ a → 0 ≤ Int.tdiv a b ∧ Int.tdiv a b ≤ a) ∧ (a ≤ 0 → a ≤ Int.tdiv a b ∧ Int.tdiv a b ≤ 0)) ∧ -b < a - b * Int.tdiv a b ∧ a - b * Int.tdiv a b < b := by
  have key : ∀ c : Int, 0 ≤ c → 0 ≤ Int.tdiv c b ∧ Int.tdiv c b ≤ c := fun c hc => by
    rw [Int.tdiv_eq_ediv_of_nonneg hc]
    exact ⟨Int.ediv_nonneg hc (by omega), Int.ediv_le_self _ hc⟩
  refine ⟨⟨key a, fun h => ?_⟩, by rw [← Int.tmod_def]; exact tmod_bd a hb⟩
  have h1 := key (-a) (by omega)
  rw [Int.neg_tdiv] at h1
  omega
theorem j_ldcw {y pc i : Nat} {n : Int} {x : Int32} {lv : List (Option Value)} {st : List Value} {μ : mm} {Q : Option Value → mm → Prop} (hi : ins y pc = some (.ldc_w i)) (hx : cst (mo y) i = some (.int x)) (hn : x = iI n) : G y pc lv st μ Q = G y (pc + 3) lv (vI n :: st) μ Q := by subst hn; exact g_ldc_w hi hx
