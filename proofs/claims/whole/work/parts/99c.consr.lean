/-! constructors: rows and words (wip/gen/gen_cons.py) -/
theorem e0_0 : decode (mb 0) 0 = .ok (.aload_n 0, 1) := by decide +kernel
theorem e0_1 : decode (mb 0) 1 = .ok (.invokespecial 3, 3) := by decide +kernel
theorem e0_4 : decode (mb 0) 4 = .ok (.aload_n 0, 1) := by decide +kernel
theorem e0_5 : decode (mb 0) 5 = .ok (.bipush 10, 2) := by decide +kernel
theorem e0_7 : decode (mb 0) 7 = .ok (.newarray .int, 2) := by decide +kernel
theorem e0_9 : decode (mb 0) 9 = .ok (.putfield 9, 3) := by decide +kernel
theorem e0_12 : decode (mb 0) 12 = .ok (.aload_n 0, 1) := by decide +kernel
theorem e0_13 : decode (mb 0) 13 = .ok (.bipush 10, 2) := by decide +kernel
theorem e0_15 : decode (mb 0) 15 = .ok (.newarray .int, 2) := by decide +kernel
theorem e0_17 : decode (mb 0) 17 = .ok (.putfield 15, 3) := by decide +kernel
theorem e0_20 : decode (mb 0) 20 = .ok (.aload_n 0, 1) := by decide +kernel
theorem e0_21 : decode (mb 0) 21 = .ok (.bipush 10, 2) := by decide +kernel
theorem e0_23 : decode (mb 0) 23 = .ok (.newarray .int, 2) := by decide +kernel
theorem e0_25 : decode (mb 0) 25 = .ok (.putfield 18, 3) := by decide +kernel
theorem e0_28 : decode (mb 0) 28 = .ok (.aload_n 0, 1) := by decide +kernel
theorem e0_29 : decode (mb 0) 29 = .ok (.bipush 10, 2) := by decide +kernel
theorem e0_31 : decode (mb 0) 31 = .ok (.newarray .int, 2) := by decide +kernel
theorem e0_33 : decode (mb 0) 33 = .ok (.putfield 21, 3) := by decide +kernel
theorem e0_36 : decode (mb 0) 36 = .ok (.aload_n 0, 1) := by decide +kernel
theorem e0_37 : decode (mb 0) 37 = .ok (.bipush 10, 2) := by decide +kernel
theorem e0_39 : decode (mb 0) 39 = .ok (.newarray .int, 2) := by decide +kernel
theorem e0_41 : decode (mb 0) 41 = .ok (.putfield 24, 3) := by decide +kernel
theorem e0_44 : decode (mb 0) 44 = .ok (.aload_n 0, 1) := by decide +kernel
theorem e0_45 : decode (mb 0) 45 = .ok (.aload_n 1, 1) := by decide +kernel
theorem e0_46 : decode (mb 0) 46 = .ok (.putfield 27, 3) := by decide +kernel
theorem e0_49 : decode (mb 0) 49 = .ok (.return_, 1) := by decide +kernel
theorem e9_0 : decode (mb 9) 0 = .ok (.aload_n 0, 1) := by decide +kernel
theorem e9_1 : decode (mb 9) 1 = .ok (.invokespecial 3, 3) := by decide +kernel
theorem e9_4 : decode (mb 9) 4 = .ok (.aload_n 0, 1) := by decide +kernel
theorem e9_5 : decode (mb 9) 5 = .ok (.bipush 10, 2) := by decide +kernel
theorem e9_7 : decode (mb 9) 7 = .ok (.newarray .int, 2) := by decide +kernel
theorem e9_9 : decode (mb 9) 9 = .ok (.putfield 9, 3) := by decide +kernel
theorem e9_12 : decode (mb 9) 12 = .ok (.aload_n 0, 1) := by decide +kernel
theorem e9_13 : decode (mb 9) 13 = .ok (.bipush 10, 2) := by decide +kernel
theorem e9_15 : decode (mb 9) 15 = .ok (.newarray .int, 2) := by decide +kernel
theorem e9_17 : decode (mb 9) 17 = .ok (.putfield 15, 3) := by decide +kernel
theorem e9_20 : decode (mb 9) 20 = .ok (.aload_n 0, 1) := by decide +kernel
theorem e9_21 : decode (mb 9) 21 = .ok (.bipush 10, 2) := by decide +kernel
theorem e9_23 : decode (mb 9) 23 = .ok (.newarray .int, 2) := by decide +kernel
theorem e9_25 : decode (mb 9) 25 = .ok (.putfield 18, 3) := by decide +kernel
theorem e9_28 : decode (mb 9) 28 = .ok (.aload_n 0, 1) := by decide +kernel
theorem e9_29 : decode (mb 9) 29 = .ok (.bipush 10, 2) := by decide +kernel
theorem e9_31 : decode (mb 9) 31 = .ok (.newarray .int, 2) := by decide +kernel
theorem e9_33 : decode (mb 9) 33 = .ok (.putfield 21, 3) := by decide +kernel
theorem e9_36 : decode (mb 9) 36 = .ok (.aload_n 0, 1) := by decide +kernel
theorem e9_37 : decode (mb 9) 37 = .ok (.bipush 10, 2) := by decide +kernel
theorem e9_39 : decode (mb 9) 39 = .ok (.newarray .int, 2) := by decide +kernel
theorem e9_41 : decode (mb 9) 41 = .ok (.putfield 24, 3) := by decide +kernel
theorem e9_44 : decode (mb 9) 44 = .ok (.aload_n 0, 1) := by decide +kernel
theorem e9_45 : decode (mb 9) 45 = .ok (.aload_n 1, 1) := by decide +kernel
theorem e9_46 : decode (mb 9) 46 = .ok (.putfield 27, 3) := by decide +kernel
theorem e9_49 : decode (mb 9) 49 = .ok (.return_, 1) := by decide +kernel
theorem e23_0 : decode (mb 23) 0 = .ok (.aload_n 0, 1) := by decide +kernel
theorem e23_1 : decode (mb 23) 1 = .ok (.invokespecial 3, 3) := by decide +kernel
theorem e23_4 : decode (mb 23) 4 = .ok (.aload_n 0, 1) := by decide +kernel
theorem e23_5 : decode (mb 23) 5 = .ok (.bipush 10, 2) := by decide +kernel
theorem e23_7 : decode (mb 23) 7 = .ok (.newarray .int, 2) := by decide +kernel
theorem e23_9 : decode (mb 23) 9 = .ok (.putfield 9, 3) := by decide +kernel
theorem e23_12 : decode (mb 23) 12 = .ok (.aload_n 0, 1) := by decide +kernel
theorem e23_13 : decode (mb 23) 13 = .ok (.bipush 10, 2) := by decide +kernel
theorem e23_15 : decode (mb 23) 15 = .ok (.newarray .int, 2) := by decide +kernel
theorem e23_17 : decode (mb 23) 17 = .ok (.putfield 15, 3) := by decide +kernel
theorem e23_20 : decode (mb 23) 20 = .ok (.aload_n 0, 1) := by decide +kernel
theorem e23_21 : decode (mb 23) 21 = .ok (.bipush 10, 2) := by decide +kernel
theorem e23_23 : decode (mb 23) 23 = .ok (.newarray .int, 2) := by decide +kernel
theorem e23_25 : decode (mb 23) 25 = .ok (.putfield 18, 3) := by decide +kernel
theorem e23_28 : decode (mb 23) 28 = .ok (.aload_n 0, 1) := by decide +kernel
theorem e23_29 : decode (mb 23) 29 = .ok (.bipush 8, 2) := by decide +kernel
theorem e23_31 : decode (mb 23) 31 = .ok (.newarray .int, 2) := by decide +kernel
theorem e23_33 : decode (mb 23) 33 = .ok (.putfield 21, 3) := by decide +kernel
theorem e23_36 : decode (mb 23) 36 = .ok (.aload_n 0, 1) := by decide +kernel
theorem e23_37 : decode (mb 23) 37 = .ok (.bipush 8, 2) := by decide +kernel
theorem e23_39 : decode (mb 23) 39 = .ok (.newarray .int, 2) := by decide +kernel
theorem e23_41 : decode (mb 23) 41 = .ok (.putfield 24, 3) := by decide +kernel
theorem e23_44 : decode (mb 23) 44 = .ok (.aload_n 0, 1) := by decide +kernel
theorem e23_45 : decode (mb 23) 45 = .ok (.bipush 8, 2) := by decide +kernel
theorem e23_47 : decode (mb 23) 47 = .ok (.newarray .int, 2) := by decide +kernel
theorem e23_49 : decode (mb 23) 49 = .ok (.putfield 27, 3) := by decide +kernel
theorem e23_52 : decode (mb 23) 52 = .ok (.aload_n 0, 1) := by decide +kernel
theorem e23_53 : decode (mb 23) 53 = .ok (.bipush 10, 2) := by decide +kernel
theorem e23_55 : decode (mb 23) 55 = .ok (.bipush 10, 2) := by decide +kernel
theorem e23_57 : decode (mb 23) 57 = .ok (.multianewarray 30 2, 4) := by decide +kernel
theorem e23_61 : decode (mb 23) 61 = .ok (.putfield 32, 3) := by decide +kernel
theorem e23_64 : decode (mb 23) 64 = .ok (.aload_n 0, 1) := by decide +kernel
theorem e23_65 : decode (mb 23) 65 = .ok (.iconst 4, 1) := by decide +kernel
theorem e23_66 : decode (mb 23) 66 = .ok (.invokevirtual 35, 3) := by decide +kernel
theorem e23_69 : decode (mb 23) 69 = .ok (.aload_n 0, 1) := by decide +kernel
theorem e23_70 : decode (mb 23) 70 = .ok (.invokevirtual 39, 3) := by decide +kernel
theorem e23_73 : decode (mb 23) 73 = .ok (.return_, 1) := by decide +kernel
theorem e40_0 : decode (mb 40) 0 = .ok (.aload_n 0, 1) := by decide +kernel
theorem e40_1 : decode (mb 40) 1 = .ok (.invokespecial 3, 3) := by decide +kernel
theorem e40_4 : decode (mb 40) 4 = .ok (.aload_n 0, 1) := by decide +kernel
theorem e40_5 : decode (mb 40) 5 = .ok (.bipush 10, 2) := by decide +kernel
theorem e40_7 : decode (mb 40) 7 = .ok (.newarray .int, 2) := by decide +kernel
theorem e40_9 : decode (mb 40) 9 = .ok (.putfield 9, 3) := by decide +kernel
theorem e40_12 : decode (mb 40) 12 = .ok (.aload_n 0, 1) := by decide +kernel
theorem e40_13 : decode (mb 40) 13 = .ok (.bipush 50, 2) := by decide +kernel
theorem e40_15 : decode (mb 40) 15 = .ok (.newarray .int, 2) := by decide +kernel
theorem e40_17 : decode (mb 40) 17 = .ok (.putfield 15, 3) := by decide +kernel
theorem e40_20 : decode (mb 40) 20 = .ok (.aload_n 0, 1) := by decide +kernel
theorem e40_21 : decode (mb 40) 21 = .ok (.aload_n 1, 1) := by decide +kernel
theorem e40_22 : decode (mb 40) 22 = .ok (.putfield 18, 3) := by decide +kernel
theorem e40_25 : decode (mb 40) 25 = .ok (.return_, 1) := by decide +kernel
theorem e58_0 : decode (mb 58) 0 = .ok (.aload_n 0, 1) := by decide +kernel
theorem e58_1 : decode (mb 58) 1 = .ok (.invokespecial 3, 3) := by decide +kernel
theorem e58_4 : decode (mb 58) 4 = .ok (.aload_n 0, 1) := by decide +kernel
theorem e58_5 : decode (mb 58) 5 = .ok (.bipush 6, 2) := by decide +kernel
theorem e58_7 : decode (mb 58) 7 = .ok (.newarray .int, 2) := by decide +kernel
theorem e58_9 : decode (mb 58) 9 = .ok (.putfield 9, 3) := by decide +kernel
theorem e58_12 : decode (mb 58) 12 = .ok (.aload_n 0, 1) := by decide +kernel
theorem e58_13 : decode (mb 58) 13 = .ok (.bipush 6, 2) := by decide +kernel
theorem e58_15 : decode (mb 58) 15 = .ok (.newarray .int, 2) := by decide +kernel
theorem e58_17 : decode (mb 58) 17 = .ok (.putfield 15, 3) := by decide +kernel
theorem e58_20 : decode (mb 58) 20 = .ok (.aload_n 0, 1) := by decide +kernel
theorem e58_21 : decode (mb 58) 21 = .ok (.bipush 6, 2) := by decide +kernel
theorem e58_23 : decode (mb 58) 23 = .ok (.newarray .int, 2) := by decide +kernel
theorem e58_25 : decode (mb 58) 25 = .ok (.putfield 18, 3) := by decide +kernel
theorem e58_28 : decode (mb 58) 28 = .ok (.aload_n 0, 1) := by decide +kernel
theorem e58_29 : decode (mb 58) 29 = .ok (.bipush 6, 2) := by decide +kernel
theorem e58_31 : decode (mb 58) 31 = .ok (.newarray .int, 2) := by decide +kernel
theorem e58_33 : decode (mb 58) 33 = .ok (.putfield 21, 3) := by decide +kernel
theorem e58_36 : decode (mb 58) 36 = .ok (.aload_n 0, 1) := by decide +kernel
theorem e58_37 : decode (mb 58) 37 = .ok (.bipush 6, 2) := by decide +kernel
theorem e58_39 : decode (mb 58) 39 = .ok (.newarray .int, 2) := by decide +kernel
theorem e58_41 : decode (mb 58) 41 = .ok (.putfield 24, 3) := by decide +kernel
theorem e58_44 : decode (mb 58) 44 = .ok (.aload_n 0, 1) := by decide +kernel
theorem e58_45 : decode (mb 58) 45 = .ok (.aload_n 1, 1) := by decide +kernel
theorem e58_46 : decode (mb 58) 46 = .ok (.putfield 27, 3) := by decide +kernel
theorem e58_49 : decode (mb 58) 49 = .ok (.return_, 1) := by decide +kernel
theorem e62_0 : decode (mb 62) 0 = .ok (.aload_n 0, 1) := by decide +kernel
theorem e62_1 : decode (mb 62) 1 = .ok (.invokespecial 3, 3) := by decide +kernel
theorem e62_4 : decode (mb 62) 4 = .ok (.aload_n 0, 1) := by decide +kernel
theorem e62_5 : decode (mb 62) 5 = .ok (.bipush 12, 2) := by decide +kernel
theorem e62_7 : decode (mb 62) 7 = .ok (.newarray .int, 2) := by decide +kernel
theorem e62_9 : decode (mb 62) 9 = .ok (.putfield 9, 3) := by decide +kernel
theorem e62_12 : decode (mb 62) 12 = .ok (.aload_n 0, 1) := by decide +kernel
theorem e62_13 : decode (mb 62) 13 = .ok (.bipush 12, 2) := by decide +kernel
theorem e62_15 : decode (mb 62) 15 = .ok (.newarray .int, 2) := by decide +kernel
theorem e62_17 : decode (mb 62) 17 = .ok (.putfield 15, 3) := by decide +kernel
theorem e62_20 : decode (mb 62) 20 = .ok (.aload_n 0, 1) := by decide +kernel
theorem e62_21 : decode (mb 62) 21 = .ok (.bipush 12, 2) := by decide +kernel
theorem e62_23 : decode (mb 62) 23 = .ok (.newarray .int, 2) := by decide +kernel
theorem e62_25 : decode (mb 62) 25 = .ok (.putfield 18, 3) := by decide +kernel
theorem e62_28 : decode (mb 62) 28 = .ok (.aload_n 0, 1) := by decide +kernel
theorem e62_29 : decode (mb 62) 29 = .ok (.aload_n 1, 1) := by decide +kernel
theorem e62_30 : decode (mb 62) 30 = .ok (.putfield 21, 3) := by decide +kernel
theorem e62_33 : decode (mb 62) 33 = .ok (.return_, 1) := by decide +kernel
theorem e68_0 : decode (mb 68) 0 = .ok (.aload_n 0, 1) := by decide +kernel
theorem e68_1 : decode (mb 68) 1 = .ok (.invokespecial 3, 3) := by decide +kernel
theorem e68_4 : decode (mb 68) 4 = .ok (.aload_n 0, 1) := by decide +kernel
theorem e68_5 : decode (mb 68) 5 = .ok (.sipush 200, 3) := by decide +kernel
theorem e68_8 : decode (mb 68) 8 = .ok (.newarray .int, 2) := by decide +kernel
theorem e68_10 : decode (mb 68) 10 = .ok (.putfield 9, 3) := by decide +kernel
theorem e68_13 : decode (mb 68) 13 = .ok (.return_, 1) := by decide +kernel
theorem e71_0 : decode (mb 71) 0 = .ok (.aload_n 0, 1) := by decide +kernel
theorem e71_1 : decode (mb 71) 1 = .ok (.invokespecial 3, 3) := by decide +kernel
theorem e71_4 : decode (mb 71) 4 = .ok (.aload_n 0, 1) := by decide +kernel
theorem e71_5 : decode (mb 71) 5 = .ok (.bipush 12, 2) := by decide +kernel
theorem e71_7 : decode (mb 71) 7 = .ok (.newarray .int, 2) := by decide +kernel
theorem e71_9 : decode (mb 71) 9 = .ok (.putfield 9, 3) := by decide +kernel
theorem e71_12 : decode (mb 71) 12 = .ok (.aload_n 0, 1) := by decide +kernel
theorem e71_13 : decode (mb 71) 13 = .ok (.aload_n 1, 1) := by decide +kernel
theorem e71_14 : decode (mb 71) 14 = .ok (.putfield 15, 3) := by decide +kernel
theorem e71_17 : decode (mb 71) 17 = .ok (.return_, 1) := by decide +kernel
theorem e75_0 : decode (mb 75) 0 = .ok (.aload_n 0, 1) := by decide +kernel
theorem e75_1 : decode (mb 75) 1 = .ok (.invokespecial 3, 3) := by decide +kernel
theorem e75_4 : decode (mb 75) 4 = .ok (.aload_n 0, 1) := by decide +kernel
theorem e75_5 : decode (mb 75) 5 = .ok (.iconst 2, 1) := by decide +kernel
theorem e75_6 : decode (mb 75) 6 = .ok (.newarray .int, 2) := by decide +kernel
theorem e75_8 : decode (mb 75) 8 = .ok (.putfield 9, 3) := by decide +kernel
theorem e75_11 : decode (mb 75) 11 = .ok (.aload_n 0, 1) := by decide +kernel
theorem e75_12 : decode (mb 75) 12 = .ok (.iconst 2, 1) := by decide +kernel
theorem e75_13 : decode (mb 75) 13 = .ok (.newarray .int, 2) := by decide +kernel
theorem e75_15 : decode (mb 75) 15 = .ok (.putfield 15, 3) := by decide +kernel
theorem e75_18 : decode (mb 75) 18 = .ok (.aload_n 0, 1) := by decide +kernel
theorem e75_19 : decode (mb 75) 19 = .ok (.invokevirtual 18, 3) := by decide +kernel
theorem e75_22 : decode (mb 75) 22 = .ok (.return_, 1) := by decide +kernel
theorem e80_0 : decode (mb 80) 0 = .ok (.aload_n 0, 1) := by decide +kernel
theorem e80_1 : decode (mb 80) 1 = .ok (.invokespecial 1, 3) := by decide +kernel
theorem e80_4 : decode (mb 80) 4 = .ok (.aload_n 0, 1) := by decide +kernel
theorem e80_5 : decode (mb 80) 5 = .ok (.new 7, 3) := by decide +kernel
theorem e80_8 : decode (mb 80) 8 = .ok (.dup, 1) := by decide +kernel
theorem e80_9 : decode (mb 80) 9 = .ok (.invokespecial 9, 3) := by decide +kernel
theorem e80_12 : decode (mb 80) 12 = .ok (.putfield 10, 3) := by decide +kernel
theorem e80_15 : decode (mb 80) 15 = .ok (.aload_n 0, 1) := by decide +kernel
theorem e80_16 : decode (mb 80) 16 = .ok (.new 16, 3) := by decide +kernel
theorem e80_19 : decode (mb 80) 19 = .ok (.dup, 1) := by decide +kernel
theorem e80_20 : decode (mb 80) 20 = .ok (.aload_n 0, 1) := by decide +kernel
theorem e80_21 : decode (mb 80) 21 = .ok (.getfield 10, 3) := by decide +kernel
theorem e80_24 : decode (mb 80) 24 = .ok (.invokespecial 18, 3) := by decide +kernel
theorem e80_27 : decode (mb 80) 27 = .ok (.putfield 21, 3) := by decide +kernel
theorem e80_30 : decode (mb 80) 30 = .ok (.aload_n 0, 1) := by decide +kernel
theorem e80_31 : decode (mb 80) 31 = .ok (.new 25, 3) := by decide +kernel
theorem e80_34 : decode (mb 80) 34 = .ok (.dup, 1) := by decide +kernel
theorem e80_35 : decode (mb 80) 35 = .ok (.aload_n 0, 1) := by decide +kernel
theorem e80_36 : decode (mb 80) 36 = .ok (.getfield 10, 3) := by decide +kernel
theorem e80_39 : decode (mb 80) 39 = .ok (.invokespecial 27, 3) := by decide +kernel
theorem e80_42 : decode (mb 80) 42 = .ok (.putfield 28, 3) := by decide +kernel
theorem e80_45 : decode (mb 80) 45 = .ok (.aload_n 0, 1) := by decide +kernel
theorem e80_46 : decode (mb 80) 46 = .ok (.new 32, 3) := by decide +kernel
theorem e80_49 : decode (mb 80) 49 = .ok (.dup, 1) := by decide +kernel
theorem e80_50 : decode (mb 80) 50 = .ok (.invokespecial 34, 3) := by decide +kernel
theorem e80_53 : decode (mb 80) 53 = .ok (.putfield 35, 3) := by decide +kernel
theorem e80_56 : decode (mb 80) 56 = .ok (.aload_n 0, 1) := by decide +kernel
theorem e80_57 : decode (mb 80) 57 = .ok (.new 39, 3) := by decide +kernel
theorem e80_60 : decode (mb 80) 60 = .ok (.dup, 1) := by decide +kernel
theorem e80_61 : decode (mb 80) 61 = .ok (.aload_n 0, 1) := by decide +kernel
theorem e80_62 : decode (mb 80) 62 = .ok (.getfield 35, 3) := by decide +kernel
theorem e80_65 : decode (mb 80) 65 = .ok (.invokespecial 41, 3) := by decide +kernel
theorem e80_68 : decode (mb 80) 68 = .ok (.putfield 44, 3) := by decide +kernel
theorem e80_71 : decode (mb 80) 71 = .ok (.aload_n 0, 1) := by decide +kernel
theorem e80_72 : decode (mb 80) 72 = .ok (.new 48, 3) := by decide +kernel
theorem e80_75 : decode (mb 80) 75 = .ok (.dup, 1) := by decide +kernel
theorem e80_76 : decode (mb 80) 76 = .ok (.invokespecial 50, 3) := by decide +kernel
theorem e80_79 : decode (mb 80) 79 = .ok (.putfield 51, 3) := by decide +kernel
theorem e80_82 : decode (mb 80) 82 = .ok (.aload_n 0, 1) := by decide +kernel
theorem e80_83 : decode (mb 80) 83 = .ok (.new 55, 3) := by decide +kernel
theorem e80_86 : decode (mb 80) 86 = .ok (.dup, 1) := by decide +kernel
theorem e80_87 : decode (mb 80) 87 = .ok (.aload_n 0, 1) := by decide +kernel
theorem e80_88 : decode (mb 80) 88 = .ok (.getfield 10, 3) := by decide +kernel
theorem e80_91 : decode (mb 80) 91 = .ok (.invokespecial 57, 3) := by decide +kernel
theorem e80_94 : decode (mb 80) 94 = .ok (.putfield 58, 3) := by decide +kernel
theorem e80_97 : decode (mb 80) 97 = .ok (.aload_n 0, 1) := by decide +kernel
theorem e80_98 : decode (mb 80) 98 = .ok (.new 62, 3) := by decide +kernel
theorem e80_101 : decode (mb 80) 101 = .ok (.dup, 1) := by decide +kernel
theorem e80_102 : decode (mb 80) 102 = .ok (.aload_n 0, 1) := by decide +kernel
theorem e80_103 : decode (mb 80) 103 = .ok (.getfield 10, 3) := by decide +kernel
theorem e80_106 : decode (mb 80) 106 = .ok (.invokespecial 64, 3) := by decide +kernel
theorem e80_109 : decode (mb 80) 109 = .ok (.putfield 65, 3) := by decide +kernel
theorem e80_112 : decode (mb 80) 112 = .ok (.aload_n 0, 1) := by decide +kernel
theorem e80_113 : decode (mb 80) 113 = .ok (.new 69, 3) := by decide +kernel
theorem e80_116 : decode (mb 80) 116 = .ok (.dup, 1) := by decide +kernel
theorem e80_117 : decode (mb 80) 117 = .ok (.aload_n 0, 1) := by decide +kernel
theorem e80_118 : decode (mb 80) 118 = .ok (.getfield 10, 3) := by decide +kernel
theorem e80_121 : decode (mb 80) 121 = .ok (.invokespecial 71, 3) := by decide +kernel
theorem e80_124 : decode (mb 80) 124 = .ok (.putfield 72, 3) := by decide +kernel
theorem e80_127 : decode (mb 80) 127 = .ok (.return_, 1) := by decide +kernel
theorem e116_0 : decode (mb 116) 0 = .ok (.aload_n 0, 1) := by decide +kernel
theorem e116_1 : decode (mb 116) 1 = .ok (.invokespecial 1, 3) := by decide +kernel
theorem e116_4 : decode (mb 116) 4 = .ok (.aload_n 0, 1) := by decide +kernel
theorem e116_5 : decode (mb 116) 5 = .ok (.iconst 4, 1) := by decide +kernel
theorem e116_6 : decode (mb 116) 6 = .ok (.putfield 7, 3) := by decide +kernel
theorem e116_9 : decode (mb 116) 9 = .ok (.aload_n 0, 1) := by decide +kernel
theorem e116_10 : decode (mb 116) 10 = .ok (.bipush 10, 2) := by decide +kernel
theorem e116_12 : decode (mb 116) 12 = .ok (.newarray .int, 2) := by decide +kernel
theorem e116_14 : decode (mb 116) 14 = .ok (.putfield 13, 3) := by decide +kernel
theorem e116_17 : decode (mb 116) 17 = .ok (.aload_n 0, 1) := by decide +kernel
theorem e116_18 : decode (mb 116) 18 = .ok (.bipush 10, 2) := by decide +kernel
theorem e116_20 : decode (mb 116) 20 = .ok (.newarray .int, 2) := by decide +kernel
theorem e116_22 : decode (mb 116) 22 = .ok (.putfield 17, 3) := by decide +kernel
theorem e116_25 : decode (mb 116) 25 = .ok (.aload_n 0, 1) := by decide +kernel
theorem e116_26 : decode (mb 116) 26 = .ok (.bipush 24, 2) := by decide +kernel
theorem e116_28 : decode (mb 116) 28 = .ok (.newarray .int, 2) := by decide +kernel
theorem e116_30 : decode (mb 116) 30 = .ok (.putfield 20, 3) := by decide +kernel
theorem e116_33 : decode (mb 116) 33 = .ok (.aload_n 0, 1) := by decide +kernel
theorem e116_34 : decode (mb 116) 34 = .ok (.bipush 30, 2) := by decide +kernel
theorem e116_36 : decode (mb 116) 36 = .ok (.newarray .int, 2) := by decide +kernel
theorem e116_38 : decode (mb 116) 38 = .ok (.putfield 23, 3) := by decide +kernel
theorem e116_41 : decode (mb 116) 41 = .ok (.aload_n 0, 1) := by decide +kernel
theorem e116_42 : decode (mb 116) 42 = .ok (.bipush 30, 2) := by decide +kernel
theorem e116_44 : decode (mb 116) 44 = .ok (.newarray .int, 2) := by decide +kernel
theorem e116_46 : decode (mb 116) 46 = .ok (.putfield 26, 3) := by decide +kernel
theorem e116_49 : decode (mb 116) 49 = .ok (.aload_n 0, 1) := by decide +kernel
theorem e116_50 : decode (mb 116) 50 = .ok (.bipush 100, 2) := by decide +kernel
theorem e116_52 : decode (mb 116) 52 = .ok (.newarray .int, 2) := by decide +kernel
theorem e116_54 : decode (mb 116) 54 = .ok (.putfield 29, 3) := by decide +kernel
theorem e116_57 : decode (mb 116) 57 = .ok (.aload_n 0, 1) := by decide +kernel
theorem e116_58 : decode (mb 116) 58 = .ok (.sipush 200, 3) := by decide +kernel
theorem e116_61 : decode (mb 116) 61 = .ok (.newarray .int, 2) := by decide +kernel
theorem e116_63 : decode (mb 116) 63 = .ok (.putfield 32, 3) := by decide +kernel
theorem e116_66 : decode (mb 116) 66 = .ok (.aload_n 0, 1) := by decide +kernel
theorem e116_67 : decode (mb 116) 67 = .ok (.bipush 60, 2) := by decide +kernel
theorem e116_69 : decode (mb 116) 69 = .ok (.newarray .int, 2) := by decide +kernel
theorem e116_71 : decode (mb 116) 71 = .ok (.putfield 35, 3) := by decide +kernel
theorem e116_74 : decode (mb 116) 74 = .ok (.aload_n 0, 1) := by decide +kernel
theorem e116_75 : decode (mb 116) 75 = .ok (.iconst 4, 1) := by decide +kernel
theorem e116_76 : decode (mb 116) 76 = .ok (.newarray .int, 2) := by decide +kernel
theorem e116_78 : decode (mb 116) 78 = .ok (.putfield 38, 3) := by decide +kernel
theorem e116_81 : decode (mb 116) 81 = .ok (.aload_n 0, 1) := by decide +kernel
theorem e116_82 : decode (mb 116) 82 = .ok (.iconst 2, 1) := by decide +kernel
theorem e116_83 : decode (mb 116) 83 = .ok (.newarray .boolean, 2) := by decide +kernel
theorem e116_85 : decode (mb 116) 85 = .ok (.putfield 41, 3) := by decide +kernel
theorem e116_88 : decode (mb 116) 88 = .ok (.aload_n 0, 1) := by decide +kernel
theorem e116_89 : decode (mb 116) 89 = .ok (.bipush 12, 2) := by decide +kernel
theorem e116_91 : decode (mb 116) 91 = .ok (.newarray .int, 2) := by decide +kernel
theorem e116_93 : decode (mb 116) 93 = .ok (.putfield 45, 3) := by decide +kernel
theorem e116_96 : decode (mb 116) 96 = .ok (.aload_n 0, 1) := by decide +kernel
theorem e116_97 : decode (mb 116) 97 = .ok (.bipush 40, 2) := by decide +kernel
theorem e116_99 : decode (mb 116) 99 = .ok (.newarray .int, 2) := by decide +kernel
theorem e116_101 : decode (mb 116) 101 = .ok (.putfield 48, 3) := by decide +kernel
theorem e116_104 : decode (mb 116) 104 = .ok (.aload_n 0, 1) := by decide +kernel
theorem e116_105 : decode (mb 116) 105 = .ok (.bipush 36, 2) := by decide +kernel
theorem e116_107 : decode (mb 116) 107 = .ok (.newarray .int, 2) := by decide +kernel
theorem e116_109 : decode (mb 116) 109 = .ok (.putfield 51, 3) := by decide +kernel
theorem e116_112 : decode (mb 116) 112 = .ok (.aload_n 0, 1) := by decide +kernel
theorem e116_113 : decode (mb 116) 113 = .ok (.bipush 10, 2) := by decide +kernel
theorem e116_115 : decode (mb 116) 115 = .ok (.newarray .int, 2) := by decide +kernel
theorem e116_117 : decode (mb 116) 117 = .ok (.putfield 54, 3) := by decide +kernel
theorem e116_120 : decode (mb 116) 120 = .ok (.aload_n 0, 1) := by decide +kernel
theorem e116_121 : decode (mb 116) 121 = .ok (.bipush 10, 2) := by decide +kernel
theorem e116_123 : decode (mb 116) 123 = .ok (.newarray .int, 2) := by decide +kernel
theorem e116_125 : decode (mb 116) 125 = .ok (.putfield 57, 3) := by decide +kernel
theorem e116_128 : decode (mb 116) 128 = .ok (.aload_n 0, 1) := by decide +kernel
theorem e116_129 : decode (mb 116) 129 = .ok (.bipush 10, 2) := by decide +kernel
theorem e116_131 : decode (mb 116) 131 = .ok (.newarray .int, 2) := by decide +kernel
theorem e116_133 : decode (mb 116) 133 = .ok (.putfield 60, 3) := by decide +kernel
theorem e116_136 : decode (mb 116) 136 = .ok (.aload_n 0, 1) := by decide +kernel
theorem e116_137 : decode (mb 116) 137 = .ok (.invokevirtual 63, 3) := by decide +kernel
theorem e116_140 : decode (mb 116) 140 = .ok (.aload_n 0, 1) := by decide +kernel
theorem e116_141 : decode (mb 116) 141 = .ok (.invokevirtual 66, 3) := by decide +kernel
theorem e116_144 : decode (mb 116) 144 = .ok (.return_, 1) := by decide +kernel
theorem in_ol0 : Cond.methodLink (cnm (mo 0)) 3 objectInit ∈ gtb := g_of (List.mem_of_getElem? (i := 346) (by decide +kernel)) rfl
set_option maxRecDepth 100000 in
theorem cwc_0 : lw_tbl[345]? = some (Cond.code (my 0) (mb 0) (mL 0) (mr 0)) := by rfl
theorem in_cc0 : Cond.code (my 0) (mb 0) (mL 0) (mr 0) ∈ gtb := g_of (List.mem_of_getElem? cwc_0) rfl
theorem in_ii0 : Cond.instanceMethod (my 0) ∈ gtb := g_of (List.mem_of_getElem? (i := 344) (by decide +kernel)) rfl
theorem good_c0 : GoodIn gtb (wz 0) := by
  intro w hw
  have h : w ∈ gtb := by
    rcases List.mem_cons.mp hw with rfl | h
    · exact in_cc0
    · exact h
  exact ⟨h, good_of_word (gtb_good h).2⟩
theorem in_ol9 : Cond.methodLink (cnm (mo 9)) 3 objectInit ∈ gtb := g_of (List.mem_of_getElem? (i := 154) (by decide +kernel)) rfl
set_option maxRecDepth 100000 in
theorem cwc_9 : lw_tbl[153]? = some (Cond.code (my 9) (mb 9) (mL 9) (mr 9)) := by rfl
theorem in_cc9 : Cond.code (my 9) (mb 9) (mL 9) (mr 9) ∈ gtb := g_of (List.mem_of_getElem? cwc_9) rfl
theorem in_ii9 : Cond.instanceMethod (my 9) ∈ gtb := g_of (List.mem_of_getElem? (i := 152) (by decide +kernel)) rfl
theorem good_c9 : GoodIn gtb (wz 9) := by
  intro w hw
  have h : w ∈ gtb := by
    rcases List.mem_cons.mp hw with rfl | h
    · exact in_cc9
    · exact h
  exact ⟨h, good_of_word (gtb_good h).2⟩
theorem in_ol23 : Cond.methodLink (cnm (mo 23)) 3 objectInit ∈ gtb := g_of (List.mem_of_getElem? (i := 82) (by decide +kernel)) rfl
set_option maxRecDepth 100000 in
theorem cwc_23 : lw_tbl[81]? = some (Cond.code (my 23) (mb 23) (mL 23) (mr 23)) := by rfl
theorem in_cc23 : Cond.code (my 23) (mb 23) (mL 23) (mr 23) ∈ gtb := g_of (List.mem_of_getElem? cwc_23) rfl
theorem in_ii23 : Cond.instanceMethod (my 23) ∈ gtb := g_of (List.mem_of_getElem? (i := 80) (by decide +kernel)) rfl
theorem good_c23 : GoodIn gtb (wz 23) := by
  intro w hw
  have h : w ∈ gtb := by
    rcases List.mem_cons.mp hw with rfl | h
    · exact in_cc23
    · exact h
  exact ⟨h, good_of_word (gtb_good h).2⟩
theorem in_ol40 : Cond.methodLink (cnm (mo 40)) 3 objectInit ∈ gtb := g_of (List.mem_of_getElem? (i := 248) (by decide +kernel)) rfl
set_option maxRecDepth 100000 in
theorem cwc_40 : lw_tbl[247]? = some (Cond.code (my 40) (mb 40) (mL 40) (mr 40)) := by rfl
theorem in_cc40 : Cond.code (my 40) (mb 40) (mL 40) (mr 40) ∈ gtb := g_of (List.mem_of_getElem? cwc_40) rfl
theorem in_ii40 : Cond.instanceMethod (my 40) ∈ gtb := g_of (List.mem_of_getElem? (i := 246) (by decide +kernel)) rfl
theorem good_c40 : GoodIn gtb (wz 40) := by
  intro w hw
  have h : w ∈ gtb := by
    rcases List.mem_cons.mp hw with rfl | h
    · exact in_cc40
    · exact h
  exact ⟨h, good_of_word (gtb_good h).2⟩
theorem in_ol58 : Cond.methodLink (cnm (mo 58)) 3 objectInit ∈ gtb := g_of (List.mem_of_getElem? (i := 187) (by decide +kernel)) rfl
set_option maxRecDepth 100000 in
theorem cwc_58 : lw_tbl[186]? = some (Cond.code (my 58) (mb 58) (mL 58) (mr 58)) := by rfl
theorem in_cc58 : Cond.code (my 58) (mb 58) (mL 58) (mr 58) ∈ gtb := g_of (List.mem_of_getElem? cwc_58) rfl
theorem in_ii58 : Cond.instanceMethod (my 58) ∈ gtb := g_of (List.mem_of_getElem? (i := 185) (by decide +kernel)) rfl
theorem good_c58 : GoodIn gtb (wz 58) := by
  intro w hw
  have h : w ∈ gtb := by
    rcases List.mem_cons.mp hw with rfl | h
    · exact in_cc58
    · exact h
  exact ⟨h, good_of_word (gtb_good h).2⟩
theorem in_ol62 : Cond.methodLink (cnm (mo 62)) 3 objectInit ∈ gtb := g_of (List.mem_of_getElem? (i := 375) (by decide +kernel)) rfl
set_option maxRecDepth 100000 in
theorem cwc_62 : lw_tbl[374]? = some (Cond.code (my 62) (mb 62) (mL 62) (mr 62)) := by rfl
theorem in_cc62 : Cond.code (my 62) (mb 62) (mL 62) (mr 62) ∈ gtb := g_of (List.mem_of_getElem? cwc_62) rfl
theorem in_ii62 : Cond.instanceMethod (my 62) ∈ gtb := g_of (List.mem_of_getElem? (i := 373) (by decide +kernel)) rfl
theorem good_c62 : GoodIn gtb (wz 62) := by
  intro w hw
  have h : w ∈ gtb := by
    rcases List.mem_cons.mp hw with rfl | h
    · exact in_cc62
    · exact h
  exact ⟨h, good_of_word (gtb_good h).2⟩
theorem in_ol68 : Cond.methodLink (cnm (mo 68)) 3 objectInit ∈ gtb := g_of (List.mem_of_getElem? (i := 232) (by decide +kernel)) rfl
set_option maxRecDepth 100000 in
theorem cwc_68 : lw_tbl[231]? = some (Cond.code (my 68) (mb 68) (mL 68) (mr 68)) := by rfl
theorem in_cc68 : Cond.code (my 68) (mb 68) (mL 68) (mr 68) ∈ gtb := g_of (List.mem_of_getElem? cwc_68) rfl
theorem in_ii68 : Cond.instanceMethod (my 68) ∈ gtb := g_of (List.mem_of_getElem? (i := 230) (by decide +kernel)) rfl
theorem good_c68 : GoodIn gtb (wz 68) := by
  intro w hw
  have h : w ∈ gtb := by
    rcases List.mem_cons.mp hw with rfl | h
    · exact in_cc68
    · exact h
  exact ⟨h, good_of_word (gtb_good h).2⟩
theorem in_ol71 : Cond.methodLink (cnm (mo 71)) 3 objectInit ∈ gtb := g_of (List.mem_of_getElem? (i := 317) (by decide +kernel)) rfl
set_option maxRecDepth 100000 in
theorem cwc_71 : lw_tbl[316]? = some (Cond.code (my 71) (mb 71) (mL 71) (mr 71)) := by rfl
theorem in_cc71 : Cond.code (my 71) (mb 71) (mL 71) (mr 71) ∈ gtb := g_of (List.mem_of_getElem? cwc_71) rfl
theorem in_ii71 : Cond.instanceMethod (my 71) ∈ gtb := g_of (List.mem_of_getElem? (i := 315) (by decide +kernel)) rfl
theorem good_c71 : GoodIn gtb (wz 71) := by
  intro w hw
  have h : w ∈ gtb := by
    rcases List.mem_cons.mp hw with rfl | h
    · exact in_cc71
    · exact h
  exact ⟨h, good_of_word (gtb_good h).2⟩
theorem in_ol75 : Cond.methodLink (cnm (mo 75)) 3 objectInit ∈ gtb := g_of (List.mem_of_getElem? (i := 292) (by decide +kernel)) rfl
set_option maxRecDepth 100000 in
theorem cwc_75 : lw_tbl[291]? = some (Cond.code (my 75) (mb 75) (mL 75) (mr 75)) := by rfl
theorem in_cc75 : Cond.code (my 75) (mb 75) (mL 75) (mr 75) ∈ gtb := g_of (List.mem_of_getElem? cwc_75) rfl
theorem in_ii75 : Cond.instanceMethod (my 75) ∈ gtb := g_of (List.mem_of_getElem? (i := 290) (by decide +kernel)) rfl
theorem good_c75 : GoodIn gtb (wz 75) := by
  intro w hw
  have h : w ∈ gtb := by
    rcases List.mem_cons.mp hw with rfl | h
    · exact in_cc75
    · exact h
  exact ⟨h, good_of_word (gtb_good h).2⟩
theorem in_ol80 : Cond.methodLink (cnm (mo 80)) 1 objectInit ∈ gtb := g_of (List.mem_of_getElem? (i := 74) (by decide +kernel)) rfl
set_option maxRecDepth 100000 in
theorem cwc_80 : lw_tbl[73]? = some (Cond.code (my 80) (mb 80) (mL 80) (mr 80)) := by rfl
theorem in_cc80 : Cond.code (my 80) (mb 80) (mL 80) (mr 80) ∈ gtb := g_of (List.mem_of_getElem? cwc_80) rfl
theorem in_ii80 : Cond.instanceMethod (my 80) ∈ gtb := g_of (List.mem_of_getElem? (i := 72) (by decide +kernel)) rfl
theorem good_c80 : GoodIn gtb (wz 80) := by
  intro w hw
  have h : w ∈ gtb := by
    rcases List.mem_cons.mp hw with rfl | h
    · exact in_cc80
    · exact h
  exact ⟨h, good_of_word (gtb_good h).2⟩
theorem in_ol116 : Cond.methodLink (cnm (mo 116)) 1 objectInit ∈ gtb := g_of (List.mem_of_getElem? (i := 917) (by decide +kernel)) rfl
set_option maxRecDepth 100000 in
theorem cwc_116 : lw_tbl[916]? = some (Cond.code (my 116) (mb 116) (mL 116) (mr 116)) := by rfl
theorem in_cc116 : Cond.code (my 116) (mb 116) (mL 116) (mr 116) ∈ gtb := g_of (List.mem_of_getElem? cwc_116) rfl
theorem in_ii116 : Cond.instanceMethod (my 116) ∈ gtb := g_of (List.mem_of_getElem? (i := 915) (by decide +kernel)) rfl
theorem good_c116 : GoodIn gtb (wz 116) := by
  intro w hw
  have h : w ∈ gtb := by
    rcases List.mem_cons.mp hw with rfl | h
    · exact in_cc116
    · exact h
  exact ⟨h, good_of_word (gtb_good h).2⟩
