def vzs : List Nat := [1, 2, 3, 4, 5, 6, 7, 8, 10, 11, 12, 13, 14, 15, 16, 17, 18, 19, 20, 21, 22, 24, 25, 26, 27, 28, 29, 30, 31, 32, 33, 34, 35, 36, 37, 38, 39, 41, 42, 43, 44, 45, 46, 47, 50, 51, 52, 53, 56, 57, 59, 60, 61, 63, 64, 65, 66, 67, 69, 70, 72, 73, 74, 76, 77, 78, 79, 81, 82, 83, 84, 85, 86, 87, 88, 89, 90, 91, 92, 93, 94, 95, 96, 97, 98, 99, 100, 101, 102, 103, 104, 105, 106, 107, 108, 109, 110, 111, 112, 113, 119, 120, 121, 122, 123, 124, 125, 126, 127, 128, 129, 130, 131, 132, 133, 134, 135, 136, 137, 138, 139, 140, 141, 142, 143, 144, 145, 146, 147, 148, 149, 150, 151, 152, 153, 154, 155, 156, 157, 158, 159, 160, 161, 162, 163, 164, 165, 166, 167, 168, 169, 171, 172, 173, 174, 175, 176, 177, 178, 179, 186, 187, 188, 189]
def szs : List Nat := [48, 49, 54, 55, 114, 115, 117, 118, 170, 180, 181, 182, 183, 184, 185, 190, 191, 192, 193, 194, 195, 196]
theorem lnks_k : lnks.all (fun e => (e.2.2.1 == 0 && vzs.contains e.2.2.2) || (e.2.2.1 == 1 && szs.contains e.2.2.2)) = true := by decide +kernel
theorem vz_i : vzs.map (fun z => Cond.instanceMethod (my z)) = [806, 610, 819, 824, 828, 832, 836, 840, 584, 676, 597, 593, 727, 730, 722, 740, 748, 752, 758, 896, 892, 86, 572, 576, 580, 90, 95, 100, 108, 103, 627, 636, 643, 601, 654, 663, 668, 567, 563, 443, 448, 540, 533, 551, 547, 452, 459, 466, 470, 475, 588, 793, 788, 854, 614, 872, 867, 883, 426, 435, 766, 606, 778, 294, 685, 702, 710, 422, 431, 439, 555, 618, 623, 631, 650, 659, 672, 681, 690, 694, 698, 706, 714, 718, 736, 762, 770, 774, 784, 799, 811, 815, 850, 859, 863, 879, 888, 902, 909, 560, 1119, 1161, 920, 924, 1041, 1049, 1066, 1091, 1087, 1083, 1095, 1099, 1103, 1062, 1058, 1053, 1111, 1106, 1123, 1114, 1126, 1141, 1136, 1130, 1149, 1144, 1152, 1165, 1156, 1168, 1172, 1176, 1180, 1184, 1193, 1188, 1205, 1201, 1196, 1213, 1208, 1216, 1220, 1224, 1233, 1228, 1236, 1240, 1249, 1253, 1260, 1244, 1266, 1270, 1279, 1274, 1282, 1287, 1291, 1295, 478, 488, 482, 492].filterMap (fun i => lw_tbl[i]?) := by decide +kernel
theorem vz_s : vzs.map (fun z => Cond.selects (cnm (mo z)) (my z) (my z)) = [807, 611, 820, 17, 18, 19, 20, 21, 585, 677, 598, 594, 14, 731, 723, 741, 749, 753, 15, 897, 893, 87, 573, 577, 581, 91, 0, 1, 2, 104, 628, 637, 644, 602, 655, 664, 669, 568, 564, 444, 3, 10, 9, 12, 11, 4, 5, 6, 7, 8, 589, 16, 789, 855, 615, 22, 868, 884, 427, 436, 767, 607, 779, 295, 686, 703, 711, 423, 432, 440, 556, 619, 624, 632, 651, 660, 673, 682, 691, 695, 699, 707, 715, 719, 737, 763, 771, 775, 785, 800, 812, 816, 851, 860, 864, 880, 889, 903, 910, 13, 35, 40, 23, 24, 1042, 1050, 27, 30, 29, 28, 31, 32, 33, 26, 25, 1054, 34, 1107, 36, 1115, 1127, 38, 37, 1131, 39, 1145, 1153, 41, 1157, 1169, 1173, 1177, 1181, 1185, 42, 1189, 44, 43, 1197, 45, 1209, 1217, 1221, 1225, 46, 1229, 1237, 1241, 47, 48, 49, 1245, 1267, 1271, 50, 1275, 1283, 1288, 1292, 1296, 479, 489, 483, 493].filterMap (fun i => lw_tbl[i]?) := by decide +kernel
theorem sz_s : szs.map (fun z => Cond.static (my z)) = [536, 543, 455, 462, 803, 906, 1045, 1263, 1256, 843, 647, 640, 876, 745, 111, 499, 496, 517, 513, 507, 510, 504].filterMap (fun i => lw_tbl[i]?) := by decide +kernel
def cls : List Nat := [0, 1, 2, 3, 4, 5, 6, 7, 8, 9, 10, 11, 20, 21, 22, 23, 26, 29]
theorem cl_i : cls.map (fun k => Cond.initialized (cnm k)) = [61, 55, 53, 58, 56, 62, 57, 60, 59, 52, 63, 51, 64, 65, 67, 66, 68, 54].filterMap (fun i => lw_tbl[i]?) := by decide +kernel
def czs : List Nat := [1, 2, 3, 4, 5, 6, 7, 8, 10, 11, 12, 13, 14, 15, 16, 17, 18, 19, 20, 21, 22, 24, 25, 26, 27, 28, 29, 30, 31, 32, 33, 34, 35, 36, 37, 38, 39, 41, 42, 43, 44, 45, 46, 47, 48, 49, 50, 51, 52, 53, 54, 55, 56, 57, 59, 60, 61, 63, 64, 65, 66, 67, 69, 70, 72, 73, 74, 76, 77, 78, 79, 81, 82, 83, 84, 85, 86, 87, 88, 89, 90, 91, 92, 93, 94, 95, 96, 97, 98, 99, 100, 101, 102, 103, 104, 105, 106, 107, 108, 109, 110, 111, 112, 113, 114, 115, 117, 118, 119, 120, 121, 122, 123, 124, 125, 126, 127, 128, 129, 130, 131, 132, 133, 134, 135, 136, 137, 138, 139, 140, 141, 142, 143, 144, 145, 146, 147, 148, 149, 150, 151, 152, 153, 154, 155, 156, 157, 158, 159, 160, 161, 162, 163, 164, 165, 166, 167, 168, 169, 170, 171, 172, 173, 174, 175, 176, 177, 178, 179, 180, 181, 182, 183, 184, 185, 186, 187, 188, 189, 190, 191, 192, 193, 194, 195, 196]
theorem cz_m : (vzs ++ szs).all (fun z => czs.contains z) = true := by decide +kernel
theorem cz_f1 : czs.all (fun z => cls.contains (mo z)) = true := by decide +kernel
theorem cz_f2 : czs.all (fun z => decide ((my z).cls = cnm (mo z))) = true := by decide +kernel
theorem cz_f3 : czs.all (fun z => plainFor (my z)) = true := by decide +kernel
theorem cz_f4 : czs.all (fun z => decide ((my z).cls ≠ "java/lang/invoke/MethodHandle") && decide ((my z).cls ≠ "java/lang/invoke/VarHandle")) = true := by decide +kernel
theorem cz_f6 : czs.all (fun z => decide (mo z ≠ 11)) = true := by decide +kernel
theorem cz_f5 : czs.all (fun z => decide ((parseMethodDescriptor (my z).desc).map (fun d => d.parameters.length) = some (na z))) = true := by decide +kernel
set_option maxRecDepth 100000 in
theorem cw_1 : lw_tbl[808]? = some (Cond.code (my 1) (mb 1) (mL 1) (mr 1)) := by rfl
set_option maxRecDepth 100000 in
theorem cw_2 : lw_tbl[612]? = some (Cond.code (my 2) (mb 2) (mL 2) (mr 2)) := by rfl
set_option maxRecDepth 100000 in
theorem cw_3 : lw_tbl[821]? = some (Cond.code (my 3) (mb 3) (mL 3) (mr 3)) := by rfl
set_option maxRecDepth 100000 in
theorem cw_4 : lw_tbl[825]? = some (Cond.code (my 4) (mb 4) (mL 4) (mr 4)) := by rfl
set_option maxRecDepth 100000 in
theorem cw_5 : lw_tbl[829]? = some (Cond.code (my 5) (mb 5) (mL 5) (mr 5)) := by rfl
set_option maxRecDepth 100000 in
theorem cw_6 : lw_tbl[833]? = some (Cond.code (my 6) (mb 6) (mL 6) (mr 6)) := by rfl
set_option maxRecDepth 100000 in
theorem cw_7 : lw_tbl[837]? = some (Cond.code (my 7) (mb 7) (mL 7) (mr 7)) := by rfl
set_option maxRecDepth 100000 in
theorem cw_8 : lw_tbl[841]? = some (Cond.code (my 8) (mb 8) (mL 8) (mr 8)) := by rfl
set_option maxRecDepth 100000 in
theorem cw_10 : lw_tbl[586]? = some (Cond.code (my 10) (mb 10) (mL 10) (mr 10)) := by rfl
set_option maxRecDepth 100000 in
theorem cw_11 : lw_tbl[678]? = some (Cond.code (my 11) (mb 11) (mL 11) (mr 11)) := by rfl
set_option maxRecDepth 100000 in
theorem cw_12 : lw_tbl[599]? = some (Cond.code (my 12) (mb 12) (mL 12) (mr 12)) := by rfl
set_option maxRecDepth 100000 in
theorem cw_13 : lw_tbl[595]? = some (Cond.code (my 13) (mb 13) (mL 13) (mr 13)) := by rfl
set_option maxRecDepth 100000 in
theorem cw_14 : lw_tbl[728]? = some (Cond.code (my 14) (mb 14) (mL 14) (mr 14)) := by rfl
set_option maxRecDepth 100000 in
theorem cw_15 : lw_tbl[732]? = some (Cond.code (my 15) (mb 15) (mL 15) (mr 15)) := by rfl
set_option maxRecDepth 100000 in
theorem cw_16 : lw_tbl[724]? = some (Cond.code (my 16) (mb 16) (mL 16) (mr 16)) := by rfl
set_option maxRecDepth 100000 in
theorem cw_17 : lw_tbl[742]? = some (Cond.code (my 17) (mb 17) (mL 17) (mr 17)) := by rfl
set_option maxRecDepth 100000 in
theorem cw_18 : lw_tbl[750]? = some (Cond.code (my 18) (mb 18) (mL 18) (mr 18)) := by rfl
set_option maxRecDepth 100000 in
theorem cw_19 : lw_tbl[754]? = some (Cond.code (my 19) (mb 19) (mL 19) (mr 19)) := by rfl
set_option maxRecDepth 100000 in
theorem cw_20 : lw_tbl[759]? = some (Cond.code (my 20) (mb 20) (mL 20) (mr 20)) := by rfl
set_option maxRecDepth 100000 in
theorem cw_21 : lw_tbl[898]? = some (Cond.code (my 21) (mb 21) (mL 21) (mr 21)) := by rfl
set_option maxRecDepth 100000 in
theorem cw_22 : lw_tbl[894]? = some (Cond.code (my 22) (mb 22) (mL 22) (mr 22)) := by rfl
set_option maxRecDepth 100000 in
theorem cw_24 : lw_tbl[88]? = some (Cond.code (my 24) (mb 24) (mL 24) (mr 24)) := by rfl
set_option maxRecDepth 100000 in
theorem cw_25 : lw_tbl[574]? = some (Cond.code (my 25) (mb 25) (mL 25) (mr 25)) := by rfl
set_option maxRecDepth 100000 in
theorem cw_26 : lw_tbl[578]? = some (Cond.code (my 26) (mb 26) (mL 26) (mr 26)) := by rfl
set_option maxRecDepth 100000 in
theorem cw_27 : lw_tbl[582]? = some (Cond.code (my 27) (mb 27) (mL 27) (mr 27)) := by rfl
set_option maxRecDepth 100000 in
theorem cw_28 : lw_tbl[92]? = some (Cond.code (my 28) (mb 28) (mL 28) (mr 28)) := by rfl
set_option maxRecDepth 100000 in
theorem cw_29 : lw_tbl[96]? = some (Cond.code (my 29) (mb 29) (mL 29) (mr 29)) := by rfl
set_option maxRecDepth 100000 in
theorem cw_30 : lw_tbl[101]? = some (Cond.code (my 30) (mb 30) (mL 30) (mr 30)) := by rfl
set_option maxRecDepth 100000 in
theorem cw_31 : lw_tbl[109]? = some (Cond.code (my 31) (mb 31) (mL 31) (mr 31)) := by rfl
set_option maxRecDepth 100000 in
theorem cw_32 : lw_tbl[105]? = some (Cond.code (my 32) (mb 32) (mL 32) (mr 32)) := by rfl
set_option maxRecDepth 100000 in
theorem cw_33 : lw_tbl[629]? = some (Cond.code (my 33) (mb 33) (mL 33) (mr 33)) := by rfl
set_option maxRecDepth 100000 in
theorem cw_34 : lw_tbl[638]? = some (Cond.code (my 34) (mb 34) (mL 34) (mr 34)) := by rfl
set_option maxRecDepth 100000 in
theorem cw_35 : lw_tbl[645]? = some (Cond.code (my 35) (mb 35) (mL 35) (mr 35)) := by rfl
set_option maxRecDepth 100000 in
theorem cw_36 : lw_tbl[603]? = some (Cond.code (my 36) (mb 36) (mL 36) (mr 36)) := by rfl
set_option maxRecDepth 100000 in
theorem cw_37 : lw_tbl[656]? = some (Cond.code (my 37) (mb 37) (mL 37) (mr 37)) := by rfl
set_option maxRecDepth 100000 in
theorem cw_38 : lw_tbl[665]? = some (Cond.code (my 38) (mb 38) (mL 38) (mr 38)) := by rfl
set_option maxRecDepth 100000 in
theorem cw_39 : lw_tbl[670]? = some (Cond.code (my 39) (mb 39) (mL 39) (mr 39)) := by rfl
set_option maxRecDepth 100000 in
theorem cw_41 : lw_tbl[569]? = some (Cond.code (my 41) (mb 41) (mL 41) (mr 41)) := by rfl
set_option maxRecDepth 100000 in
theorem cw_42 : lw_tbl[565]? = some (Cond.code (my 42) (mb 42) (mL 42) (mr 42)) := by rfl
set_option maxRecDepth 100000 in
theorem cw_43 : lw_tbl[445]? = some (Cond.code (my 43) (mb 43) (mL 43) (mr 43)) := by rfl
set_option maxRecDepth 100000 in
theorem cw_44 : lw_tbl[449]? = some (Cond.code (my 44) (mb 44) (mL 44) (mr 44)) := by rfl
set_option maxRecDepth 100000 in
theorem cw_45 : lw_tbl[541]? = some (Cond.code (my 45) (mb 45) (mL 45) (mr 45)) := by rfl
set_option maxRecDepth 100000 in
theorem cw_46 : lw_tbl[534]? = some (Cond.code (my 46) (mb 46) (mL 46) (mr 46)) := by rfl
set_option maxRecDepth 100000 in
theorem cw_47 : lw_tbl[552]? = some (Cond.code (my 47) (mb 47) (mL 47) (mr 47)) := by rfl
set_option maxRecDepth 100000 in
theorem cw_48 : lw_tbl[537]? = some (Cond.code (my 48) (mb 48) (mL 48) (mr 48)) := by rfl
set_option maxRecDepth 100000 in
theorem cw_49 : lw_tbl[544]? = some (Cond.code (my 49) (mb 49) (mL 49) (mr 49)) := by rfl
set_option maxRecDepth 100000 in
theorem cw_50 : lw_tbl[548]? = some (Cond.code (my 50) (mb 50) (mL 50) (mr 50)) := by rfl
set_option maxRecDepth 100000 in
theorem cw_51 : lw_tbl[453]? = some (Cond.code (my 51) (mb 51) (mL 51) (mr 51)) := by rfl
set_option maxRecDepth 100000 in
theorem cw_52 : lw_tbl[460]? = some (Cond.code (my 52) (mb 52) (mL 52) (mr 52)) := by rfl
set_option maxRecDepth 100000 in
theorem cw_53 : lw_tbl[467]? = some (Cond.code (my 53) (mb 53) (mL 53) (mr 53)) := by rfl
set_option maxRecDepth 100000 in
theorem cw_54 : lw_tbl[456]? = some (Cond.code (my 54) (mb 54) (mL 54) (mr 54)) := by rfl
set_option maxRecDepth 100000 in
theorem cw_55 : lw_tbl[463]? = some (Cond.code (my 55) (mb 55) (mL 55) (mr 55)) := by rfl
set_option maxRecDepth 100000 in
theorem cw_56 : lw_tbl[471]? = some (Cond.code (my 56) (mb 56) (mL 56) (mr 56)) := by rfl
set_option maxRecDepth 100000 in
theorem cw_57 : lw_tbl[476]? = some (Cond.code (my 57) (mb 57) (mL 57) (mr 57)) := by rfl
set_option maxRecDepth 100000 in
theorem cw_59 : lw_tbl[590]? = some (Cond.code (my 59) (mb 59) (mL 59) (mr 59)) := by rfl
set_option maxRecDepth 100000 in
theorem cw_60 : lw_tbl[794]? = some (Cond.code (my 60) (mb 60) (mL 60) (mr 60)) := by rfl
set_option maxRecDepth 100000 in
theorem cw_61 : lw_tbl[790]? = some (Cond.code (my 61) (mb 61) (mL 61) (mr 61)) := by rfl
set_option maxRecDepth 100000 in
theorem cw_63 : lw_tbl[856]? = some (Cond.code (my 63) (mb 63) (mL 63) (mr 63)) := by rfl
set_option maxRecDepth 100000 in
theorem cw_64 : lw_tbl[616]? = some (Cond.code (my 64) (mb 64) (mL 64) (mr 64)) := by rfl
set_option maxRecDepth 100000 in
theorem cw_65 : lw_tbl[873]? = some (Cond.code (my 65) (mb 65) (mL 65) (mr 65)) := by rfl
set_option maxRecDepth 100000 in
theorem cw_66 : lw_tbl[869]? = some (Cond.code (my 66) (mb 66) (mL 66) (mr 66)) := by rfl
set_option maxRecDepth 100000 in
theorem cw_67 : lw_tbl[885]? = some (Cond.code (my 67) (mb 67) (mL 67) (mr 67)) := by rfl
set_option maxRecDepth 100000 in
theorem cw_69 : lw_tbl[428]? = some (Cond.code (my 69) (mb 69) (mL 69) (mr 69)) := by rfl
set_option maxRecDepth 100000 in
theorem cw_70 : lw_tbl[437]? = some (Cond.code (my 70) (mb 70) (mL 70) (mr 70)) := by rfl
set_option maxRecDepth 100000 in
theorem cw_72 : lw_tbl[768]? = some (Cond.code (my 72) (mb 72) (mL 72) (mr 72)) := by rfl
set_option maxRecDepth 100000 in
theorem cw_73 : lw_tbl[608]? = some (Cond.code (my 73) (mb 73) (mL 73) (mr 73)) := by rfl
set_option maxRecDepth 100000 in
theorem cw_74 : lw_tbl[780]? = some (Cond.code (my 74) (mb 74) (mL 74) (mr 74)) := by rfl
set_option maxRecDepth 100000 in
theorem cw_76 : lw_tbl[296]? = some (Cond.code (my 76) (mb 76) (mL 76) (mr 76)) := by rfl
set_option maxRecDepth 100000 in
theorem cw_77 : lw_tbl[687]? = some (Cond.code (my 77) (mb 77) (mL 77) (mr 77)) := by rfl
set_option maxRecDepth 100000 in
theorem cw_78 : lw_tbl[704]? = some (Cond.code (my 78) (mb 78) (mL 78) (mr 78)) := by rfl
set_option maxRecDepth 100000 in
theorem cw_79 : lw_tbl[712]? = some (Cond.code (my 79) (mb 79) (mL 79) (mr 79)) := by rfl
set_option maxRecDepth 100000 in
theorem cw_81 : lw_tbl[424]? = some (Cond.code (my 81) (mb 81) (mL 81) (mr 81)) := by rfl
set_option maxRecDepth 100000 in
theorem cw_82 : lw_tbl[433]? = some (Cond.code (my 82) (mb 82) (mL 82) (mr 82)) := by rfl
set_option maxRecDepth 100000 in
theorem cw_83 : lw_tbl[441]? = some (Cond.code (my 83) (mb 83) (mL 83) (mr 83)) := by rfl
set_option maxRecDepth 100000 in
theorem cw_84 : lw_tbl[557]? = some (Cond.code (my 84) (mb 84) (mL 84) (mr 84)) := by rfl
set_option maxRecDepth 100000 in
theorem cw_85 : lw_tbl[620]? = some (Cond.code (my 85) (mb 85) (mL 85) (mr 85)) := by rfl
set_option maxRecDepth 100000 in
theorem cw_86 : lw_tbl[625]? = some (Cond.code (my 86) (mb 86) (mL 86) (mr 86)) := by rfl
set_option maxRecDepth 100000 in
theorem cw_87 : lw_tbl[633]? = some (Cond.code (my 87) (mb 87) (mL 87) (mr 87)) := by rfl
set_option maxRecDepth 100000 in
theorem cw_88 : lw_tbl[652]? = some (Cond.code (my 88) (mb 88) (mL 88) (mr 88)) := by rfl
set_option maxRecDepth 100000 in
theorem cw_89 : lw_tbl[661]? = some (Cond.code (my 89) (mb 89) (mL 89) (mr 89)) := by rfl
set_option maxRecDepth 100000 in
theorem cw_90 : lw_tbl[674]? = some (Cond.code (my 90) (mb 90) (mL 90) (mr 90)) := by rfl
set_option maxRecDepth 100000 in
theorem cw_91 : lw_tbl[683]? = some (Cond.code (my 91) (mb 91) (mL 91) (mr 91)) := by rfl
set_option maxRecDepth 100000 in
theorem cw_92 : lw_tbl[692]? = some (Cond.code (my 92) (mb 92) (mL 92) (mr 92)) := by rfl
set_option maxRecDepth 100000 in
theorem cw_93 : lw_tbl[696]? = some (Cond.code (my 93) (mb 93) (mL 93) (mr 93)) := by rfl
set_option maxRecDepth 100000 in
theorem cw_94 : lw_tbl[700]? = some (Cond.code (my 94) (mb 94) (mL 94) (mr 94)) := by rfl
set_option maxRecDepth 100000 in
theorem cw_95 : lw_tbl[708]? = some (Cond.code (my 95) (mb 95) (mL 95) (mr 95)) := by rfl
set_option maxRecDepth 100000 in
theorem cw_96 : lw_tbl[716]? = some (Cond.code (my 96) (mb 96) (mL 96) (mr 96)) := by rfl
set_option maxRecDepth 100000 in
theorem cw_97 : lw_tbl[720]? = some (Cond.code (my 97) (mb 97) (mL 97) (mr 97)) := by rfl
set_option maxRecDepth 100000 in
theorem cw_98 : lw_tbl[738]? = some (Cond.code (my 98) (mb 98) (mL 98) (mr 98)) := by rfl
set_option maxRecDepth 100000 in
theorem cw_99 : lw_tbl[764]? = some (Cond.code (my 99) (mb 99) (mL 99) (mr 99)) := by rfl
set_option maxRecDepth 100000 in
theorem cw_100 : lw_tbl[772]? = some (Cond.code (my 100) (mb 100) (mL 100) (mr 100)) := by rfl
set_option maxRecDepth 100000 in
theorem cw_101 : lw_tbl[776]? = some (Cond.code (my 101) (mb 101) (mL 101) (mr 101)) := by rfl
set_option maxRecDepth 100000 in
theorem cw_102 : lw_tbl[786]? = some (Cond.code (my 102) (mb 102) (mL 102) (mr 102)) := by rfl
set_option maxRecDepth 100000 in
theorem cw_103 : lw_tbl[801]? = some (Cond.code (my 103) (mb 103) (mL 103) (mr 103)) := by rfl
set_option maxRecDepth 100000 in
theorem cw_104 : lw_tbl[813]? = some (Cond.code (my 104) (mb 104) (mL 104) (mr 104)) := by rfl
set_option maxRecDepth 100000 in
theorem cw_105 : lw_tbl[817]? = some (Cond.code (my 105) (mb 105) (mL 105) (mr 105)) := by rfl
set_option maxRecDepth 100000 in
theorem cw_106 : lw_tbl[852]? = some (Cond.code (my 106) (mb 106) (mL 106) (mr 106)) := by rfl
set_option maxRecDepth 100000 in
theorem cw_107 : lw_tbl[861]? = some (Cond.code (my 107) (mb 107) (mL 107) (mr 107)) := by rfl
set_option maxRecDepth 100000 in
theorem cw_108 : lw_tbl[865]? = some (Cond.code (my 108) (mb 108) (mL 108) (mr 108)) := by rfl
set_option maxRecDepth 100000 in
theorem cw_109 : lw_tbl[881]? = some (Cond.code (my 109) (mb 109) (mL 109) (mr 109)) := by rfl
set_option maxRecDepth 100000 in
theorem cw_110 : lw_tbl[890]? = some (Cond.code (my 110) (mb 110) (mL 110) (mr 110)) := by rfl
set_option maxRecDepth 100000 in
theorem cw_111 : lw_tbl[904]? = some (Cond.code (my 111) (mb 111) (mL 111) (mr 111)) := by rfl
set_option maxRecDepth 100000 in
theorem cw_112 : lw_tbl[911]? = some (Cond.code (my 112) (mb 112) (mL 112) (mr 112)) := by rfl
set_option maxRecDepth 100000 in
theorem cw_113 : lw_tbl[561]? = some (Cond.code (my 113) (mb 113) (mL 113) (mr 113)) := by rfl
set_option maxRecDepth 100000 in
theorem cw_114 : lw_tbl[804]? = some (Cond.code (my 114) (mb 114) (mL 114) (mr 114)) := by rfl
set_option maxRecDepth 100000 in
theorem cw_115 : lw_tbl[907]? = some (Cond.code (my 115) (mb 115) (mL 115) (mr 115)) := by rfl
set_option maxRecDepth 100000 in
theorem cw_117 : lw_tbl[1046]? = some (Cond.code (my 117) (mb 117) (mL 117) (mr 117)) := by rfl
set_option maxRecDepth 100000 in
theorem cw_118 : lw_tbl[1264]? = some (Cond.code (my 118) (mb 118) (mL 118) (mr 118)) := by rfl
set_option maxRecDepth 100000 in
theorem cw_119 : lw_tbl[1120]? = some (Cond.code (my 119) (mb 119) (mL 119) (mr 119)) := by rfl
set_option maxRecDepth 100000 in
theorem cw_120 : lw_tbl[1162]? = some (Cond.code (my 120) (mb 120) (mL 120) (mr 120)) := by rfl
set_option maxRecDepth 100000 in
theorem cw_121 : lw_tbl[921]? = some (Cond.code (my 121) (mb 121) (mL 121) (mr 121)) := by rfl
set_option maxRecDepth 100000 in
theorem cw_122 : lw_tbl[925]? = some (Cond.code (my 122) (mb 122) (mL 122) (mr 122)) := by rfl
set_option maxRecDepth 100000 in
theorem cw_123 : lw_tbl[1043]? = some (Cond.code (my 123) (mb 123) (mL 123) (mr 123)) := by rfl
set_option maxRecDepth 100000 in
theorem cw_124 : lw_tbl[1051]? = some (Cond.code (my 124) (mb 124) (mL 124) (mr 124)) := by rfl
set_option maxRecDepth 100000 in
theorem cw_125 : lw_tbl[1067]? = some (Cond.code (my 125) (mb 125) (mL 125) (mr 125)) := by rfl
set_option maxRecDepth 100000 in
theorem cw_126 : lw_tbl[1092]? = some (Cond.code (my 126) (mb 126) (mL 126) (mr 126)) := by rfl
set_option maxRecDepth 100000 in
theorem cw_127 : lw_tbl[1088]? = some (Cond.code (my 127) (mb 127) (mL 127) (mr 127)) := by rfl
set_option maxRecDepth 100000 in
theorem cw_128 : lw_tbl[1084]? = some (Cond.code (my 128) (mb 128) (mL 128) (mr 128)) := by rfl
set_option maxRecDepth 100000 in
theorem cw_129 : lw_tbl[1096]? = some (Cond.code (my 129) (mb 129) (mL 129) (mr 129)) := by rfl
set_option maxRecDepth 100000 in
theorem cw_130 : lw_tbl[1100]? = some (Cond.code (my 130) (mb 130) (mL 130) (mr 130)) := by rfl
set_option maxRecDepth 100000 in
theorem cw_131 : lw_tbl[1104]? = some (Cond.code (my 131) (mb 131) (mL 131) (mr 131)) := by rfl
set_option maxRecDepth 100000 in
theorem cw_132 : lw_tbl[1063]? = some (Cond.code (my 132) (mb 132) (mL 132) (mr 132)) := by rfl
set_option maxRecDepth 100000 in
theorem cw_133 : lw_tbl[1059]? = some (Cond.code (my 133) (mb 133) (mL 133) (mr 133)) := by rfl
set_option maxRecDepth 100000 in
theorem cw_134 : lw_tbl[1055]? = some (Cond.code (my 134) (mb 134) (mL 134) (mr 134)) := by rfl
set_option maxRecDepth 100000 in
theorem cw_135 : lw_tbl[1112]? = some (Cond.code (my 135) (mb 135) (mL 135) (mr 135)) := by rfl
set_option maxRecDepth 100000 in
theorem cw_136 : lw_tbl[1108]? = some (Cond.code (my 136) (mb 136) (mL 136) (mr 136)) := by rfl
set_option maxRecDepth 100000 in
theorem cw_137 : lw_tbl[1124]? = some (Cond.code (my 137) (mb 137) (mL 137) (mr 137)) := by rfl
set_option maxRecDepth 100000 in
theorem cw_138 : lw_tbl[1116]? = some (Cond.code (my 138) (mb 138) (mL 138) (mr 138)) := by rfl
set_option maxRecDepth 100000 in
theorem cw_139 : lw_tbl[1128]? = some (Cond.code (my 139) (mb 139) (mL 139) (mr 139)) := by rfl
set_option maxRecDepth 100000 in
theorem cw_140 : lw_tbl[1142]? = some (Cond.code (my 140) (mb 140) (mL 140) (mr 140)) := by rfl
set_option maxRecDepth 100000 in
theorem cw_141 : lw_tbl[1137]? = some (Cond.code (my 141) (mb 141) (mL 141) (mr 141)) := by rfl
set_option maxRecDepth 100000 in
theorem cw_142 : lw_tbl[1132]? = some (Cond.code (my 142) (mb 142) (mL 142) (mr 142)) := by rfl
set_option maxRecDepth 100000 in
theorem cw_143 : lw_tbl[1150]? = some (Cond.code (my 143) (mb 143) (mL 143) (mr 143)) := by rfl
set_option maxRecDepth 100000 in
theorem cw_144 : lw_tbl[1146]? = some (Cond.code (my 144) (mb 144) (mL 144) (mr 144)) := by rfl
set_option maxRecDepth 100000 in
theorem cw_145 : lw_tbl[1154]? = some (Cond.code (my 145) (mb 145) (mL 145) (mr 145)) := by rfl
set_option maxRecDepth 100000 in
theorem cw_146 : lw_tbl[1166]? = some (Cond.code (my 146) (mb 146) (mL 146) (mr 146)) := by rfl
set_option maxRecDepth 100000 in
theorem cw_147 : lw_tbl[1158]? = some (Cond.code (my 147) (mb 147) (mL 147) (mr 147)) := by rfl
set_option maxRecDepth 100000 in
theorem cw_148 : lw_tbl[1170]? = some (Cond.code (my 148) (mb 148) (mL 148) (mr 148)) := by rfl
set_option maxRecDepth 100000 in
theorem cw_149 : lw_tbl[1174]? = some (Cond.code (my 149) (mb 149) (mL 149) (mr 149)) := by rfl
set_option maxRecDepth 100000 in
theorem cw_150 : lw_tbl[1178]? = some (Cond.code (my 150) (mb 150) (mL 150) (mr 150)) := by rfl
set_option maxRecDepth 100000 in
theorem cw_151 : lw_tbl[1182]? = some (Cond.code (my 151) (mb 151) (mL 151) (mr 151)) := by rfl
set_option maxRecDepth 100000 in
theorem cw_152 : lw_tbl[1186]? = some (Cond.code (my 152) (mb 152) (mL 152) (mr 152)) := by rfl
set_option maxRecDepth 100000 in
theorem cw_153 : lw_tbl[1194]? = some (Cond.code (my 153) (mb 153) (mL 153) (mr 153)) := by rfl
set_option maxRecDepth 100000 in
theorem cw_154 : lw_tbl[1190]? = some (Cond.code (my 154) (mb 154) (mL 154) (mr 154)) := by rfl
set_option maxRecDepth 100000 in
theorem cw_155 : lw_tbl[1206]? = some (Cond.code (my 155) (mb 155) (mL 155) (mr 155)) := by rfl
set_option maxRecDepth 100000 in
theorem cw_156 : lw_tbl[1202]? = some (Cond.code (my 156) (mb 156) (mL 156) (mr 156)) := by rfl
set_option maxRecDepth 100000 in
theorem cw_157 : lw_tbl[1198]? = some (Cond.code (my 157) (mb 157) (mL 157) (mr 157)) := by rfl
set_option maxRecDepth 100000 in
theorem cw_158 : lw_tbl[1214]? = some (Cond.code (my 158) (mb 158) (mL 158) (mr 158)) := by rfl
set_option maxRecDepth 100000 in
theorem cw_159 : lw_tbl[1210]? = some (Cond.code (my 159) (mb 159) (mL 159) (mr 159)) := by rfl
set_option maxRecDepth 100000 in
theorem cw_160 : lw_tbl[1218]? = some (Cond.code (my 160) (mb 160) (mL 160) (mr 160)) := by rfl
set_option maxRecDepth 100000 in
theorem cw_161 : lw_tbl[1222]? = some (Cond.code (my 161) (mb 161) (mL 161) (mr 161)) := by rfl
set_option maxRecDepth 100000 in
theorem cw_162 : lw_tbl[1226]? = some (Cond.code (my 162) (mb 162) (mL 162) (mr 162)) := by rfl
set_option maxRecDepth 100000 in
theorem cw_163 : lw_tbl[1234]? = some (Cond.code (my 163) (mb 163) (mL 163) (mr 163)) := by rfl
set_option maxRecDepth 100000 in
theorem cw_164 : lw_tbl[1230]? = some (Cond.code (my 164) (mb 164) (mL 164) (mr 164)) := by rfl
set_option maxRecDepth 100000 in
theorem cw_165 : lw_tbl[1238]? = some (Cond.code (my 165) (mb 165) (mL 165) (mr 165)) := by rfl
set_option maxRecDepth 100000 in
theorem cw_166 : lw_tbl[1242]? = some (Cond.code (my 166) (mb 166) (mL 166) (mr 166)) := by rfl
set_option maxRecDepth 100000 in
theorem cw_167 : lw_tbl[1250]? = some (Cond.code (my 167) (mb 167) (mL 167) (mr 167)) := by rfl
set_option maxRecDepth 100000 in
theorem cw_168 : lw_tbl[1254]? = some (Cond.code (my 168) (mb 168) (mL 168) (mr 168)) := by rfl
set_option maxRecDepth 100000 in
theorem cw_169 : lw_tbl[1261]? = some (Cond.code (my 169) (mb 169) (mL 169) (mr 169)) := by rfl
set_option maxRecDepth 100000 in
theorem cw_170 : lw_tbl[1257]? = some (Cond.code (my 170) (mb 170) (mL 170) (mr 170)) := by rfl
set_option maxRecDepth 100000 in
theorem cw_171 : lw_tbl[1246]? = some (Cond.code (my 171) (mb 171) (mL 171) (mr 171)) := by rfl
set_option maxRecDepth 100000 in
theorem cw_172 : lw_tbl[1268]? = some (Cond.code (my 172) (mb 172) (mL 172) (mr 172)) := by rfl
set_option maxRecDepth 100000 in
theorem cw_173 : lw_tbl[1272]? = some (Cond.code (my 173) (mb 173) (mL 173) (mr 173)) := by rfl
set_option maxRecDepth 100000 in
theorem cw_174 : lw_tbl[1280]? = some (Cond.code (my 174) (mb 174) (mL 174) (mr 174)) := by rfl
set_option maxRecDepth 100000 in
theorem cw_175 : lw_tbl[1276]? = some (Cond.code (my 175) (mb 175) (mL 175) (mr 175)) := by rfl
set_option maxRecDepth 100000 in
theorem cw_176 : lw_tbl[1284]? = some (Cond.code (my 176) (mb 176) (mL 176) (mr 176)) := by rfl
set_option maxRecDepth 100000 in
theorem cw_177 : lw_tbl[1289]? = some (Cond.code (my 177) (mb 177) (mL 177) (mr 177)) := by rfl
set_option maxRecDepth 100000 in
theorem cw_178 : lw_tbl[1293]? = some (Cond.code (my 178) (mb 178) (mL 178) (mr 178)) := by rfl
set_option maxRecDepth 100000 in
theorem cw_179 : lw_tbl[1297]? = some (Cond.code (my 179) (mb 179) (mL 179) (mr 179)) := by rfl
set_option maxRecDepth 100000 in
theorem cw_180 : lw_tbl[844]? = some (Cond.code (my 180) (mb 180) (mL 180) (mr 180)) := by rfl
set_option maxRecDepth 100000 in
theorem cw_181 : lw_tbl[648]? = some (Cond.code (my 181) (mb 181) (mL 181) (mr 181)) := by rfl
set_option maxRecDepth 100000 in
theorem cw_182 : lw_tbl[641]? = some (Cond.code (my 182) (mb 182) (mL 182) (mr 182)) := by rfl
set_option maxRecDepth 100000 in
theorem cw_183 : lw_tbl[877]? = some (Cond.code (my 183) (mb 183) (mL 183) (mr 183)) := by rfl
set_option maxRecDepth 100000 in
theorem cw_184 : lw_tbl[746]? = some (Cond.code (my 184) (mb 184) (mL 184) (mr 184)) := by rfl
set_option maxRecDepth 100000 in
theorem cw_185 : lw_tbl[112]? = some (Cond.code (my 185) (mb 185) (mL 185) (mr 185)) := by rfl
set_option maxRecDepth 100000 in
theorem cw_186 : lw_tbl[480]? = some (Cond.code (my 186) (mb 186) (mL 186) (mr 186)) := by rfl
set_option maxRecDepth 100000 in
theorem cw_187 : lw_tbl[490]? = some (Cond.code (my 187) (mb 187) (mL 187) (mr 187)) := by rfl
set_option maxRecDepth 100000 in
theorem cw_188 : lw_tbl[484]? = some (Cond.code (my 188) (mb 188) (mL 188) (mr 188)) := by rfl
set_option maxRecDepth 100000 in
theorem cw_189 : lw_tbl[494]? = some (Cond.code (my 189) (mb 189) (mL 189) (mr 189)) := by rfl
set_option maxRecDepth 100000 in
theorem cw_190 : lw_tbl[500]? = some (Cond.code (my 190) (mb 190) (mL 190) (mr 190)) := by rfl
set_option maxRecDepth 100000 in
theorem cw_191 : lw_tbl[497]? = some (Cond.code (my 191) (mb 191) (mL 191) (mr 191)) := by rfl
set_option maxRecDepth 100000 in
theorem cw_192 : lw_tbl[518]? = some (Cond.code (my 192) (mb 192) (mL 192) (mr 192)) := by rfl
set_option maxRecDepth 100000 in
theorem cw_193 : lw_tbl[514]? = some (Cond.code (my 193) (mb 193) (mL 193) (mr 193)) := by rfl
set_option maxRecDepth 100000 in
theorem cw_194 : lw_tbl[508]? = some (Cond.code (my 194) (mb 194) (mL 194) (mr 194)) := by rfl
set_option maxRecDepth 100000 in
theorem cw_195 : lw_tbl[511]? = some (Cond.code (my 195) (mb 195) (mL 195) (mr 195)) := by rfl
set_option maxRecDepth 100000 in
theorem cw_196 : lw_tbl[505]? = some (Cond.code (my 196) (mb 196) (mL 196) (mr 196)) := by rfl
set_option maxRecDepth 100000 in
theorem cw_all : ∀ z ∈ czs, Cond.code (my z) (mb z) (mL z) (mr z) ∈ lw_tbl := List.forall_mem_cons.mpr ⟨List.mem_of_getElem? cw_1, List.forall_mem_cons.mpr ⟨List.mem_of_getElem? cw_2, List.forall_mem_cons.mpr ⟨List.mem_of_getElem? cw_3, List.forall_mem_cons.mpr ⟨List.mem_of_getElem? cw_4, List.forall_mem_cons.mpr ⟨List.mem_of_getElem? cw_5, List.forall_mem_cons.mpr ⟨List.mem_of_getElem? cw_6, List.forall_mem_cons.mpr ⟨List.mem_of_getElem? cw_7, List.forall_mem_cons.mpr ⟨List.mem_of_getElem? cw_8, List.forall_mem_cons.mpr ⟨List.mem_of_getElem? cw_10, List.forall_mem_cons.mpr ⟨List.mem_of_getElem? cw_11, List.forall_mem_cons.mpr ⟨List.mem_of_getElem? cw_12, List.forall_mem_cons.mpr ⟨List.mem_of_getElem? cw_13, List.forall_mem_cons.mpr ⟨List.mem_of_getElem? cw_14, List.forall_mem_cons.mpr ⟨List.mem_of_getElem? cw_15, List.forall_mem_cons.mpr ⟨List.mem_of_getElem? cw_16, List.forall_mem_cons.mpr ⟨List.mem_of_getElem? cw_17, List.forall_mem_cons.mpr ⟨List.mem_of_getElem? cw_18, List.forall_mem_cons.mpr ⟨List.mem_of_getElem? cw_19, List.forall_mem_cons.mpr ⟨List.mem_of_getElem? cw_20, List.forall_mem_cons.mpr ⟨List.mem_of_getElem? cw_21, List.forall_mem_cons.mpr ⟨List.mem_of_getElem? cw_22, List.forall_mem_cons.mpr ⟨List.mem_of_getElem? cw_24, List.forall_mem_cons.mpr ⟨List.mem_of_getElem? cw_25, List.forall_mem_cons.mpr ⟨List.mem_of_getElem? cw_26, List.forall_mem_cons.mpr ⟨List.mem_of_getElem? cw_27, List.forall_mem_cons.mpr ⟨List.mem_of_getElem? cw_28, List.forall_mem_cons.mpr ⟨List.mem_of_getElem? cw_29, List.forall_mem_cons.mpr ⟨List.mem_of_getElem? cw_30, List.forall_mem_cons.mpr ⟨List.mem_of_getElem? cw_31, List.forall_mem_cons.mpr ⟨List.mem_of_getElem? cw_32, List.forall_mem_cons.mpr ⟨List.mem_of_getElem? cw_33, List.forall_mem_cons.mpr ⟨List.mem_of_getElem? cw_34, List.forall_mem_cons.mpr ⟨List.mem_of_getElem? cw_35, List.forall_mem_cons.mpr ⟨List.mem_of_getElem? cw_36, List.forall_mem_cons.mpr ⟨List.mem_of_getElem? cw_37, List.forall_mem_cons.mpr ⟨List.mem_of_getElem? cw_38, List.forall_mem_cons.mpr ⟨List.mem_of_getElem? cw_39, List.forall_mem_cons.mpr ⟨List.mem_of_getElem? cw_41, List.forall_mem_cons.mpr ⟨List.mem_of_getElem? cw_42, List.forall_mem_cons.mpr ⟨List.mem_of_getElem? cw_43, List.forall_mem_cons.mpr ⟨List.mem_of_getElem? cw_44, List.forall_mem_cons.mpr ⟨List.mem_of_getElem? cw_45, List.forall_mem_cons.mpr ⟨List.mem_of_getElem? cw_46, List.forall_mem_cons.mpr ⟨List.mem_of_getElem? cw_47, List.forall_mem_cons.mpr ⟨List.mem_of_getElem? cw_48, List.forall_mem_cons.mpr ⟨List.mem_of_getElem? cw_49, List.forall_mem_cons.mpr ⟨List.mem_of_getElem? cw_50, List.forall_mem_cons.mpr ⟨List.mem_of_getElem? cw_51, List.forall_mem_cons.mpr ⟨List.mem_of_getElem? cw_52, List.forall_mem_cons.mpr ⟨List.mem_of_getElem? cw_53, List.forall_mem_cons.mpr ⟨List.mem_of_getElem? cw_54, List.forall_mem_cons.mpr ⟨List.mem_of_getElem? cw_55, List.forall_mem_cons.mpr ⟨List.mem_of_getElem? cw_56, List.forall_mem_cons.mpr ⟨List.mem_of_getElem? cw_57, List.forall_mem_cons.mpr ⟨List.mem_of_getElem? cw_59, List.forall_mem_cons.mpr ⟨List.mem_of_getElem? cw_60, List.forall_mem_cons.mpr ⟨List.mem_of_getElem? cw_61, List.forall_mem_cons.mpr ⟨List.mem_of_getElem? cw_63, List.forall_mem_cons.mpr ⟨List.mem_of_getElem? cw_64, List.forall_mem_cons.mpr ⟨List.mem_of_getElem? cw_65, List.forall_mem_cons.mpr ⟨List.mem_of_getElem? cw_66, List.forall_mem_cons.mpr ⟨List.mem_of_getElem? cw_67, List.forall_mem_cons.mpr ⟨List.mem_of_getElem? cw_69, List.forall_mem_cons.mpr ⟨List.mem_of_getElem? cw_70, List.forall_mem_cons.mpr ⟨List.mem_of_getElem? cw_72, List.forall_mem_cons.mpr ⟨List.mem_of_getElem? cw_73, List.forall_mem_cons.mpr ⟨List.mem_of_getElem? cw_74, List.forall_mem_cons.mpr ⟨List.mem_of_getElem? cw_76, List.forall_mem_cons.mpr ⟨List.mem_of_getElem? cw_77, List.forall_mem_cons.mpr ⟨List.mem_of_getElem? cw_78, List.forall_mem_cons.mpr ⟨List.mem_of_getElem? cw_79, List.forall_mem_cons.mpr ⟨List.mem_of_getElem? cw_81, List.forall_mem_cons.mpr ⟨List.mem_of_getElem? cw_82, List.forall_mem_cons.mpr ⟨List.mem_of_getElem? cw_83, List.forall_mem_cons.mpr ⟨List.mem_of_getElem? cw_84, List.forall_mem_cons.mpr ⟨List.mem_of_getElem? cw_85, List.forall_mem_cons.mpr ⟨List.mem_of_getElem? cw_86, List.forall_mem_cons.mpr ⟨List.mem_of_getElem? cw_87, List.forall_mem_cons.mpr ⟨List.mem_of_getElem? cw_88, List.forall_mem_cons.mpr ⟨List.mem_of_getElem? cw_89, List.forall_mem_cons.mpr ⟨List.mem_of_getElem? cw_90, List.forall_mem_cons.mpr ⟨List.mem_of_getElem? cw_91, List.forall_mem_cons.mpr ⟨List.mem_of_getElem? cw_92, List.forall_mem_cons.mpr ⟨List.mem_of_getElem? cw_93, List.forall_mem_cons.mpr ⟨List.mem_of_getElem? cw_94, List.forall_mem_cons.mpr ⟨List.mem_of_getElem? cw_95, List.forall_mem_cons.mpr ⟨List.mem_of_getElem? cw_96, List.forall_mem_cons.mpr ⟨List.mem_of_getElem? cw_97, List.forall_mem_cons.mpr ⟨List.mem_of_getElem? cw_98, List.forall_mem_cons.mpr ⟨List.mem_of_getElem? cw_99, List.forall_mem_cons.mpr ⟨List.mem_of_getElem? cw_100, List.forall_mem_cons.mpr ⟨List.mem_of_getElem? cw_101, List.forall_mem_cons.mpr ⟨List.mem_of_getElem? cw_102, List.forall_mem_cons.mpr ⟨List.mem_of_getElem? cw_103, List.forall_mem_cons.mpr ⟨List.mem_of_getElem? cw_104, List.forall_mem_cons.mpr ⟨List.mem_of_getElem? cw_105, List.forall_mem_cons.mpr ⟨List.mem_of_getElem? cw_106, List.forall_mem_cons.mpr ⟨List.mem_of_getElem? cw_107, List.forall_mem_cons.mpr ⟨List.mem_of_getElem? cw_108, List.forall_mem_cons.mpr ⟨List.mem_of_getElem? cw_109, List.forall_mem_cons.mpr ⟨List.mem_of_getElem? cw_110, List.forall_mem_cons.mpr ⟨List.mem_of_getElem? cw_111, List.forall_mem_cons.mpr ⟨List.mem_of_getElem? cw_112, List.forall_mem_cons.mpr ⟨List.mem_of_getElem? cw_113, List.forall_mem_cons.mpr ⟨List.mem_of_getElem? cw_114, List.forall_mem_cons.mpr ⟨List.mem_of_getElem? cw_115, List.forall_mem_cons.mpr ⟨List.mem_of_getElem? cw_117, List.forall_mem_cons.mpr ⟨List.mem_of_getElem? cw_118, List.forall_mem_cons.mpr ⟨List.mem_of_getElem? cw_119, List.forall_mem_cons.mpr ⟨List.mem_of_getElem? cw_120, List.forall_mem_cons.mpr ⟨List.mem_of_getElem? cw_121, List.forall_mem_cons.mpr ⟨List.mem_of_getElem? cw_122, List.forall_mem_cons.mpr ⟨List.mem_of_getElem? cw_123, List.forall_mem_cons.mpr ⟨List.mem_of_getElem? cw_124, List.forall_mem_cons.mpr ⟨List.mem_of_getElem? cw_125, List.forall_mem_cons.mpr ⟨List.mem_of_getElem? cw_126, List.forall_mem_cons.mpr ⟨List.mem_of_getElem? cw_127, List.forall_mem_cons.mpr ⟨List.mem_of_getElem? cw_128, List.forall_mem_cons.mpr ⟨List.mem_of_getElem? cw_129, List.forall_mem_cons.mpr ⟨List.mem_of_getElem? cw_130, List.forall_mem_cons.mpr ⟨List.mem_of_getElem? cw_131, List.forall_mem_cons.mpr ⟨List.mem_of_getElem? cw_132, List.forall_mem_cons.mpr ⟨List.mem_of_getElem? cw_133, List.forall_mem_cons.mpr ⟨List.mem_of_getElem? cw_134, List.forall_mem_cons.mpr ⟨List.mem_of_getElem? cw_135, List.forall_mem_cons.mpr ⟨List.mem_of_getElem? cw_136, List.forall_mem_cons.mpr ⟨List.mem_of_getElem? cw_137, List.forall_mem_cons.mpr ⟨List.mem_of_getElem? cw_138, List.forall_mem_cons.mpr ⟨List.mem_of_getElem? cw_139, List.forall_mem_cons.mpr ⟨List.mem_of_getElem? cw_140, List.forall_mem_cons.mpr ⟨List.mem_of_getElem? cw_141, List.forall_mem_cons.mpr ⟨List.mem_of_getElem? cw_142, List.forall_mem_cons.mpr ⟨List.mem_of_getElem? cw_143, List.forall_mem_cons.mpr ⟨List.mem_of_getElem? cw_144, List.forall_mem_cons.mpr ⟨List.mem_of_getElem? cw_145, List.forall_mem_cons.mpr ⟨List.mem_of_getElem? cw_146, List.forall_mem_cons.mpr ⟨List.mem_of_getElem? cw_147, List.forall_mem_cons.mpr ⟨List.mem_of_getElem? cw_148, List.forall_mem_cons.mpr ⟨List.mem_of_getElem? cw_149, List.forall_mem_cons.mpr ⟨List.mem_of_getElem? cw_150, List.forall_mem_cons.mpr ⟨List.mem_of_getElem? cw_151, List.forall_mem_cons.mpr ⟨List.mem_of_getElem? cw_152, List.forall_mem_cons.mpr ⟨List.mem_of_getElem? cw_153, List.forall_mem_cons.mpr ⟨List.mem_of_getElem? cw_154, List.forall_mem_cons.mpr ⟨List.mem_of_getElem? cw_155, List.forall_mem_cons.mpr ⟨List.mem_of_getElem? cw_156, List.forall_mem_cons.mpr ⟨List.mem_of_getElem? cw_157, List.forall_mem_cons.mpr ⟨List.mem_of_getElem? cw_158, List.forall_mem_cons.mpr ⟨List.mem_of_getElem? cw_159, List.forall_mem_cons.mpr ⟨List.mem_of_getElem? cw_160, List.forall_mem_cons.mpr ⟨List.mem_of_getElem? cw_161, List.forall_mem_cons.mpr ⟨List.mem_of_getElem? cw_162, List.forall_mem_cons.mpr ⟨List.mem_of_getElem? cw_163, List.forall_mem_cons.mpr ⟨List.mem_of_getElem? cw_164, List.forall_mem_cons.mpr ⟨List.mem_of_getElem? cw_165, List.forall_mem_cons.mpr ⟨List.mem_of_getElem? cw_166, List.forall_mem_cons.mpr ⟨List.mem_of_getElem? cw_167, List.forall_mem_cons.mpr ⟨List.mem_of_getElem? cw_168, List.forall_mem_cons.mpr ⟨List.mem_of_getElem? cw_169, List.forall_mem_cons.mpr ⟨List.mem_of_getElem? cw_170, List.forall_mem_cons.mpr ⟨List.mem_of_getElem? cw_171, List.forall_mem_cons.mpr ⟨List.mem_of_getElem? cw_172, List.forall_mem_cons.mpr ⟨List.mem_of_getElem? cw_173, List.forall_mem_cons.mpr ⟨List.mem_of_getElem? cw_174, List.forall_mem_cons.mpr ⟨List.mem_of_getElem? cw_175, List.forall_mem_cons.mpr ⟨List.mem_of_getElem? cw_176, List.forall_mem_cons.mpr ⟨List.mem_of_getElem? cw_177, List.forall_mem_cons.mpr ⟨List.mem_of_getElem? cw_178, List.forall_mem_cons.mpr ⟨List.mem_of_getElem? cw_179, List.forall_mem_cons.mpr ⟨List.mem_of_getElem? cw_180, List.forall_mem_cons.mpr ⟨List.mem_of_getElem? cw_181, List.forall_mem_cons.mpr ⟨List.mem_of_getElem? cw_182, List.forall_mem_cons.mpr ⟨List.mem_of_getElem? cw_183, List.forall_mem_cons.mpr ⟨List.mem_of_getElem? cw_184, List.forall_mem_cons.mpr ⟨List.mem_of_getElem? cw_185, List.forall_mem_cons.mpr ⟨List.mem_of_getElem? cw_186, List.forall_mem_cons.mpr ⟨List.mem_of_getElem? cw_187, List.forall_mem_cons.mpr ⟨List.mem_of_getElem? cw_188, List.forall_mem_cons.mpr ⟨List.mem_of_getElem? cw_189, List.forall_mem_cons.mpr ⟨List.mem_of_getElem? cw_190, List.forall_mem_cons.mpr ⟨List.mem_of_getElem? cw_191, List.forall_mem_cons.mpr ⟨List.mem_of_getElem? cw_192, List.forall_mem_cons.mpr ⟨List.mem_of_getElem? cw_193, List.forall_mem_cons.mpr ⟨List.mem_of_getElem? cw_194, List.forall_mem_cons.mpr ⟨List.mem_of_getElem? cw_195, List.forall_mem_cons.mpr ⟨List.mem_of_getElem? cw_196, fun _ h => absurd h List.not_mem_nil⟩⟩⟩⟩⟩⟩⟩⟩⟩⟩⟩⟩⟩⟩⟩⟩⟩⟩⟩⟩⟩⟩⟩⟩⟩⟩⟩⟩⟩⟩⟩⟩⟩⟩⟩⟩⟩⟩⟩⟩⟩⟩⟩⟩⟩⟩⟩⟩⟩⟩⟩⟩⟩⟩⟩⟩⟩⟩⟩⟩⟩⟩⟩⟩⟩⟩⟩⟩⟩⟩⟩⟩⟩⟩⟩⟩⟩⟩⟩⟩⟩⟩⟩⟩⟩⟩⟩⟩⟩⟩⟩⟩⟩⟩⟩⟩⟩⟩⟩⟩⟩⟩⟩⟩⟩⟩⟩⟩⟩⟩⟩⟩⟩⟩⟩⟩⟩⟩⟩⟩⟩⟩⟩⟩⟩⟩⟩⟩⟩⟩⟩⟩⟩⟩⟩⟩⟩⟩⟩⟩⟩⟩⟩⟩⟩⟩⟩⟩⟩⟩⟩⟩⟩⟩⟩⟩⟩⟩⟩⟩⟩⟩⟩⟩⟩⟩⟩⟩⟩⟩⟩⟩⟩⟩⟩⟩⟩⟩⟩⟩⟩⟩⟩⟩⟩⟩
theorem fm_mem {big : List Cond} {ps : List Nat} {w : Cond} (h : w ∈ ps.filterMap (fun i => big[i]?)) : w ∈ big := by obtain ⟨i, -, hi⟩ := List.mem_filterMap.mp h; exact List.mem_of_getElem? hi
theorem all_at {α : Type} {l : List α} {f : α → Bool} (h : l.all f = true) {a : α} (ha : a ∈ l) : f a = true := List.all_eq_true.mp h a ha
theorem lnk_mem {c i k z : Nat} (h : lnk c i = some (k, z)) : (c, i, k, z) ∈ lnks := by
  unfold lnk at h
  obtain ⟨e, he, h2⟩ := Option.map_eq_some_iff.mp h
  have h3 := List.find?_some he
  simp only [Bool.and_eq_true, beq_iff_eq] at h3
  obtain ⟨a, b, d⟩ := e
  obtain ⟨rfl, rfl⟩ := h3
  cases h2
  exact List.mem_of_find?_eq_some he
theorem fld_mem {c i k z : Nat} (h : fld c i = some (k, z)) : (c, i, k, z) ∈ flds := by
  unfold fld at h
  obtain ⟨e, he, h2⟩ := Option.map_eq_some_iff.mp h
  have h3 := List.find?_some he
  simp only [Bool.and_eq_true, beq_iff_eq] at h3
  obtain ⟨a, b, d⟩ := e
  obtain ⟨rfl, rfl⟩ := h3
  cases h2
  exact List.mem_of_find?_eq_some he
theorem cst_mem {c i : Nat} {v : Value} (h : cst c i = some v) : (c, i, v) ∈ csts := by
  unfold cst at h
  obtain ⟨e, he, h2⟩ := Option.map_eq_some_iff.mp h
  have h3 := List.find?_some he
  simp only [Bool.and_eq_true, beq_iff_eq] at h3
  obtain ⟨a, b, d⟩ := e
  obtain ⟨rfl, rfl⟩ := h3
  cases h2
  exact List.mem_of_find?_eq_some he
theorem fld_w {c i k j : Nat} (h : fld c i = some (k, j)) : fwd (c, i, k, j) ∈ lw_tbl := fm_mem (by rw [← flds_w]; exact List.mem_map_of_mem (fld_mem h))
theorem lnk_w {c i k z : Nat} (h : lnk c i = some (k, z)) : Cond.methodLink (cnm c) i (my z) ∈ lw_tbl := fm_mem (by rw [← lnks_w]; exact List.mem_map_of_mem (f := lwd) (lnk_mem h))
theorem lnk_v {c i z : Nat} (h : lnk c i = some (0, z)) : z ∈ vzs := by
  have := all_at lnks_k (lnk_mem h)
  simpa using this
theorem lnk_s {c i z : Nat} (h : lnk c i = some (1, z)) : z ∈ szs := by
  have := all_at lnks_k (lnk_mem h)
  simpa using this
theorem v_c {z : Nat} (h : z ∈ vzs) : z ∈ czs := by simpa using all_at cz_m (List.mem_append_left _ h)
theorem s_c {z : Nat} (h : z ∈ szs) : z ∈ czs := by simpa using all_at cz_m (List.mem_append_right _ h)
theorem v_i {z : Nat} (h : z ∈ vzs) : Cond.instanceMethod (my z) ∈ lw_tbl := fm_mem (by rw [← vz_i]; exact List.mem_map_of_mem h)
theorem v_s {z : Nat} (h : z ∈ vzs) : Cond.selects (cnm (mo z)) (my z) (my z) ∈ lw_tbl := fm_mem (by rw [← vz_s]; exact List.mem_map_of_mem h)
theorem s_s {z : Nat} (h : z ∈ szs) : Cond.static (my z) ∈ lw_tbl := fm_mem (by rw [← sz_s]; exact List.mem_map_of_mem h)
theorem c_cls {z : Nat} (h : z ∈ czs) : (my z).cls = cnm (mo z) := by simpa using all_at cz_f2 h
theorem c_ini {z : Nat} (h : z ∈ czs) : Cond.initialized (cnm (mo z)) ∈ lw_tbl := fm_mem (by rw [← cl_i]; exact List.mem_map_of_mem (by simpa using all_at cz_f1 h))
theorem c_pf {z : Nat} (h : z ∈ czs) : plainFor (my z) = true := all_at cz_f3 h
theorem c_mh {z : Nat} (h : z ∈ czs) : (my z).cls ≠ "java/lang/invoke/MethodHandle" ∧ (my z).cls ≠ "java/lang/invoke/VarHandle" := by
  have := all_at cz_f4 h
  rw [Bool.and_eq_true] at this
  exact ⟨of_decide_eq_true this.1, of_decide_eq_true this.2⟩
theorem c_na {z : Nat} (h : z ∈ czs) : (parseMethodDescriptor (my z).desc).map (fun d => d.parameters.length) = some (na z) := of_decide_eq_true (all_at cz_f5 h)
theorem cst_i : (csts.filter (fun e => isI e.2.2)).map (fun e => match e.2.2 with | .int v => Cond.constant (cnm e.1) e.2.1 v | _ => Cond.returned) = [634, 657, 97, 688, 926, 1138, 1133, 845, 846, 847].filterMap (fun i => lw_tbl[i]?) := by decide +kernel
theorem cst_l : (csts.filter (fun e => isL e.2.2)).map (fun e => match e.2.2 with | .long v => Cond.constantLong (cnm e.1) e.2.1 v | _ => Cond.returned) = [429, 1298, 1047, 1068, 1069, 1070, 1071, 1072, 1073, 1074, 1075, 1076, 1077, 1078, 1079, 1080].filterMap (fun i => lw_tbl[i]?) := by decide +kernel
theorem cst_iw {c i : Nat} {v : Int32} (h : cst c i = some (.int v)) : Cond.constant (cnm c) i v ∈ lw_tbl := fm_mem (by rw [← cst_i]; exact List.mem_map.mpr ⟨(c, i, .int v), List.mem_filter.mpr ⟨cst_mem h, rfl⟩, rfl⟩)
theorem cst_lw {c i : Nat} {v : Int64} (h : cst c i = some (.long v)) : Cond.constantLong (cnm c) i v ∈ lw_tbl := fm_mem (by rw [← cst_l]; exact List.mem_map.mpr ⟨(c, i, .long v), List.mem_filter.mpr ⟨cst_mem h, rfl⟩, rfl⟩)
def jst : List (Nat × String × Nat) := [(103, "street", 1000), (109, "behind", 1001), (111, "way", 1002), (113, "wall", 1003), (115, "deed", 1004), (117, "shop", 1005), (119, "tidy", 1006)]
theorem cst_r : csts.all (fun e => match e.2.2 with | .ref k => decide (e.1 = 3) && (jst.any (fun q => decide (q.1 = e.2.1) && decide (q.2.2 = k))) | _ => true) = true := by decide +kernel
def gtb : List Cond := lw_tbl.filter goodWord
theorem g_of {w : Cond} (h : w ∈ lw_tbl) (hg : goodWord w = true) : w ∈ gtb := List.mem_filter.mpr ⟨h, hg⟩
theorem gtb_good {w : Cond} (h : w ∈ gtb) : w ∈ lw_tbl ∧ goodWord w = true := List.mem_filter.mp h
theorem inX0 : ∀ w ∈ wsX00, w ∈ gtb := fun w h => g_of ((show ∀ w ∈ wsX00, w ∈ lw_tbl by decide +kernel) w h) ((show ∀ w ∈ wsX00, goodWord w = true by decide +kernel) w h)
theorem inX1 : ∀ w ∈ wsX10, w ∈ gtb := fun w h => g_of ((show ∀ w ∈ wsX10, w ∈ lw_tbl by decide +kernel) w h) ((show ∀ w ∈ wsX10, goodWord w = true by decide +kernel) w h)
theorem inX2 : ∀ w ∈ wsX20, w ∈ gtb := fun w h => g_of ((show ∀ w ∈ wsX20, w ∈ lw_tbl by decide +kernel) w h) ((show ∀ w ∈ wsX20, goodWord w = true by decide +kernel) w h)
theorem inX3 : ∀ w ∈ wsX30, w ∈ gtb := fun w h => g_of ((show ∀ w ∈ wsX30, w ∈ lw_tbl by decide +kernel) w h) ((show ∀ w ∈ wsX30, goodWord w = true by decide +kernel) w h)
theorem inX4 : ∀ w ∈ wsX40, w ∈ gtb := fun w h => g_of ((show ∀ w ∈ wsX40, w ∈ lw_tbl by decide +kernel) w h) ((show ∀ w ∈ wsX40, goodWord w = true by decide +kernel) w h)
theorem inX5 : ∀ w ∈ wsX50, w ∈ gtb := fun w h => g_of ((show ∀ w ∈ wsX50, w ∈ lw_tbl by decide +kernel) w h) ((show ∀ w ∈ wsX50, goodWord w = true by decide +kernel) w h)
theorem inX6 : ∀ w ∈ wsX60, w ∈ gtb := fun w h => g_of ((show ∀ w ∈ wsX60, w ∈ lw_tbl by decide +kernel) w h) ((show ∀ w ∈ wsX60, goodWord w = true by decide +kernel) w h)
theorem inX7 : ∀ w ∈ wsX70, w ∈ gtb := fun w h => g_of ((show ∀ w ∈ wsX70, w ∈ lw_tbl by decide +kernel) w h) ((show ∀ w ∈ wsX70, goodWord w = true by decide +kernel) w h)
theorem inX8 : ∀ w ∈ wsX80, w ∈ gtb := fun w h => g_of ((show ∀ w ∈ wsX80, w ∈ lw_tbl by decide +kernel) w h) ((show ∀ w ∈ wsX80, goodWord w = true by decide +kernel) w h)
theorem inX9 : ∀ w ∈ wsX90, w ∈ gtb := fun w h => g_of ((show ∀ w ∈ wsX90, w ∈ lw_tbl by decide +kernel) w h) ((show ∀ w ∈ wsX90, goodWord w = true by decide +kernel) w h)
theorem inX10 : ∀ w ∈ wsX100, w ∈ gtb := fun w h => g_of ((show ∀ w ∈ wsX100, w ∈ lw_tbl by decide +kernel) w h) ((show ∀ w ∈ wsX100, goodWord w = true by decide +kernel) w h)
