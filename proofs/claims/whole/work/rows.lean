section
-- ===== PART A: goes FIRST, ahead of the names: the tables' words, and 'selects' of the private methods out of them =====
/-- a private method of a class that the tables say can be made, by its rows of tables_1 -/
def lw_okq (q : MethodName × Nat) : Prop := (q.1.cls ≠ "java/lang/invoke/MethodHandle" ∧ q.1.cls ≠ "java/lang/invoke/VarHandle") ∧ Cond.instantiable q.1.cls q.2 ∈ tables_1 ∧ Cond.privateMethod q.1 ∈ tables_1 ∧ Cond.instanceMethod q.1 ∈ tables_1
theorem lw_p0 : lw_okq (⟨"MinuteBehind$Houses", "layRoads", "()V"⟩, 9) := ⟨⟨by decide +kernel, by decide +kernel⟩, List.mem_of_getElem? (i := 27) (by decide +kernel), List.mem_of_getElem? (i := 43) (by decide +kernel), List.mem_of_getElem? (i := 44) (by decide +kernel)⟩
theorem lw_p1 : lw_okq (⟨"MinuteBehind$Houses", "layRoad", "(III)V"⟩, 9) := ⟨⟨by decide +kernel, by decide +kernel⟩, List.mem_of_getElem? (i := 27) (by decide +kernel), List.mem_of_getElem? (i := 48) (by decide +kernel), List.mem_of_getElem? (i := 49) (by decide +kernel)⟩
theorem lw_p2 : lw_okq (⟨"MinuteBehind$Houses", "joinRoads", "()V"⟩, 9) := ⟨⟨by decide +kernel, by decide +kernel⟩, List.mem_of_getElem? (i := 27) (by decide +kernel), List.mem_of_getElem? (i := 56) (by decide +kernel), List.mem_of_getElem? (i := 57) (by decide +kernel)⟩
theorem lw_p3 : lw_okq (⟨"MinuteBehind$Reader", "readLine", "(I)Z"⟩, 12) := ⟨⟨by decide +kernel, by decide +kernel⟩, List.mem_of_getElem? (i := 193) (by decide +kernel), List.mem_of_getElem? (i := 396) (by decide +kernel), List.mem_of_getElem? (i := 397) (by decide +kernel)⟩
theorem lw_p4 : lw_okq (⟨"MinuteBehind$Reader", "readToken", "()V"⟩, 12) := ⟨⟨by decide +kernel, by decide +kernel⟩, List.mem_of_getElem? (i := 193) (by decide +kernel), List.mem_of_getElem? (i := 400) (by decide +kernel), List.mem_of_getElem? (i := 401) (by decide +kernel)⟩
theorem lw_p5 : lw_okq (⟨"MinuteBehind$Reader", "readLetters", "()V"⟩, 12) := ⟨⟨by decide +kernel, by decide +kernel⟩, List.mem_of_getElem? (i := 193) (by decide +kernel), List.mem_of_getElem? (i := 407) (by decide +kernel), List.mem_of_getElem? (i := 408) (by decide +kernel)⟩
theorem lw_p6 : lw_okq (⟨"MinuteBehind$Reader", "readDigits", "()V"⟩, 12) := ⟨⟨by decide +kernel, by decide +kernel⟩, List.mem_of_getElem? (i := 193) (by decide +kernel), List.mem_of_getElem? (i := 414) (by decide +kernel), List.mem_of_getElem? (i := 415) (by decide +kernel)⟩
theorem lw_p7 : lw_okq (⟨"MinuteBehind$Reader", "kindOfWord", "()I"⟩, 12) := ⟨⟨by decide +kernel, by decide +kernel⟩, List.mem_of_getElem? (i := 193) (by decide +kernel), List.mem_of_getElem? (i := 418) (by decide +kernel), List.mem_of_getElem? (i := 419) (by decide +kernel)⟩
theorem lw_p8 : lw_okq (⟨"MinuteBehind$Reader", "isWord", "(Ljava/lang/String;)Z"⟩, 12) := ⟨⟨by decide +kernel, by decide +kernel⟩, List.mem_of_getElem? (i := 193) (by decide +kernel), List.mem_of_getElem? (i := 423) (by decide +kernel), List.mem_of_getElem? (i := 424) (by decide +kernel)⟩
theorem lw_p9 : lw_okq (⟨"MinuteBehind$Reader", "isFull", "(I)Z"⟩, 12) := ⟨⟨by decide +kernel, by decide +kernel⟩, List.mem_of_getElem? (i := 193) (by decide +kernel), List.mem_of_getElem? (i := 481) (by decide +kernel), List.mem_of_getElem? (i := 482) (by decide +kernel)⟩
theorem lw_p10 : lw_okq (⟨"MinuteBehind$Reader", "canStand", "(III)Z"⟩, 12) := ⟨⟨by decide +kernel, by decide +kernel⟩, List.mem_of_getElem? (i := 193) (by decide +kernel), List.mem_of_getElem? (i := 488) (by decide +kernel), List.mem_of_getElem? (i := 489) (by decide +kernel)⟩
theorem lw_p11 : lw_okq (⟨"MinuteBehind$Reader", "greatestOf", "(II)I"⟩, 12) := ⟨⟨by decide +kernel, by decide +kernel⟩, List.mem_of_getElem? (i := 193) (by decide +kernel), List.mem_of_getElem? (i := 495) (by decide +kernel), List.mem_of_getElem? (i := 496) (by decide +kernel)⟩
theorem lw_p12 : lw_okq (⟨"MinuteBehind$Reader", "foresee", "(II)V"⟩, 12) := ⟨⟨by decide +kernel, by decide +kernel⟩, List.mem_of_getElem? (i := 193) (by decide +kernel), List.mem_of_getElem? (i := 499) (by decide +kernel), List.mem_of_getElem? (i := 500) (by decide +kernel)⟩
theorem lw_p13 : lw_okq (⟨"MinuteBehind", "carryOut", "(I)V"⟩, 9) := ⟨⟨by decide +kernel, by decide +kernel⟩, List.mem_of_getElem? (i := 19) (by decide +kernel), List.mem_of_getElem? (i := 508) (by decide +kernel), List.mem_of_getElem? (i := 509) (by decide +kernel)⟩
theorem lw_p14 : lw_okq (⟨"MinuteBehind$Deeds", "isAhead", "(II)Z"⟩, 7) := ⟨⟨by decide +kernel, by decide +kernel⟩, List.mem_of_getElem? (i := 99) (by decide +kernel), List.mem_of_getElem? (i := 675) (by decide +kernel), List.mem_of_getElem? (i := 676) (by decide +kernel)⟩
theorem lw_p15 : lw_okq (⟨"MinuteBehind$Deeds", "leastFrom", "(II)I"⟩, 7) := ⟨⟨by decide +kernel, by decide +kernel⟩, List.mem_of_getElem? (i := 99) (by decide +kernel), List.mem_of_getElem? (i := 706) (by decide +kernel), List.mem_of_getElem? (i := 707) (by decide +kernel)⟩
def lw_privs_1 : List (MethodName × Nat) := [(⟨"MinuteBehind$Houses", "layRoads", "()V"⟩, 9), (⟨"MinuteBehind$Houses", "layRoad", "(III)V"⟩, 9), (⟨"MinuteBehind$Houses", "joinRoads", "()V"⟩, 9), (⟨"MinuteBehind$Reader", "readLine", "(I)Z"⟩, 12), (⟨"MinuteBehind$Reader", "readToken", "()V"⟩, 12), (⟨"MinuteBehind$Reader", "readLetters", "()V"⟩, 12), (⟨"MinuteBehind$Reader", "readDigits", "()V"⟩, 12), (⟨"MinuteBehind$Reader", "kindOfWord", "()I"⟩, 12), (⟨"MinuteBehind$Reader", "isWord", "(Ljava/lang/String;)Z"⟩, 12), (⟨"MinuteBehind$Reader", "isFull", "(I)Z"⟩, 12), (⟨"MinuteBehind$Reader", "canStand", "(III)Z"⟩, 12), (⟨"MinuteBehind$Reader", "greatestOf", "(II)I"⟩, 12), (⟨"MinuteBehind$Reader", "foresee", "(II)V"⟩, 12), (⟨"MinuteBehind", "carryOut", "(I)V"⟩, 9), (⟨"MinuteBehind$Deeds", "isAhead", "(II)Z"⟩, 7), (⟨"MinuteBehind$Deeds", "leastFrom", "(II)I"⟩, 7)]
theorem lw_r1 : ∀ q ∈ lw_privs_1, lw_okq q := List.forall_mem_cons.mpr ⟨lw_p0, List.forall_mem_cons.mpr ⟨lw_p1, List.forall_mem_cons.mpr ⟨lw_p2, List.forall_mem_cons.mpr ⟨lw_p3, List.forall_mem_cons.mpr ⟨lw_p4, List.forall_mem_cons.mpr ⟨lw_p5, List.forall_mem_cons.mpr ⟨lw_p6, List.forall_mem_cons.mpr ⟨lw_p7, List.forall_mem_cons.mpr ⟨lw_p8, List.forall_mem_cons.mpr ⟨lw_p9, List.forall_mem_cons.mpr ⟨lw_p10, List.forall_mem_cons.mpr ⟨lw_p11, List.forall_mem_cons.mpr ⟨lw_p12, List.forall_mem_cons.mpr ⟨lw_p13, List.forall_mem_cons.mpr ⟨lw_p14, List.forall_mem_cons.mpr ⟨lw_p15, fun _ h => absurd h List.not_mem_nil⟩⟩⟩⟩⟩⟩⟩⟩⟩⟩⟩⟩⟩⟩⟩⟩
theorem lw_p16 : lw_okq (⟨"MinuteBehind$Shops", "served", "(III)I"⟩, 11) := ⟨⟨by decide +kernel, by decide +kernel⟩, List.mem_of_getElem? (i := 132) (by decide +kernel), List.mem_of_getElem? (i := 741) (by decide +kernel), List.mem_of_getElem? (i := 742) (by decide +kernel)⟩
theorem lw_p17 : lw_okq (⟨"MinuteBehind$Bells", "tieGroups", "()V"⟩, 7) := ⟨⟨by decide +kernel, by decide +kernel⟩, List.mem_of_getElem? (i := 291) (by decide +kernel), List.mem_of_getElem? (i := 772) (by decide +kernel), List.mem_of_getElem? (i := 773) (by decide +kernel)⟩
theorem lw_p18 : lw_okq (⟨"MinuteBehind$Bells", "spread", "()V"⟩, 7) := ⟨⟨by decide +kernel, by decide +kernel⟩, List.mem_of_getElem? (i := 291) (by decide +kernel), List.mem_of_getElem? (i := 776) (by decide +kernel), List.mem_of_getElem? (i := 777) (by decide +kernel)⟩
theorem lw_p19 : lw_okq (⟨"MinuteBehind$Bells", "tie", "(III)V"⟩, 7) := ⟨⟨by decide +kernel, by decide +kernel⟩, List.mem_of_getElem? (i := 291) (by decide +kernel), List.mem_of_getElem? (i := 780) (by decide +kernel), List.mem_of_getElem? (i := 781) (by decide +kernel)⟩
theorem lw_p20 : lw_okq (⟨"MinuteBehind$Bells", "wrongInGroup", "(I)I"⟩, 7) := ⟨⟨by decide +kernel, by decide +kernel⟩, List.mem_of_getElem? (i := 291) (by decide +kernel), List.mem_of_getElem? (i := 784) (by decide +kernel), List.mem_of_getElem? (i := 785) (by decide +kernel)⟩
theorem lw_p21 : lw_okq (⟨"MinuteBehind$Bells", "agreeingWith", "(I)I"⟩, 7) := ⟨⟨by decide +kernel, by decide +kernel⟩, List.mem_of_getElem? (i := 291) (by decide +kernel), List.mem_of_getElem? (i := 788) (by decide +kernel), List.mem_of_getElem? (i := 789) (by decide +kernel)⟩
theorem lw_p22 : lw_okq (⟨"MinuteBehind$Sights", "excludedAt", "(II)I"⟩, 5) := ⟨⟨by decide +kernel, by decide +kernel⟩, List.mem_of_getElem? (i := 320) (by decide +kernel), List.mem_of_getElem? (i := 820) (by decide +kernel), List.mem_of_getElem? (i := 821) (by decide +kernel)⟩
theorem lw_p23 : lw_okq (⟨"MinuteBehindModel", "plain", "()V"⟩, 37) := ⟨⟨by decide +kernel, by decide +kernel⟩, List.mem_of_getElem? (i := 862) (by decide +kernel), List.mem_of_getElem? (i := 868) (by decide +kernel), List.mem_of_getElem? (i := 869) (by decide +kernel)⟩
theorem lw_p24 : lw_okq (⟨"MinuteBehindModel", "layFar", "()V"⟩, 37) := ⟨⟨by decide +kernel, by decide +kernel⟩, List.mem_of_getElem? (i := 862) (by decide +kernel), List.mem_of_getElem? (i := 872) (by decide +kernel), List.mem_of_getElem? (i := 873) (by decide +kernel)⟩
theorem lw_p25 : lw_okq (⟨"MinuteBehindModel", "isRead", "()Z"⟩, 37) := ⟨⟨by decide +kernel, by decide +kernel⟩, List.mem_of_getElem? (i := 862) (by decide +kernel), List.mem_of_getElem? (i := 1006) (by decide +kernel), List.mem_of_getElem? (i := 1007) (by decide +kernel)⟩
theorem lw_p26 : lw_okq (⟨"MinuteBehindModel", "isLine", "(I)Z"⟩, 37) := ⟨⟨by decide +kernel, by decide +kernel⟩, List.mem_of_getElem? (i := 862) (by decide +kernel), List.mem_of_getElem? (i := 1010) (by decide +kernel), List.mem_of_getElem? (i := 1011) (by decide +kernel)⟩
theorem lw_p27 : lw_okq (⟨"MinuteBehindModel", "nextToken", "()V"⟩, 37) := ⟨⟨by decide +kernel, by decide +kernel⟩, List.mem_of_getElem? (i := 862) (by decide +kernel), List.mem_of_getElem? (i := 1014) (by decide +kernel), List.mem_of_getElem? (i := 1015) (by decide +kernel)⟩
theorem lw_p28 : lw_okq (⟨"MinuteBehindModel", "isStreet", "(I)Z"⟩, 37) := ⟨⟨by decide +kernel, by decide +kernel⟩, List.mem_of_getElem? (i := 862) (by decide +kernel), List.mem_of_getElem? (i := 1031) (by decide +kernel), List.mem_of_getElem? (i := 1032) (by decide +kernel)⟩
theorem lw_p29 : lw_okq (⟨"MinuteBehindModel", "isNumber", "(III)Z"⟩, 37) := ⟨⟨by decide +kernel, by decide +kernel⟩, List.mem_of_getElem? (i := 862) (by decide +kernel), List.mem_of_getElem? (i := 1035) (by decide +kernel), List.mem_of_getElem? (i := 1036) (by decide +kernel)⟩
theorem lw_p30 : lw_okq (⟨"MinuteBehindModel", "fails", "()Z"⟩, 37) := ⟨⟨by decide +kernel, by decide +kernel⟩, List.mem_of_getElem? (i := 862) (by decide +kernel), List.mem_of_getElem? (i := 1039) (by decide +kernel), List.mem_of_getElem? (i := 1040) (by decide +kernel)⟩
theorem lw_p31 : lw_okq (⟨"MinuteBehindModel", "isWall", "(I)Z"⟩, 37) := ⟨⟨by decide +kernel, by decide +kernel⟩, List.mem_of_getElem? (i := 862) (by decide +kernel), List.mem_of_getElem? (i := 1043) (by decide +kernel), List.mem_of_getElem? (i := 1044) (by decide +kernel)⟩
def lw_privs_2 : List (MethodName × Nat) := [(⟨"MinuteBehind$Shops", "served", "(III)I"⟩, 11), (⟨"MinuteBehind$Bells", "tieGroups", "()V"⟩, 7), (⟨"MinuteBehind$Bells", "spread", "()V"⟩, 7), (⟨"MinuteBehind$Bells", "tie", "(III)V"⟩, 7), (⟨"MinuteBehind$Bells", "wrongInGroup", "(I)I"⟩, 7), (⟨"MinuteBehind$Bells", "agreeingWith", "(I)I"⟩, 7), (⟨"MinuteBehind$Sights", "excludedAt", "(II)I"⟩, 5), (⟨"MinuteBehindModel", "plain", "()V"⟩, 37), (⟨"MinuteBehindModel", "layFar", "()V"⟩, 37), (⟨"MinuteBehindModel", "isRead", "()Z"⟩, 37), (⟨"MinuteBehindModel", "isLine", "(I)Z"⟩, 37), (⟨"MinuteBehindModel", "nextToken", "()V"⟩, 37), (⟨"MinuteBehindModel", "isStreet", "(I)Z"⟩, 37), (⟨"MinuteBehindModel", "isNumber", "(III)Z"⟩, 37), (⟨"MinuteBehindModel", "fails", "()Z"⟩, 37), (⟨"MinuteBehindModel", "isWall", "(I)Z"⟩, 37)]
theorem lw_r2 : ∀ q ∈ lw_privs_2, lw_okq q := List.forall_mem_cons.mpr ⟨lw_p16, List.forall_mem_cons.mpr ⟨lw_p17, List.forall_mem_cons.mpr ⟨lw_p18, List.forall_mem_cons.mpr ⟨lw_p19, List.forall_mem_cons.mpr ⟨lw_p20, List.forall_mem_cons.mpr ⟨lw_p21, List.forall_mem_cons.mpr ⟨lw_p22, List.forall_mem_cons.mpr ⟨lw_p23, List.forall_mem_cons.mpr ⟨lw_p24, List.forall_mem_cons.mpr ⟨lw_p25, List.forall_mem_cons.mpr ⟨lw_p26, List.forall_mem_cons.mpr ⟨lw_p27, List.forall_mem_cons.mpr ⟨lw_p28, List.forall_mem_cons.mpr ⟨lw_p29, List.forall_mem_cons.mpr ⟨lw_p30, List.forall_mem_cons.mpr ⟨lw_p31, fun _ h => absurd h List.not_mem_nil⟩⟩⟩⟩⟩⟩⟩⟩⟩⟩⟩⟩⟩⟩⟩⟩
theorem lw_p32 : lw_okq (⟨"MinuteBehindModel", "isDeedLine", "(I)Z"⟩, 37) := ⟨⟨by decide +kernel, by decide +kernel⟩, List.mem_of_getElem? (i := 862) (by decide +kernel), List.mem_of_getElem? (i := 1047) (by decide +kernel), List.mem_of_getElem? (i := 1048) (by decide +kernel)⟩
theorem lw_p33 : lw_okq (⟨"MinuteBehindModel", "isShop", "(I)Z"⟩, 37) := ⟨⟨by decide +kernel, by decide +kernel⟩, List.mem_of_getElem? (i := 862) (by decide +kernel), List.mem_of_getElem? (i := 1051) (by decide +kernel), List.mem_of_getElem? (i := 1052) (by decide +kernel)⟩
theorem lw_p34 : lw_okq (⟨"MinuteBehindModel", "doLine", "(I)V"⟩, 37) := ⟨⟨by decide +kernel, by decide +kernel⟩, List.mem_of_getElem? (i := 862) (by decide +kernel), List.mem_of_getElem? (i := 1059) (by decide +kernel), List.mem_of_getElem? (i := 1060) (by decide +kernel)⟩
theorem lw_p35 : lw_okq (⟨"MinuteBehindModel", "isHouse", "(I)Z"⟩, 37) := ⟨⟨by decide +kernel, by decide +kernel⟩, List.mem_of_getElem? (i := 862) (by decide +kernel), List.mem_of_getElem? (i := 1067) (by decide +kernel), List.mem_of_getElem? (i := 1068) (by decide +kernel)⟩
theorem lw_p36 : lw_okq (⟨"MinuteBehindModel", "offOf", "(I)I"⟩, 37) := ⟨⟨by decide +kernel, by decide +kernel⟩, List.mem_of_getElem? (i := 862) (by decide +kernel), List.mem_of_getElem? (i := 1071) (by decide +kernel), List.mem_of_getElem? (i := 1072) (by decide +kernel)⟩
theorem lw_p37 : lw_okq (⟨"MinuteBehindModel", "clockOf", "(II)I"⟩, 37) := ⟨⟨by decide +kernel, by decide +kernel⟩, List.mem_of_getElem? (i := 862) (by decide +kernel), List.mem_of_getElem? (i := 1084) (by decide +kernel), List.mem_of_getElem? (i := 1085) (by decide +kernel)⟩
theorem lw_p38 : lw_okq (⟨"MinuteBehindModel", "dateOf", "(II)I"⟩, 37) := ⟨⟨by decide +kernel, by decide +kernel⟩, List.mem_of_getElem? (i := 862) (by decide +kernel), List.mem_of_getElem? (i := 1089) (by decide +kernel), List.mem_of_getElem? (i := 1090) (by decide +kernel)⟩
theorem lw_p39 : lw_okq (⟨"MinuteBehindModel", "backOf", "(II)I"⟩, 37) := ⟨⟨by decide +kernel, by decide +kernel⟩, List.mem_of_getElem? (i := 862) (by decide +kernel), List.mem_of_getElem? (i := 1097) (by decide +kernel), List.mem_of_getElem? (i := 1098) (by decide +kernel)⟩
theorem lw_p40 : lw_okq (⟨"MinuteBehindModel", "isDeed", "(I)Z"⟩, 37) := ⟨⟨by decide +kernel, by decide +kernel⟩, List.mem_of_getElem? (i := 862) (by decide +kernel), List.mem_of_getElem? (i := 1109) (by decide +kernel), List.mem_of_getElem? (i := 1110) (by decide +kernel)⟩
theorem lw_p41 : lw_okq (⟨"MinuteBehindModel", "beginOf", "(I)I"⟩, 37) := ⟨⟨by decide +kernel, by decide +kernel⟩, List.mem_of_getElem? (i := 862) (by decide +kernel), List.mem_of_getElem? (i := 1113) (by decide +kernel), List.mem_of_getElem? (i := 1114) (by decide +kernel)⟩
theorem lw_p42 : lw_okq (⟨"MinuteBehindModel", "isAhead", "(II)Z"⟩, 37) := ⟨⟨by decide +kernel, by decide +kernel⟩, List.mem_of_getElem? (i := 862) (by decide +kernel), List.mem_of_getElem? (i := 1141) (by decide +kernel), List.mem_of_getElem? (i := 1142) (by decide +kernel)⟩
theorem lw_p43 : lw_okq (⟨"MinuteBehindModel", "can", "(II)Z"⟩, 37) := ⟨⟨by decide +kernel, by decide +kernel⟩, List.mem_of_getElem? (i := 862) (by decide +kernel), List.mem_of_getElem? (i := 1149) (by decide +kernel), List.mem_of_getElem? (i := 1150) (by decide +kernel)⟩
theorem lw_p44 : lw_okq (⟨"MinuteBehindModel", "leftBehind", "(II)I"⟩, 37) := ⟨⟨by decide +kernel, by decide +kernel⟩, List.mem_of_getElem? (i := 862) (by decide +kernel), List.mem_of_getElem? (i := 1153) (by decide +kernel), List.mem_of_getElem? (i := 1154) (by decide +kernel)⟩
theorem lw_p45 : lw_okq (⟨"MinuteBehindModel", "layFrom", "(I)V"⟩, 37) := ⟨⟨by decide +kernel, by decide +kernel⟩, List.mem_of_getElem? (i := 862) (by decide +kernel), List.mem_of_getElem? (i := 1161) (by decide +kernel), List.mem_of_getElem? (i := 1162) (by decide +kernel)⟩
theorem lw_p46 : lw_okq (⟨"MinuteBehindModel", "openFrom", "(II)I"⟩, 37) := ⟨⟨by decide +kernel, by decide +kernel⟩, List.mem_of_getElem? (i := 862) (by decide +kernel), List.mem_of_getElem? (i := 1181) (by decide +kernel), List.mem_of_getElem? (i := 1182) (by decide +kernel)⟩
theorem lw_p47 : lw_okq (⟨"MinuteBehindModel", "layBound", "()Z"⟩, 37) := ⟨⟨by decide +kernel, by decide +kernel⟩, List.mem_of_getElem? (i := 862) (by decide +kernel), List.mem_of_getElem? (i := 1197) (by decide +kernel), List.mem_of_getElem? (i := 1198) (by decide +kernel)⟩
def lw_privs_3 : List (MethodName × Nat) := [(⟨"MinuteBehindModel", "isDeedLine", "(I)Z"⟩, 37), (⟨"MinuteBehindModel", "isShop", "(I)Z"⟩, 37), (⟨"MinuteBehindModel", "doLine", "(I)V"⟩, 37), (⟨"MinuteBehindModel", "isHouse", "(I)Z"⟩, 37), (⟨"MinuteBehindModel", "offOf", "(I)I"⟩, 37), (⟨"MinuteBehindModel", "clockOf", "(II)I"⟩, 37), (⟨"MinuteBehindModel", "dateOf", "(II)I"⟩, 37), (⟨"MinuteBehindModel", "backOf", "(II)I"⟩, 37), (⟨"MinuteBehindModel", "isDeed", "(I)Z"⟩, 37), (⟨"MinuteBehindModel", "beginOf", "(I)I"⟩, 37), (⟨"MinuteBehindModel", "isAhead", "(II)Z"⟩, 37), (⟨"MinuteBehindModel", "can", "(II)Z"⟩, 37), (⟨"MinuteBehindModel", "leftBehind", "(II)I"⟩, 37), (⟨"MinuteBehindModel", "layFrom", "(I)V"⟩, 37), (⟨"MinuteBehindModel", "openFrom", "(II)I"⟩, 37), (⟨"MinuteBehindModel", "layBound", "()Z"⟩, 37)]
theorem lw_r3 : ∀ q ∈ lw_privs_3, lw_okq q := List.forall_mem_cons.mpr ⟨lw_p32, List.forall_mem_cons.mpr ⟨lw_p33, List.forall_mem_cons.mpr ⟨lw_p34, List.forall_mem_cons.mpr ⟨lw_p35, List.forall_mem_cons.mpr ⟨lw_p36, List.forall_mem_cons.mpr ⟨lw_p37, List.forall_mem_cons.mpr ⟨lw_p38, List.forall_mem_cons.mpr ⟨lw_p39, List.forall_mem_cons.mpr ⟨lw_p40, List.forall_mem_cons.mpr ⟨lw_p41, List.forall_mem_cons.mpr ⟨lw_p42, List.forall_mem_cons.mpr ⟨lw_p43, List.forall_mem_cons.mpr ⟨lw_p44, List.forall_mem_cons.mpr ⟨lw_p45, List.forall_mem_cons.mpr ⟨lw_p46, List.forall_mem_cons.mpr ⟨lw_p47, fun _ h => absurd h List.not_mem_nil⟩⟩⟩⟩⟩⟩⟩⟩⟩⟩⟩⟩⟩⟩⟩⟩
theorem lw_p48 : lw_okq (⟨"MinuteBehindModel", "bind", "(III)V"⟩, 37) := ⟨⟨by decide +kernel, by decide +kernel⟩, List.mem_of_getElem? (i := 862) (by decide +kernel), List.mem_of_getElem? (i := 1201) (by decide +kernel), List.mem_of_getElem? (i := 1202) (by decide +kernel)⟩
theorem lw_p49 : lw_okq (⟨"MinuteBehindModel", "canBeRight", "(I)Z"⟩, 37) := ⟨⟨by decide +kernel, by decide +kernel⟩, List.mem_of_getElem? (i := 862) (by decide +kernel), List.mem_of_getElem? (i := 1208) (by decide +kernel), List.mem_of_getElem? (i := 1209) (by decide +kernel)⟩
theorem lw_p50 : lw_okq (⟨"MinuteBehindModel", "canBoth", "(IIII)Z"⟩, 37) := ⟨⟨by decide +kernel, by decide +kernel⟩, List.mem_of_getElem? (i := 862) (by decide +kernel), List.mem_of_getElem? (i := 1227) (by decide +kernel), List.mem_of_getElem? (i := 1228) (by decide +kernel)⟩
def lw_privs_4 : List (MethodName × Nat) := [(⟨"MinuteBehindModel", "bind", "(III)V"⟩, 37), (⟨"MinuteBehindModel", "canBeRight", "(I)Z"⟩, 37), (⟨"MinuteBehindModel", "canBoth", "(IIII)Z"⟩, 37)]
theorem lw_r4 : ∀ q ∈ lw_privs_4, lw_okq q := List.forall_mem_cons.mpr ⟨lw_p48, List.forall_mem_cons.mpr ⟨lw_p49, List.forall_mem_cons.mpr ⟨lw_p50, fun _ h => absurd h List.not_mem_nil⟩⟩⟩
def lw_privs : List (MethodName × Nat) := lw_privs_1 ++ (lw_privs_2 ++ (lw_privs_3 ++ (lw_privs_4)))
def lw_tbl : List Cond := k2_sels lw_privs ++ tables_1
theorem lw_privs_ok : ∀ q ∈ lw_privs, lw_okq q := by
  show ∀ q ∈ lw_privs_1 ++ (lw_privs_2 ++ (lw_privs_3 ++ (lw_privs_4))), lw_okq q
  exact List.forall_mem_append.mpr ⟨lw_r1, List.forall_mem_append.mpr ⟨lw_r2, List.forall_mem_append.mpr ⟨lw_r3, lw_r4⟩⟩⟩
-- ===== end of PART A; then your names; then what follows =====
end
section
/-! ===== BEGIN printed: names, fields, word lists, decode rows ===== -/
def RX0 : String := "MinuteBehind$Bells"
def TX0 : u_T := fun k => match k with
  | 0 => ("MinuteBehind$Bells", "number", "I", false)
  | 1 => ("MinuteBehind$Bells", "houses", "LMinuteBehind$Houses;", true)
  | 2 => ("MinuteBehind$Bells", "first", "[I", true)
  | 3 => ("MinuteBehind$Bells", "second", "[I", true)
  | 4 => ("MinuteBehind$Bells", "apart", "[I", true)
  | 5 => ("MinuteBehind$Bells", "group", "[I", true)
  | _ => ("MinuteBehind$Bells", "ahead", "[I", true)
def tyX0 : Nat → FieldType := fun k => match k with
  | 0 => .int
  | 1 => .object "MinuteBehind$Houses"
  | 2 => .array .int
  | 3 => .array .int
  | 4 => .array .int
  | 5 => .array .int
  | _ => .array .int
abbrev wsX00 : List Cond := u_ws RX0 TX0 7
theorem nmX0 : ∀ a, a < 7 → ∀ b, b < 7 → a ≠ b → (TX0 a).2.1 ≠ (TX0 b).2.1 := by decide +kernel
theorem tyX0_ok : ∀ k, k < 7 → parseFieldDescriptor (TX0 k).2.2.1 = some (tyX0 k) := by decide +kernel
abbrev cX0_init : ByteArray := prog_2_method_1_code
def yX0_init : MethodName := ⟨RX0, "<init>", "(LMinuteBehind$Houses;)V"⟩
abbrev cX0_add : ByteArray := prog_2_method_2_code
def yX0_add : MethodName := ⟨RX0, "add", "(IIII)I"⟩
abbrev cX0_clear : ByteArray := prog_2_method_3_code
def yX0_clear : MethodName := ⟨RX0, "clear", "()I"⟩
abbrev cX0_wrongClocks : ByteArray := prog_2_method_4_code
def yX0_wrongClocks : MethodName := ⟨RX0, "wrongClocks", "()I"⟩
abbrev cX0_tieGroups : ByteArray := prog_2_method_5_code
def yX0_tieGroups : MethodName := ⟨RX0, "tieGroups", "()V"⟩
abbrev cX0_spread : ByteArray := prog_2_method_6_code
def yX0_spread : MethodName := ⟨RX0, "spread", "()V"⟩
abbrev cX0_tie : ByteArray := prog_2_method_7_code
def yX0_tie : MethodName := ⟨RX0, "tie", "(III)V"⟩
abbrev cX0_wrongInGroup : ByteArray := prog_2_method_8_code
def yX0_wrongInGroup : MethodName := ⟨RX0, "wrongInGroup", "(I)I"⟩
abbrev cX0_agreeingWith : ByteArray := prog_2_method_9_code
def yX0_agreeingWith : MethodName := ⟨RX0, "agreeingWith", "(I)I"⟩
def RX1 : String := "MinuteBehind$Deeds"
def TX1 : u_T := fun k => match k with
  | 0 => ("MinuteBehind$Deeds", "house", "[I", true)
  | 1 => ("MinuteBehind$Deeds", "clock", "[I", true)
  | 2 => ("MinuteBehind$Deeds", "minutes", "[I", true)
  | 3 => ("MinuteBehind$Deeds", "byTime", "[I", true)
  | 4 => ("MinuteBehind$Deeds", "number", "I", false)
  | 5 => ("MinuteBehind$Deeds", "houses", "LMinuteBehind$Houses;", true)
  | _ => ("MinuteBehind$Deeds", "rowFrom", "[I", true)
def tyX1 : Nat → FieldType := fun k => match k with
  | 0 => .array .int
  | 1 => .array .int
  | 2 => .array .int
  | 3 => .array .int
  | 4 => .int
  | 5 => .object "MinuteBehind$Houses"
  | _ => .array .int
abbrev wsX10 : List Cond := u_ws RX1 TX1 7
theorem nmX1 : ∀ a, a < 7 → ∀ b, b < 7 → a ≠ b → (TX1 a).2.1 ≠ (TX1 b).2.1 := by decide +kernel
theorem tyX1_ok : ∀ k, k < 7 → parseFieldDescriptor (TX1 k).2.2.1 = some (tyX1 k) := by decide +kernel
abbrev cX1_init : ByteArray := prog_3_method_1_code
def yX1_init : MethodName := ⟨RX1, "<init>", "(LMinuteBehind$Houses;)V"⟩
abbrev cX1_add : ByteArray := prog_3_method_2_code
def yX1_add : MethodName := ⟨RX1, "add", "(III)V"⟩
abbrev cX1_has : ByteArray := prog_3_method_3_code
def yX1_has : MethodName := ⟨RX1, "has", "(I)Z"⟩
abbrev cX1_begin : ByteArray := prog_3_method_4_code
def yX1_begin : MethodName := ⟨RX1, "begin", "(I)I"⟩
abbrev cX1_settle : ByteArray := prog_3_method_5_code
def yX1_settle : MethodName := ⟨RX1, "settle", "()V"⟩
abbrev cX1_isAhead : ByteArray := prog_3_method_6_code
def yX1_isAhead : MethodName := ⟨RX1, "isAhead", "(II)Z"⟩
abbrev cX1_minutesLeft : ByteArray := prog_3_method_7_code
def yX1_minutesLeft : MethodName := ⟨RX1, "minutesLeft", "(II)I"⟩
abbrev cX1_canFollow : ByteArray := prog_3_method_8_code
def yX1_canFollow : MethodName := ⟨RX1, "canFollow", "(II)Z"⟩
abbrev cX1_measureRows : ByteArray := prog_3_method_9_code
def yX1_measureRows : MethodName := ⟨RX1, "measureRows", "(I)V"⟩
abbrev cX1_longestRow : ByteArray := prog_3_method_10_code
def yX1_longestRow : MethodName := ⟨RX1, "longestRow", "()I"⟩
abbrev cX1_inLongestRow : ByteArray := prog_3_method_11_code
def yX1_inLongestRow : MethodName := ⟨RX1, "inLongestRow", "(I)I"⟩
abbrev cX1_leastFrom : ByteArray := prog_3_method_12_code
def yX1_leastFrom : MethodName := ⟨RX1, "leastFrom", "(II)I"⟩
abbrev cX1_changeBy : ByteArray := prog_3_method_13_code
def yX1_changeBy : MethodName := ⟨RX1, "changeBy", "(I)I"⟩
abbrev cX1_houseOfLeastChange : ByteArray := prog_3_method_14_code
def yX1_houseOfLeastChange : MethodName := ⟨RX1, "houseOfLeastChange", "()I"⟩
def RX2 : String := "MinuteBehind$Houses"
def TX2 : u_T := fun k => match k with
  | 0 => ("MinuteBehind$Houses", "offs", "[I", true)
  | 1 => ("MinuteBehind$Houses", "number", "I", false)
  | 2 => ("MinuteBehind$Houses", "shortcuts", "I", false)
  | 3 => ("MinuteBehind$Houses", "behindAhead", "[I", true)
  | 4 => ("MinuteBehind$Houses", "wayOn", "[I", true)
  | 5 => ("MinuteBehind$Houses", "from", "[I", true)
  | 6 => ("MinuteBehind$Houses", "to", "[I", true)
  | 7 => ("MinuteBehind$Houses", "over", "[I", true)
  | _ => ("MinuteBehind$Houses", "distances", "[[I", true)
def tyX2 : Nat → FieldType := fun k => match k with
  | 0 => .array .int
  | 1 => .int
  | 2 => .int
  | 3 => .array .int
  | 4 => .array .int
  | 5 => .array .int
  | 6 => .array .int
  | 7 => .array .int
  | _ => .array (.array .int)
abbrev wsX20 : List Cond := u_ws RX2 TX2 9
theorem nmX2 : ∀ a, a < 9 → ∀ b, b < 9 → a ≠ b → (TX2 a).2.1 ≠ (TX2 b).2.1 := by decide +kernel
theorem tyX2_ok : ∀ k, k < 9 → parseFieldDescriptor (TX2 k).2.2.1 = some (tyX2 k) := by decide +kernel
abbrev cX2_init : ByteArray := prog_4_method_1_code
def yX2_init : MethodName := ⟨RX2, "<init>", "()V"⟩
abbrev cX2_restart : ByteArray := prog_4_method_2_code
def yX2_restart : MethodName := ⟨RX2, "restart", "(I)V"⟩
abbrev cX2_setBehind : ByteArray := prog_4_method_3_code
def yX2_setBehind : MethodName := ⟨RX2, "setBehind", "(II)V"⟩
abbrev cX2_setWay : ByteArray := prog_4_method_4_code
def yX2_setWay : MethodName := ⟨RX2, "setWay", "(II)V"⟩
abbrev cX2_addShortcut : ByteArray := prog_4_method_5_code
def yX2_addShortcut : MethodName := ⟨RX2, "addShortcut", "(III)V"⟩
abbrev cX2_settle : ByteArray := prog_4_method_6_code
def yX2_settle : MethodName := ⟨RX2, "settle", "()V"⟩
abbrev cX2_layRoads : ByteArray := prog_4_method_7_code
def yX2_layRoads : MethodName := ⟨RX2, "layRoads", "()V"⟩
abbrev cX2_layRoad : ByteArray := prog_4_method_8_code
def yX2_layRoad : MethodName := ⟨RX2, "layRoad", "(III)V"⟩
abbrev cX2_joinRoads : ByteArray := prog_4_method_9_code
def yX2_joinRoads : MethodName := ⟨RX2, "joinRoads", "()V"⟩
abbrev cX2_has : ByteArray := prog_4_method_10_code
def yX2_has : MethodName := ⟨RX2, "has", "(I)Z"⟩
abbrev cX2_distance : ByteArray := prog_4_method_11_code
def yX2_distance : MethodName := ⟨RX2, "distance", "(II)I"⟩
abbrev cX2_clockAt : ByteArray := prog_4_method_12_code
def yX2_clockAt : MethodName := ⟨RX2, "clockAt", "(II)I"⟩
abbrev cX2_dateAt : ByteArray := prog_4_method_13_code
def yX2_dateAt : MethodName := ⟨RX2, "dateAt", "(II)I"⟩
abbrev cX2_trueTime : ByteArray := prog_4_method_14_code
def yX2_trueTime : MethodName := ⟨RX2, "trueTime", "(II)I"⟩
abbrev cX2_spanByClocks : ByteArray := prog_4_method_15_code
def yX2_spanByClocks : MethodName := ⟨RX2, "spanByClocks", "(II)I"⟩
abbrev cX2_gainingPairs : ByteArray := prog_4_method_16_code
def yX2_gainingPairs : MethodName := ⟨RX2, "gainingPairs", "()I"⟩
abbrev cX2_mostGainingPair : ByteArray := prog_4_method_17_code
def yX2_mostGainingPair : MethodName := ⟨RX2, "mostGainingPair", "()I"⟩
def RX3 : String := "MinuteBehind$Reader"
def TX3 : u_T := fun k => match k with
  | 0 => ("MinuteBehind$Reader", "lines", "I", false)
  | 1 => ("MinuteBehind$Reader", "text", "LMinuteBehind$Text;", true)
  | 2 => ("MinuteBehind$Reader", "kinds", "[I", true)
  | 3 => ("MinuteBehind$Reader", "numbers", "[I", true)
  | 4 => ("MinuteBehind$Reader", "place", "I", false)
  | 5 => ("MinuteBehind$Reader", "tokenKind", "I", false)
  | 6 => ("MinuteBehind$Reader", "tokenStart", "I", false)
  | 7 => ("MinuteBehind$Reader", "tokenValue", "I", false)
  | 8 => ("MinuteBehind$Reader", "houses", "I", false)
  | 9 => ("MinuteBehind$Reader", "shortcuts", "I", false)
  | 10 => ("MinuteBehind$Reader", "deeds", "I", false)
  | _ => ("MinuteBehind$Reader", "shops", "I", false)
def tyX3 : Nat → FieldType := fun k => match k with
  | 0 => .int
  | 1 => .object "MinuteBehind$Text"
  | 2 => .array .int
  | 3 => .array .int
  | 4 => .int
  | 5 => .int
  | 6 => .int
  | 7 => .int
  | 8 => .int
  | 9 => .int
  | 10 => .int
  | _ => .int
abbrev wsX30 : List Cond := u_ws RX3 TX3 12
theorem nmX3 : ∀ a, a < 12 → ∀ b, b < 12 → a ≠ b → (TX3 a).2.1 ≠ (TX3 b).2.1 := by decide +kernel
theorem tyX3_ok : ∀ k, k < 12 → parseFieldDescriptor (TX3 k).2.2.1 = some (tyX3 k) := by decide +kernel
abbrev cX3_init : ByteArray := prog_5_method_1_code
def yX3_init : MethodName := ⟨RX3, "<init>", "(LMinuteBehind$Text;)V"⟩
abbrev cX3_kindAt : ByteArray := prog_5_method_2_code
def yX3_kindAt : MethodName := ⟨RX3, "kindAt", "(I)I"⟩
abbrev cX3_numberAt : ByteArray := prog_5_method_3_code
def yX3_numberAt : MethodName := ⟨RX3, "numberAt", "(II)I"⟩
abbrev cX3_readAll : ByteArray := prog_5_method_4_code
def yX3_readAll : MethodName := ⟨RX3, "readAll", "(IIII)I"⟩
abbrev cX3_readLine : ByteArray := prog_5_method_5_code
def yX3_readLine : MethodName := ⟨RX3, "readLine", "(I)Z"⟩
abbrev cX3_canStand : ByteArray := prog_5_method_6_code
def yX3_canStand : MethodName := ⟨RX3, "canStand", "(III)Z"⟩
abbrev cX3_isFull : ByteArray := prog_5_method_7_code
def yX3_isFull : MethodName := ⟨RX3, "isFull", "(I)Z"⟩
abbrev cX3_foresee : ByteArray := prog_5_method_8_code
def yX3_foresee : MethodName := ⟨RX3, "foresee", "(II)V"⟩
abbrev cX3_numbersOf : ByteArray := prog_5_method_9_code
def yX3_numbersOf : MethodName := ⟨RX3, "numbersOf", "(I)I"⟩
abbrev cX3_leastOf : ByteArray := prog_5_method_10_code
def yX3_leastOf : MethodName := ⟨RX3, "leastOf", "(II)I"⟩
abbrev cX3_greatestOf : ByteArray := prog_5_method_11_code
def yX3_greatestOf : MethodName := ⟨RX3, "greatestOf", "(II)I"⟩
abbrev cX3_readToken : ByteArray := prog_5_method_12_code
def yX3_readToken : MethodName := ⟨RX3, "readToken", "()V"⟩
abbrev cX3_readLetters : ByteArray := prog_5_method_13_code
def yX3_readLetters : MethodName := ⟨RX3, "readLetters", "()V"⟩
abbrev cX3_readDigits : ByteArray := prog_5_method_14_code
def yX3_readDigits : MethodName := ⟨RX3, "readDigits", "()V"⟩
abbrev cX3_isLetter : ByteArray := prog_5_method_15_code
def yX3_isLetter : MethodName := ⟨RX3, "isLetter", "(I)Z"⟩
abbrev cX3_isDigit : ByteArray := prog_5_method_16_code
def yX3_isDigit : MethodName := ⟨RX3, "isDigit", "(I)Z"⟩
abbrev cX3_kindOfWord : ByteArray := prog_5_method_17_code
def yX3_kindOfWord : MethodName := ⟨RX3, "kindOfWord", "()I"⟩
abbrev cX3_isWord : ByteArray := prog_5_method_18_code
def yX3_isWord : MethodName := ⟨RX3, "isWord", "(Ljava/lang/String;)Z"⟩
def RX4 : String := "MinuteBehind$Shops"
def TX4 : u_T := fun k => match k with
  | 0 => ("MinuteBehind$Shops", "number", "I", false)
  | 1 => ("MinuteBehind$Shops", "gain", "I", false)
  | 2 => ("MinuteBehind$Shops", "seller", "I", false)
  | 3 => ("MinuteBehind$Shops", "buyer", "I", false)
  | 4 => ("MinuteBehind$Shops", "end", "I", false)
  | 5 => ("MinuteBehind$Shops", "houses", "LMinuteBehind$Houses;", true)
  | 6 => ("MinuteBehind$Shops", "house", "[I", true)
  | 7 => ("MinuteBehind$Shops", "opens", "[I", true)
  | 8 => ("MinuteBehind$Shops", "closes", "[I", true)
  | 9 => ("MinuteBehind$Shops", "sellsFor", "[I", true)
  | _ => ("MinuteBehind$Shops", "buysFor", "[I", true)
def tyX4 : Nat → FieldType := fun k => match k with
  | 0 => .int
  | 1 => .int
  | 2 => .int
  | 3 => .int
  | 4 => .int
  | 5 => .object "MinuteBehind$Houses"
  | 6 => .array .int
  | 7 => .array .int
  | 8 => .array .int
  | 9 => .array .int
  | _ => .array .int
abbrev wsX40 : List Cond := u_ws RX4 TX4 11
theorem nmX4 : ∀ a, a < 11 → ∀ b, b < 11 → a ≠ b → (TX4 a).2.1 ≠ (TX4 b).2.1 := by decide +kernel
theorem tyX4_ok : ∀ k, k < 11 → parseFieldDescriptor (TX4 k).2.2.1 = some (tyX4 k) := by decide +kernel
abbrev cX4_init : ByteArray := prog_6_method_1_code
def yX4_init : MethodName := ⟨RX4, "<init>", "(LMinuteBehind$Houses;)V"⟩
abbrev cX4_add : ByteArray := prog_6_method_2_code
def yX4_add : MethodName := ⟨RX4, "add", "(IIIII)V"⟩
abbrev cX4_served : ByteArray := prog_6_method_3_code
def yX4_served : MethodName := ⟨RX4, "served", "(III)I"⟩
abbrev cX4_seekTrade : ByteArray := prog_6_method_4_code
def yX4_seekTrade : MethodName := ⟨RX4, "seekTrade", "(II)V"⟩
def RX5 : String := "MinuteBehind$Sights"
def TX5 : u_T := fun k => match k with
  | 0 => ("MinuteBehind$Sights", "number", "I", false)
  | 1 => ("MinuteBehind$Sights", "houses", "LMinuteBehind$Houses;", true)
  | 2 => ("MinuteBehind$Sights", "person", "[I", true)
  | 3 => ("MinuteBehind$Sights", "house", "[I", true)
  | _ => ("MinuteBehind$Sights", "time", "[I", true)
def tyX5 : Nat → FieldType := fun k => match k with
  | 0 => .int
  | 1 => .object "MinuteBehind$Houses"
  | 2 => .array .int
  | 3 => .array .int
  | _ => .array .int
abbrev wsX50 : List Cond := u_ws RX5 TX5 5
theorem nmX5 : ∀ a, a < 5 → ∀ b, b < 5 → a ≠ b → (TX5 a).2.1 ≠ (TX5 b).2.1 := by decide +kernel
theorem tyX5_ok : ∀ k, k < 5 → parseFieldDescriptor (TX5 k).2.2.1 = some (tyX5 k) := by decide +kernel
abbrev cX5_init : ByteArray := prog_7_method_1_code
def yX5_init : MethodName := ⟨RX5, "<init>", "(LMinuteBehind$Houses;)V"⟩
abbrev cX5_add : ByteArray := prog_7_method_2_code
def yX5_add : MethodName := ⟨RX5, "add", "(III)I"⟩
abbrev cX5_clear : ByteArray := prog_7_method_3_code
def yX5_clear : MethodName := ⟨RX5, "clear", "()I"⟩
abbrev cX5_excludedAt : ByteArray := prog_7_method_4_code
def yX5_excludedAt : MethodName := ⟨RX5, "excludedAt", "(II)I"⟩
abbrev cX5_lying : ByteArray := prog_7_method_5_code
def yX5_lying : MethodName := ⟨RX5, "lying", "()I"⟩
abbrev cX5_possibleAt : ByteArray := prog_7_method_6_code
def yX5_possibleAt : MethodName := ⟨RX5, "possibleAt", "(II)I"⟩
def RX6 : String := "MinuteBehind$Text"
def TX6 : u_T := fun k => match k with
  | 0 => ("MinuteBehind$Text", "bytes", "[I", true)
  | _ => ("MinuteBehind$Text", "length", "I", false)
def tyX6 : Nat → FieldType := fun k => match k with
  | 0 => .array .int
  | _ => .int
abbrev wsX60 : List Cond := u_ws RX6 TX6 2
theorem nmX6 : ∀ a, a < 2 → ∀ b, b < 2 → a ≠ b → (TX6 a).2.1 ≠ (TX6 b).2.1 := by decide +kernel
theorem tyX6_ok : ∀ k, k < 2 → parseFieldDescriptor (TX6 k).2.2.1 = some (tyX6 k) := by decide +kernel
abbrev cX6_init : ByteArray := prog_8_method_1_code
def yX6_init : MethodName := ⟨RX6, "<init>", "()V"⟩
abbrev cX6_append : ByteArray := prog_8_method_2_code
def yX6_append : MethodName := ⟨RX6, "append", "(JI)I"⟩
abbrev cX6_clear : ByteArray := prog_8_method_3_code
def yX6_clear : MethodName := ⟨RX6, "clear", "()I"⟩
def RX7 : String := "MinuteBehind$Walk"
def TX7 : u_T := fun k => match k with
  | 0 => ("MinuteBehind$Walk", "number", "I", false)
  | 1 => ("MinuteBehind$Walk", "end", "I", false)
  | 2 => ("MinuteBehind$Walk", "taxes", "I", false)
  | 3 => ("MinuteBehind$Walk", "younger", "I", false)
  | 4 => ("MinuteBehind$Walk", "houses", "LMinuteBehind$Houses;", true)
  | _ => ("MinuteBehind$Walk", "row", "[I", true)
def tyX7 : Nat → FieldType := fun k => match k with
  | 0 => .int
  | 1 => .int
  | 2 => .int
  | 3 => .int
  | 4 => .object "MinuteBehind$Houses"
  | _ => .array .int
abbrev wsX70 : List Cond := u_ws RX7 TX7 6
theorem nmX7 : ∀ a, a < 6 → ∀ b, b < 6 → a ≠ b → (TX7 a).2.1 ≠ (TX7 b).2.1 := by decide +kernel
theorem tyX7_ok : ∀ k, k < 6 → parseFieldDescriptor (TX7 k).2.2.1 = some (tyX7 k) := by decide +kernel
abbrev cX7_init : ByteArray := prog_9_method_1_code
def yX7_init : MethodName := ⟨RX7, "<init>", "(LMinuteBehind$Houses;)V"⟩
abbrev cX7_add : ByteArray := prog_9_method_2_code
def yX7_add : MethodName := ⟨RX7, "add", "(I)I"⟩
abbrev cX7_clear : ByteArray := prog_9_method_3_code
def yX7_clear : MethodName := ⟨RX7, "clear", "()I"⟩
abbrev cX7_follow : ByteArray := prog_9_method_4_code
def yX7_follow : MethodName := ⟨RX7, "follow", "(I)V"⟩
def RX8 : String := "MinuteBehind$Walker"
def TX8 : u_T := fun k => match k with
  | 0 => ("MinuteBehind$Walker", "house", "I", false)
  | 1 => ("MinuteBehind$Walker", "time", "I", false)
  | 2 => ("MinuteBehind$Walker", "keptHouse", "[I", true)
  | _ => ("MinuteBehind$Walker", "keptTime", "[I", true)
def tyX8 : Nat → FieldType := fun k => match k with
  | 0 => .int
  | 1 => .int
  | 2 => .array .int
  | _ => .array .int
abbrev wsX80 : List Cond := u_ws RX8 TX8 4
theorem nmX8 : ∀ a, a < 4 → ∀ b, b < 4 → a ≠ b → (TX8 a).2.1 ≠ (TX8 b).2.1 := by decide +kernel
theorem tyX8_ok : ∀ k, k < 4 → parseFieldDescriptor (TX8 k).2.2.1 = some (tyX8 k) := by decide +kernel
abbrev cX8_init : ByteArray := prog_10_method_1_code
def yX8_init : MethodName := ⟨RX8, "<init>", "()V"⟩
abbrev cX8_restart : ByteArray := prog_10_method_2_code
def yX8_restart : MethodName := ⟨RX8, "restart", "()V"⟩
abbrev cX8_spend : ByteArray := prog_10_method_3_code
def yX8_spend : MethodName := ⟨RX8, "spend", "(II)I"⟩
abbrev cX8_store : ByteArray := prog_10_method_4_code
def yX8_store : MethodName := ⟨RX8, "store", "(I)I"⟩
abbrev cX8_restore : ByteArray := prog_10_method_5_code
def yX8_restore : MethodName := ⟨RX8, "restore", "(I)I"⟩
def RX9 : String := "MinuteBehind"
def TX9 : u_T := fun k => match k with
  | 0 => ("MinuteBehind", "houses", "LMinuteBehind$Houses;", true)
  | 1 => ("MinuteBehind", "deeds", "LMinuteBehind$Deeds;", true)
  | 2 => ("MinuteBehind", "shops", "LMinuteBehind$Shops;", true)
  | 3 => ("MinuteBehind", "text", "LMinuteBehind$Text;", true)
  | 4 => ("MinuteBehind", "reader", "LMinuteBehind$Reader;", true)
  | 5 => ("MinuteBehind", "walker", "LMinuteBehind$Walker;", true)
  | 6 => ("MinuteBehind", "walk", "LMinuteBehind$Walk;", true)
  | 7 => ("MinuteBehind", "bells", "LMinuteBehind$Bells;", true)
  | _ => ("MinuteBehind", "sights", "LMinuteBehind$Sights;", true)
def tyX9 : Nat → FieldType := fun k => match k with
  | 0 => .object "MinuteBehind$Houses"
  | 1 => .object "MinuteBehind$Deeds"
  | 2 => .object "MinuteBehind$Shops"
  | 3 => .object "MinuteBehind$Text"
  | 4 => .object "MinuteBehind$Reader"
  | 5 => .object "MinuteBehind$Walker"
  | 6 => .object "MinuteBehind$Walk"
  | 7 => .object "MinuteBehind$Bells"
  | _ => .object "MinuteBehind$Sights"
abbrev wsX90 : List Cond := u_ws RX9 TX9 9
theorem nmX9 : ∀ a, a < 9 → ∀ b, b < 9 → a ≠ b → (TX9 a).2.1 ≠ (TX9 b).2.1 := by decide +kernel
theorem tyX9_ok : ∀ k, k < 9 → parseFieldDescriptor (TX9 k).2.2.1 = some (tyX9 k) := by decide +kernel
abbrev cX9_init : ByteArray := prog_1_method_1_code
def yX9_init : MethodName := ⟨RX9, "<init>", "()V"⟩
abbrev cX9_write : ByteArray := prog_1_method_2_code
def yX9_write : MethodName := ⟨RX9, "write", "(JI)I"⟩
abbrev cX9_erase : ByteArray := prog_1_method_3_code
def yX9_erase : MethodName := ⟨RX9, "erase", "()I"⟩
abbrev cX9_fault : ByteArray := prog_1_method_4_code
def yX9_fault : MethodName := ⟨RX9, "fault", "()I"⟩
abbrev cX9_street : ByteArray := prog_1_method_5_code
def yX9_street : MethodName := ⟨RX9, "street", "()I"⟩
abbrev cX9_off : ByteArray := prog_1_method_6_code
def yX9_off : MethodName := ⟨RX9, "off", "(I)I"⟩
abbrev cX9_far : ByteArray := prog_1_method_7_code
def yX9_far : MethodName := ⟨RX9, "far", "(II)I"⟩
abbrev cX9_shows : ByteArray := prog_1_method_8_code
def yX9_shows : MethodName := ⟨RX9, "shows", "(III)I"⟩
abbrev cX9_byClocks : ByteArray := prog_1_method_9_code
def yX9_byClocks : MethodName := ⟨RX9, "byClocks", "(II)I"⟩
abbrev cX9_gaining : ByteArray := prog_1_method_10_code
def yX9_gaining : MethodName := ⟨RX9, "gaining", "(I)I"⟩
abbrev cX9_deed : ByteArray := prog_1_method_11_code
def yX9_deed : MethodName := ⟨RX9, "deed", "(II)I"⟩
abbrev cX9_go : ByteArray := prog_1_method_12_code
def yX9_go : MethodName := ⟨RX9, "go", "(I)I"⟩
abbrev cX9_await : ByteArray := prog_1_method_13_code
def yX9_await : MethodName := ⟨RX9, "await", "(I)I"⟩
abbrev cX9_here : ByteArray := prog_1_method_14_code
def yX9_here : MethodName := ⟨RX9, "here", "(I)I"⟩
abbrev cX9_keep : ByteArray := prog_1_method_15_code
def yX9_keep : MethodName := ⟨RX9, "keep", "(I)I"⟩
abbrev cX9_back : ByteArray := prog_1_method_16_code
def yX9_back : MethodName := ⟨RX9, "back", "(I)I"⟩
abbrev cX9_order : ByteArray := prog_1_method_17_code
def yX9_order : MethodName := ⟨RX9, "order", "(I)I"⟩
abbrev cX9_behind : ByteArray := prog_1_method_18_code
def yX9_behind : MethodName := ⟨RX9, "behind", "(II)I"⟩
abbrev cX9_most : ByteArray := prog_1_method_19_code
def yX9_most : MethodName := ⟨RX9, "most", "(II)I"⟩
abbrev cX9_walk : ByteArray := prog_1_method_20_code
def yX9_walk : MethodName := ⟨RX9, "walk", "(I)I"⟩
abbrev cX9_rest : ByteArray := prog_1_method_21_code
def yX9_rest : MethodName := ⟨RX9, "rest", "()I"⟩
abbrev cX9_walked : ByteArray := prog_1_method_22_code
def yX9_walked : MethodName := ⟨RX9, "walked", "(II)I"⟩
abbrev cX9_trade : ByteArray := prog_1_method_23_code
def yX9_trade : MethodName := ⟨RX9, "trade", "(III)I"⟩
abbrev cX9_bell : ByteArray := prog_1_method_24_code
def yX9_bell : MethodName := ⟨RX9, "bell", "(IIII)I"⟩
abbrev cX9_hush : ByteArray := prog_1_method_25_code
def yX9_hush : MethodName := ⟨RX9, "hush", "()I"⟩
abbrev cX9_wrong : ByteArray := prog_1_method_26_code
def yX9_wrong : MethodName := ⟨RX9, "wrong", "(I)I"⟩
abbrev cX9_seen : ByteArray := prog_1_method_27_code
def yX9_seen : MethodName := ⟨RX9, "seen", "(III)I"⟩
abbrev cX9_forget : ByteArray := prog_1_method_28_code
def yX9_forget : MethodName := ⟨RX9, "forget", "()I"⟩
abbrev cX9_liars : ByteArray := prog_1_method_29_code
def yX9_liars : MethodName := ⟨RX9, "liars", "()I"⟩
abbrev cX9_canBe : ByteArray := prog_1_method_30_code
def yX9_canBe : MethodName := ⟨RX9, "canBe", "(II)I"⟩
abbrev cX9_hang : ByteArray := prog_1_method_31_code
def yX9_hang : MethodName := ⟨RX9, "hang", "(I)I"⟩
abbrev cX9_ring : ByteArray := prog_1_method_32_code
def yX9_ring : MethodName := ⟨RX9, "ring", "(I)I"⟩
abbrev cX9_count : ByteArray := prog_1_method_33_code
def yX9_count : MethodName := ⟨RX9, "count", "(I)I"⟩
abbrev cX9_carryOut : ByteArray := prog_1_method_34_code
def yX9_carryOut : MethodName := ⟨RX9, "carryOut", "(I)V"⟩
abbrev cX9_isClock : ByteArray := prog_1_method_35_code
def yX9_isClock : MethodName := ⟨RX9, "isClock", "(I)Z"⟩
abbrev cX9_leastClosing : ByteArray := prog_1_method_36_code
def yX9_leastClosing : MethodName := ⟨RX9, "leastClosing", "(I)I"⟩
def RX10 : String := "MinuteBehindModel"
def TX10 : u_T := fun k => match k with
  | 0 => ("MinuteBehindModel", "houses", "I", false)
  | 1 => ("MinuteBehindModel", "late", "[I", true)
  | 2 => ("MinuteBehindModel", "road", "[I", true)
  | 3 => ("MinuteBehindModel", "walls", "I", false)
  | 4 => ("MinuteBehindModel", "wall", "[I", true)
  | 5 => ("MinuteBehindModel", "deeds", "I", false)
  | 6 => ("MinuteBehindModel", "deed", "[I", true)
  | 7 => ("MinuteBehindModel", "shops", "I", false)
  | 8 => ("MinuteBehindModel", "shop", "[I", true)
  | 9 => ("MinuteBehindModel", "dist", "[I", true)
  | 10 => ("MinuteBehindModel", "bytes", "I", false)
  | 11 => ("MinuteBehindModel", "text", "[I", true)
  | 12 => ("MinuteBehindModel", "position", "I", false)
  | 13 => ("MinuteBehindModel", "tokenAt", "I", false)
  | 14 => ("MinuteBehindModel", "token", "J", false)
  | 15 => ("MinuteBehindModel", "digits", "I", false)
  | 16 => ("MinuteBehindModel", "number", "I", false)
  | 17 => ("MinuteBehindModel", "faultAt", "I", false)
  | 18 => ("MinuteBehindModel", "readMany", "I", false)
  | 19 => ("MinuteBehindModel", "readHouses", "I", false)
  | 20 => ("MinuteBehindModel", "readWalls", "I", false)
  | 21 => ("MinuteBehindModel", "readDeeds", "I", false)
  | 22 => ("MinuteBehindModel", "readShops", "I", false)
  | 23 => ("MinuteBehindModel", "read", "[I", true)
  | 24 => ("MinuteBehindModel", "stands", "I", false)
  | 25 => ("MinuteBehindModel", "time", "I", false)
  | 26 => ("MinuteBehindModel", "kept", "[I", true)
  | 27 => ("MinuteBehindModel", "isKept", "[Z", true)
  | 28 => ("MinuteBehindModel", "steps", "I", false)
  | 29 => ("MinuteBehindModel", "step", "[I", true)
  | 30 => ("MinuteBehindModel", "bells", "I", false)
  | 31 => ("MinuteBehindModel", "bell", "[I", true)
  | 32 => ("MinuteBehindModel", "sights", "I", false)
  | 33 => ("MinuteBehindModel", "sight", "[I", true)
  | 34 => ("MinuteBehindModel", "from", "[I", true)
  | 35 => ("MinuteBehindModel", "bound", "[I", true)
  | _ => ("MinuteBehindModel", "error", "[I", true)
def tyX10 : Nat → FieldType := fun k => match k with
  | 0 => .int
  | 1 => .array .int
  | 2 => .array .int
  | 3 => .int
  | 4 => .array .int
  | 5 => .int
  | 6 => .array .int
  | 7 => .int
  | 8 => .array .int
  | 9 => .array .int
  | 10 => .int
  | 11 => .array .int
  | 12 => .int
  | 13 => .int
  | 14 => .long
  | 15 => .int
  | 16 => .int
  | 17 => .int
  | 18 => .int
  | 19 => .int
  | 20 => .int
  | 21 => .int
  | 22 => .int
  | 23 => .array .int
  | 24 => .int
  | 25 => .int
  | 26 => .array .int
  | 27 => .array .boolean
  | 28 => .int
  | 29 => .array .int
  | 30 => .int
  | 31 => .array .int
  | 32 => .int
  | 33 => .array .int
  | 34 => .array .int
  | 35 => .array .int
  | _ => .array .int
abbrev wsX100 : List Cond := u_ws RX10 TX10 37
theorem nmX10 : ∀ a, a < 37 → ∀ b, b < 37 → a ≠ b → (TX10 a).2.1 ≠ (TX10 b).2.1 := by decide +kernel
theorem tyX10_ok : ∀ k, k < 37 → parseFieldDescriptor (TX10 k).2.2.1 = some (tyX10 k) := by decide +kernel
abbrev cX10_init : ByteArray := prog_12_method_1_code
def yX10_init : MethodName := ⟨RX10, "<init>", "()V"⟩
abbrev cX10_in : ByteArray := prog_12_method_2_code
def yX10_in : MethodName := ⟨RX10, "in", "(III)Z"⟩
abbrev cX10_has : ByteArray := prog_12_method_3_code
def yX10_has : MethodName := ⟨RX10, "has", "(II)Z"⟩
abbrev cX10_isHouse : ByteArray := prog_12_method_4_code
def yX10_isHouse : MethodName := ⟨RX10, "isHouse", "(I)Z"⟩
abbrev cX10_isDeed : ByteArray := prog_12_method_5_code
def yX10_isDeed : MethodName := ⟨RX10, "isDeed", "(I)Z"⟩
abbrev cX10_plain : ByteArray := prog_12_method_6_code
def yX10_plain : MethodName := ⟨RX10, "plain", "()V"⟩
abbrev cX10_layFar : ByteArray := prog_12_method_7_code
def yX10_layFar : MethodName := ⟨RX10, "layFar", "()V"⟩
abbrev cX10_write : ByteArray := prog_12_method_8_code
def yX10_write : MethodName := ⟨RX10, "write", "(JI)I"⟩
abbrev cX10_erase : ByteArray := prog_12_method_9_code
def yX10_erase : MethodName := ⟨RX10, "erase", "()I"⟩
abbrev cX10_nextToken : ByteArray := prog_12_method_10_code
def yX10_nextToken : MethodName := ⟨RX10, "nextToken", "()V"⟩
abbrev cX10_fails : ByteArray := prog_12_method_11_code
def yX10_fails : MethodName := ⟨RX10, "fails", "()Z"⟩
abbrev cX10_isNumber : ByteArray := prog_12_method_12_code
def yX10_isNumber : MethodName := ⟨RX10, "isNumber", "(III)Z"⟩
abbrev cX10_isStreet : ByteArray := prog_12_method_13_code
def yX10_isStreet : MethodName := ⟨RX10, "isStreet", "(I)Z"⟩
abbrev cX10_isWall : ByteArray := prog_12_method_14_code
def yX10_isWall : MethodName := ⟨RX10, "isWall", "(I)Z"⟩
abbrev cX10_isDeedLine : ByteArray := prog_12_method_15_code
def yX10_isDeedLine : MethodName := ⟨RX10, "isDeedLine", "(I)Z"⟩
abbrev cX10_isShop : ByteArray := prog_12_method_16_code
def yX10_isShop : MethodName := ⟨RX10, "isShop", "(I)Z"⟩
abbrev cX10_isLine : ByteArray := prog_12_method_17_code
def yX10_isLine : MethodName := ⟨RX10, "isLine", "(I)Z"⟩
abbrev cX10_isRead : ByteArray := prog_12_method_18_code
def yX10_isRead : MethodName := ⟨RX10, "isRead", "()Z"⟩
abbrev cX10_fault : ByteArray := prog_12_method_19_code
def yX10_fault : MethodName := ⟨RX10, "fault", "()I"⟩
abbrev cX10_doLine : ByteArray := prog_12_method_20_code
def yX10_doLine : MethodName := ⟨RX10, "doLine", "(I)V"⟩
abbrev cX10_street : ByteArray := prog_12_method_21_code
def yX10_street : MethodName := ⟨RX10, "street", "()I"⟩
abbrev cX10_offOf : ByteArray := prog_12_method_22_code
def yX10_offOf : MethodName := ⟨RX10, "offOf", "(I)I"⟩
abbrev cX10_off : ByteArray := prog_12_method_23_code
def yX10_off : MethodName := ⟨RX10, "off", "(I)I"⟩
abbrev cX10_far : ByteArray := prog_12_method_24_code
def yX10_far : MethodName := ⟨RX10, "far", "(II)I"⟩
abbrev cX10_dateOf : ByteArray := prog_12_method_25_code
def yX10_dateOf : MethodName := ⟨RX10, "dateOf", "(II)I"⟩
abbrev cX10_clockOf : ByteArray := prog_12_method_26_code
def yX10_clockOf : MethodName := ⟨RX10, "clockOf", "(II)I"⟩
abbrev cX10_shows : ByteArray := prog_12_method_27_code
def yX10_shows : MethodName := ⟨RX10, "shows", "(III)I"⟩
abbrev cX10_backOf : ByteArray := prog_12_method_28_code
def yX10_backOf : MethodName := ⟨RX10, "backOf", "(II)I"⟩
abbrev cX10_byClocks : ByteArray := prog_12_method_29_code
def yX10_byClocks : MethodName := ⟨RX10, "byClocks", "(II)I"⟩
abbrev cX10_gaining : ByteArray := prog_12_method_30_code
def yX10_gaining : MethodName := ⟨RX10, "gaining", "(I)I"⟩
abbrev cX10_beginOf : ByteArray := prog_12_method_31_code
def yX10_beginOf : MethodName := ⟨RX10, "beginOf", "(I)I"⟩
abbrev cX10_deed : ByteArray := prog_12_method_32_code
def yX10_deed : MethodName := ⟨RX10, "deed", "(II)I"⟩
abbrev cX10_go : ByteArray := prog_12_method_33_code
def yX10_go : MethodName := ⟨RX10, "go", "(I)I"⟩
abbrev cX10_await : ByteArray := prog_12_method_34_code
def yX10_await : MethodName := ⟨RX10, "await", "(I)I"⟩
abbrev cX10_here : ByteArray := prog_12_method_35_code
def yX10_here : MethodName := ⟨RX10, "here", "(I)I"⟩
abbrev cX10_keep : ByteArray := prog_12_method_36_code
def yX10_keep : MethodName := ⟨RX10, "keep", "(I)I"⟩
abbrev cX10_back : ByteArray := prog_12_method_37_code
def yX10_back : MethodName := ⟨RX10, "back", "(I)I"⟩
abbrev cX10_isAhead : ByteArray := prog_12_method_38_code
def yX10_isAhead : MethodName := ⟨RX10, "isAhead", "(II)Z"⟩
abbrev cX10_order : ByteArray := prog_12_method_39_code
def yX10_order : MethodName := ⟨RX10, "order", "(I)I"⟩
abbrev cX10_leftBehind : ByteArray := prog_12_method_40_code
def yX10_leftBehind : MethodName := ⟨RX10, "leftBehind", "(II)I"⟩
abbrev cX10_can : ByteArray := prog_12_method_41_code
def yX10_can : MethodName := ⟨RX10, "can", "(II)Z"⟩
abbrev cX10_behind : ByteArray := prog_12_method_42_code
def yX10_behind : MethodName := ⟨RX10, "behind", "(II)I"⟩
abbrev cX10_layFrom : ByteArray := prog_12_method_43_code
def yX10_layFrom : MethodName := ⟨RX10, "layFrom", "(I)V"⟩
abbrev cX10_most : ByteArray := prog_12_method_44_code
def yX10_most : MethodName := ⟨RX10, "most", "(II)I"⟩
abbrev cX10_walk : ByteArray := prog_12_method_45_code
def yX10_walk : MethodName := ⟨RX10, "walk", "(I)I"⟩
abbrev cX10_rest : ByteArray := prog_12_method_46_code
def yX10_rest : MethodName := ⟨RX10, "rest", "()I"⟩
abbrev cX10_walked : ByteArray := prog_12_method_47_code
def yX10_walked : MethodName := ⟨RX10, "walked", "(II)I"⟩
abbrev cX10_openFrom : ByteArray := prog_12_method_48_code
def yX10_openFrom : MethodName := ⟨RX10, "openFrom", "(II)I"⟩
abbrev cX10_trade : ByteArray := prog_12_method_49_code
def yX10_trade : MethodName := ⟨RX10, "trade", "(III)I"⟩
abbrev cX10_bell : ByteArray := prog_12_method_50_code
def yX10_bell : MethodName := ⟨RX10, "bell", "(IIII)I"⟩
abbrev cX10_hush : ByteArray := prog_12_method_51_code
def yX10_hush : MethodName := ⟨RX10, "hush", "()I"⟩
abbrev cX10_layBound : ByteArray := prog_12_method_52_code
def yX10_layBound : MethodName := ⟨RX10, "layBound", "()Z"⟩
abbrev cX10_bind : ByteArray := prog_12_method_53_code
def yX10_bind : MethodName := ⟨RX10, "bind", "(III)V"⟩
abbrev cX10_canBeRight : ByteArray := prog_12_method_54_code
def yX10_canBeRight : MethodName := ⟨RX10, "canBeRight", "(I)Z"⟩
abbrev cX10_bits : ByteArray := prog_12_method_55_code
def yX10_bits : MethodName := ⟨RX10, "bits", "(I)I"⟩
abbrev cX10_wrong : ByteArray := prog_12_method_56_code
def yX10_wrong : MethodName := ⟨RX10, "wrong", "(I)I"⟩
abbrev cX10_seen : ByteArray := prog_12_method_57_code
def yX10_seen : MethodName := ⟨RX10, "seen", "(III)I"⟩
abbrev cX10_forget : ByteArray := prog_12_method_58_code
def yX10_forget : MethodName := ⟨RX10, "forget", "()I"⟩
abbrev cX10_canBoth : ByteArray := prog_12_method_59_code
def yX10_canBoth : MethodName := ⟨RX10, "canBoth", "(IIII)Z"⟩
abbrev cX10_liars : ByteArray := prog_12_method_60_code
def yX10_liars : MethodName := ⟨RX10, "liars", "()I"⟩
abbrev cX10_canBe : ByteArray := prog_12_method_61_code
def yX10_canBe : MethodName := ⟨RX10, "canBe", "(II)I"⟩
abbrev cX10_hang : ByteArray := prog_12_method_62_code
def yX10_hang : MethodName := ⟨RX10, "hang", "(I)I"⟩
abbrev cX10_ring : ByteArray := prog_12_method_63_code
def yX10_ring : MethodName := ⟨RX10, "ring", "(I)I"⟩
abbrev cX10_count : ByteArray := prog_12_method_64_code
def yX10_count : MethodName := ⟨RX10, "count", "(I)I"⟩
def RJ6 : String := "java/lang/Integer"
def TJ6 : u_T := fun k => match k with
  | _ => ("", "", "", false)
def tyJ6 : Nat → FieldType := fun k => match k with
  | _ => .int
abbrev wsJ60 : List Cond := u_ws RJ6 TJ6 0
theorem nmJ6 : ∀ a, a < 0 → ∀ b, b < 0 → a ≠ b → (TJ6 a).2.1 ≠ (TJ6 b).2.1 := by decide +kernel
theorem tyJ6_ok : ∀ k, k < 0 → parseFieldDescriptor (TJ6 k).2.2.1 = some (tyJ6 k) := by decide +kernel
abbrev cJ6_bitCount_0f7a4 : ByteArray := prog_13_method_49_code
def yJ6_bitCount_0f7a4 : MethodName := ⟨RJ6, "bitCount", "(I)I"⟩
def RJ9 : String := "java/lang/Math"
def TJ9 : u_T := fun k => match k with
  | _ => ("", "", "", false)
def tyJ9 : Nat → FieldType := fun k => match k with
  | _ => .int
abbrev wsJ90 : List Cond := u_ws RJ9 TJ9 0
theorem nmJ9 : ∀ a, a < 0 → ∀ b, b < 0 → a ≠ b → (TJ9 a).2.1 ≠ (TJ9 b).2.1 := by decide +kernel
theorem tyJ9_ok : ∀ k, k < 0 → parseFieldDescriptor (TJ9 k).2.2.1 = some (tyJ9 k) := by decide +kernel
abbrev cJ9_floorDiv_7cf53 : ByteArray := prog_14_method_47_code
def yJ9_floorDiv_7cf53 : MethodName := ⟨RJ9, "floorDiv", "(II)I"⟩
abbrev cJ9_floorMod_7cf53 : ByteArray := prog_14_method_50_code
def yJ9_floorMod_7cf53 : MethodName := ⟨RJ9, "floorMod", "(II)I"⟩
abbrev cJ9_abs_0f7a4 : ByteArray := prog_14_method_59_code
def yJ9_abs_0f7a4 : MethodName := ⟨RJ9, "abs", "(I)I"⟩
abbrev cJ9_max_7cf53 : ByteArray := prog_14_method_65_code
def yJ9_max_7cf53 : MethodName := ⟨RJ9, "max", "(II)I"⟩
abbrev cJ9_min_7cf53 : ByteArray := prog_14_method_69_code
def yJ9_min_7cf53 : MethodName := ⟨RJ9, "min", "(II)I"⟩
def RJ0 : String := "java/lang/String"
def TJ0 : u_T := fun k => match k with
  | _ => ("", "", "", false)
def tyJ0 : Nat → FieldType := fun k => match k with
  | _ => .int
abbrev wsJ00 : List Cond := u_ws RJ0 TJ0 0
theorem nmJ0 : ∀ a, a < 0 → ∀ b, b < 0 → a ≠ b → (TJ0 a).2.1 ≠ (TJ0 b).2.1 := by decide +kernel
theorem tyJ0_ok : ∀ k, k < 0 → parseFieldDescriptor (TJ0 k).2.2.1 = some (tyJ0 k) := by decide +kernel
abbrev cJ0_length_8abf5 : ByteArray := prog_15_method_54_code
def yJ0_length_8abf5 : MethodName := ⟨RJ0, "length", "()I"⟩
abbrev cJ0_charAt_5068e : ByteArray := prog_15_method_56_code
def yJ0_charAt_5068e : MethodName := ⟨RJ0, "charAt", "(I)C"⟩
abbrev cJ0_coder_7d493 : ByteArray := prog_15_method_152_code
def yJ0_coder_7d493 : MethodName := ⟨RJ0, "coder", "()B"⟩
abbrev cJ0_isLatin1_aae02 : ByteArray := prog_15_method_154_code
def yJ0_isLatin1_aae02 : MethodName := ⟨RJ0, "isLatin1", "()Z"⟩
abbrev cJ0_checkIndex_df160 : ByteArray := prog_15_method_155_code
def yJ0_checkIndex_df160 : MethodName := ⟨RJ0, "checkIndex", "(II)V"⟩
def RJ1 : String := "java/lang/StringLatin1"
def TJ1 : u_T := fun k => match k with
  | _ => ("", "", "", false)
def tyJ1 : Nat → FieldType := fun k => match k with
  | _ => .int
abbrev wsJ10 : List Cond := u_ws RJ1 TJ1 0
theorem nmJ1 : ∀ a, a < 0 → ∀ b, b < 0 → a ≠ b → (TJ1 a).2.1 ≠ (TJ1 b).2.1 := by decide +kernel
theorem tyJ1_ok : ∀ k, k < 0 → parseFieldDescriptor (TJ1 k).2.2.1 = some (tyJ1 k) := by decide +kernel
abbrev cJ1_charAt_3b067 : ByteArray := prog_16_method_2_code
def yJ1_charAt_3b067 : MethodName := ⟨RJ1, "charAt", "([BI)C"⟩
def RJ2 : String := "java/lang/StringUTF16"
def TJ2 : u_T := fun k => match k with
  | _ => ("", "", "", false)
def tyJ2 : Nat → FieldType := fun k => match k with
  | _ => .int
abbrev wsJ20 : List Cond := u_ws RJ2 TJ2 0
theorem nmJ2 : ∀ a, a < 0 → ∀ b, b < 0 → a ≠ b → (TJ2 a).2.1 ≠ (TJ2 b).2.1 := by decide +kernel
theorem tyJ2_ok : ∀ k, k < 0 → parseFieldDescriptor (TJ2 k).2.2.1 = some (tyJ2 k) := by decide +kernel
abbrev cJ2_getChar_3b067 : ByteArray := prog_17_method_5_code
def yJ2_getChar_3b067 : MethodName := ⟨RJ2, "getChar", "([BI)C"⟩
abbrev cJ2_length_9d52b : ByteArray := prog_17_method_6_code
def yJ2_length_9d52b : MethodName := ⟨RJ2, "length", "([B)I"⟩
abbrev cJ2_charAt_3b067 : ByteArray := prog_17_method_83_code
def yJ2_charAt_3b067 : MethodName := ⟨RJ2, "charAt", "([BI)C"⟩
abbrev cJ2_checkIndex_2214a : ByteArray := prog_17_method_91_code
def yJ2_checkIndex_2214a : MethodName := ⟨RJ2, "checkIndex", "(I[B)V"⟩
def RJ3 : String := "jdk/internal/util/Preconditions"
def TJ3 : u_T := fun k => match k with
  | _ => ("", "", "", false)
def tyJ3 : Nat → FieldType := fun k => match k with
  | _ => .int
abbrev wsJ30 : List Cond := u_ws RJ3 TJ3 0
theorem nmJ3 : ∀ a, a < 0 → ∀ b, b < 0 → a ≠ b → (TJ3 a).2.1 ≠ (TJ3 b).2.1 := by decide +kernel
theorem tyJ3_ok : ∀ k, k < 0 → parseFieldDescriptor (TJ3 k).2.2.1 = some (tyJ3 k) := by decide +kernel
abbrev cJ3_checkIndex_8e157 : ByteArray := prog_18_method_11_code
def yJ3_checkIndex_8e157 : MethodName := ⟨RJ3, "checkIndex", "(IILjava/util/function/BiFunction;)I"⟩
def RL : String := "MinuteBehindLaw"
abbrev cL_law : ByteArray := code
def yL_law : MethodName := ⟨RL, "law", "([I)Z"⟩
abbrev vwCl : List vw_C := [(RX0, TX0, 7), (RX1, TX1, 7), (RX2, TX2, 9), (RX3, TX3, 12), (RX4, TX4, 11), (RX5, TX5, 5), (RX6, TX6, 2), (RX7, TX7, 6), (RX8, TX8, 4), (RX9, TX9, 9), (RX10, TX10, 37)]
end
section
/-! the small machine: tables (written by wip/gen/gen_mini.py out of the claim) -/
/-- the cells: (tag, length, slots): tag below 50 an object of that class (slots: 0 an int, 1 the long, r + 2 the cell r); 100 ints, 101 booleans, 102 rows -/
def shp : List (Nat × Nat × List Nat) := [(9, 0, [3, 4, 5, 6, 7, 8, 9, 10, 11]), (2, 0, [12, 0, 0, 13, 14, 15, 16, 17, 18]), (1, 0, [29, 30, 31, 32, 0, 3, 33]), (4, 0, [0, 0, 0, 0, 0, 3, 34, 35, 36, 37, 38]), (6, 0, [39, 0]), (3, 0, [0, 6, 40, 41, 0, 0, 0, 0, 0, 0, 0, 0]), (8, 0, [0, 0, 42, 43]), (7, 0, [0, 0, 0, 0, 3, 44]), (0, 0, [0, 3, 45, 46, 47, 48, 49]), (5, 0, [0, 3, 50, 51, 52]), (100, 10, []), (100, 10, []), (100, 10, []), (100, 8, []), (100, 8, []), (100, 8, []), (102, 10, [17, 18, 19, 20, 21, 22, 23, 24, 25, 26]), (100, 10, []), (100, 10, []), (100, 10, []), (100, 10, []), (100, 10, []), (100, 10, []), (100, 10, []), (100, 10, []), (100, 10, []), (100, 10, []), (100, 10, []), (100, 10, []), (100, 10, []), (100, 10, []), (100, 10, []), (100, 6, []), (100, 6, []), (100, 6, []), (100, 6, []), (100, 6, []), (100, 200, []), (100, 10, []), (100, 50, []), (100, 2, []), (100, 2, []), (100, 12, []), (100, 10, []), (100, 10, []), (100, 10, []), (100, 10, []), (100, 10, []), (100, 12, []), (100, 12, []), (100, 12, []), (10, 0, [0, 54, 55, 0, 56, 0, 57, 0, 58, 59, 0, 60, 0, 0, 1, 0, 0, 0, 0, 0, 0, 0, 0, 61, 0, 0, 62, 63, 0, 64, 0, 65, 0, 66, 67, 68, 69]), (100, 10, []), (100, 10, []), (100, 24, []), (100, 30, []), (100, 30, []), (100, 100, []), (100, 200, []), (100, 60, []), (100, 4, []), (101, 2, []), (100, 12, []), (100, 40, []), (100, 36, []), (100, 10, []), (100, 10, []), (100, 10, [])]
def flds : List (Nat × Nat × Nat × Nat) := [(9, 10, 9, 0), (9, 21, 9, 1), (9, 28, 9, 2), (9, 35, 9, 3), (9, 44, 9, 4), (9, 51, 9, 5), (9, 58, 9, 6), (9, 65, 9, 7), (9, 72, 9, 8), (9, 84, 2, 1), (9, 88, 2, 2), (9, 91, 1, 4), (9, 92, 4, 0), (9, 97, 3, 0), (9, 118, 2, 0), (9, 144, 1, 0), (9, 147, 1, 1), (9, 150, 1, 2), (9, 157, 8, 0), (9, 162, 8, 1), (9, 171, 1, 3), (9, 193, 7, 0), (9, 197, 7, 1), (9, 200, 7, 2), (9, 203, 7, 3), (9, 210, 4, 1), (9, 213, 4, 2), (9, 216, 4, 3), (9, 219, 4, 4), (9, 251, 0, 0), (9, 252, 5, 0), (9, 253, 6, 1), (0, 9, 0, 2), (0, 15, 0, 3), (0, 18, 0, 4), (0, 21, 0, 5), (0, 24, 0, 6), (0, 27, 0, 1), (0, 31, 0, 0), (0, 35, 2, 0), (0, 49, 2, 1), (1, 9, 1, 0), (1, 15, 1, 1), (1, 18, 1, 2), (1, 21, 1, 3), (1, 24, 1, 6), (1, 27, 1, 5), (1, 31, 1, 4), (1, 74, 2, 0), (1, 80, 2, 1), (2, 9, 2, 0), (2, 15, 2, 3), (2, 18, 2, 4), (2, 21, 2, 5), (2, 24, 2, 6), (2, 27, 2, 7), (2, 32, 2, 8), (2, 42, 2, 1), (2, 46, 2, 2), (3, 9, 3, 2), (3, 15, 3, 3), (3, 18, 3, 1), (3, 22, 3, 0), (3, 26, 3, 8), (3, 29, 3, 9), (3, 32, 3, 10), (3, 35, 3, 11), (3, 38, 3, 4), (3, 45, 3, 6), (3, 51, 3, 5), (3, 69, 3, 7), (3, 83, 6, 1), (3, 88, 6, 0), (4, 9, 4, 6), (4, 15, 4, 7), (4, 18, 4, 8), (4, 21, 4, 9), (4, 24, 4, 10), (4, 27, 4, 5), (4, 31, 4, 0), (4, 49, 4, 1), (4, 56, 4, 2), (4, 59, 4, 3), (4, 62, 4, 4), (5, 9, 5, 2), (5, 15, 5, 3), (5, 18, 5, 4), (5, 21, 5, 1), (5, 25, 5, 0), (6, 9, 6, 0), (6, 15, 6, 1), (7, 9, 7, 5), (7, 15, 7, 4), (7, 19, 7, 0), (7, 23, 7, 1), (7, 26, 7, 2), (7, 29, 7, 3), (8, 9, 8, 2), (8, 15, 8, 3), (8, 21, 8, 0), (8, 25, 8, 1), (10, 7, 10, 0), (10, 13, 10, 1), (10, 17, 10, 2), (10, 20, 10, 4), (10, 23, 10, 6), (10, 26, 10, 8), (10, 29, 10, 9), (10, 32, 10, 11), (10, 35, 10, 23), (10, 38, 10, 26), (10, 41, 10, 27), (10, 45, 10, 29), (10, 48, 10, 31), (10, 51, 10, 33), (10, 54, 10, 34), (10, 57, 10, 35), (10, 60, 10, 36), (10, 73, 10, 5), (10, 76, 10, 3), (10, 79, 10, 7), (10, 83, 10, 10), (10, 88, 10, 12), (10, 91, 10, 13), (10, 94, 10, 15), (10, 97, 10, 16), (10, 102, 10, 14), (10, 116, 10, 17), (10, 129, 10, 19), (10, 132, 10, 20), (10, 135, 10, 21), (10, 138, 10, 22), (10, 168, 10, 18), (10, 181, 10, 24), (10, 184, 10, 25), (10, 187, 10, 28), (10, 190, 10, 30), (10, 193, 10, 32)]
def lnks : List (Nat × Nat × Nat × Nat) := [(9, 76, 0, 69), (9, 80, 0, 70), (9, 93, 0, 43), (9, 100, 0, 113), (9, 104, 0, 28), (9, 107, 0, 13), (9, 108, 0, 76), (9, 111, 0, 73), (9, 112, 0, 2), (9, 113, 0, 64), (9, 114, 0, 32), (9, 122, 0, 33), (9, 127, 0, 34), (9, 130, 0, 35), (9, 133, 0, 37), (9, 137, 0, 38), (9, 140, 0, 39), (9, 143, 0, 11), (9, 153, 0, 12), (9, 159, 0, 77), (9, 165, 0, 78), (9, 168, 0, 79), (9, 174, 0, 16), (9, 178, 0, 15), (9, 181, 0, 17), (9, 184, 0, 18), (9, 187, 0, 19), (9, 190, 0, 72), (9, 194, 0, 74), (9, 206, 0, 61), (9, 220, 1, 114), (9, 223, 0, 1), (9, 225, 0, 3), (9, 228, 1, 180), (9, 233, 0, 63), (9, 236, 0, 66), (9, 239, 0, 67), (9, 242, 0, 22), (9, 245, 0, 21), (9, 248, 1, 115), (9, 256, 0, 42), (9, 259, 0, 41), (9, 262, 0, 24), (9, 264, 0, 25), (9, 267, 0, 26), (9, 270, 0, 27), (9, 274, 0, 10), (9, 276, 0, 59), (0, 40, 1, 182), (0, 46, 0, 4), (0, 50, 0, 7), (0, 54, 0, 5), (0, 57, 0, 6), (0, 61, 0, 8), (0, 64, 1, 180), (1, 35, 0, 36), (1, 41, 0, 12), (1, 45, 0, 33), (1, 48, 0, 14), (1, 52, 0, 15), (1, 55, 0, 16), (1, 58, 1, 184), (1, 63, 0, 18), (1, 67, 0, 20), (1, 70, 0, 11), (1, 77, 1, 183), (1, 81, 0, 21), (2, 35, 0, 24), (2, 39, 0, 28), (2, 49, 0, 32), (2, 53, 0, 29), (2, 56, 0, 31), (2, 60, 0, 30), (2, 64, 1, 185), (2, 70, 1, 182), (2, 73, 1, 181), (2, 76, 0, 37), (3, 41, 0, 44), (3, 48, 0, 51), (3, 54, 0, 56), (3, 58, 0, 46), (3, 61, 1, 48), (3, 65, 0, 45), (3, 72, 0, 47), (3, 76, 1, 49), (3, 80, 0, 50), (3, 91, 1, 54), (3, 94, 0, 52), (3, 97, 1, 55), (3, 100, 0, 53), (3, 105, 0, 57), (3, 121, 0, 186), (3, 125, 0, 187), (4, 35, 0, 33), (4, 41, 0, 34), (4, 44, 1, 182), (4, 52, 0, 60), (5, 29, 0, 36), (5, 35, 0, 33), (5, 38, 1, 183), (5, 44, 0, 65), (5, 47, 0, 66), (7, 32, 0, 35), (7, 38, 0, 33), (8, 18, 0, 76), (11, 15, 0, 81), (11, 19, 0, 123), (11, 20, 0, 82), (11, 24, 0, 124), (11, 25, 0, 83), (11, 28, 0, 134), (11, 29, 0, 84), (11, 32, 0, 136), (11, 33, 0, 85), (11, 37, 0, 138), (11, 38, 0, 86), (11, 42, 0, 139), (11, 43, 0, 87), (11, 47, 0, 142), (11, 48, 0, 88), (11, 51, 0, 144), (11, 52, 0, 89), (11, 55, 0, 145), (11, 56, 0, 90), (11, 59, 0, 147), (11, 60, 0, 91), (11, 63, 0, 148), (11, 64, 0, 92), (11, 67, 0, 149), (11, 68, 0, 93), (11, 71, 0, 150), (11, 72, 0, 94), (11, 75, 0, 151), (11, 76, 0, 95), (11, 79, 0, 152), (11, 80, 0, 96), (11, 83, 0, 154), (11, 84, 0, 97), (11, 87, 0, 157), (11, 88, 0, 98), (11, 91, 0, 159), (11, 92, 0, 99), (11, 95, 0, 160), (11, 96, 0, 100), (11, 99, 0, 161), (11, 100, 0, 101), (11, 103, 0, 162), (11, 104, 0, 102), (11, 107, 0, 164), (11, 108, 0, 103), (11, 112, 0, 165), (11, 113, 0, 104), (11, 116, 0, 166), (11, 117, 0, 105), (11, 120, 0, 171), (11, 121, 0, 106), (11, 124, 0, 172), (11, 125, 0, 107), (11, 128, 0, 173), (11, 129, 0, 108), (11, 132, 0, 175), (11, 133, 0, 109), (11, 136, 0, 176), (11, 137, 0, 110), (11, 140, 0, 177), (11, 141, 0, 111), (11, 144, 0, 178), (11, 145, 0, 112), (11, 148, 0, 179), (10, 63, 0, 121), (10, 66, 0, 122), (10, 69, 1, 117), (10, 119, 0, 125), (10, 122, 0, 126), (10, 126, 0, 127), (10, 155, 0, 128), (10, 159, 0, 129), (10, 162, 0, 130), (10, 165, 0, 131), (10, 171, 0, 132), (10, 174, 0, 133), (10, 177, 0, 135), (10, 196, 0, 119), (10, 199, 0, 137), (10, 205, 0, 141), (10, 209, 0, 140), (10, 212, 0, 143), (10, 215, 0, 120), (10, 218, 0, 146), (10, 221, 0, 153), (10, 225, 0, 155), (10, 228, 0, 156), (10, 231, 0, 158), (10, 234, 0, 163), (10, 237, 0, 168), (10, 241, 1, 118), (10, 244, 0, 167), (10, 247, 1, 170), (10, 250, 0, 169), (10, 253, 0, 174), (10, 257, 0, 175), (20, 335, 0, 188), (20, 492, 0, 189), (20, 495, 1, 191), (20, 498, 1, 194), (20, 1059, 1, 196), (21, 9, 1, 190), (22, 48, 1, 193), (22, 67, 1, 195), (22, 71, 1, 192), (22, 414, 1, 190)]
def csts : List (Nat × Nat × Value) := [(9, 126, .int 99999), (9, 136, .int 100000), (2, 59, .int 1000000), (6, 19, .long 255), (8, 28, .int 99999), (11, 13, .long 4294967295), (10, 82, .int 100000), (10, 86, .long 255), (10, 100, .long (-2)), (10, 106, .long 27), (10, 108, .long 96), (10, 110, .long (-4)), (10, 112, .long (-1)), (10, 114, .long (-3)), (10, 141, .long 283616147), (10, 143, .long 31519426), (10, 145, .long 16819), (10, 147, .long 453774), (10, 149, .long 82516), (10, 151, .long 380230), (10, 153, .long 400354), (10, 203, .int 144000), (10, 204, .int 99999), (26, 265, .int 1431655765), (26, 266, .int 858993459), (26, 267, .int 252645135), (3, 103, .ref 1000), (3, 109, .ref 1001), (3, 111, .ref 1002), (3, 113, .ref 1003), (3, 115, .ref 1004), (3, 117, .ref 1005), (3, 119, .ref 1006)]
def cnm : Nat → String := fun k => match k with
  | 0 => RX0
  | 1 => RX1
  | 2 => RX2
  | 3 => RX3
  | 4 => RX4
  | 5 => RX5
  | 6 => RX6
  | 7 => RX7
  | 8 => RX8
  | 9 => RX9
  | 10 => RX10
  | 11 => RL
  | 20 => RJ0
  | 21 => RJ1
  | 22 => RJ2
  | 23 => RJ3
  | 26 => RJ6
  | _ => RJ9
def mys : List MethodName := [yX0_init, yX0_add, yX0_clear, yX0_wrongClocks, yX0_tieGroups, yX0_spread, yX0_tie, yX0_wrongInGroup, yX0_agreeingWith, yX1_init, yX1_add, yX1_has, yX1_begin, yX1_settle, yX1_isAhead, yX1_minutesLeft, yX1_canFollow, yX1_measureRows, yX1_longestRow, yX1_inLongestRow, yX1_leastFrom, yX1_changeBy, yX1_houseOfLeastChange, yX2_init, yX2_restart, yX2_setBehind, yX2_setWay, yX2_addShortcut, yX2_settle, yX2_layRoads, yX2_layRoad, yX2_joinRoads, yX2_has, yX2_distance, yX2_clockAt, yX2_dateAt, yX2_trueTime, yX2_spanByClocks, yX2_gainingPairs, yX2_mostGainingPair, yX3_init, yX3_kindAt, yX3_numberAt, yX3_readAll, yX3_readLine, yX3_canStand, yX3_isFull, yX3_foresee, yX3_numbersOf, yX3_leastOf, yX3_greatestOf, yX3_readToken, yX3_readLetters, yX3_readDigits, yX3_isLetter, yX3_isDigit, yX3_kindOfWord, yX3_isWord, yX4_init, yX4_add, yX4_served, yX4_seekTrade, yX5_init, yX5_add, yX5_clear, yX5_excludedAt, yX5_lying, yX5_possibleAt, yX6_init, yX6_append, yX6_clear, yX7_init, yX7_add, yX7_clear, yX7_follow, yX8_init, yX8_restart, yX8_spend, yX8_store, yX8_restore, yX9_init, yX9_write, yX9_erase, yX9_fault, yX9_street, yX9_off, yX9_far, yX9_shows, yX9_byClocks, yX9_gaining, yX9_deed, yX9_go, yX9_await, yX9_here, yX9_keep, yX9_back, yX9_order, yX9_behind, yX9_most, yX9_walk, yX9_rest, yX9_walked, yX9_trade, yX9_bell, yX9_hush, yX9_wrong, yX9_seen, yX9_forget, yX9_liars, yX9_canBe, yX9_hang, yX9_ring, yX9_count, yX9_carryOut, yX9_isClock, yX9_leastClosing, yX10_init, yX10_in, yX10_has, yX10_isHouse, yX10_isDeed, yX10_plain, yX10_layFar, yX10_write, yX10_erase, yX10_nextToken, yX10_fails, yX10_isNumber, yX10_isStreet, yX10_isWall, yX10_isDeedLine, yX10_isShop, yX10_isLine, yX10_isRead, yX10_fault, yX10_doLine, yX10_street, yX10_offOf, yX10_off, yX10_far, yX10_dateOf, yX10_clockOf, yX10_shows, yX10_backOf, yX10_byClocks, yX10_gaining, yX10_beginOf, yX10_deed, yX10_go, yX10_await, yX10_here, yX10_keep, yX10_back, yX10_isAhead, yX10_order, yX10_leftBehind, yX10_can, yX10_behind, yX10_layFrom, yX10_most, yX10_walk, yX10_rest, yX10_walked, yX10_openFrom, yX10_trade, yX10_bell, yX10_hush, yX10_layBound, yX10_bind, yX10_canBeRight, yX10_bits, yX10_wrong, yX10_seen, yX10_forget, yX10_canBoth, yX10_liars, yX10_canBe, yX10_hang, yX10_ring, yX10_count, yJ6_bitCount_0f7a4, yJ9_floorDiv_7cf53, yJ9_floorMod_7cf53, yJ9_abs_0f7a4, yJ9_max_7cf53, yJ9_min_7cf53, yJ0_length_8abf5, yJ0_charAt_5068e, yJ0_coder_7d493, yJ0_isLatin1_aae02, yJ0_checkIndex_df160, yJ1_charAt_3b067, yJ2_getChar_3b067, yJ2_length_9d52b, yJ2_charAt_3b067, yJ2_checkIndex_2214a, yJ3_checkIndex_8e157, yL_law]
def mbs : List ByteArray := [cX0_init, cX0_add, cX0_clear, cX0_wrongClocks, cX0_tieGroups, cX0_spread, cX0_tie, cX0_wrongInGroup, cX0_agreeingWith, cX1_init, cX1_add, cX1_has, cX1_begin, cX1_settle, cX1_isAhead, cX1_minutesLeft, cX1_canFollow, cX1_measureRows, cX1_longestRow, cX1_inLongestRow, cX1_leastFrom, cX1_changeBy, cX1_houseOfLeastChange, cX2_init, cX2_restart, cX2_setBehind, cX2_setWay, cX2_addShortcut, cX2_settle, cX2_layRoads, cX2_layRoad, cX2_joinRoads, cX2_has, cX2_distance, cX2_clockAt, cX2_dateAt, cX2_trueTime, cX2_spanByClocks, cX2_gainingPairs, cX2_mostGainingPair, cX3_init, cX3_kindAt, cX3_numberAt, cX3_readAll, cX3_readLine, cX3_canStand, cX3_isFull, cX3_foresee, cX3_numbersOf, cX3_leastOf, cX3_greatestOf, cX3_readToken, cX3_readLetters, cX3_readDigits, cX3_isLetter, cX3_isDigit, cX3_kindOfWord, cX3_isWord, cX4_init, cX4_add, cX4_served, cX4_seekTrade, cX5_init, cX5_add, cX5_clear, cX5_excludedAt, cX5_lying, cX5_possibleAt, cX6_init, cX6_append, cX6_clear, cX7_init, cX7_add, cX7_clear, cX7_follow, cX8_init, cX8_restart, cX8_spend, cX8_store, cX8_restore, cX9_init, cX9_write, cX9_erase, cX9_fault, cX9_street, cX9_off, cX9_far, cX9_shows, cX9_byClocks, cX9_gaining, cX9_deed, cX9_go, cX9_await, cX9_here, cX9_keep, cX9_back, cX9_order, cX9_behind, cX9_most, cX9_walk, cX9_rest, cX9_walked, cX9_trade, cX9_bell, cX9_hush, cX9_wrong, cX9_seen, cX9_forget, cX9_liars, cX9_canBe, cX9_hang, cX9_ring, cX9_count, cX9_carryOut, cX9_isClock, cX9_leastClosing, cX10_init, cX10_in, cX10_has, cX10_isHouse, cX10_isDeed, cX10_plain, cX10_layFar, cX10_write, cX10_erase, cX10_nextToken, cX10_fails, cX10_isNumber, cX10_isStreet, cX10_isWall, cX10_isDeedLine, cX10_isShop, cX10_isLine, cX10_isRead, cX10_fault, cX10_doLine, cX10_street, cX10_offOf, cX10_off, cX10_far, cX10_dateOf, cX10_clockOf, cX10_shows, cX10_backOf, cX10_byClocks, cX10_gaining, cX10_beginOf, cX10_deed, cX10_go, cX10_await, cX10_here, cX10_keep, cX10_back, cX10_isAhead, cX10_order, cX10_leftBehind, cX10_can, cX10_behind, cX10_layFrom, cX10_most, cX10_walk, cX10_rest, cX10_walked, cX10_openFrom, cX10_trade, cX10_bell, cX10_hush, cX10_layBound, cX10_bind, cX10_canBeRight, cX10_bits, cX10_wrong, cX10_seen, cX10_forget, cX10_canBoth, cX10_liars, cX10_canBe, cX10_hang, cX10_ring, cX10_count, cJ6_bitCount_0f7a4, cJ9_floorDiv_7cf53, cJ9_floorMod_7cf53, cJ9_abs_0f7a4, cJ9_max_7cf53, cJ9_min_7cf53, cJ0_length_8abf5, cJ0_charAt_5068e, cJ0_coder_7d493, cJ0_isLatin1_aae02, cJ0_checkIndex_df160, cJ1_charAt_3b067, cJ2_getChar_3b067, cJ2_length_9d52b, cJ2_charAt_3b067, cJ2_checkIndex_2214a, cJ3_checkIndex_8e157, cL_law]
def mLs : List Nat := [2, 5, 2, 3, 2, 3, 4, 7, 4, 2, 4, 2, 2, 3, 3, 3, 3, 6, 3, 5, 4, 4, 3, 1, 3, 3, 3, 4, 3, 3, 4, 4, 2, 3, 3, 3, 3, 3, 4, 5, 2, 2, 4, 5, 4, 5, 2, 3, 1, 2, 3, 1, 1, 2, 1, 1, 1, 3, 2, 6, 6, 8, 2, 4, 2, 5, 3, 4, 1, 5, 2, 2, 2, 2, 5, 1, 2, 3, 2, 2, 1, 4, 1, 1, 2, 2, 3, 4, 3, 2, 3, 2, 2, 2, 2, 2, 2, 3, 3, 2, 1, 3, 4, 5, 1, 3, 4, 1, 1, 3, 3, 2, 2, 5, 1, 2, 1, 3, 2, 2, 2, 2, 5, 5, 2, 1, 1, 4, 2, 2, 2, 2, 2, 2, 1, 5, 2, 4, 2, 3, 3, 3, 4, 3, 3, 8, 2, 3, 2, 2, 2, 2, 2, 3, 5, 3, 3, 3, 5, 8, 2, 2, 9, 4, 13, 5, 2, 6, 5, 5, 3, 4, 4, 2, 6, 5, 5, 8, 3, 2, 1, 3, 3, 1, 2, 2, 1, 2, 1, 1, 2, 2, 2, 1, 2, 2, 3, 4]
def mrs : List (Option FieldType) := [none, (some .int), (some .int), (some .int), none, none, none, (some .int), (some .int), none, none, (some .boolean), (some .int), none, (some .boolean), (some .int), (some .boolean), none, (some .int), (some .int), (some .int), (some .int), (some .int), none, none, none, none, none, none, none, none, none, (some .boolean), (some .int), (some .int), (some .int), (some .int), (some .int), (some .int), (some .int), none, (some .int), (some .int), (some .int), (some .boolean), (some .boolean), (some .boolean), none, (some .int), (some .int), (some .int), none, none, none, (some .boolean), (some .boolean), (some .int), (some .boolean), none, none, (some .int), none, none, (some .int), (some .int), (some .int), (some .int), (some .int), none, (some .int), (some .int), none, (some .int), (some .int), none, none, none, (some .int), (some .int), (some .int), none, (some .int), (some .int), (some .int), (some .int), (some .int), (some .int), (some .int), (some .int), (some .int), (some .int), (some .int), (some .int), (some .int), (some .int), (some .int), (some .int), (some .int), (some .int), (some .int), (some .int), (some .int), (some .int), (some .int), (some .int), (some .int), (some .int), (some .int), (some .int), (some .int), (some .int), (some .int), (some .int), none, (some .boolean), (some .int), none, (some .boolean), (some .boolean), (some .boolean), (some .boolean), none, none, (some .int), (some .int), none, (some .boolean), (some .boolean), (some .boolean), (some .boolean), (some .boolean), (some .boolean), (some .boolean), (some .boolean), (some .int), none, (some .int), (some .int), (some .int), (some .int), (some .int), (some .int), (some .int), (some .int), (some .int), (some .int), (some .int), (some .int), (some .int), (some .int), (some .int), (some .int), (some .int), (some .boolean), (some .int), (some .int), (some .boolean), (some .int), none, (some .int), (some .int), (some .int), (some .int), (some .int), (some .int), (some .int), (some .int), (some .boolean), none, (some .boolean), (some .int), (some .int), (some .int), (some .int), (some .boolean), (some .int), (some .int), (some .int), (some .int), (some .int), (some .int), (some .int), (some .int), (some .int), (some .int), (some .int), (some .int), (some .char), (some .byte), (some .boolean), none, (some .char), (some .char), (some .int), (some .char), none, (some .int), (some .boolean)]
def mos : List Nat := [0, 0, 0, 0, 0, 0, 0, 0, 0, 1, 1, 1, 1, 1, 1, 1, 1, 1, 1, 1, 1, 1, 1, 2, 2, 2, 2, 2, 2, 2, 2, 2, 2, 2, 2, 2, 2, 2, 2, 2, 3, 3, 3, 3, 3, 3, 3, 3, 3, 3, 3, 3, 3, 3, 3, 3, 3, 3, 4, 4, 4, 4, 5, 5, 5, 5, 5, 5, 6, 6, 6, 7, 7, 7, 7, 8, 8, 8, 8, 8, 9, 9, 9, 9, 9, 9, 9, 9, 9, 9, 9, 9, 9, 9, 9, 9, 9, 9, 9, 9, 9, 9, 9, 9, 9, 9, 9, 9, 9, 9, 9, 9, 9, 9, 9, 9, 10, 10, 10, 10, 10, 10, 10, 10, 10, 10, 10, 10, 10, 10, 10, 10, 10, 10, 10, 10, 10, 10, 10, 10, 10, 10, 10, 10, 10, 10, 10, 10, 10, 10, 10, 10, 10, 10, 10, 10, 10, 10, 10, 10, 10, 10, 10, 10, 10, 10, 10, 10, 10, 10, 10, 10, 10, 10, 10, 10, 10, 10, 10, 10, 26, 29, 29, 29, 29, 29, 20, 20, 20, 20, 20, 21, 22, 22, 22, 22, 23, 11]
def mfs : List Nat := [1, 1, 0, 4, 3, 2, 1, 1, 0, 1, 0, 0, 1, 2, 2, 2, 3, 4, 1, 5, 4, 1, 2, 4, 0, 1, 1, 0, 3, 2, 1, 1, 0, 0, 1, 1, 0, 0, 1, 1, 1, 0, 0, 8, 7, 1, 0, 0, 0, 0, 0, 2, 1, 1, 0, 0, 6, 5, 1, 0, 2, 3, 1, 1, 0, 1, 2, 3, 1, 0, 0, 1, 0, 0, 2, 1, 0, 0, 0, 0, 5, 1, 1, 9, 9, 1, 1, 2, 1, 2, 2, 1, 1, 2, 1, 1, 0, 4, 6, 1, 1, 3, 4, 2, 1, 5, 2, 1, 3, 4, 3, 1, 0, 2, 0, 0, 1, 0, 0, 1, 1, 0, 0, 1, 0, 1, 0, 2, 3, 3, 3, 3, 4, 5, 6, 1, 6, 0, 2, 2, 1, 1, 2, 1, 2, 2, 1, 2, 2, 1, 2, 1, 1, 2, 3, 2, 3, 4, 4, 5, 2, 0, 2, 2, 3, 2, 0, 1, 0, 1, 0, 2, 2, 0, 1, 2, 3, 1, 1, 0, 0, 0, 0, 0, 0, 0, 1, 4, 0, 0, 1, 2, 1, 0, 3, 2, 0, 10]
def mls : List Nat := [20, 22, 0, 88, 67, 45, 22, 23, 0, 20, 0, 0, 22, 43, 43, 43, 65, 87, 21, 110, 87, 20, 43, 88, 0, 21, 21, 0, 66, 44, 21, 21, 0, 0, 22, 22, 0, 0, 22, 22, 20, 0, 0, 171, 148, 22, 0, 0, 0, 0, 0, 41, 20, 20, 0, 0, 128, 106, 20, 0, 44, 69, 20, 22, 0, 22, 46, 68, 20, 0, 0, 20, 0, 0, 44, 21, 0, 0, 0, 0, 108, 24, 21, 195, 195, 21, 22, 44, 22, 46, 43, 22, 22, 44, 21, 21, 0, 87, 134, 21, 21, 68, 96, 46, 21, 110, 45, 21, 68, 91, 65, 21, 0, 43, 0, 0, 24, 0, 0, 22, 22, 0, 0, 22, 0, 22, 0, 42, 65, 65, 65, 65, 86, 107, 128, 21, 128, 0, 43, 43, 23, 23, 45, 23, 45, 45, 23, 44, 43, 22, 45, 22, 22, 44, 66, 44, 66, 88, 88, 112, 43, 0, 45, 45, 68, 43, 0, 24, 0, 21, 0, 49, 43, 0, 23, 48, 72, 23, 22, 0, 0, 0, 0, 0, 0, 0, 20, 85, 0, 0, 22, 43, 20, 0, 64, 43, 0, 216]
def nas : List Nat := [1, 4, 0, 0, 0, 0, 3, 1, 1, 1, 3, 1, 1, 0, 2, 2, 2, 1, 0, 1, 2, 1, 0, 0, 1, 2, 2, 3, 0, 0, 3, 0, 1, 2, 2, 2, 2, 2, 0, 0, 1, 1, 2, 4, 1, 3, 1, 2, 1, 2, 2, 0, 0, 0, 1, 1, 0, 1, 1, 5, 3, 2, 1, 3, 0, 2, 0, 2, 0, 2, 0, 1, 1, 0, 1, 0, 0, 2, 1, 1, 0, 2, 0, 0, 0, 1, 2, 3, 2, 1, 2, 1, 1, 1, 1, 1, 1, 2, 2, 1, 0, 2, 3, 4, 0, 1, 3, 0, 0, 2, 1, 1, 1, 1, 1, 1, 0, 3, 2, 1, 1, 0, 0, 2, 0, 0, 0, 3, 1, 1, 1, 1, 1, 0, 0, 1, 0, 1, 1, 2, 2, 2, 3, 2, 2, 1, 1, 2, 1, 1, 1, 1, 1, 2, 1, 2, 2, 2, 1, 2, 1, 0, 2, 2, 3, 4, 0, 0, 3, 1, 1, 1, 3, 0, 4, 0, 2, 1, 1, 1, 1, 2, 2, 1, 2, 2, 0, 1, 0, 0, 2, 2, 2, 1, 2, 2, 3, 1]
end
section
/-! THE SMALL MACHINE: the class's, the reference's and the law's bytecode over a memory of fixed shape; None where it is not sure. -/
abbrev mm : Type := (Nat → Nat → Int32) × Int64
abbrev mS : Type := Nat × List (Option Value) × List Value × mm
abbrev mR : Type := mS ⊕ ((Nat × List Value × Nat × List (Option Value) × List Value × mm) ⊕ (Option Value × mm))
def my (y : Nat) : MethodName := mys.getD y ⟨"", "", ""⟩
def mb (y : Nat) : ByteArray := mbs.getD y ByteArray.empty
def mL (y : Nat) : Nat := mLs.getD y 0
def mr (y : Nat) : Option FieldType := mrs.getD y none
def mo (y : Nat) : Nat := mos.getD y 99
def mf (y : Nat) : Nat := mfs.getD y 0
def mlo (y : Nat) : Nat := mls.getD y 0
def na (y : Nat) : Nat := nas.getD y 0
def fld (c i : Nat) : Option (Nat × Nat) := (flds.find? (fun e => e.1 == c && e.2.1 == i)).map (fun e => e.2.2)
def lnk (c i : Nat) : Option (Nat × Nat) := (lnks.find? (fun e => e.1 == c && e.2.1 == i)).map (fun e => e.2.2)
def cst (c i : Nat) : Option Value := (csts.find? (fun e => e.1 == c && e.2.1 == i)).map (fun e => e.2.2)
/-- one int of the memory is set -/
def mup (μ : mm) (k j : Nat) (x : Int32) : mm := (fun a => if a = k then upd (μ.1 k) j x else μ.1 a, μ.2)
/-- the length of an instruction, where it is fixed -/
def ilen : Instr → Nat → Nat
  | .tableswitch _ _ _ _, n => n
  | .lookupswitch _ _, n => n
  | .bipush _, _ => 2
  | .iload _, _ => 2
  | .istore _, _ => 2
  | .ldc _, _ => 2
  | .sipush _, _ => 3
  | .iinc _ _, _ => 3
  | .ifCond _ _, _ => 3
  | .if_icmp _ _, _ => 3
  | .goto _, _ => 3
  | .getfield _, _ => 3
  | .putfield _, _ => 3
  | .getstatic _, _ => 3
  | .invokevirtual _, _ => 3
  | .invokestatic _, _ => 3
  | .ldc_w _, _ => 3
  | .ldc2_w _, _ => 3
  | _, _ => 1
def ins (y pc : Nat) : Option Instr := match decode (mb y) pc with
  | .ok (i, n) => if n = ilen i n then some i else none
  | _ => none
/-- locals: place i holds v -/
def sl : Nat → Option Value → List (Option Value) → List (Option Value)
  | 0, v, t => v :: t.tail
  | n + 1, v, [] => none :: sl n v []
  | n + 1, v, x :: t => x :: sl n v t
/-- no long stands just ahead of place i -/
def nolong (i : Nat) (lv : List (Option Value)) : Bool := match i with
  | 0 => true
  | k + 1 => match lv[k]? with
    | some (some (.long _)) => false
    | some (some (.double _)) => false
    | _ => true
/-- locals at a method's entry -/
def ent : List Value → List (Option Value)
  | [] => []
  | v :: t => if v.category = 2 then some v :: none :: ent t else some v :: ent t
def nx (pc : Nat) (lv : List (Option Value)) (st : List Value) (μ : mm) : Option mR := some (.inl (pc, lv, st, μ))
def jck (pc : Nat) (off : Int) (f : Nat → Option mR) : Option mR := if (((pc : Int) + off).toNat : Int) = (pc : Int) + off then f ((pc : Int) + off).toNat else none
def jmp (pc : Nat) (off : Int) (lv : List (Option Value)) (st : List Value) (μ : mm) : Option mR := jck pc off (fun tgt => nx tgt lv st μ)
def lod (i n pc : Nat) (lv : List (Option Value)) (st : List Value) (μ : mm) (ok : Value → Bool) : Option mR := match lv[i]? with
  | some (some v) => if ok v then nx (pc + n) lv (v :: st) μ else none
  | _ => none
def isI : Value → Bool
  | .int _ => true
  | _ => false
def isL : Value → Bool
  | .long _ => true
  | _ => false
def isR : Value → Bool
  | .ref k => decide (k ≠ 1200)
  | _ => false
def sto (y i n pc : Nat) (lv : List (Option Value)) (st : List Value) (μ : mm) : Option mR := match st with
  | .int x :: r => if i < mL y ∧ nolong i lv = true then nx (pc + n) (sl i (some (.int x)) lv) r μ else none
  | _ => none
/-- may z be called from y, with rest left on the stack -/
def okc (y z : Nat) (as rest : List Value) : Bool := decide (mf z + 1 ≤ mf y) && (decide (8 + (mL z + 11) + mlo z ≤ mlo y) && (decide ((rest.map fun v => v.category).sum ≤ 8) && decide ((as.map fun v => v.category).sum ≤ mL z)))
def okr (sh : List (Nat × Nat × List Nat)) (z b : Nat) : Bool := if b < 1000 then decide (mo z < 11) && ((sh[b]?).map (fun c => c.1) == some (mo z)) else decide (b < 1007) && decide (mo z = 20)
def cV (sh : List (Nat × Nat × List Nat)) (y idx pc : Nat) (lv : List (Option Value)) (st : List Value) (μ : mm) : Option mR := match lnk (mo y) idx with
  | some (0, z) => match st.drop (na z) with
    | .ref b :: rest => if okr sh z b && okc y z (.ref b :: (st.take (na z)).reverse) rest then some (.inr (.inl (z, .ref b :: (st.take (na z)).reverse, pc + 3, lv, rest, μ))) else none
    | _ => none
  | _ => none
def cS (y idx pc : Nat) (lv : List (Option Value)) (st : List Value) (μ : mm) : Option mR := match lnk (mo y) idx with
  | some (1, z) => if decide (na z ≤ st.length) && okc y z (st.take (na z)).reverse (st.drop (na z)) then some (.inr (.inl (z, (st.take (na z)).reverse, pc + 3, lv, st.drop (na z), μ))) else none
  | _ => none
/-- a field of a cell -/
def gfd (sh : List (Nat × Nat × List Nat)) (y idx k : Nat) (μ : mm) : Option Value := match fld (mo y) idx with
  | some (ci, j) => match sh[k]? with
    | some (c, _, s) => if c = ci ∧ ci < 11 then (match s[j]? with
      | some 0 => some (.int (μ.1 k j))
      | some 1 => some (.long μ.2)
      | some (r + 2) => some (.ref r)
      | none => none) else none
    | none => none
  | none => none
/-- a field of a String constant -/
def gst (y idx k : Nat) : Option Value := if mo y = 20 ∧ k < 1007 then (if idx = 9 then some (.ref (k + 100)) else if idx = 15 then some (.int 0) else none) else none
def jsl : List Nat := [6, 6, 3, 4, 4, 4, 4]
def jsb : List (List Int32) := [[115, 116, 114, 101, 101, 116], [98, 101, 104, 105, 110, 100], [119, 97, 121], [119, 97, 108, 108], [100, 101, 101, 100], [115, 104, 111, 112], [116, 105, 100, 121]]
def ex (sh : List (Nat × Nat × List Nat)) (y pc : Nat) (lv : List (Option Value)) (st : List Value) (μ : mm) : Instr → Option mR
  | .iconst n => nx (pc + 1) lv (.int (Int32.ofInt n) :: st) μ
  | .bipush n => nx (pc + 2) lv (.int (Int8.ofInt n).toInt32 :: st) μ
  | .sipush n => nx (pc + 3) lv (.int (Int16.ofInt n).toInt32 :: st) μ
  | .lconst n => nx (pc + 1) lv (.long (Int64.ofNat (n : Nat)) :: st) μ
  | .ldc i => match cst (mo y) i with
    | some (.int v) => nx (pc + 2) lv (.int v :: st) μ
    | some (.ref k) => nx (pc + 2) lv (.ref k :: st) μ
    | _ => none
  | .ldc_w i => match cst (mo y) i with
    | some (.int v) => nx (pc + 3) lv (.int v :: st) μ
    | _ => none
  | .ldc2_w i => match cst (mo y) i with
    | some (.long v) => nx (pc + 3) lv (.long v :: st) μ
    | _ => none
  | .iload_n k => lod k 1 pc lv st μ isI
  | .iload k => lod k 2 pc lv st μ isI
  | .lload_n k => lod k 1 pc lv st μ isL
  | .aload_n k => lod k 1 pc lv st μ isR
  | .istore_n k => sto y k 1 pc lv st μ
  | .istore k => sto y k 2 pc lv st μ
  | .iinc i n => match lv[i]? with
    | some (some (.int x)) => if i < mL y ∧ nolong i lv = true then nx (pc + 3) (sl i (some (.int (x + Int32.ofInt n))) lv) st μ else none
    | _ => none
  | .iadd => match st with
    | .int b :: .int a :: r => nx (pc + 1) lv (.int (a + b) :: r) μ
    | _ => none
  | .isub => match st with
    | .int b :: .int a :: r => nx (pc + 1) lv (.int (a - b) :: r) μ
    | _ => none
  | .imul => match st with
    | .int b :: .int a :: r => nx (pc + 1) lv (.int (a * b) :: r) μ
    | _ => none
  | .idiv => match st with
    | .int b :: .int a :: r => if b = 0 then none else nx (pc + 1) lv (.int (a / b) :: r) μ
    | _ => none
  | .irem => match st with
    | .int b :: .int a :: r => if b = 0 then none else nx (pc + 1) lv (.int (a - a / b * b) :: r) μ
    | _ => none
  | .ineg => match st with
    | .int a :: r => nx (pc + 1) lv (.int (-a) :: r) μ
    | _ => none
  | .iand => match st with
    | .int b :: .int a :: r => nx (pc + 1) lv (.int (a &&& b) :: r) μ
    | _ => none
  | .ior => match st with
    | .int b :: .int a :: r => nx (pc + 1) lv (.int (a ||| b) :: r) μ
    | _ => none
  | .ixor => match st with
    | .int b :: .int a :: r => nx (pc + 1) lv (.int (a ^^^ b) :: r) μ
    | _ => none
  | .ishl => match st with
    | .int b :: .int a :: r => nx (pc + 1) lv (.int (a <<< (b &&& 31)) :: r) μ
    | _ => none
  | .ishr => match st with
    | .int b :: .int a :: r => nx (pc + 1) lv (.int (a >>> (b &&& 31)) :: r) μ
    | _ => none
  | .iushr => match st with
    | .int b :: .int a :: r => nx (pc + 1) lv (.int (a.toUInt32 >>> (b.toUInt32 &&& Int32.toUInt32 31)).toInt32 :: r) μ
    | _ => none
  | .i2l => match st with
    | .int a :: r => nx (pc + 1) lv (.long a.toInt64 :: r) μ
    | _ => none
  | .i2c => match st with
    | .int a :: r => nx (pc + 1) lv (.int (a.toUInt32 % 65536).toInt32 :: r) μ
    | _ => none
  | .l2i => match st with
    | .long a :: r => nx (pc + 1) lv (.int a.toInt32 :: r) μ
    | _ => none
  | .ladd => match st with
    | .long b :: .long a :: r => nx (pc + 1) lv (.long (a + b) :: r) μ
    | _ => none
  | .lsub => match st with
    | .long b :: .long a :: r => nx (pc + 1) lv (.long (a - b) :: r) μ
    | _ => none
  | .lmul => match st with
    | .long b :: .long a :: r => nx (pc + 1) lv (.long (a * b) :: r) μ
    | _ => none
  | .land => match st with
    | .long b :: .long a :: r => nx (pc + 1) lv (.long (a &&& b) :: r) μ
    | _ => none
  | .lor => match st with
    | .long b :: .long a :: r => nx (pc + 1) lv (.long (a ||| b) :: r) μ
    | _ => none
  | .lshl => match st with
    | .int b :: .long a :: r => nx (pc + 1) lv (.long (a <<< (b.toInt64 &&& 63)) :: r) μ
    | _ => none
  | .lshr => match st with
    | .int b :: .long a :: r => nx (pc + 1) lv (.long (a >>> (b.toInt64 &&& 63)) :: r) μ
    | _ => none
  | .lcmp => match st with
    | .long b :: .long a :: r => nx (pc + 1) lv (.int (lg_cmp a b) :: r) μ
    | _ => none
  | .dup => match st with
    | .int a :: r => nx (pc + 1) lv (.int a :: .int a :: r) μ
    | .ref a :: r => nx (pc + 1) lv (.ref a :: .ref a :: r) μ
    | _ => none
  | .pop => match st with
    | .int _ :: r => nx (pc + 1) lv r μ
    | _ => none
  | .goto off => jmp pc off lv st μ
  | .ifCond .eq off => match st with
    | .int x :: r => jck pc off (fun tgt => if x = 0 then nx tgt lv r μ else nx (pc + 3) lv r μ)
    | _ => none
  | .ifCond .ne off => match st with
    | .int x :: r => jck pc off (fun tgt => if x = 0 then nx (pc + 3) lv r μ else nx tgt lv r μ)
    | _ => none
  | .ifCond .lt off => match st with
    | .int x :: r => jck pc off (fun tgt => if x < 0 then nx tgt lv r μ else nx (pc + 3) lv r μ)
    | _ => none
  | .ifCond .ge off => match st with
    | .int x :: r => jck pc off (fun tgt => if 0 ≤ x then nx tgt lv r μ else nx (pc + 3) lv r μ)
    | _ => none
  | .ifCond .gt off => match st with
    | .int x :: r => jck pc off (fun tgt => if 0 < x then nx tgt lv r μ else nx (pc + 3) lv r μ)
    | _ => none
  | .ifCond .le off => match st with
    | .int x :: r => jck pc off (fun tgt => if x ≤ 0 then nx tgt lv r μ else nx (pc + 3) lv r μ)
    | _ => none
  | .if_icmp .eq off => match st with
    | .int b :: .int a :: r => jck pc off (fun tgt => if a = b then nx tgt lv r μ else nx (pc + 3) lv r μ)
    | _ => none
  | .if_icmp .ne off => match st with
    | .int b :: .int a :: r => jck pc off (fun tgt => if a = b then nx (pc + 3) lv r μ else nx tgt lv r μ)
    | _ => none
  | .if_icmp .lt off => match st with
    | .int b :: .int a :: r => jck pc off (fun tgt => if a < b then nx tgt lv r μ else nx (pc + 3) lv r μ)
    | _ => none
  | .if_icmp .ge off => match st with
    | .int b :: .int a :: r => jck pc off (fun tgt => if b ≤ a then nx tgt lv r μ else nx (pc + 3) lv r μ)
    | _ => none
  | .if_icmp .gt off => match st with
    | .int b :: .int a :: r => jck pc off (fun tgt => if b < a then nx tgt lv r μ else nx (pc + 3) lv r μ)
    | _ => none
  | .if_icmp .le off => match st with
    | .int b :: .int a :: r => jck pc off (fun tgt => if a ≤ b then nx tgt lv r μ else nx (pc + 3) lv r μ)
    | _ => none
  | .tableswitch d lo hi offs => match st with
    | .int x :: r => if x.toInt < lo ∨ hi < x.toInt then jmp pc d lv r μ else (match offs[(x.toInt - lo).toNat]? with
      | some off => jmp pc off lv r μ
      | none => none)
    | _ => none
  | .lookupswitch d ps => match st with
    | .int x :: r => if (ps.toList.zip (ps.toList.drop 1)).all (fun (a, next) => a.1 < next.1) = true then jmp pc (Op.lookupswitch.offset ps.toList d x.toInt) lv r μ else none
    | _ => none
  | .getfield i => match st with
    | .ref k :: r => if k < 1000 then (match gfd sh y i k μ with
        | some v => nx (pc + 3) lv (v :: r) μ
        | none => none)
      else (match gst y i k with
        | some v => nx (pc + 3) lv (v :: r) μ
        | none => none)
    | _ => none
  | .putfield i => match st with
    | .int x :: .ref k :: r => (match fld (mo y) i with
      | some (ci, j) => (match sh[k]? with
        | some (c, _, s) => if c = ci ∧ ci < 11 ∧ s[j]? = some 0 then nx (pc + 3) lv r (mup μ k j x) else none
        | none => none)
      | none => none)
    | .long x :: .ref k :: r => (match fld (mo y) i with
      | some (ci, j) => (match sh[k]? with
        | some (c, _, s) => if c = ci ∧ ci < 11 ∧ s[j]? = some 1 then nx (pc + 3) lv r (μ.1, x) else none
        | none => none)
      | none => none)
    | _ => none
  | .getstatic i => if mo y = 20 ∧ i = 38 then nx (pc + 3) lv (.int 1 :: st) μ else if mo y = 20 ∧ i = 1053 then nx (pc + 3) lv (.ref 1200 :: st) μ else none
  | .iaload => match st with
    | .int i :: .ref k :: r => if k = 999 then (if mo y = 11 then (if i < 0 ∨ (μ.1 998 0).toNatClampNeg ≤ i.toNatClampNeg then none else nx (pc + 1) lv (.int (μ.1 999 i.toNatClampNeg) :: r) μ) else none)
      else (match sh[k]? with
        | some (t, n, _) => if t = 100 then (if i < 0 ∨ n ≤ i.toNatClampNeg then none else nx (pc + 1) lv (.int (μ.1 k i.toNatClampNeg) :: r) μ) else none
        | none => none)
    | _ => none
  | .iastore => match st with
    | .int x :: .int i :: .ref k :: r => (match sh[k]? with
      | some (t, n, _) => if t = 100 then (if i < 0 ∨ n ≤ i.toNatClampNeg then none else nx (pc + 1) lv r (mup μ k i.toNatClampNeg x)) else none
      | none => none)
    | _ => none
  | .baload => match st with
    | .int i :: .ref k :: r => if k < 1000 then (match sh[k]? with
        | some (t, n, _) => if t = 101 then (if i < 0 ∨ n ≤ i.toNatClampNeg then none else nx (pc + 1) lv (.int (μ.1 k i.toNatClampNeg) :: r) μ) else none
        | none => none)
      else if 1100 ≤ k ∧ k < 1107 then (if i < 0 ∨ jsl.getD (k - 1100) 0 ≤ i.toNatClampNeg then none else nx (pc + 1) lv (.int ((jsb.getD (k - 1100) []).getD i.toNatClampNeg 0) :: r) μ) else none
    | _ => none
  | .bastore => match st with
    | .int x :: .int i :: .ref k :: r => (match sh[k]? with
      | some (t, n, _) => if t = 101 then (if i < 0 ∨ n ≤ i.toNatClampNeg then none else nx (pc + 1) lv r (mup μ k i.toNatClampNeg (vp_nar .boolean x))) else none
      | none => none)
    | _ => none
  | .aaload => match st with
    | .int i :: .ref k :: r => (match sh[k]? with
      | some (t, n, s) => if t = 102 then (if i < 0 ∨ n ≤ i.toNatClampNeg then none else (match s[i.toNatClampNeg]? with
        | some q => nx (pc + 1) lv (.ref q :: r) μ
        | none => none)) else none
      | none => none)
    | _ => none
  | .arraylength => match st with
    | .ref k :: r => if k = 999 then (if mo y = 11 then nx (pc + 1) lv (.int (μ.1 998 0) :: r) μ else none)
      else if 1100 ≤ k ∧ k < 1107 then nx (pc + 1) lv (.int (Int32.ofNat (jsl.getD (k - 1100) 0)) :: r) μ else none
    | _ => none
  | .invokevirtual i => cV sh y i pc lv st μ
  | .invokestatic i => cS y i pc lv st μ
  | .ireturn => match st with
    | [.int v] => (match mr y with
      | some ty => if narrow ty (.int v) = .int v then some (.inr (.inr (some (.int v), μ))) else none
      | none => none)
    | _ => none
  | .return_ => match st with
    | [] => if mr y = none then some (.inr (.inr (none, μ))) else none
    | _ => none
  | _ => none
def stp (sh : List (Nat × Nat × List Nat)) (y pc : Nat) (lv : List (Option Value)) (st : List Value) (μ : mm) : Option mR := match ins y pc with
  | some i => ex sh y pc lv st μ i
  | none => none
def run (sh : List (Nat × Nat × List Nat)) : Nat → Nat → Nat → List (Option Value) → List Value → mm → Option (Option Value × mm)
  | 0, _, _, _, _, _ => none
  | n + 1, y, pc, lv, st, μ => match stp sh y pc lv st μ with
    | none => none
    | some (.inl (pc', lv', st', μ')) => run sh n y pc' lv' st' μ'
    | some (.inr (.inl (z, as, pc', lv', st', μ'))) => (match run sh n z 0 (ent as) [] μ' with
      | none => none
      | some (v, μ2) => run sh n y pc' lv' (v.toList ++ st') μ2)
    | some (.inr (.inr r)) => some r
end
section
def fps : List Nat := [393, 394, 395, 396, 397, 398, 399, 400, 401, 118, 122, 164, 189, 250, 115, 156, 158, 160, 298, 300, 162, 319, 321, 323, 325, 191, 193, 195, 197, 348, 377, 237, 350, 351, 352, 353, 354, 349, 347, 114, 119, 155, 157, 159, 161, 166, 165, 163, 116, 120, 113, 123, 124, 125, 126, 127, 128, 117, 121, 252, 253, 251, 249, 258, 259, 260, 261, 254, 256, 255, 257, 236, 234, 199, 200, 201, 202, 203, 198, 188, 190, 192, 194, 196, 379, 380, 381, 378, 376, 233, 235, 327, 326, 318, 320, 322, 324, 301, 302, 297, 299, 927, 928, 929, 931, 933, 935, 936, 938, 950, 953, 954, 956, 958, 960, 961, 962, 963, 932, 930, 934, 937, 939, 940, 942, 943, 941, 944, 946, 947, 948, 949, 945, 951, 952, 955, 957, 959]
def lps : List Nat := [425, 434, 442, 558, 591, 592, 604, 605, 609, 613, 621, 626, 635, 642, 653, 662, 667, 675, 679, 684, 701, 709, 721, 734, 739, 747, 751, 765, 777, 787, 802, 805, 818, 848, 853, 866, 882, 891, 900, 905, 562, 566, 570, 571, 575, 579, 583, 587, 809, 822, 834, 826, 830, 838, 842, 600, 596, 733, 725, 729, 743, 744, 755, 756, 760, 899, 895, 85, 89, 102, 93, 106, 98, 110, 639, 646, 666, 446, 450, 468, 531, 535, 538, 549, 542, 545, 454, 457, 461, 464, 473, 477, 487, 795, 796, 797, 791, 857, 874, 875, 870, 886, 781, 782, 293, 421, 1040, 430, 1048, 438, 1052, 554, 1105, 617, 1113, 622, 1125, 630, 1129, 649, 1143, 658, 1151, 671, 1155, 680, 1167, 689, 1171, 693, 1175, 697, 1179, 705, 1183, 713, 1187, 717, 1195, 735, 1207, 761, 1215, 769, 1219, 773, 1223, 783, 1227, 798, 1235, 810, 1239, 814, 1243, 849, 1265, 858, 1269, 862, 1273, 878, 1281, 887, 1286, 901, 1290, 908, 1294, 918, 922, 1044, 1064, 1089, 1085, 1081, 1093, 1097, 1101, 1060, 1056, 1109, 1117, 1121, 1134, 1139, 1147, 1159, 1163, 1191, 1203, 1199, 1211, 1231, 1251, 1262, 1247, 1255, 1258, 1277, 1285, 481, 491, 495, 506, 503, 498, 512, 509, 516, 515]
/-- the word of a field's link -/
def fwd (e : Nat × Nat × Nat × Nat) : Cond := Cond.fieldLink (cnm e.1) e.2.1 (((vwCl[e.2.2.1]?).getD (RX0, TX0, 0)).2.1 e.2.2.2).1 (((vwCl[e.2.2.1]?).getD (RX0, TX0, 0)).2.1 e.2.2.2).2.1 (((vwCl[e.2.2.1]?).getD (RX0, TX0, 0)).2.1 e.2.2.2).2.2.1
def lwd (e : Nat × Nat × Nat × Nat) : Cond := Cond.methodLink (cnm e.1) e.2.1 (my e.2.2.2)
theorem flds_w : flds.map fwd = fps.filterMap (fun i => lw_tbl[i]?) := by decide +kernel
theorem lnks_w : lnks.map lwd = lps.filterMap (fun i => lw_tbl[i]?) := by decide +kernel
end
section
def vzs : List Nat := [1, 2, 3, 4, 5, 6, 7, 8, 10, 11, 12, 13, 14, 15, 16, 17, 18, 19, 20, 21, 22, 24, 25, 26, 27, 28, 29, 30, 31, 32, 33, 34, 35, 36, 37, 38, 39, 41, 42, 43, 44, 45, 46, 47, 50, 51, 52, 53, 56, 57, 59, 60, 61, 63, 64, 65, 66, 67, 69, 70, 72, 73, 74, 76, 77, 78, 79, 81, 82, 83, 84, 85, 86, 87, 88, 89, 90, 91, 92, 93, 94, 95, 96, 97, 98, 99, 100, 101, 102, 103, 104, 105, 106, 107, 108, 109, 110, 111, 112, 113, 119, 120, 121, 122, 123, 124, 125, 126, 127, 128, 129, 130, 131, 132, 133, 134, 135, 136, 137, 138, 139, 140, 141, 142, 143, 144, 145, 146, 147, 148, 149, 150, 151, 152, 153, 154, 155, 156, 157, 158, 159, 160, 161, 162, 163, 164, 165, 166, 167, 168, 169, 171, 172, 173, 174, 175, 176, 177, 178, 179, 186, 187, 188, 189]
def szs : List Nat := [48, 49, 54, 55, 114, 115, 117, 118, 170, 180, 181, 182, 183, 184, 185, 190, 191, 192, 193, 194, 195, 196]
theorem lnks_k : lnks.all (fun e => (e.2.2.1 == 0 && vzs.contains e.2.2.2) || (e.2.2.1 == 1 && szs.contains e.2.2.2)) = true := by decide +kernel
theorem vz_i : vzs.map (fun z => Cond.instanceMethod (my z)) = [806, 610, 819, 824, 828, 832, 836, 840, 584, 676, 597, 593, 727, 730, 722, 740, 748, 752, 758, 896, 892, 86, 572, 576, 580, 90, 95, 100, 108, 103, 627, 636, 643, 601, 654, 663, 668, 567, 563, 443, 448, 540, 533, 551, 547, 452, 459, 466, 470, 475, 588, 793, 788, 854, 614, 872, 867, 883, 426, 435, 766, 606, 778, 294, 685, 702, 710, 422, 431, 439, 555, 618, 623, 631, 650, 659, 672, 681, 690, 694, 698, 706, 714, 718, 736, 762, 770, 774, 784, 799, 811, 815, 850, 859, 863, 879, 888, 902, 909, 560, 1119, 1161, 920, 924, 1041, 1049, 1066, 1091, 1087, 1083, 1095, 1099, 1103, 1062, 1058, 1053, 1111, 1106, 1123, 1114, 1126, 1141, 1136, 1130, 1149, 1144, 1152, 1165, 1156, 1168, 1172, 1176, 1180, 1184, 1193, 1188, 1205, 1201, 1196, 1213, 1208, 1216, 1220, 1224, 1233, 1228, 1236, 1240, 1249, 1253, 1260, 1244, 1266, 1270, 1279, 1274, 1282, 1287, 1291, 1295, 478, 488, 482, 492].filterMap (fun i => lw_tbl[i]?) := by decide +kernel
theorem vz_s : vzs.map (fun z => Cond.selects (cnm (mo z)) (my z) (my z)) = [807, 611, 820, 17, 18, 19, 20, 21, 585, 677, 598, 594, 14, 731, 723, 741, 749, 753, 15, 897, 893, 87, 573, 577, 581, 91, 0, 1, 2, 104, 628, 637, 644, 602, 655, 664, 669, 568, 564, 444, 3, 10, 9, 12, 11, 4, 5, 6, 7, 8, 589, 16, 789, 855, 615, 22, 868, 884, 427, 436, 767, 607, 779, 295, 686, 703, 711, 423, 432, 440, 556, 619, 624, 632, 651, 660, 673, 682, 691, 695, 699, 707, 715, 719, 737, 763, 771, 775, 785, 800, 812, 816, 851, 860, 864, 880, 889, 903, 910, 13, 35, 40, 23, 24, 1042, 1050, 27, 30, 29, 28, 31, 32, 33, 26, 25, 1054, 34, 1107, 36, 1115, 1127, 38, 37, 1131, 39, 1145, 1153, 41, 1157, 1169, 1173, 1177, 1181, 1185, 42, 1189, 44, 43, 1197, 45, 1209, 1217, 1221, 1225, 46, 1229, 1237, 1241, 47, 48, 49, 1245, 1267, 1271, 50, 1275, 1283, 1288, 1292, 1296, 479, 489, 483, 493].filterMap (fun i => lw_tbl[i]?) := by decide +kernel
theorem sz_s : szs.map (fun z => Cond.static (my z)) = [536, 543, 455, 462, 803, 906, 1045, 1263, 1256, 843, 647, 640, 876, 745, 111, 499, 496, 517, 513, 507, 510, 504].filterMap (fun i => lw_tbl[i]?) := by decide +kernel
def cls : List Nat := [0, 1, 2, 3, 4, 5, 6, 7, 8, 9, 10, 11, 20, 21, 22, 23, 26, 29]
theorem cl_i : cls.map (fun k => Cond.initialized (cnm k)) = [61, 55, 53, 58, 56, 62, 57, 60, 59, 52, 63, 51, 64, 65, 67, 66, 68, 54].filterMap (fun i => lw_tbl[i]?) := by decide +kernel
def czs : List Nat := [1, 2, 3, 4, 5, 6, 7, 8, 10, 11, 12, 13, 14, 15, 16, 17, 18, 19, 20, 21, 22, 24, 25, 26, 27, 28, 29, 30, 31, 32, 33, 34, 35, 36, 37, 38, 39, 41, 42, 43, 44, 45, 46, 47, 48, 49, 50, 51, 52, 53, 54, 55, 56, 57, 59, 60, 61, 63, 64, 65, 66, 67, 69, 70, 72, 73, 74, 76, 77, 78, 79, 81, 82, 83, 84, 85, 86, 87, 88, 89, 90, 91, 92, 93, 94, 95, 96, 97, 98, 99, 100, 101, 102, 103, 104, 105, 106, 107, 108, 109, 110, 111, 112, 113, 114, 115, 117, 118, 119, 120, 121, 122, 123, 124, 125, 126, 127, 128, 129, 130, 131, 132, 133, 134, 135, 136, 137, 138, 139, 140, 141, 142, 143, 144, 145, 146, 147, 148, 149, 150, 151, 152, 153, 154, 155, 156, 157, 158, 159, 160, 161, 162, 163, 164, 165, 166, 167, 168, 169, 170, 171, 172, 173, 174, 175, 176, 177, 178, 179, 180, 181, 182, 183, 184, 185, 186, 187, 188, 189, 190, 191, 192, 193, 194, 195, 196]
theorem cz_m : (vzs ++ szs).all (fun z => czs.contains z) = true := by decide +kernel
theorem cz_f1 : czs.all (fun z => cls.contains (mo z)) = true := by decide +kernel
theorem cz_f2 : czs.all (fun z => decide ((my z).cls = cnm (mo z))) = true := by decide +kernel
theorem cz_f3 : czs.all (fun z => plainFor (my z)) = true := by decide +kernel
theorem cz_f4 : czs.all (fun z => decide ((my z).cls ≠ "java/lang/invoke/MethodHandle") && decide ((my z).cls ≠ "java/lang/invoke/VarHandle")) = true := by decide +kernel
theorem cz_f6 : czs.all (fun z => decide (mo z ≠ 11)) = true := by decide +kernel
theorem cz_f5 : czs.all (fun z => decide ((parseMethodDescriptor (my z).desc).map (fun d => d.parameters.length) = some (na z))) = true := by decide +kernel
set_option maxRecDepth 100000 in
theorem cw_1 : lw_tbl[808]? = some (Cond.code (my 1) (mb 1) (mL 1) (mr 1)) := by rfl
set_option maxRecDepth 100000 in
theorem cw_2 : lw_tbl[612]? = some (Cond.code (my 2) (mb 2) (mL 2) (mr 2)) := by rfl
set_option maxRecDepth 100000 in
theorem cw_3 : lw_tbl[821]? = some (Cond.code (my 3) (mb 3) (mL 3) (mr 3)) := by rfl
set_option maxRecDepth 100000 in
theorem cw_4 : lw_tbl[825]? = some (Cond.code (my 4) (mb 4) (mL 4) (mr 4)) := by rfl
set_option maxRecDepth 100000 in
theorem cw_5 : lw_tbl[829]? = some (Cond.code (my 5) (mb 5) (mL 5) (mr 5)) := by rfl
set_option maxRecDepth 100000 in
theorem cw_6 : lw_tbl[833]? = some (Cond.code (my 6) (mb 6) (mL 6) (mr 6)) := by rfl
set_option maxRecDepth 100000 in
theorem cw_7 : lw_tbl[837]? = some (Cond.code (my 7) (mb 7) (mL 7) (mr 7)) := by rfl
set_option maxRecDepth 100000 in
theorem cw_8 : lw_tbl[841]? = some (Cond.code (my 8) (mb 8) (mL 8) (mr 8)) := by rfl
set_option maxRecDepth 100000 in
theorem cw_10 : lw_tbl[586]? = some (Cond.code (my 10) (mb 10) (mL 10) (mr 10)) := by rfl
set_option maxRecDepth 100000 in
theorem cw_11 : lw_tbl[678]? = some (Cond.code (my 11) (mb 11) (mL 11) (mr 11)) := by rfl
set_option maxRecDepth 100000 in
theorem cw_12 : lw_tbl[599]? = some (Cond.code (my 12) (mb 12) (mL 12) (mr 12)) := by rfl
set_option maxRecDepth 100000 in
theorem cw_13 : lw_tbl[595]? = some (Cond.code (my 13) (mb 13) (mL 13) (mr 13)) := by rfl
set_option maxRecDepth 100000 in
theorem cw_14 : lw_tbl[728]? = some (Cond.code (my 14) (mb 14) (mL 14) (mr 14)) := by rfl
set_option maxRecDepth 100000 in
theorem cw_15 : lw_tbl[732]? = some (Cond.code (my 15) (mb 15) (mL 15) (mr 15)) := by rfl
set_option maxRecDepth 100000 in
theorem cw_16 : lw_tbl[724]? = some (Cond.code (my 16) (mb 16) (mL 16) (mr 16)) := by rfl
set_option maxRecDepth 100000 in
theorem cw_17 : lw_tbl[742]? = some (Cond.code (my 17) (mb 17) (mL 17) (mr 17)) := by rfl
set_option maxRecDepth 100000 in
theorem cw_18 : lw_tbl[750]? = some (Cond.code (my 18) (mb 18) (mL 18) (mr 18)) := by rfl
set_option maxRecDepth 100000 in
theorem cw_19 : lw_tbl[754]? = some (Cond.code (my 19) (mb 19) (mL 19) (mr 19)) := by rfl
set_option maxRecDepth 100000 in
theorem cw_20 : lw_tbl[759]? = some (Cond.code (my 20) (mb 20) (mL 20) (mr 20)) := by rfl
set_option maxRecDepth 100000 in
theorem cw_21 : lw_tbl[898]? = some (Cond.code (my 21) (mb 21) (mL 21) (mr 21)) := by rfl
set_option maxRecDepth 100000 in
theorem cw_22 : lw_tbl[894]? = some (Cond.code (my 22) (mb 22) (mL 22) (mr 22)) := by rfl
set_option maxRecDepth 100000 in
theorem cw_24 : lw_tbl[88]? = some (Cond.code (my 24) (mb 24) (mL 24) (mr 24)) := by rfl
set_option maxRecDepth 100000 in
theorem cw_25 : lw_tbl[574]? = some (Cond.code (my 25) (mb 25) (mL 25) (mr 25)) := by rfl
set_option maxRecDepth 100000 in
theorem cw_26 : lw_tbl[578]? = some (Cond.code (my 26) (mb 26) (mL 26) (mr 26)) := by rfl
set_option maxRecDepth 100000 in
theorem cw_27 : lw_tbl[582]? = some (Cond.code (my 27) (mb 27) (mL 27) (mr 27)) := by rfl
set_option maxRecDepth 100000 in
theorem cw_28 : lw_tbl[92]? = some (Cond.code (my 28) (mb 28) (mL 28) (mr 28)) := by rfl
set_option maxRecDepth 100000 in
theorem cw_29 : lw_tbl[96]? = some (Cond.code (my 29) (mb 29) (mL 29) (mr 29)) := by rfl
set_option maxRecDepth 100000 in
theorem cw_30 : lw_tbl[101]? = some (Cond.code (my 30) (mb 30) (mL 30) (mr 30)) := by rfl
set_option maxRecDepth 100000 in
theorem cw_31 : lw_tbl[109]? = some (Cond.code (my 31) (mb 31) (mL 31) (mr 31)) := by rfl
set_option maxRecDepth 100000 in
theorem cw_32 : lw_tbl[105]? = some (Cond.code (my 32) (mb 32) (mL 32) (mr 32)) := by rfl
set_option maxRecDepth 100000 in
theorem cw_33 : lw_tbl[629]? = some (Cond.code (my 33) (mb 33) (mL 33) (mr 33)) := by rfl
set_option maxRecDepth 100000 in
theorem cw_34 : lw_tbl[638]? = some (Cond.code (my 34) (mb 34) (mL 34) (mr 34)) := by rfl
set_option maxRecDepth 100000 in
theorem cw_35 : lw_tbl[645]? = some (Cond.code (my 35) (mb 35) (mL 35) (mr 35)) := by rfl
set_option maxRecDepth 100000 in
theorem cw_36 : lw_tbl[603]? = some (Cond.code (my 36) (mb 36) (mL 36) (mr 36)) := by rfl
set_option maxRecDepth 100000 in
theorem cw_37 : lw_tbl[656]? = some (Cond.code (my 37) (mb 37) (mL 37) (mr 37)) := by rfl
set_option maxRecDepth 100000 in
theorem cw_38 : lw_tbl[665]? = some (Cond.code (my 38) (mb 38) (mL 38) (mr 38)) := by rfl
set_option maxRecDepth 100000 in
theorem cw_39 : lw_tbl[670]? = some (Cond.code (my 39) (mb 39) (mL 39) (mr 39)) := by rfl
set_option maxRecDepth 100000 in
theorem cw_41 : lw_tbl[569]? = some (Cond.code (my 41) (mb 41) (mL 41) (mr 41)) := by rfl
set_option maxRecDepth 100000 in
theorem cw_42 : lw_tbl[565]? = some (Cond.code (my 42) (mb 42) (mL 42) (mr 42)) := by rfl
set_option maxRecDepth 100000 in
theorem cw_43 : lw_tbl[445]? = some (Cond.code (my 43) (mb 43) (mL 43) (mr 43)) := by rfl
set_option maxRecDepth 100000 in
theorem cw_44 : lw_tbl[449]? = some (Cond.code (my 44) (mb 44) (mL 44) (mr 44)) := by rfl
set_option maxRecDepth 100000 in
theorem cw_45 : lw_tbl[541]? = some (Cond.code (my 45) (mb 45) (mL 45) (mr 45)) := by rfl
set_option maxRecDepth 100000 in
theorem cw_46 : lw_tbl[534]? = some (Cond.code (my 46) (mb 46) (mL 46) (mr 46)) := by rfl
set_option maxRecDepth 100000 in
theorem cw_47 : lw_tbl[552]? = some (Cond.code (my 47) (mb 47) (mL 47) (mr 47)) := by rfl
set_option maxRecDepth 100000 in
theorem cw_48 : lw_tbl[537]? = some (Cond.code (my 48) (mb 48) (mL 48) (mr 48)) := by rfl
set_option maxRecDepth 100000 in
theorem cw_49 : lw_tbl[544]? = some (Cond.code (my 49) (mb 49) (mL 49) (mr 49)) := by rfl
set_option maxRecDepth 100000 in
theorem cw_50 : lw_tbl[548]? = some (Cond.code (my 50) (mb 50) (mL 50) (mr 50)) := by rfl
set_option maxRecDepth 100000 in
theorem cw_51 : lw_tbl[453]? = some (Cond.code (my 51) (mb 51) (mL 51) (mr 51)) := by rfl
set_option maxRecDepth 100000 in
theorem cw_52 : lw_tbl[460]? = some (Cond.code (my 52) (mb 52) (mL 52) (mr 52)) := by rfl
set_option maxRecDepth 100000 in
theorem cw_53 : lw_tbl[467]? = some (Cond.code (my 53) (mb 53) (mL 53) (mr 53)) := by rfl
set_option maxRecDepth 100000 in
theorem cw_54 : lw_tbl[456]? = some (Cond.code (my 54) (mb 54) (mL 54) (mr 54)) := by rfl
set_option maxRecDepth 100000 in
theorem cw_55 : lw_tbl[463]? = some (Cond.code (my 55) (mb 55) (mL 55) (mr 55)) := by rfl
set_option maxRecDepth 100000 in
theorem cw_56 : lw_tbl[471]? = some (Cond.code (my 56) (mb 56) (mL 56) (mr 56)) := by rfl
set_option maxRecDepth 100000 in
theorem cw_57 : lw_tbl[476]? = some (Cond.code (my 57) (mb 57) (mL 57) (mr 57)) := by rfl
set_option maxRecDepth 100000 in
theorem cw_59 : lw_tbl[590]? = some (Cond.code (my 59) (mb 59) (mL 59) (mr 59)) := by rfl
set_option maxRecDepth 100000 in
theorem cw_60 : lw_tbl[794]? = some (Cond.code (my 60) (mb 60) (mL 60) (mr 60)) := by rfl
set_option maxRecDepth 100000 in
theorem cw_61 : lw_tbl[790]? = some (Cond.code (my 61) (mb 61) (mL 61) (mr 61)) := by rfl
set_option maxRecDepth 100000 in
theorem cw_63 : lw_tbl[856]? = some (Cond.code (my 63) (mb 63) (mL 63) (mr 63)) := by rfl
set_option maxRecDepth 100000 in
theorem cw_64 : lw_tbl[616]? = some (Cond.code (my 64) (mb 64) (mL 64) (mr 64)) := by rfl
set_option maxRecDepth 100000 in
theorem cw_65 : lw_tbl[873]? = some (Cond.code (my 65) (mb 65) (mL 65) (mr 65)) := by rfl
set_option maxRecDepth 100000 in
theorem cw_66 : lw_tbl[869]? = some (Cond.code (my 66) (mb 66) (mL 66) (mr 66)) := by rfl
set_option maxRecDepth 100000 in
theorem cw_67 : lw_tbl[885]? = some (Cond.code (my 67) (mb 67) (mL 67) (mr 67)) := by rfl
set_option maxRecDepth 100000 in
theorem cw_69 : lw_tbl[428]? = some (Cond.code (my 69) (mb 69) (mL 69) (mr 69)) := by rfl
set_option maxRecDepth 100000 in
theorem cw_70 : lw_tbl[437]? = some (Cond.code (my 70) (mb 70) (mL 70) (mr 70)) := by rfl
set_option maxRecDepth 100000 in
theorem cw_72 : lw_tbl[768]? = some (Cond.code (my 72) (mb 72) (mL 72) (mr 72)) := by rfl
set_option maxRecDepth 100000 in
theorem cw_73 : lw_tbl[608]? = some (Cond.code (my 73) (mb 73) (mL 73) (mr 73)) := by rfl
set_option maxRecDepth 100000 in
theorem cw_74 : lw_tbl[780]? = some (Cond.code (my 74) (mb 74) (mL 74) (mr 74)) := by rfl
set_option maxRecDepth 100000 in
theorem cw_76 : lw_tbl[296]? = some (Cond.code (my 76) (mb 76) (mL 76) (mr 76)) := by rfl
set_option maxRecDepth 100000 in
theorem cw_77 : lw_tbl[687]? = some (Cond.code (my 77) (mb 77) (mL 77) (mr 77)) := by rfl
set_option maxRecDepth 100000 in
theorem cw_78 : lw_tbl[704]? = some (Cond.code (my 78) (mb 78) (mL 78) (mr 78)) := by rfl
set_option maxRecDepth 100000 in
theorem cw_79 : lw_tbl[712]? = some (Cond.code (my 79) (mb 79) (mL 79) (mr 79)) := by rfl
set_option maxRecDepth 100000 in
theorem cw_81 : lw_tbl[424]? = some (Cond.code (my 81) (mb 81) (mL 81) (mr 81)) := by rfl
set_option maxRecDepth 100000 in
theorem cw_82 : lw_tbl[433]? = some (Cond.code (my 82) (mb 82) (mL 82) (mr 82)) := by rfl
set_option maxRecDepth 100000 in
theorem cw_83 : lw_tbl[441]? = some (Cond.code (my 83) (mb 83) (mL 83) (mr 83)) := by rfl
set_option maxRecDepth 100000 in
theorem cw_84 : lw_tbl[557]? = some (Cond.code (my 84) (mb 84) (mL 84) (mr 84)) := by rfl
set_option maxRecDepth 100000 in
theorem cw_85 : lw_tbl[620]? = some (Cond.code (my 85) (mb 85) (mL 85) (mr 85)) := by rfl
set_option maxRecDepth 100000 in
theorem cw_86 : lw_tbl[625]? = some (Cond.code (my 86) (mb 86) (mL 86) (mr 86)) := by rfl
set_option maxRecDepth 100000 in
theorem cw_87 : lw_tbl[633]? = some (Cond.code (my 87) (mb 87) (mL 87) (mr 87)) := by rfl
set_option maxRecDepth 100000 in
theorem cw_88 : lw_tbl[652]? = some (Cond.code (my 88) (mb 88) (mL 88) (mr 88)) := by rfl
set_option maxRecDepth 100000 in
theorem cw_89 : lw_tbl[661]? = some (Cond.code (my 89) (mb 89) (mL 89) (mr 89)) := by rfl
set_option maxRecDepth 100000 in
theorem cw_90 : lw_tbl[674]? = some (Cond.code (my 90) (mb 90) (mL 90) (mr 90)) := by rfl
set_option maxRecDepth 100000 in
theorem cw_91 : lw_tbl[683]? = some (Cond.code (my 91) (mb 91) (mL 91) (mr 91)) := by rfl
set_option maxRecDepth 100000 in
theorem cw_92 : lw_tbl[692]? = some (Cond.code (my 92) (mb 92) (mL 92) (mr 92)) := by rfl
set_option maxRecDepth 100000 in
theorem cw_93 : lw_tbl[696]? = some (Cond.code (my 93) (mb 93) (mL 93) (mr 93)) := by rfl
set_option maxRecDepth 100000 in
theorem cw_94 : lw_tbl[700]? = some (Cond.code (my 94) (mb 94) (mL 94) (mr 94)) := by rfl
set_option maxRecDepth 100000 in
theorem cw_95 : lw_tbl[708]? = some (Cond.code (my 95) (mb 95) (mL 95) (mr 95)) := by rfl
set_option maxRecDepth 100000 in
theorem cw_96 : lw_tbl[716]? = some (Cond.code (my 96) (mb 96) (mL 96) (mr 96)) := by rfl
set_option maxRecDepth 100000 in
theorem cw_97 : lw_tbl[720]? = some (Cond.code (my 97) (mb 97) (mL 97) (mr 97)) := by rfl
set_option maxRecDepth 100000 in
theorem cw_98 : lw_tbl[738]? = some (Cond.code (my 98) (mb 98) (mL 98) (mr 98)) := by rfl
set_option maxRecDepth 100000 in
theorem cw_99 : lw_tbl[764]? = some (Cond.code (my 99) (mb 99) (mL 99) (mr 99)) := by rfl
set_option maxRecDepth 100000 in
theorem cw_100 : lw_tbl[772]? = some (Cond.code (my 100) (mb 100) (mL 100) (mr 100)) := by rfl
set_option maxRecDepth 100000 in
theorem cw_101 : lw_tbl[776]? = some (Cond.code (my 101) (mb 101) (mL 101) (mr 101)) := by rfl
set_option maxRecDepth 100000 in
theorem cw_102 : lw_tbl[786]? = some (Cond.code (my 102) (mb 102) (mL 102) (mr 102)) := by rfl
set_option maxRecDepth 100000 in
theorem cw_103 : lw_tbl[801]? = some (Cond.code (my 103) (mb 103) (mL 103) (mr 103)) := by rfl
set_option maxRecDepth 100000 in
theorem cw_104 : lw_tbl[813]? = some (Cond.code (my 104) (mb 104) (mL 104) (mr 104)) := by rfl
set_option maxRecDepth 100000 in
theorem cw_105 : lw_tbl[817]? = some (Cond.code (my 105) (mb 105) (mL 105) (mr 105)) := by rfl
set_option maxRecDepth 100000 in
theorem cw_106 : lw_tbl[852]? = some (Cond.code (my 106) (mb 106) (mL 106) (mr 106)) := by rfl
set_option maxRecDepth 100000 in
theorem cw_107 : lw_tbl[861]? = some (Cond.code (my 107) (mb 107) (mL 107) (mr 107)) := by rfl
set_option maxRecDepth 100000 in
theorem cw_108 : lw_tbl[865]? = some (Cond.code (my 108) (mb 108) (mL 108) (mr 108)) := by rfl
set_option maxRecDepth 100000 in
theorem cw_109 : lw_tbl[881]? = some (Cond.code (my 109) (mb 109) (mL 109) (mr 109)) := by rfl
set_option maxRecDepth 100000 in
theorem cw_110 : lw_tbl[890]? = some (Cond.code (my 110) (mb 110) (mL 110) (mr 110)) := by rfl
set_option maxRecDepth 100000 in
theorem cw_111 : lw_tbl[904]? = some (Cond.code (my 111) (mb 111) (mL 111) (mr 111)) := by rfl
set_option maxRecDepth 100000 in
theorem cw_112 : lw_tbl[911]? = some (Cond.code (my 112) (mb 112) (mL 112) (mr 112)) := by rfl
set_option maxRecDepth 100000 in
theorem cw_113 : lw_tbl[561]? = some (Cond.code (my 113) (mb 113) (mL 113) (mr 113)) := by rfl
set_option maxRecDepth 100000 in
theorem cw_114 : lw_tbl[804]? = some (Cond.code (my 114) (mb 114) (mL 114) (mr 114)) := by rfl
set_option maxRecDepth 100000 in
theorem cw_115 : lw_tbl[907]? = some (Cond.code (my 115) (mb 115) (mL 115) (mr 115)) := by rfl
set_option maxRecDepth 100000 in
theorem cw_117 : lw_tbl[1046]? = some (Cond.code (my 117) (mb 117) (mL 117) (mr 117)) := by rfl
set_option maxRecDepth 100000 in
theorem cw_118 : lw_tbl[1264]? = some (Cond.code (my 118) (mb 118) (mL 118) (mr 118)) := by rfl
set_option maxRecDepth 100000 in
theorem cw_119 : lw_tbl[1120]? = some (Cond.code (my 119) (mb 119) (mL 119) (mr 119)) := by rfl
set_option maxRecDepth 100000 in
theorem cw_120 : lw_tbl[1162]? = some (Cond.code (my 120) (mb 120) (mL 120) (mr 120)) := by rfl
set_option maxRecDepth 100000 in
theorem cw_121 : lw_tbl[921]? = some (Cond.code (my 121) (mb 121) (mL 121) (mr 121)) := by rfl
set_option maxRecDepth 100000 in
theorem cw_122 : lw_tbl[925]? = some (Cond.code (my 122) (mb 122) (mL 122) (mr 122)) := by rfl
set_option maxRecDepth 100000 in
theorem cw_123 : lw_tbl[1043]? = some (Cond.code (my 123) (mb 123) (mL 123) (mr 123)) := by rfl
set_option maxRecDepth 100000 in
theorem cw_124 : lw_tbl[1051]? = some (Cond.code (my 124) (mb 124) (mL 124) (mr 124)) := by rfl
set_option maxRecDepth 100000 in
theorem cw_125 : lw_tbl[1067]? = some (Cond.code (my 125) (mb 125) (mL 125) (mr 125)) := by rfl
set_option maxRecDepth 100000 in
theorem cw_126 : lw_tbl[1092]? = some (Cond.code (my 126) (mb 126) (mL 126) (mr 126)) := by rfl
set_option maxRecDepth 100000 in
theorem cw_127 : lw_tbl[1088]? = some (Cond.code (my 127) (mb 127) (mL 127) (mr 127)) := by rfl
set_option maxRecDepth 100000 in
theorem cw_128 : lw_tbl[1084]? = some (Cond.code (my 128) (mb 128) (mL 128) (mr 128)) := by rfl
set_option maxRecDepth 100000 in
theorem cw_129 : lw_tbl[1096]? = some (Cond.code (my 129) (mb 129) (mL 129) (mr 129)) := by rfl
set_option maxRecDepth 100000 in
theorem cw_130 : lw_tbl[1100]? = some (Cond.code (my 130) (mb 130) (mL 130) (mr 130)) := by rfl
set_option maxRecDepth 100000 in
theorem cw_131 : lw_tbl[1104]? = some (Cond.code (my 131) (mb 131) (mL 131) (mr 131)) := by rfl
set_option maxRecDepth 100000 in
theorem cw_132 : lw_tbl[1063]? = some (Cond.code (my 132) (mb 132) (mL 132) (mr 132)) := by rfl
set_option maxRecDepth 100000 in
theorem cw_133 : lw_tbl[1059]? = some (Cond.code (my 133) (mb 133) (mL 133) (mr 133)) := by rfl
set_option maxRecDepth 100000 in
theorem cw_134 : lw_tbl[1055]? = some (Cond.code (my 134) (mb 134) (mL 134) (mr 134)) := by rfl
set_option maxRecDepth 100000 in
theorem cw_135 : lw_tbl[1112]? = some (Cond.code (my 135) (mb 135) (mL 135) (mr 135)) := by rfl
set_option maxRecDepth 100000 in
theorem cw_136 : lw_tbl[1108]? = some (Cond.code (my 136) (mb 136) (mL 136) (mr 136)) := by rfl
set_option maxRecDepth 100000 in
theorem cw_137 : lw_tbl[1124]? = some (Cond.code (my 137) (mb 137) (mL 137) (mr 137)) := by rfl
set_option maxRecDepth 100000 in
theorem cw_138 : lw_tbl[1116]? = some (Cond.code (my 138) (mb 138) (mL 138) (mr 138)) := by rfl
set_option maxRecDepth 100000 in
theorem cw_139 : lw_tbl[1128]? = some (Cond.code (my 139) (mb 139) (mL 139) (mr 139)) := by rfl
set_option maxRecDepth 100000 in
theorem cw_140 : lw_tbl[1142]? = some (Cond.code (my 140) (mb 140) (mL 140) (mr 140)) := by rfl
set_option maxRecDepth 100000 in
theorem cw_141 : lw_tbl[1137]? = some (Cond.code (my 141) (mb 141) (mL 141) (mr 141)) := by rfl
set_option maxRecDepth 100000 in
theorem cw_142 : lw_tbl[1132]? = some (Cond.code (my 142) (mb 142) (mL 142) (mr 142)) := by rfl
set_option maxRecDepth 100000 in
theorem cw_143 : lw_tbl[1150]? = some (Cond.code (my 143) (mb 143) (mL 143) (mr 143)) := by rfl
set_option maxRecDepth 100000 in
theorem cw_144 : lw_tbl[1146]? = some (Cond.code (my 144) (mb 144) (mL 144) (mr 144)) := by rfl
set_option maxRecDepth 100000 in
theorem cw_145 : lw_tbl[1154]? = some (Cond.code (my 145) (mb 145) (mL 145) (mr 145)) := by rfl
set_option maxRecDepth 100000 in
theorem cw_146 : lw_tbl[1166]? = some (Cond.code (my 146) (mb 146) (mL 146) (mr 146)) := by rfl
set_option maxRecDepth 100000 in
theorem cw_147 : lw_tbl[1158]? = some (Cond.code (my 147) (mb 147) (mL 147) (mr 147)) := by rfl
set_option maxRecDepth 100000 in
theorem cw_148 : lw_tbl[1170]? = some (Cond.code (my 148) (mb 148) (mL 148) (mr 148)) := by rfl
set_option maxRecDepth 100000 in
theorem cw_149 : lw_tbl[1174]? = some (Cond.code (my 149) (mb 149) (mL 149) (mr 149)) := by rfl
set_option maxRecDepth 100000 in
theorem cw_150 : lw_tbl[1178]? = some (Cond.code (my 150) (mb 150) (mL 150) (mr 150)) := by rfl
set_option maxRecDepth 100000 in
theorem cw_151 : lw_tbl[1182]? = some (Cond.code (my 151) (mb 151) (mL 151) (mr 151)) := by rfl
set_option maxRecDepth 100000 in
theorem cw_152 : lw_tbl[1186]? = some (Cond.code (my 152) (mb 152) (mL 152) (mr 152)) := by rfl
set_option maxRecDepth 100000 in
theorem cw_153 : lw_tbl[1194]? = some (Cond.code (my 153) (mb 153) (mL 153) (mr 153)) := by rfl
set_option maxRecDepth 100000 in
theorem cw_154 : lw_tbl[1190]? = some (Cond.code (my 154) (mb 154) (mL 154) (mr 154)) := by rfl
set_option maxRecDepth 100000 in
theorem cw_155 : lw_tbl[1206]? = some (Cond.code (my 155) (mb 155) (mL 155) (mr 155)) := by rfl
set_option maxRecDepth 100000 in
theorem cw_156 : lw_tbl[1202]? = some (Cond.code (my 156) (mb 156) (mL 156) (mr 156)) := by rfl
set_option maxRecDepth 100000 in
theorem cw_157 : lw_tbl[1198]? = some (Cond.code (my 157) (mb 157) (mL 157) (mr 157)) := by rfl
set_option maxRecDepth 100000 in
theorem cw_158 : lw_tbl[1214]? = some (Cond.code (my 158) (mb 158) (mL 158) (mr 158)) := by rfl
set_option maxRecDepth 100000 in
theorem cw_159 : lw_tbl[1210]? = some (Cond.code (my 159) (mb 159) (mL 159) (mr 159)) := by rfl
set_option maxRecDepth 100000 in
theorem cw_160 : lw_tbl[1218]? = some (Cond.code (my 160) (mb 160) (mL 160) (mr 160)) := by rfl
set_option maxRecDepth 100000 in
theorem cw_161 : lw_tbl[1222]? = some (Cond.code (my 161) (mb 161) (mL 161) (mr 161)) := by rfl
set_option maxRecDepth 100000 in
theorem cw_162 : lw_tbl[1226]? = some (Cond.code (my 162) (mb 162) (mL 162) (mr 162)) := by rfl
set_option maxRecDepth 100000 in
theorem cw_163 : lw_tbl[1234]? = some (Cond.code (my 163) (mb 163) (mL 163) (mr 163)) := by rfl
set_option maxRecDepth 100000 in
theorem cw_164 : lw_tbl[1230]? = some (Cond.code (my 164) (mb 164) (mL 164) (mr 164)) := by rfl
set_option maxRecDepth 100000 in
theorem cw_165 : lw_tbl[1238]? = some (Cond.code (my 165) (mb 165) (mL 165) (mr 165)) := by rfl
set_option maxRecDepth 100000 in
theorem cw_166 : lw_tbl[1242]? = some (Cond.code (my 166) (mb 166) (mL 166) (mr 166)) := by rfl
set_option maxRecDepth 100000 in
theorem cw_167 : lw_tbl[1250]? = some (Cond.code (my 167) (mb 167) (mL 167) (mr 167)) := by rfl
set_option maxRecDepth 100000 in
theorem cw_168 : lw_tbl[1254]? = some (Cond.code (my 168) (mb 168) (mL 168) (mr 168)) := by rfl
set_option maxRecDepth 100000 in
theorem cw_169 : lw_tbl[1261]? = some (Cond.code (my 169) (mb 169) (mL 169) (mr 169)) := by rfl
set_option maxRecDepth 100000 in
theorem cw_170 : lw_tbl[1257]? = some (Cond.code (my 170) (mb 170) (mL 170) (mr 170)) := by rfl
set_option maxRecDepth 100000 in
theorem cw_171 : lw_tbl[1246]? = some (Cond.code (my 171) (mb 171) (mL 171) (mr 171)) := by rfl
set_option maxRecDepth 100000 in
theorem cw_172 : lw_tbl[1268]? = some (Cond.code (my 172) (mb 172) (mL 172) (mr 172)) := by rfl
set_option maxRecDepth 100000 in
theorem cw_173 : lw_tbl[1272]? = some (Cond.code (my 173) (mb 173) (mL 173) (mr 173)) := by rfl
set_option maxRecDepth 100000 in
theorem cw_174 : lw_tbl[1280]? = some (Cond.code (my 174) (mb 174) (mL 174) (mr 174)) := by rfl
set_option maxRecDepth 100000 in
theorem cw_175 : lw_tbl[1276]? = some (Cond.code (my 175) (mb 175) (mL 175) (mr 175)) := by rfl
set_option maxRecDepth 100000 in
theorem cw_176 : lw_tbl[1284]? = some (Cond.code (my 176) (mb 176) (mL 176) (mr 176)) := by rfl
set_option maxRecDepth 100000 in
theorem cw_177 : lw_tbl[1289]? = some (Cond.code (my 177) (mb 177) (mL 177) (mr 177)) := by rfl
set_option maxRecDepth 100000 in
theorem cw_178 : lw_tbl[1293]? = some (Cond.code (my 178) (mb 178) (mL 178) (mr 178)) := by rfl
set_option maxRecDepth 100000 in
theorem cw_179 : lw_tbl[1297]? = some (Cond.code (my 179) (mb 179) (mL 179) (mr 179)) := by rfl
set_option maxRecDepth 100000 in
theorem cw_180 : lw_tbl[844]? = some (Cond.code (my 180) (mb 180) (mL 180) (mr 180)) := by rfl
set_option maxRecDepth 100000 in
theorem cw_181 : lw_tbl[648]? = some (Cond.code (my 181) (mb 181) (mL 181) (mr 181)) := by rfl
set_option maxRecDepth 100000 in
theorem cw_182 : lw_tbl[641]? = some (Cond.code (my 182) (mb 182) (mL 182) (mr 182)) := by rfl
set_option maxRecDepth 100000 in
theorem cw_183 : lw_tbl[877]? = some (Cond.code (my 183) (mb 183) (mL 183) (mr 183)) := by rfl
set_option maxRecDepth 100000 in
theorem cw_184 : lw_tbl[746]? = some (Cond.code (my 184) (mb 184) (mL 184) (mr 184)) := by rfl
set_option maxRecDepth 100000 in
theorem cw_185 : lw_tbl[112]? = some (Cond.code (my 185) (mb 185) (mL 185) (mr 185)) := by rfl
set_option maxRecDepth 100000 in
theorem cw_186 : lw_tbl[480]? = some (Cond.code (my 186) (mb 186) (mL 186) (mr 186)) := by rfl
set_option maxRecDepth 100000 in
theorem cw_187 : lw_tbl[490]? = some (Cond.code (my 187) (mb 187) (mL 187) (mr 187)) := by rfl
set_option maxRecDepth 100000 in
theorem cw_188 : lw_tbl[484]? = some (Cond.code (my 188) (mb 188) (mL 188) (mr 188)) := by rfl
set_option maxRecDepth 100000 in
theorem cw_189 : lw_tbl[494]? = some (Cond.code (my 189) (mb 189) (mL 189) (mr 189)) := by rfl
set_option maxRecDepth 100000 in
theorem cw_190 : lw_tbl[500]? = some (Cond.code (my 190) (mb 190) (mL 190) (mr 190)) := by rfl
set_option maxRecDepth 100000 in
theorem cw_191 : lw_tbl[497]? = some (Cond.code (my 191) (mb 191) (mL 191) (mr 191)) := by rfl
set_option maxRecDepth 100000 in
theorem cw_192 : lw_tbl[518]? = some (Cond.code (my 192) (mb 192) (mL 192) (mr 192)) := by rfl
set_option maxRecDepth 100000 in
theorem cw_193 : lw_tbl[514]? = some (Cond.code (my 193) (mb 193) (mL 193) (mr 193)) := by rfl
set_option maxRecDepth 100000 in
theorem cw_194 : lw_tbl[508]? = some (Cond.code (my 194) (mb 194) (mL 194) (mr 194)) := by rfl
set_option maxRecDepth 100000 in
theorem cw_195 : lw_tbl[511]? = some (Cond.code (my 195) (mb 195) (mL 195) (mr 195)) := by rfl
set_option maxRecDepth 100000 in
theorem cw_196 : lw_tbl[505]? = some (Cond.code (my 196) (mb 196) (mL 196) (mr 196)) := by rfl
set_option maxRecDepth 100000 in
theorem cw_all : ∀ z ∈ czs, Cond.code (my z) (mb z) (mL z) (mr z) ∈ lw_tbl := List.forall_mem_cons.mpr ⟨List.mem_of_getElem? cw_1, List.forall_mem_cons.mpr ⟨List.mem_of_getElem? cw_2, List.forall_mem_cons.mpr ⟨List.mem_of_getElem? cw_3, List.forall_mem_cons.mpr ⟨List.mem_of_getElem? cw_4, List.forall_mem_cons.mpr ⟨List.mem_of_getElem? cw_5, List.forall_mem_cons.mpr ⟨List.mem_of_getElem? cw_6, List.forall_mem_cons.mpr ⟨List.mem_of_getElem? cw_7, List.forall_mem_cons.mpr ⟨List.mem_of_getElem? cw_8, List.forall_mem_cons.mpr ⟨List.mem_of_getElem? cw_10, List.forall_mem_cons.mpr ⟨List.mem_of_getElem? cw_11, List.forall_mem_cons.mpr ⟨List.mem_of_getElem? cw_12, List.forall_mem_cons.mpr ⟨List.mem_of_getElem? cw_13, List.forall_mem_cons.mpr ⟨List.mem_of_getElem? cw_14, List.forall_mem_cons.mpr ⟨List.mem_of_getElem? cw_15, List.forall_mem_cons.mpr ⟨List.mem_of_getElem? cw_16, List.forall_mem_cons.mpr ⟨List.mem_of_getElem? cw_17, List.forall_mem_cons.mpr ⟨List.mem_of_getElem? cw_18, List.forall_mem_cons.mpr ⟨List.mem_of_getElem? cw_19, List.forall_mem_cons.mpr ⟨List.mem_of_getElem? cw_20, List.forall_mem_cons.mpr ⟨List.mem_of_getElem? cw_21, List.forall_mem_cons.mpr ⟨List.mem_of_getElem? cw_22, List.forall_mem_cons.mpr ⟨List.mem_of_getElem? cw_24, List.forall_mem_cons.mpr ⟨List.mem_of_getElem? cw_25, List.forall_mem_cons.mpr ⟨List.mem_of_getElem? cw_26, List.forall_mem_cons.mpr ⟨List.mem_of_getElem? cw_27, List.forall_mem_cons.mpr ⟨List.mem_of_getElem? cw_28, List.forall_mem_cons.mpr ⟨List.mem_of_getElem? cw_29, List.forall_mem_cons.mpr ⟨List.mem_of_getElem? cw_30, List.forall_mem_cons.mpr ⟨List.mem_of_getElem? cw_31, List.forall_mem_cons.mpr ⟨List.mem_of_getElem? cw_32, List.forall_mem_cons.mpr ⟨List.mem_of_getElem? cw_33, List.forall_mem_cons.mpr ⟨List.mem_of_getElem? cw_34, List.forall_mem_cons.mpr ⟨List.mem_of_getElem? cw_35, List.forall_mem_cons.mpr ⟨List.mem_of_getElem? cw_36, List.forall_mem_cons.mpr ⟨List.mem_of_getElem? cw_37, List.forall_mem_cons.mpr ⟨List.mem_of_getElem? cw_38, List.forall_mem_cons.mpr ⟨List.mem_of_getElem? cw_39, List.forall_mem_cons.mpr ⟨List.mem_of_getElem? cw_41, List.forall_mem_cons.mpr ⟨List.mem_of_getElem? cw_42, List.forall_mem_cons.mpr ⟨List.mem_of_getElem? cw_43, List.forall_mem_cons.mpr ⟨List.mem_of_getElem? cw_44, List.forall_mem_cons.mpr ⟨List.mem_of_getElem? cw_45, List.forall_mem_cons.mpr ⟨List.mem_of_getElem? cw_46, List.forall_mem_cons.mpr ⟨List.mem_of_getElem? cw_47, List.forall_mem_cons.mpr ⟨List.mem_of_getElem? cw_48, List.forall_mem_cons.mpr ⟨List.mem_of_getElem? cw_49, List.forall_mem_cons.mpr ⟨List.mem_of_getElem? cw_50, List.forall_mem_cons.mpr ⟨List.mem_of_getElem? cw_51, List.forall_mem_cons.mpr ⟨List.mem_of_getElem? cw_52, List.forall_mem_cons.mpr ⟨List.mem_of_getElem? cw_53, List.forall_mem_cons.mpr ⟨List.mem_of_getElem? cw_54, List.forall_mem_cons.mpr ⟨List.mem_of_getElem? cw_55, List.forall_mem_cons.mpr ⟨List.mem_of_getElem? cw_56, List.forall_mem_cons.mpr ⟨List.mem_of_getElem? cw_57, List.forall_mem_cons.mpr ⟨List.mem_of_getElem? cw_59, List.forall_mem_cons.mpr ⟨List.mem_of_getElem? cw_60, List.forall_mem_cons.mpr ⟨List.mem_of_getElem? cw_61, List.forall_mem_cons.mpr ⟨List.mem_of_getElem? cw_63, List.forall_mem_cons.mpr ⟨List.mem_of_getElem? cw_64, List.forall_mem_cons.mpr ⟨List.mem_of_getElem? cw_65, List.forall_mem_cons.mpr ⟨List.mem_of_getElem? cw_66, List.forall_mem_cons.mpr ⟨List.mem_of_getElem? cw_67, List.forall_mem_cons.mpr ⟨List.mem_of_getElem? cw_69, List.forall_mem_cons.mpr ⟨List.mem_of_getElem? cw_70, List.forall_mem_cons.mpr ⟨List.mem_of_getElem? cw_72, List.forall_mem_cons.mpr ⟨List.mem_of_getElem? cw_73, List.forall_mem_cons.mpr ⟨List.mem_of_getElem? cw_74, List.forall_mem_cons.mpr ⟨List.mem_of_getElem? cw_76, List.forall_mem_cons.mpr ⟨List.mem_of_getElem? cw_77, List.forall_mem_cons.mpr ⟨List.mem_of_getElem? cw_78, List.forall_mem_cons.mpr ⟨List.mem_of_getElem? cw_79, List.forall_mem_cons.mpr ⟨List.mem_of_getElem? cw_81, List.forall_mem_cons.mpr ⟨List.mem_of_getElem? cw_82, List.forall_mem_cons.mpr ⟨List.mem_of_getElem? cw_83, List.forall_mem_cons.mpr ⟨List.mem_of_getElem? cw_84, List.forall_mem_cons.mpr ⟨List.mem_of_getElem? cw_85, List.forall_mem_cons.mpr ⟨List.mem_of_getElem? cw_86, List.forall_mem_cons.mpr ⟨List.mem_of_getElem? cw_87, List.forall_mem_cons.mpr ⟨List.mem_of_getElem? cw_88, List.forall_mem_cons.mpr ⟨List.mem_of_getElem? cw_89, List.forall_mem_cons.mpr ⟨List.mem_of_getElem? cw_90, List.forall_mem_cons.mpr ⟨List.mem_of_getElem? cw_91, List.forall_mem_cons.mpr ⟨List.mem_of_getElem? cw_92, List.forall_mem_cons.mpr ⟨List.mem_of_getElem? cw_93, List.forall_mem_cons.mpr ⟨List.mem_of_getElem? cw_94, List.forall_mem_cons.mpr ⟨List.mem_of_getElem? cw_95, List.forall_mem_cons.mpr ⟨List.mem_of_getElem? cw_96, List.forall_mem_cons.mpr ⟨List.mem_of_getElem? cw_97, List.forall_mem_cons.mpr ⟨List.mem_of_getElem? cw_98, List.forall_mem_cons.mpr ⟨List.mem_of_getElem? cw_99, List.forall_mem_cons.mpr ⟨List.mem_of_getElem? cw_100, List.forall_mem_cons.mpr ⟨List.mem_of_getElem? cw_101, List.forall_mem_cons.mpr ⟨List.mem_of_getElem? cw_102, List.forall_mem_cons.mpr ⟨List.mem_of_getElem? cw_103, List.forall_mem_cons.mpr ⟨List.mem_of_getElem? cw_104, List.forall_mem_cons.mpr ⟨List.mem_of_getElem? cw_105, List.forall_mem_cons.mpr ⟨List.mem_of_getElem? cw_106, List.forall_mem_cons.mpr ⟨List.mem_of_getElem? cw_107, List.forall_mem_cons.mpr ⟨List.mem_of_getElem? cw_108, List.forall_mem_cons.mpr ⟨List.mem_of_getElem? cw_109, List.forall_mem_cons.mpr ⟨List.mem_of_getElem? cw_110, List.forall_mem_cons.mpr ⟨List.mem_of_getElem? cw_111, List.forall_mem_cons.mpr ⟨List.mem_of_getElem? cw_112, List.forall_mem_cons.mpr ⟨List.mem_of_getElem? cw_113, List.forall_mem_cons.mpr ⟨List.mem_of_getElem? cw_114, List.forall_mem_cons.mpr ⟨List.mem_of_getElem? cw_115, List.forall_mem_cons.mpr ⟨List.mem_of_getElem? cw_117, List.forall_mem_cons.mpr ⟨List.mem_of_getElem? cw_118, List.forall_mem_cons.mpr ⟨List.mem_of_getElem? cw_119, List.forall_mem_cons.mpr ⟨List.mem_of_getElem? cw_120, List.forall_mem_cons.mpr ⟨List.mem_of_getElem? cw_121, List.forall_mem_cons.mpr ⟨List.mem_of_getElem? cw_122, List.forall_mem_cons.mpr ⟨List.mem_of_getElem? cw_123, List.forall_mem_cons.mpr ⟨List.mem_of_getElem? cw_124, List.forall_mem_cons.mpr ⟨List.mem_of_getElem? cw_125, List.forall_mem_cons.mpr ⟨List.mem_of_getElem? cw_126, List.forall_mem_cons.mpr ⟨List.mem_of_getElem? cw_127, List.forall_mem_cons.mpr ⟨List.mem_of_getElem? cw_128, List.forall_mem_cons.mpr ⟨List.mem_of_getElem? cw_129, List.forall_mem_cons.mpr ⟨List.mem_of_getElem? cw_130, List.forall_mem_cons.mpr ⟨List.mem_of_getElem? cw_131, List.forall_mem_cons.mpr ⟨List.mem_of_getElem? cw_132, List.forall_mem_cons.mpr ⟨List.mem_of_getElem? cw_133, List.forall_mem_cons.mpr ⟨List.mem_of_getElem? cw_134, List.forall_mem_cons.mpr ⟨List.mem_of_getElem? cw_135, List.forall_mem_cons.mpr ⟨List.mem_of_getElem? cw_136, List.forall_mem_cons.mpr ⟨List.mem_of_getElem? cw_137, List.forall_mem_cons.mpr ⟨List.mem_of_getElem? cw_138, List.forall_mem_cons.mpr ⟨List.mem_of_getElem? cw_139, List.forall_mem_cons.mpr ⟨List.mem_of_getElem? cw_140, List.forall_mem_cons.mpr ⟨List.mem_of_getElem? cw_141, List.forall_mem_cons.mpr ⟨List.mem_of_getElem? cw_142, List.forall_mem_cons.mpr ⟨List.mem_of_getElem? cw_143, List.forall_mem_cons.mpr ⟨List.mem_of_getElem? cw_144, List.forall_mem_cons.mpr ⟨List.mem_of_getElem? cw_145, List.forall_mem_cons.mpr ⟨List.mem_of_getElem? cw_146, List.forall_mem_cons.mpr ⟨List.mem_of_getElem? cw_147, List.forall_mem_cons.mpr ⟨List.mem_of_getElem? cw_148, List.forall_mem_cons.mpr ⟨List.mem_of_getElem? cw_149, List.forall_mem_cons.mpr ⟨List.mem_of_getElem? cw_150, List.forall_mem_cons.mpr ⟨List.mem_of_getElem? cw_151, List.forall_mem_cons.mpr ⟨List.mem_of_getElem? cw_152, List.forall_mem_cons.mpr ⟨List.mem_of_getElem? cw_153, List.forall_mem_cons.mpr ⟨List.mem_of_getElem? cw_154, List.forall_mem_cons.mpr ⟨List.mem_of_getElem? cw_155, List.forall_mem_cons.mpr ⟨List.mem_of_getElem? cw_156, List.forall_mem_cons.mpr ⟨List.mem_of_getElem? cw_157, List.forall_mem_cons.mpr ⟨List.mem_of_getElem? cw_158, List.forall_mem_cons.mpr ⟨List.mem_of_getElem? cw_159, List.forall_mem_cons.mpr ⟨List.mem_of_getElem? cw_160, List.forall_mem_cons.mpr ⟨List.mem_of_getElem? cw_161, List.forall_mem_cons.mpr ⟨List.mem_of_getElem? cw_162, List.forall_mem_cons.mpr ⟨List.mem_of_getElem? cw_163, List.forall_mem_cons.mpr ⟨List.mem_of_getElem? cw_164, List.forall_mem_cons.mpr ⟨List.mem_of_getElem? cw_165, List.forall_mem_cons.mpr ⟨List.mem_of_getElem? cw_166, List.forall_mem_cons.mpr ⟨List.mem_of_getElem? cw_167, List.forall_mem_cons.mpr ⟨List.mem_of_getElem? cw_168, List.forall_mem_cons.mpr ⟨List.mem_of_getElem? cw_169, List.forall_mem_cons.mpr ⟨List.mem_of_getElem? cw_170, List.forall_mem_cons.mpr ⟨List.mem_of_getElem? cw_171, List.forall_mem_cons.mpr ⟨List.mem_of_getElem? cw_172, List.forall_mem_cons.mpr ⟨List.mem_of_getElem? cw_173, List.forall_mem_cons.mpr ⟨List.mem_of_getElem? cw_174, List.forall_mem_cons.mpr ⟨List.mem_of_getElem? cw_175, List.forall_mem_cons.mpr ⟨List.mem_of_getElem? cw_176, List.forall_mem_cons.mpr ⟨List.mem_of_getElem? cw_177, List.forall_mem_cons.mpr ⟨List.mem_of_getElem? cw_178, List.forall_mem_cons.mpr ⟨List.mem_of_getElem? cw_179, List.forall_mem_cons.mpr ⟨List.mem_of_getElem? cw_180, List.forall_mem_cons.mpr ⟨List.mem_of_getElem? cw_181, List.forall_mem_cons.mpr ⟨List.mem_of_getElem? cw_182, List.forall_mem_cons.mpr ⟨List.mem_of_getElem? cw_183, List.forall_mem_cons.mpr ⟨List.mem_of_getElem? cw_184, List.forall_mem_cons.mpr ⟨List.mem_of_getElem? cw_185, List.forall_mem_cons.mpr ⟨List.mem_of_getElem? cw_186, List.forall_mem_cons.mpr ⟨List.mem_of_getElem? cw_187, List.forall_mem_cons.mpr ⟨List.mem_of_getElem? cw_188, List.forall_mem_cons.mpr ⟨List.mem_of_getElem? cw_189, List.forall_mem_cons.mpr ⟨List.mem_of_getElem? cw_190, List.forall_mem_cons.mpr ⟨List.mem_of_getElem? cw_191, List.forall_mem_cons.mpr ⟨List.mem_of_getElem? cw_192, List.forall_mem_cons.mpr ⟨List.mem_of_getElem? cw_193, List.forall_mem_cons.mpr ⟨List.mem_of_getElem? cw_194, List.forall_mem_cons.mpr ⟨List.mem_of_getElem? cw_195, List.forall_mem_cons.mpr ⟨List.mem_of_getElem? cw_196, fun _ h => absurd h List.not_mem_nil⟩⟩⟩⟩⟩⟩⟩⟩⟩⟩⟩⟩⟩⟩⟩⟩⟩⟩⟩⟩⟩⟩⟩⟩⟩⟩⟩⟩⟩⟩⟩⟩⟩⟩⟩⟩⟩⟩⟩⟩⟩⟩⟩⟩⟩⟩⟩⟩⟩⟩⟩⟩⟩⟩⟩⟩⟩⟩⟩⟩⟩⟩⟩⟩⟩⟩⟩⟩⟩⟩⟩⟩⟩⟩⟩⟩⟩⟩⟩⟩⟩⟩⟩⟩⟩⟩⟩⟩⟩⟩⟩⟩⟩⟩⟩⟩⟩⟩⟩⟩⟩⟩⟩⟩⟩⟩⟩⟩⟩⟩⟩⟩⟩⟩⟩⟩⟩⟩⟩⟩⟩⟩⟩⟩⟩⟩⟩⟩⟩⟩⟩⟩⟩⟩⟩⟩⟩⟩⟩⟩⟩⟩⟩⟩⟩⟩⟩⟩⟩⟩⟩⟩⟩⟩⟩⟩⟩⟩⟩⟩⟩⟩⟩⟩⟩⟩⟩⟩⟩⟩⟩⟩⟩⟩⟩⟩⟩⟩⟩⟩⟩⟩⟩⟩⟩⟩
theorem fm_mem {big : List Cond} {ps : List Nat} {w : Cond} (h : w ∈ ps.filterMap (fun i => big[i]?)) : w ∈ big := by obtain ⟨i, -, hi⟩ := List.mem_filterMap.mp h; exact List.mem_of_getElem? hi
theorem all_at {α : Type} {l : List α} {f : α → Bool} (h : l.all f = true) {a : α} (ha : a ∈ l) : f a = true := List.all_eq_true.mp h a ha
theorem lnk_mem {c i k z : Nat} (h : lnk c i = some (k, z)) : (c, i, k, z) ∈ lnks := by
  unfold lnk at h
  obtain ⟨e, he, h2⟩ := Option.map_eq_some_iff.mp h
  have h3 := List.find?_some he
  simp only [Bool.and_eq_true, beq_iff_eq] at h3
  obtain ⟨a, b, d⟩ := e
  obtain ⟨rfl, rfl⟩ := h3
  cases h2
  exact List.mem_of_find?_eq_some he
theorem fld_mem {c i k z : Nat} (h : fld c i = some (k, z)) : (c, i, k, z) ∈ flds := by
  unfold fld at h
  obtain ⟨e, he, h2⟩ := Option.map_eq_some_iff.mp h
  have h3 := List.find?_some he
  simp only [Bool.and_eq_true, beq_iff_eq] at h3
  obtain ⟨a, b, d⟩ := e
  obtain ⟨rfl, rfl⟩ := h3
  cases h2
  exact List.mem_of_find?_eq_some he
theorem cst_mem {c i : Nat} {v : Value} (h : cst c i = some v) : (c, i, v) ∈ csts := by
  unfold cst at h
  obtain ⟨e, he, h2⟩ := Option.map_eq_some_iff.mp h
  have h3 := List.find?_some he
  simp only [Bool.and_eq_true, beq_iff_eq] at h3
  obtain ⟨a, b, d⟩ := e
  obtain ⟨rfl, rfl⟩ := h3
  cases h2
  exact List.mem_of_find?_eq_some he
theorem fld_w {c i k j : Nat} (h : fld c i = some (k, j)) : fwd (c, i, k, j) ∈ lw_tbl := fm_mem (by rw [← flds_w]; exact List.mem_map_of_mem (fld_mem h))
theorem lnk_w {c i k z : Nat} (h : lnk c i = some (k, z)) : Cond.methodLink (cnm c) i (my z) ∈ lw_tbl := fm_mem (by rw [← lnks_w]; exact List.mem_map_of_mem (f := lwd) (lnk_mem h))
theorem lnk_v {c i z : Nat} (h : lnk c i = some (0, z)) : z ∈ vzs := by
  have := all_at lnks_k (lnk_mem h)
  simpa using this
theorem lnk_s {c i z : Nat} (h : lnk c i = some (1, z)) : z ∈ szs := by
  have := all_at lnks_k (lnk_mem h)
  simpa using this
theorem v_c {z : Nat} (h : z ∈ vzs) : z ∈ czs := by simpa using all_at cz_m (List.mem_append_left _ h)
theorem s_c {z : Nat} (h : z ∈ szs) : z ∈ czs := by simpa using all_at cz_m (List.mem_append_right _ h)
theorem v_i {z : Nat} (h : z ∈ vzs) : Cond.instanceMethod (my z) ∈ lw_tbl := fm_mem (by rw [← vz_i]; exact List.mem_map_of_mem h)
theorem v_s {z : Nat} (h : z ∈ vzs) : Cond.selects (cnm (mo z)) (my z) (my z) ∈ lw_tbl := fm_mem (by rw [← vz_s]; exact List.mem_map_of_mem h)
theorem s_s {z : Nat} (h : z ∈ szs) : Cond.static (my z) ∈ lw_tbl := fm_mem (by rw [← sz_s]; exact List.mem_map_of_mem h)
theorem c_cls {z : Nat} (h : z ∈ czs) : (my z).cls = cnm (mo z) := by simpa using all_at cz_f2 h
theorem c_ini {z : Nat} (h : z ∈ czs) : Cond.initialized (cnm (mo z)) ∈ lw_tbl := fm_mem (by rw [← cl_i]; exact List.mem_map_of_mem (by simpa using all_at cz_f1 h))
theorem c_pf {z : Nat} (h : z ∈ czs) : plainFor (my z) = true := all_at cz_f3 h
theorem c_mh {z : Nat} (h : z ∈ czs) : (my z).cls ≠ "java/lang/invoke/MethodHandle" ∧ (my z).cls ≠ "java/lang/invoke/VarHandle" := by
  have := all_at cz_f4 h
  rw [Bool.and_eq_true] at this
  exact ⟨of_decide_eq_true this.1, of_decide_eq_true this.2⟩
theorem c_na {z : Nat} (h : z ∈ czs) : (parseMethodDescriptor (my z).desc).map (fun d => d.parameters.length) = some (na z) := of_decide_eq_true (all_at cz_f5 h)
theorem cst_i : (csts.filter (fun e => isI e.2.2)).map (fun e => match e.2.2 with | .int v => Cond.constant (cnm e.1) e.2.1 v | _ => Cond.returned) = [634, 657, 97, 688, 926, 1138, 1133, 845, 846, 847].filterMap (fun i => lw_tbl[i]?) := by decide +kernel
theorem cst_l : (csts.filter (fun e => isL e.2.2)).map (fun e => match e.2.2 with | .long v => Cond.constantLong (cnm e.1) e.2.1 v | _ => Cond.returned) = [429, 1298, 1047, 1068, 1069, 1070, 1071, 1072, 1073, 1074, 1075, 1076, 1077, 1078, 1079, 1080].filterMap (fun i => lw_tbl[i]?) := by decide +kernel
theorem cst_iw {c i : Nat} {v : Int32} (h : cst c i = some (.int v)) : Cond.constant (cnm c) i v ∈ lw_tbl := fm_mem (by rw [← cst_i]; exact List.mem_map.mpr ⟨(c, i, .int v), List.mem_filter.mpr ⟨cst_mem h, rfl⟩, rfl⟩)
theorem cst_lw {c i : Nat} {v : Int64} (h : cst c i = some (.long v)) : Cond.constantLong (cnm c) i v ∈ lw_tbl := fm_mem (by rw [← cst_l]; exact List.mem_map.mpr ⟨(c, i, .long v), List.mem_filter.mpr ⟨cst_mem h, rfl⟩, rfl⟩)
def jst : List (Nat × String × Nat) := [(103, "street", 1000), (109, "behind", 1001), (111, "way", 1002), (113, "wall", 1003), (115, "deed", 1004), (117, "shop", 1005), (119, "tidy", 1006)]
theorem cst_r : csts.all (fun e => match e.2.2 with | .ref k => decide (e.1 = 3) && (jst.any (fun q => decide (q.1 = e.2.1) && decide (q.2.2 = k))) | _ => true) = true := by decide +kernel
def gtb : List Cond := lw_tbl.filter goodWord
theorem g_of {w : Cond} (h : w ∈ lw_tbl) (hg : goodWord w = true) : w ∈ gtb := List.mem_filter.mpr ⟨h, hg⟩
theorem gtb_good {w : Cond} (h : w ∈ gtb) : w ∈ lw_tbl ∧ goodWord w = true := List.mem_filter.mp h
theorem inX0 : ∀ w ∈ wsX00, w ∈ gtb := fun w h => g_of ((show ∀ w ∈ wsX00, w ∈ lw_tbl by decide +kernel) w h) ((show ∀ w ∈ wsX00, goodWord w = true by decide +kernel) w h)
theorem inX1 : ∀ w ∈ wsX10, w ∈ gtb := fun w h => g_of ((show ∀ w ∈ wsX10, w ∈ lw_tbl by decide +kernel) w h) ((show ∀ w ∈ wsX10, goodWord w = true by decide +kernel) w h)
theorem inX2 : ∀ w ∈ wsX20, w ∈ gtb := fun w h => g_of ((show ∀ w ∈ wsX20, w ∈ lw_tbl by decide +kernel) w h) ((show ∀ w ∈ wsX20, goodWord w = true by decide +kernel) w h)
theorem inX3 : ∀ w ∈ wsX30, w ∈ gtb := fun w h => g_of ((show ∀ w ∈ wsX30, w ∈ lw_tbl by decide +kernel) w h) ((show ∀ w ∈ wsX30, goodWord w = true by decide +kernel) w h)
theorem inX4 : ∀ w ∈ wsX40, w ∈ gtb := fun w h => g_of ((show ∀ w ∈ wsX40, w ∈ lw_tbl by decide +kernel) w h) ((show ∀ w ∈ wsX40, goodWord w = true by decide +kernel) w h)
theorem inX5 : ∀ w ∈ wsX50, w ∈ gtb := fun w h => g_of ((show ∀ w ∈ wsX50, w ∈ lw_tbl by decide +kernel) w h) ((show ∀ w ∈ wsX50, goodWord w = true by decide +kernel) w h)
theorem inX6 : ∀ w ∈ wsX60, w ∈ gtb := fun w h => g_of ((show ∀ w ∈ wsX60, w ∈ lw_tbl by decide +kernel) w h) ((show ∀ w ∈ wsX60, goodWord w = true by decide +kernel) w h)
theorem inX7 : ∀ w ∈ wsX70, w ∈ gtb := fun w h => g_of ((show ∀ w ∈ wsX70, w ∈ lw_tbl by decide +kernel) w h) ((show ∀ w ∈ wsX70, goodWord w = true by decide +kernel) w h)
theorem inX8 : ∀ w ∈ wsX80, w ∈ gtb := fun w h => g_of ((show ∀ w ∈ wsX80, w ∈ lw_tbl by decide +kernel) w h) ((show ∀ w ∈ wsX80, goodWord w = true by decide +kernel) w h)
theorem inX9 : ∀ w ∈ wsX90, w ∈ gtb := fun w h => g_of ((show ∀ w ∈ wsX90, w ∈ lw_tbl by decide +kernel) w h) ((show ∀ w ∈ wsX90, goodWord w = true by decide +kernel) w h)
theorem inX10 : ∀ w ∈ wsX100, w ∈ gtb := fun w h => g_of ((show ∀ w ∈ wsX100, w ∈ lw_tbl by decide +kernel) w h) ((show ∀ w ∈ wsX100, goodWord w = true by decide +kernel) w h)
end
section
/-! the small machine's memory as the machine's cells -/
def rv (ad : Nat → Nat) (fm : Value) (k : Nat) : Value := if k = 1200 then fm else .ref (ad k)
def tr (ad : Nat → Nat) (fm : Value) : Value → Value
  | .ref k => rv ad fm k
  | v => v
def slV (ad : Nat → Nat) (μ : mm) (k j : Nat) : Nat → Value
  | 0 => .int (μ.1 k j)
  | 1 => .long μ.2
  | r + 2 => .ref (ad r)
def slVs (ad : Nat → Nat) (μ : mm) (k : Nat) : Nat → List Nat → List Value
  | _, [] => []
  | j, x :: t => slV ad μ k j x :: slVs ad μ k (j + 1) t
def cE (cI cZ cG : ClassId) (ad : Nat → Nat) (μ : mm) (k : Nat) (c : Nat × Nat × List Nat) : va_E :=
  if c.1 = 100 then .inl (cI, c.2.1, .inl (μ.1 k)) else if c.1 = 101 then .inl (cZ, c.2.1, .inl (μ.1 k))
  else if c.1 = 102 then .inl (cG, c.2.1, .inr (.inr (.inr (.inr (fun j => (c.2.2[j]?).map ad))))) else .inr (c.1, slVs ad μ k 0 c.2.2)
def wl (cI cZ cG : ClassId) (ad : Nat → Nat) (μ : mm) : Nat → List (Nat × Nat × List Nat) → va_W
  | _, [] => []
  | k, c :: t => (ad k, cE cI cZ cG ad μ k c) :: wl cI cZ cG ad μ (k + 1) t
abbrev wd (sh : List (Nat × Nat × List Nat)) (cI cZ cG : ClassId) (ad : Nat → Nat) (μ : mm) : va_W := wl cI cZ cG ad μ 0 sh
theorem slVs_get (ad : Nat → Nat) (μ : mm) (k : Nat) : ∀ (l : List Nat) (j i : Nat), (slVs ad μ k j l)[i]? = (l[i]?).map (slV ad μ k (j + i))
  | [], j, i => by simp [slVs]
  | x :: t, j, 0 => by simp [slVs]
  | x :: t, j, i + 1 => by
    simp only [slVs, List.getElem?_cons_succ]
    rw [slVs_get ad μ k t (j + 1) i, show j + 1 + i = j + (i + 1) by omega]
theorem slVs_len (ad : Nat → Nat) (μ : mm) (k : Nat) : ∀ (l : List Nat) (j : Nat), (slVs ad μ k j l).length = l.length
  | [], j => rfl
  | x :: t, j => by simp [slVs, slVs_len ad μ k t (j + 1)]
theorem wl_get (cI cZ cG : ClassId) (ad : Nat → Nat) (μ : mm) : ∀ (l : List (Nat × Nat × List Nat)) (k i : Nat), (wl cI cZ cG ad μ k l)[i]? = (l[i]?).map (fun c => (ad (k + i), cE cI cZ cG ad μ (k + i) c))
  | [], k, i => by simp [wl]
  | x :: t, k, 0 => by simp [wl]
  | x :: t, k, i + 1 => by
    simp only [wl, List.getElem?_cons_succ]
    rw [wl_get cI cZ cG ad μ t (k + 1) i, show k + 1 + i = k + (i + 1) by omega]
theorem wd_get {sh : List (Nat × Nat × List Nat)} (cI cZ cG : ClassId) (ad : Nat → Nat) (μ : mm) {k : Nat} {c : Nat × Nat × List Nat} (h : sh[k]? = some c) : (wd sh cI cZ cG ad μ)[k]? = some (ad k, cE cI cZ cG ad μ k c) := by
  rw [wl_get, h]
  simp
theorem wd_inv {sh : List (Nat × Nat × List Nat)} {cI cZ cG : ClassId} {ad : Nat → Nat} {μ : mm} {k : Nat} {q : Nat × va_E} (h : (wd sh cI cZ cG ad μ)[k]? = some q) : ∃ c, sh[k]? = some c ∧ q = (ad k, cE cI cZ cG ad μ k c) := by
  rw [wl_get] at h
  obtain ⟨c, h1, h2⟩ := Option.map_eq_some_iff.mp h
  exact ⟨c, h1, by rw [← h2]; simp⟩
theorem wd_set {sh : List (Nat × Nat × List Nat)} {cI cZ cG : ClassId} {ad : Nat → Nat} {μ μ' : mm} {k : Nat} {c : Nat × Nat × List Nat} {e : va_E} (h : sh[k]? = some c) (he : cE cI cZ cG ad μ' k c = e) (ho : ∀ i d, sh[i]? = some d → i ≠ k → cE cI cZ cG ad μ' i d = cE cI cZ cG ad μ i d) :
    (wd sh cI cZ cG ad μ).set k (ad k, e) = wd sh cI cZ cG ad μ' := by
  apply List.ext_getElem?
  intro i
  by_cases hi : i = k
  · subst hi
    rw [List.getElem?_set_self (by have := wd_get cI cZ cG ad μ h; exact (List.getElem?_eq_some_iff.mp this).1), wd_get cI cZ cG ad μ' h, he]
  · rw [List.getElem?_set_ne (Ne.symm hi), wl_get, wl_get]
    cases hs : sh[i]? with
    | none => rfl
    | some d => simp [ho i d hs hi]
theorem slVs_mup (ad : Nat → Nat) (μ : mm) {k i : Nat} (j : Nat) (x : Int32) (h : i ≠ k) : ∀ (l : List Nat) (n : Nat), slVs ad (mup μ k j x) i n l = slVs ad μ i n l
  | [], n => rfl
  | 0 :: t, n => by simp only [slVs, slV, slVs_mup ad μ j x h t (n + 1)]; simp [mup, h]
  | 1 :: t, n => by simp only [slVs, slV, slVs_mup ad μ j x h t (n + 1)]; simp [mup]
  | (r + 2) :: t, n => by simp only [slVs, slV, slVs_mup ad μ j x h t (n + 1)]
theorem cE_mup (cI cZ cG : ClassId) (ad : Nat → Nat) (μ : mm) {k i : Nat} (j : Nat) (x : Int32) (h : i ≠ k) (c : Nat × Nat × List Nat) : cE cI cZ cG ad (mup μ k j x) i c = cE cI cZ cG ad μ i c := by
  have h1 : (mup μ k j x).1 i = μ.1 i := by simp [mup, h]
  unfold cE
  rw [h1, slVs_mup ad μ j x h]
theorem slVs_long (ad : Nat → Nat) (μ : mm) (x : Int64) (i : Nat) : ∀ (l : List Nat) (n : Nat), 1 ∉ l → slVs ad (μ.1, x) i n l = slVs ad μ i n l
  | [], n, _ => rfl
  | 0 :: t, n, h => by simp only [slVs, slV, slVs_long ad μ x i t (n + 1) (fun q => h (List.mem_cons_of_mem _ q))]
  | 1 :: t, n, h => absurd (List.mem_cons_self) h
  | (r + 2) :: t, n, h => by simp only [slVs, slV, slVs_long ad μ x i t (n + 1) (fun q => h (List.mem_cons_of_mem _ q))]
theorem cE_long (cI cZ cG : ClassId) (ad : Nat → Nat) (μ : mm) (x : Int64) (i : Nat) (c : Nat × Nat × List Nat) (h : 1 ∉ c.2.2) : cE cI cZ cG ad (μ.1, x) i c = cE cI cZ cG ad μ i c := by
  unfold cE
  rw [slVs_long ad μ x i _ _ h]
/-- only one cell holds the long, and only once -/
def lgs (sh : List (Nat × Nat × List Nat)) : List (Nat × Nat) := (List.range sh.length).flatMap (fun i => (List.range (sh.getD i (0, 0, [])).2.2.length).filterMap (fun j => if (sh.getD i (0, 0, [])).2.2[j]? = some 1 then some (i, j) else none))
def lgk (sh : List (Nat × Nat × List Nat)) : Bool := decide ((lgs sh).length ≤ 1)
theorem lgs_in {sh : List (Nat × Nat × List Nat)} {i j : Nat} {c : Nat × Nat × List Nat} (h : sh[i]? = some c) (hj : c.2.2[j]? = some 1) : (i, j) ∈ lgs sh := by
  have hg : sh.getD i (0, 0, []) = c := by rw [List.getD_eq_getElem?_getD, h]; rfl
  refine List.mem_flatMap.mpr ⟨i, List.mem_range.mpr (List.getElem?_eq_some_iff.mp h).1, List.mem_filterMap.mpr ⟨j, List.mem_range.mpr ?_, ?_⟩⟩
  · rw [hg]; exact (List.getElem?_eq_some_iff.mp hj).1
  · rw [hg, if_pos hj]
theorem lgk_one {sh : List (Nat × Nat × List Nat)} (hk : lgk sh = true) {i j i' j' : Nat} {c c' : Nat × Nat × List Nat} (h : sh[i]? = some c) (hj : c.2.2[j]? = some 1) (h' : sh[i']? = some c') (hj' : c'.2.2[j']? = some 1) : i = i' ∧ j = j' := by
  have a := lgs_in h hj
  have b := lgs_in h' hj'
  have hl : (lgs sh).length ≤ 1 := of_decide_eq_true hk
  match hq : lgs sh, a, b, hl with
  | [], a, b, hl => cases a
  | [x], a, b, hl =>
    have e1 := List.mem_singleton.mp a
    have e2 := List.mem_singleton.mp b
    rw [← e2] at e1
    cases e1
    exact ⟨rfl, rfl⟩
  | x :: x' :: t, a, b, hl => simp at hl
theorem slVs_set (ad : Nat → Nat) (μ : mm) (k : Nat) (x : Int32) : ∀ (l : List Nat) (n i : Nat), l[i]? = some 0 → (slVs ad μ k n l).set i (.int x) = slVs ad (mup μ k (n + i) x) k n l := by
  intro l n i h
  apply List.ext_getElem?
  intro a
  by_cases ha : a = i
  · subst ha
    rw [List.getElem?_set_self (by rw [slVs_len]; exact (List.getElem?_eq_some_iff.mp h).1), slVs_get, h]
    simp [slV, mup, upd]
  · rw [List.getElem?_set_ne (Ne.symm ha), slVs_get, slVs_get]
    cases hs : l[a]? with
    | none => rfl
    | some d =>
      match d with
      | 0 => simp [slV, mup, upd, ha]
      | 1 => simp [slV, mup]
      | r + 2 => rfl
theorem slVs_setL (ad : Nat → Nat) (μ : mm) (k : Nat) (x : Int64) (l : List Nat) (i : Nat) (h : l[i]? = some 1) (key : ∀ a, l[a]? = some 1 → a = i) : (slVs ad μ k 0 l).set i (.long x) = slVs ad (μ.1, x) k 0 l := by
  apply List.ext_getElem?
  intro a
  by_cases ha : a = i
  · subst ha
    rw [List.getElem?_set_self (by rw [slVs_len]; exact (List.getElem?_eq_some_iff.mp h).1), slVs_get, h]
    simp [slV]
  · rw [List.getElem?_set_ne (Ne.symm ha), slVs_get, slVs_get]
    cases hs : l[a]? with
    | none => rfl
    | some d =>
      match d with
      | 0 => rfl
      | 1 => exact absurd (key a hs) ha
      | r + 2 => rfl
/-! locals -/
def LV (ad : Nat → Nat) (fm : Value) (y : Nat) (ls : Array Slot) (lv : List (Option Value)) : Prop := ls.size = mL y ∧ lv_wf ls ∧ ∀ (i : Nat) (v : Value), lv[i]? = some (some v) → ls[i]? = some (Slot.val (tr ad fm v))
def asc (ad : Nat → Nat) (fm : Value) : Nat → List (Option Value) → List (Nat × Value)
  | _, [] => []
  | i, none :: t => asc ad fm (i + 1) t
  | i, some v :: t => (i, tr ad fm v) :: asc ad fm (i + 1) t
theorem asc_of (ad : Nat → Nat) (fm : Value) : ∀ (l : List (Option Value)) (i : Nat) (q : Nat × Value), q ∈ asc ad fm i l → ∃ j v, q = (i + j, tr ad fm v) ∧ l[j]? = some (some v)
  | [], i, q, h => absurd h List.not_mem_nil
  | none :: t, i, q, h => by
    obtain ⟨j, v, h1, h2⟩ := asc_of ad fm t (i + 1) q h
    exact ⟨j + 1, v, by rw [h1]; congr 1; omega, by simpa using h2⟩
  | some v :: t, i, q, h => by
    rcases List.mem_cons.mp h with h | h
    · exact ⟨0, v, h, rfl⟩
    · obtain ⟨j, v, h1, h2⟩ := asc_of ad fm t (i + 1) q h
      exact ⟨j + 1, v, by rw [h1]; congr 1; omega, by simpa using h2⟩
theorem asc_in (ad : Nat → Nat) (fm : Value) : ∀ (l : List (Option Value)) (i j : Nat) (v : Value), l[j]? = some (some v) → (i + j, tr ad fm v) ∈ asc ad fm i l
  | [], i, j, v, h => by simp at h
  | none :: t, i, 0, v, h => by simp at h
  | none :: t, i, j + 1, v, h => by
    have := asc_in ad fm t (i + 1) j v (by simpa using h)
    rw [show i + (j + 1) = i + 1 + j by omega]
    exact this
  | some w :: t, i, 0, v, h => by
    simp only [List.getElem?_cons_zero, Option.some.injEq] at h
    subst h
    exact List.mem_cons_self
  | some w :: t, i, j + 1, v, h => by
    have := asc_in ad fm t (i + 1) j v (by simpa using h)
    rw [show i + (j + 1) = i + 1 + j by omega]
    exact List.mem_cons_of_mem _ this
theorem LV.has {ad : Nat → Nat} {fm : Value} {y : Nat} {ls : Array Slot} {lv : List (Option Value)} (h : LV ad fm y ls lv) : lv_has ls (mL y) (asc ad fm 0 lv) := by
  refine ⟨h.1, h.2.1, fun q hq => ?_⟩
  obtain ⟨j, v, rfl, h2⟩ := asc_of ad fm lv 0 q hq
  simpa using h.2.2 j v h2
theorem sl_get : ∀ (i : Nat) (v : Option Value) (t : List (Option Value)) (j : Nat) (w : Value), (sl i v t)[j]? = some (some w) → (j = i ∧ v = some w) ∨ (j ≠ i ∧ t[j]? = some (some w))
  | 0, v, t, 0, w, h => by
    simp only [sl, List.getElem?_cons_zero, Option.some.injEq] at h
    exact Or.inl ⟨rfl, h⟩
  | 0, v, t, j + 1, w, h => by
    refine Or.inr ⟨by omega, ?_⟩
    simp only [sl, List.getElem?_cons_succ] at h
    cases t with
    | nil => simp at h
    | cons x t => simpa using h
  | n + 1, v, [], 0, w, h => by simp [sl] at h
  | n + 1, v, [], j + 1, w, h => by
    simp only [sl, List.getElem?_cons_succ] at h
    rcases sl_get n v [] j w h with ⟨h1, h2⟩ | ⟨h1, h2⟩
    · exact Or.inl ⟨by omega, h2⟩
    · simp at h2
  | n + 1, v, x :: t, 0, w, h => by
    refine Or.inr ⟨by omega, ?_⟩
    simpa [sl] using h
  | n + 1, v, x :: t, j + 1, w, h => by
    simp only [sl, List.getElem?_cons_succ] at h
    rcases sl_get n v t j w h with ⟨h1, h2⟩ | ⟨h1, h2⟩
    · exact Or.inl ⟨by omega, h2⟩
    · exact Or.inr ⟨by omega, by simpa using h2⟩
theorem tr_cat {ad : Nat → Nat} {fm : Value} (hf : fm.category = 1) (v : Value) : (tr ad fm v).category = v.category := by
  cases v <;> simp only [tr]
  unfold rv
  split
  · exact hf
  · rfl
theorem LV.sto {ad : Nat → Nat} {fm : Value} {y : Nat} {ls' : Array Slot} {lv : List (Option Value)} {i : Nat} {x : Int32} (hf : fm.category = 1) (hn : nolong i lv = true) (h : lv_has ls' (mL y) ((i, Value.int x) :: (asc ad fm 0 lv).filter (fun q => !(q.1 == i) && !(q.1 + 1 == i && q.2.category == 2)))) : LV ad fm y ls' (sl i (some (.int x)) lv) := by
  refine ⟨h.1, h.2.1, fun j v hj => ?_⟩
  rcases sl_get i _ lv j v hj with ⟨rfl, h2⟩ | ⟨h1, h2⟩
  · cases h2
    exact h.2.2 (j, .int x) List.mem_cons_self
  · refine h.2.2 (j, tr ad fm v) (List.mem_cons_of_mem _ (List.mem_filter.mpr ⟨by simpa using asc_in ad fm lv 0 j v h2, ?_⟩))
    simp only [Bool.and_eq_true, Bool.not_eq_true', beq_eq_false_iff_ne, ne_eq, Bool.and_eq_false_iff]
    refine ⟨h1, ?_⟩
    by_cases hji : j + 1 = i
    · right
      subst hji
      simp only [nolong, h2] at hn
      rw [tr_cat hf]
      cases v <;> simp_all [Value.category]
    · left; exact hji
end
section
/-! ONE STEP OF THE SMALL MACHINE IS ONE OF THE MACHINE (cases by wip/gen/gen_sim.py) -/
theorem ins_dec {y pc : Nat} {i : Instr} (h : ins y pc = some i) : ∃ n, decode (mb y) pc = .ok (i, n) ∧ n = ilen i n := by
  unfold ins at h
  split at h
  · split at h
    · rename_i h1 h2
      cases h
      exact ⟨_, h1, h2⟩
    · cases h
  · cases h
def Cx (p : Program) (s : State) (m : MethodId) (args : Array Value) (meth : Method) (c : Code) (R : Room) (y : Nat) : Prop :=
  p.tables.exec = Jvm.exec ∧ c.code = mb y ∧ c.maxLocals = mL y ∧ meth.sig.returnType = mr y ∧ meth.locks = false ∧ s.vm.findClass (cnm (mo y)) = some m.cls ∧ (∀ w ∈ gtb, w.before args s = true) ∧ mf y ≤ R.frames ∧ mlo y ≤ R.locals
abbrev fmD : String := "Ljava/util/function/BiFunction;"
def Ev (D : va_G) (cI cZ cG : ClassId) (ad : Nat → Nat) (fm : Value) (A : Nat → Prop) (s : State) : Prop :=
  va_K D vwCl [(cI, .int), (cZ, .boolean), (cG, .array .int)] s ∧ fm.category = 1 ∧ va_Z "java/lang/String" "COMPACT_STRINGS" "Z" (.int 1) A s s.heap ∧ va_Z "jdk/internal/util/Preconditions" "SIOOBE_FORMATTER" fmD fm A s s.heap ∧
  vk_S 7 jsl jsb (fun i => ad (1000 + i)) (fun i => ad (1100 + i)) A s s.heap ∧ ∀ q ∈ jst, vk_R RX3 q.1 q.2.1 (ad q.2.2) s
def Wo (sh : List (Nat × Nat × List Nat)) (D : va_G) (cI cZ cG : ClassId) (ad : Nat → Nat) (A : Nat → Prop) (s : State) (H : Heap) (locs : List Loc) (μ : mm) : Prop :=
  va_P D vwCl (wd sh cI cZ cG ad μ) H ∧ va_D A (wd sh cI cZ cG ad μ) ∧ va_S A s.heap H locs
def SC (ad : Nat → Nat) (A : Nat → Prop) (s : State) (μ : mm) : Prop := ∃ L, L < 2 ^ 31 ∧ va_X (ad 999) L (μ.1 999) s s.heap ∧ ad 999 < s.heap.size ∧ ¬ A (ad 999) ∧ μ.1 998 0 = Int32.ofNat L
def Kn (sh : List (Nat × Nat × List Nat)) (p : Program) (l : Launch) (e : Env) (R : Room) (s : State) (m : MethodId) (args : Array Value) (below : List Frame) (meth : Method) (c : Code) (cells slots : Nat) (Q : State → Prop) (D : va_G) (cI cZ cG : ClassId) (ad : Nat → Nat) (fm : Value) (A : Nat → Prop) (y : Nat) (t : mS) : Prop :=
  ∀ (ls' : Array Slot) (H' : Heap) (locs' : List Loc), LV ad fm y ls' t.2.1 → Wo sh D cI cZ cG ad A s H' locs' t.2.2.2 → W p l e R s m args below meth c H' locs' cells slots Q (F0 m t.1 ls' (t.2.2.1.map (tr ad fm)))
theorem jmp_inv {pc : Nat} {off : Int} {lv : List (Option Value)} {st : List Value} {μ : mm} {t : mS} (h : jmp pc off lv st μ = some (.inl t)) : ∃ tgt : Nat, (pc : Int) + off = (tgt : Int) ∧ t = (tgt, lv, st, μ) := by
  unfold jmp jck at h
  split at h
  · rename_i h1
    simp only [nx, Option.some.injEq, Sum.inl.injEq] at h
    exact ⟨_, h1.symm, h.symm⟩
  · cases h
theorem jck_inv {pc : Nat} {off : Int} {f : Nat → Option mR} {t : mR} (h : jck pc off f = some t) : ∃ tgt : Nat, (pc : Int) + off = (tgt : Int) ∧ f tgt = some t := by
  unfold jck at h
  split at h
  · rename_i h1
    exact ⟨_, h1.symm, h⟩
  · cases h
theorem jst_small : jst.all (fun q => decide (q.2.2 ≠ 1200)) = true := by decide +kernel
section SIM
variable {sh : List (Nat × Nat × List Nat)}
variable {p : Program} {l : Launch} {e : Env} {R : Room} {s : State} {m : MethodId} {args : Array Value} {below : List Frame} {meth : Method} {c : Code} {H : Heap} {locs : List Loc} {cells slots : Nat} {Q : State → Prop}
variable {D : va_G} {cI cZ cG : ClassId} {ad : Nat → Nat} {fm : Value} {A : Nat → Prop} {y pc : Nat} {lv : List (Option Value)} {st : List Value} {μ : mm} {ls : Array Slot} {t : mS}
theorem sm_iconst {n : Int} (C : Cx p s m args meth c R y) (E : Ev D cI cZ cG ad fm A s) (hX : mo y = 11 → SC ad A s μ) (hi : ins y pc = some (.iconst n)) (h : ex sh y pc lv st μ (.iconst n) = some (.inl t)) (hl : LV ad fm y ls lv) (hw : Wo sh D cI cZ cG ad A s H locs μ) (k : Kn sh p l e R s m args below meth c cells slots Q D cI cZ cG ad fm A y t) : W p l e R s m args below meth c H locs cells slots Q (F0 m pc ls (st.map (tr ad fm))) := by
  obtain ⟨n9, hd, hn⟩ := ins_dec hi
  cases (show n9 = 1 from hn)
  simp only [ex] at h
  simp only [nx, Option.some.injEq, Sum.inl.injEq] at h; subst h; exact lv_iconst C.1 C.2.1 hd rfl (k _ _ _ hl hw)
theorem sm_bipush {n : Int} (C : Cx p s m args meth c R y) (E : Ev D cI cZ cG ad fm A s) (hX : mo y = 11 → SC ad A s μ) (hi : ins y pc = some (.bipush n)) (h : ex sh y pc lv st μ (.bipush n) = some (.inl t)) (hl : LV ad fm y ls lv) (hw : Wo sh D cI cZ cG ad A s H locs μ) (k : Kn sh p l e R s m args below meth c cells slots Q D cI cZ cG ad fm A y t) : W p l e R s m args below meth c H locs cells slots Q (F0 m pc ls (st.map (tr ad fm))) := by
  obtain ⟨n9, hd, hn⟩ := ins_dec hi
  cases (show n9 = 2 from hn)
  simp only [ex] at h
  simp only [nx, Option.some.injEq, Sum.inl.injEq] at h; subst h; exact lv_bipush C.1 C.2.1 hd rfl (k _ _ _ hl hw)
theorem sm_sipush {n : Int} (C : Cx p s m args meth c R y) (E : Ev D cI cZ cG ad fm A s) (hX : mo y = 11 → SC ad A s μ) (hi : ins y pc = some (.sipush n)) (h : ex sh y pc lv st μ (.sipush n) = some (.inl t)) (hl : LV ad fm y ls lv) (hw : Wo sh D cI cZ cG ad A s H locs μ) (k : Kn sh p l e R s m args below meth c cells slots Q D cI cZ cG ad fm A y t) : W p l e R s m args below meth c H locs cells slots Q (F0 m pc ls (st.map (tr ad fm))) := by
  obtain ⟨n9, hd, hn⟩ := ins_dec hi
  cases (show n9 = 3 from hn)
  simp only [ex] at h
  simp only [nx, Option.some.injEq, Sum.inl.injEq] at h; subst h; exact lv_sipush C.1 C.2.1 hd rfl (k _ _ _ hl hw)
theorem sm_lconst {n : Fin 2} (C : Cx p s m args meth c R y) (E : Ev D cI cZ cG ad fm A s) (hX : mo y = 11 → SC ad A s μ) (hi : ins y pc = some (.lconst n)) (h : ex sh y pc lv st μ (.lconst n) = some (.inl t)) (hl : LV ad fm y ls lv) (hw : Wo sh D cI cZ cG ad A s H locs μ) (k : Kn sh p l e R s m args below meth c cells slots Q D cI cZ cG ad fm A y t) : W p l e R s m args below meth c H locs cells slots Q (F0 m pc ls (st.map (tr ad fm))) := by
  obtain ⟨n9, hd, hn⟩ := ins_dec hi
  cases (show n9 = 1 from hn)
  simp only [ex] at h
  simp only [nx, Option.some.injEq, Sum.inl.injEq] at h; subst h; exact lv_lconst C.1 C.2.1 hd rfl (k _ _ _ hl hw)
theorem sm_iadd  (C : Cx p s m args meth c R y) (E : Ev D cI cZ cG ad fm A s) (hX : mo y = 11 → SC ad A s μ) (hi : ins y pc = some (.iadd)) (h : ex sh y pc lv st μ (.iadd) = some (.inl t)) (hl : LV ad fm y ls lv) (hw : Wo sh D cI cZ cG ad A s H locs μ) (k : Kn sh p l e R s m args below meth c cells slots Q D cI cZ cG ad fm A y t) : W p l e R s m args below meth c H locs cells slots Q (F0 m pc ls (st.map (tr ad fm))) := by
  obtain ⟨n9, hd, hn⟩ := ins_dec hi
  cases (show n9 = 1 from hn)
  simp only [ex] at h
  split at h
  · simp only [nx, Option.some.injEq, Sum.inl.injEq] at h; subst h; exact lv_iadd C.1 C.2.1 hd (k _ _ _ hl hw)
  · cases h
theorem sm_isub  (C : Cx p s m args meth c R y) (E : Ev D cI cZ cG ad fm A s) (hX : mo y = 11 → SC ad A s μ) (hi : ins y pc = some (.isub)) (h : ex sh y pc lv st μ (.isub) = some (.inl t)) (hl : LV ad fm y ls lv) (hw : Wo sh D cI cZ cG ad A s H locs μ) (k : Kn sh p l e R s m args below meth c cells slots Q D cI cZ cG ad fm A y t) : W p l e R s m args below meth c H locs cells slots Q (F0 m pc ls (st.map (tr ad fm))) := by
  obtain ⟨n9, hd, hn⟩ := ins_dec hi
  cases (show n9 = 1 from hn)
  simp only [ex] at h
  split at h
  · simp only [nx, Option.some.injEq, Sum.inl.injEq] at h; subst h; exact lv_isub C.1 C.2.1 hd (k _ _ _ hl hw)
  · cases h
theorem sm_imul  (C : Cx p s m args meth c R y) (E : Ev D cI cZ cG ad fm A s) (hX : mo y = 11 → SC ad A s μ) (hi : ins y pc = some (.imul)) (h : ex sh y pc lv st μ (.imul) = some (.inl t)) (hl : LV ad fm y ls lv) (hw : Wo sh D cI cZ cG ad A s H locs μ) (k : Kn sh p l e R s m args below meth c cells slots Q D cI cZ cG ad fm A y t) : W p l e R s m args below meth c H locs cells slots Q (F0 m pc ls (st.map (tr ad fm))) := by
  obtain ⟨n9, hd, hn⟩ := ins_dec hi
  cases (show n9 = 1 from hn)
  simp only [ex] at h
  split at h
  · simp only [nx, Option.some.injEq, Sum.inl.injEq] at h; subst h; exact lv_imul C.1 C.2.1 hd (k _ _ _ hl hw)
  · cases h
theorem sm_iand  (C : Cx p s m args meth c R y) (E : Ev D cI cZ cG ad fm A s) (hX : mo y = 11 → SC ad A s μ) (hi : ins y pc = some (.iand)) (h : ex sh y pc lv st μ (.iand) = some (.inl t)) (hl : LV ad fm y ls lv) (hw : Wo sh D cI cZ cG ad A s H locs μ) (k : Kn sh p l e R s m args below meth c cells slots Q D cI cZ cG ad fm A y t) : W p l e R s m args below meth c H locs cells slots Q (F0 m pc ls (st.map (tr ad fm))) := by
  obtain ⟨n9, hd, hn⟩ := ins_dec hi
  cases (show n9 = 1 from hn)
  simp only [ex] at h
  split at h
  · simp only [nx, Option.some.injEq, Sum.inl.injEq] at h; subst h; exact lv_iand C.1 C.2.1 hd (k _ _ _ hl hw)
  · cases h
theorem sm_ior  (C : Cx p s m args meth c R y) (E : Ev D cI cZ cG ad fm A s) (hX : mo y = 11 → SC ad A s μ) (hi : ins y pc = some (.ior)) (h : ex sh y pc lv st μ (.ior) = some (.inl t)) (hl : LV ad fm y ls lv) (hw : Wo sh D cI cZ cG ad A s H locs μ) (k : Kn sh p l e R s m args below meth c cells slots Q D cI cZ cG ad fm A y t) : W p l e R s m args below meth c H locs cells slots Q (F0 m pc ls (st.map (tr ad fm))) := by
  obtain ⟨n9, hd, hn⟩ := ins_dec hi
  cases (show n9 = 1 from hn)
  simp only [ex] at h
  split at h
  · simp only [nx, Option.some.injEq, Sum.inl.injEq] at h; subst h; exact lv_ior C.1 C.2.1 hd (k _ _ _ hl hw)
  · cases h
theorem sm_ixor  (C : Cx p s m args meth c R y) (E : Ev D cI cZ cG ad fm A s) (hX : mo y = 11 → SC ad A s μ) (hi : ins y pc = some (.ixor)) (h : ex sh y pc lv st μ (.ixor) = some (.inl t)) (hl : LV ad fm y ls lv) (hw : Wo sh D cI cZ cG ad A s H locs μ) (k : Kn sh p l e R s m args below meth c cells slots Q D cI cZ cG ad fm A y t) : W p l e R s m args below meth c H locs cells slots Q (F0 m pc ls (st.map (tr ad fm))) := by
  obtain ⟨n9, hd, hn⟩ := ins_dec hi
  cases (show n9 = 1 from hn)
  simp only [ex] at h
  split at h
  · simp only [nx, Option.some.injEq, Sum.inl.injEq] at h; subst h; exact lv_ixor C.1 C.2.1 hd (k _ _ _ hl hw)
  · cases h
theorem sm_ishl  (C : Cx p s m args meth c R y) (E : Ev D cI cZ cG ad fm A s) (hX : mo y = 11 → SC ad A s μ) (hi : ins y pc = some (.ishl)) (h : ex sh y pc lv st μ (.ishl) = some (.inl t)) (hl : LV ad fm y ls lv) (hw : Wo sh D cI cZ cG ad A s H locs μ) (k : Kn sh p l e R s m args below meth c cells slots Q D cI cZ cG ad fm A y t) : W p l e R s m args below meth c H locs cells slots Q (F0 m pc ls (st.map (tr ad fm))) := by
  obtain ⟨n9, hd, hn⟩ := ins_dec hi
  cases (show n9 = 1 from hn)
  simp only [ex] at h
  split at h
  · simp only [nx, Option.some.injEq, Sum.inl.injEq] at h; subst h; exact lv_ishl C.1 C.2.1 hd (k _ _ _ hl hw)
  · cases h
theorem sm_ishr  (C : Cx p s m args meth c R y) (E : Ev D cI cZ cG ad fm A s) (hX : mo y = 11 → SC ad A s μ) (hi : ins y pc = some (.ishr)) (h : ex sh y pc lv st μ (.ishr) = some (.inl t)) (hl : LV ad fm y ls lv) (hw : Wo sh D cI cZ cG ad A s H locs μ) (k : Kn sh p l e R s m args below meth c cells slots Q D cI cZ cG ad fm A y t) : W p l e R s m args below meth c H locs cells slots Q (F0 m pc ls (st.map (tr ad fm))) := by
  obtain ⟨n9, hd, hn⟩ := ins_dec hi
  cases (show n9 = 1 from hn)
  simp only [ex] at h
  split at h
  · simp only [nx, Option.some.injEq, Sum.inl.injEq] at h; subst h; exact lv_ishr C.1 C.2.1 hd (k _ _ _ hl hw)
  · cases h
theorem sm_ladd  (C : Cx p s m args meth c R y) (E : Ev D cI cZ cG ad fm A s) (hX : mo y = 11 → SC ad A s μ) (hi : ins y pc = some (.ladd)) (h : ex sh y pc lv st μ (.ladd) = some (.inl t)) (hl : LV ad fm y ls lv) (hw : Wo sh D cI cZ cG ad A s H locs μ) (k : Kn sh p l e R s m args below meth c cells slots Q D cI cZ cG ad fm A y t) : W p l e R s m args below meth c H locs cells slots Q (F0 m pc ls (st.map (tr ad fm))) := by
  obtain ⟨n9, hd, hn⟩ := ins_dec hi
  cases (show n9 = 1 from hn)
  simp only [ex] at h
  split at h
  · simp only [nx, Option.some.injEq, Sum.inl.injEq] at h; subst h; exact lv_ladd C.1 C.2.1 hd (k _ _ _ hl hw)
  · cases h
theorem sm_lsub  (C : Cx p s m args meth c R y) (E : Ev D cI cZ cG ad fm A s) (hX : mo y = 11 → SC ad A s μ) (hi : ins y pc = some (.lsub)) (h : ex sh y pc lv st μ (.lsub) = some (.inl t)) (hl : LV ad fm y ls lv) (hw : Wo sh D cI cZ cG ad A s H locs μ) (k : Kn sh p l e R s m args below meth c cells slots Q D cI cZ cG ad fm A y t) : W p l e R s m args below meth c H locs cells slots Q (F0 m pc ls (st.map (tr ad fm))) := by
  obtain ⟨n9, hd, hn⟩ := ins_dec hi
  cases (show n9 = 1 from hn)
  simp only [ex] at h
  split at h
  · simp only [nx, Option.some.injEq, Sum.inl.injEq] at h; subst h; exact lv_lsub C.1 C.2.1 hd (k _ _ _ hl hw)
  · cases h
theorem sm_lmul  (C : Cx p s m args meth c R y) (E : Ev D cI cZ cG ad fm A s) (hX : mo y = 11 → SC ad A s μ) (hi : ins y pc = some (.lmul)) (h : ex sh y pc lv st μ (.lmul) = some (.inl t)) (hl : LV ad fm y ls lv) (hw : Wo sh D cI cZ cG ad A s H locs μ) (k : Kn sh p l e R s m args below meth c cells slots Q D cI cZ cG ad fm A y t) : W p l e R s m args below meth c H locs cells slots Q (F0 m pc ls (st.map (tr ad fm))) := by
  obtain ⟨n9, hd, hn⟩ := ins_dec hi
  cases (show n9 = 1 from hn)
  simp only [ex] at h
  split at h
  · simp only [nx, Option.some.injEq, Sum.inl.injEq] at h; subst h; exact lv_lmul C.1 C.2.1 hd (k _ _ _ hl hw)
  · cases h
theorem sm_land  (C : Cx p s m args meth c R y) (E : Ev D cI cZ cG ad fm A s) (hX : mo y = 11 → SC ad A s μ) (hi : ins y pc = some (.land)) (h : ex sh y pc lv st μ (.land) = some (.inl t)) (hl : LV ad fm y ls lv) (hw : Wo sh D cI cZ cG ad A s H locs μ) (k : Kn sh p l e R s m args below meth c cells slots Q D cI cZ cG ad fm A y t) : W p l e R s m args below meth c H locs cells slots Q (F0 m pc ls (st.map (tr ad fm))) := by
  obtain ⟨n9, hd, hn⟩ := ins_dec hi
  cases (show n9 = 1 from hn)
  simp only [ex] at h
  split at h
  · simp only [nx, Option.some.injEq, Sum.inl.injEq] at h; subst h; exact lv_land C.1 C.2.1 hd (k _ _ _ hl hw)
  · cases h
theorem sm_lor  (C : Cx p s m args meth c R y) (E : Ev D cI cZ cG ad fm A s) (hX : mo y = 11 → SC ad A s μ) (hi : ins y pc = some (.lor)) (h : ex sh y pc lv st μ (.lor) = some (.inl t)) (hl : LV ad fm y ls lv) (hw : Wo sh D cI cZ cG ad A s H locs μ) (k : Kn sh p l e R s m args below meth c cells slots Q D cI cZ cG ad fm A y t) : W p l e R s m args below meth c H locs cells slots Q (F0 m pc ls (st.map (tr ad fm))) := by
  obtain ⟨n9, hd, hn⟩ := ins_dec hi
  cases (show n9 = 1 from hn)
  simp only [ex] at h
  split at h
  · simp only [nx, Option.some.injEq, Sum.inl.injEq] at h; subst h; exact lv_lor C.1 C.2.1 hd (k _ _ _ hl hw)
  · cases h
theorem sm_ineg  (C : Cx p s m args meth c R y) (E : Ev D cI cZ cG ad fm A s) (hX : mo y = 11 → SC ad A s μ) (hi : ins y pc = some (.ineg)) (h : ex sh y pc lv st μ (.ineg) = some (.inl t)) (hl : LV ad fm y ls lv) (hw : Wo sh D cI cZ cG ad A s H locs μ) (k : Kn sh p l e R s m args below meth c cells slots Q D cI cZ cG ad fm A y t) : W p l e R s m args below meth c H locs cells slots Q (F0 m pc ls (st.map (tr ad fm))) := by
  obtain ⟨n9, hd, hn⟩ := ins_dec hi
  cases (show n9 = 1 from hn)
  simp only [ex] at h
  split at h
  · simp only [nx, Option.some.injEq, Sum.inl.injEq] at h; subst h; exact lv_ineg C.1 C.2.1 hd (k _ _ _ hl hw)
  · cases h
theorem sm_i2l  (C : Cx p s m args meth c R y) (E : Ev D cI cZ cG ad fm A s) (hX : mo y = 11 → SC ad A s μ) (hi : ins y pc = some (.i2l)) (h : ex sh y pc lv st μ (.i2l) = some (.inl t)) (hl : LV ad fm y ls lv) (hw : Wo sh D cI cZ cG ad A s H locs μ) (k : Kn sh p l e R s m args below meth c cells slots Q D cI cZ cG ad fm A y t) : W p l e R s m args below meth c H locs cells slots Q (F0 m pc ls (st.map (tr ad fm))) := by
  obtain ⟨n9, hd, hn⟩ := ins_dec hi
  cases (show n9 = 1 from hn)
  simp only [ex] at h
  split at h
  · simp only [nx, Option.some.injEq, Sum.inl.injEq] at h; subst h; exact lv_i2l C.1 C.2.1 hd rfl (k _ _ _ hl hw)
  · cases h
theorem sm_i2c  (C : Cx p s m args meth c R y) (E : Ev D cI cZ cG ad fm A s) (hX : mo y = 11 → SC ad A s μ) (hi : ins y pc = some (.i2c)) (h : ex sh y pc lv st μ (.i2c) = some (.inl t)) (hl : LV ad fm y ls lv) (hw : Wo sh D cI cZ cG ad A s H locs μ) (k : Kn sh p l e R s m args below meth c cells slots Q D cI cZ cG ad fm A y t) : W p l e R s m args below meth c H locs cells slots Q (F0 m pc ls (st.map (tr ad fm))) := by
  obtain ⟨n9, hd, hn⟩ := ins_dec hi
  cases (show n9 = 1 from hn)
  simp only [ex] at h
  split at h
  · simp only [nx, Option.some.injEq, Sum.inl.injEq] at h; subst h; exact lv_i2c C.1 C.2.1 hd rfl (k _ _ _ hl hw)
  · cases h
theorem sm_l2i  (C : Cx p s m args meth c R y) (E : Ev D cI cZ cG ad fm A s) (hX : mo y = 11 → SC ad A s μ) (hi : ins y pc = some (.l2i)) (h : ex sh y pc lv st μ (.l2i) = some (.inl t)) (hl : LV ad fm y ls lv) (hw : Wo sh D cI cZ cG ad A s H locs μ) (k : Kn sh p l e R s m args below meth c cells slots Q D cI cZ cG ad fm A y t) : W p l e R s m args below meth c H locs cells slots Q (F0 m pc ls (st.map (tr ad fm))) := by
  obtain ⟨n9, hd, hn⟩ := ins_dec hi
  cases (show n9 = 1 from hn)
  simp only [ex] at h
  split at h
  · simp only [nx, Option.some.injEq, Sum.inl.injEq] at h; subst h; exact lv_l2i C.1 C.2.1 hd rfl (k _ _ _ hl hw)
  · cases h
theorem sm_iushr  (C : Cx p s m args meth c R y) (E : Ev D cI cZ cG ad fm A s) (hX : mo y = 11 → SC ad A s μ) (hi : ins y pc = some (.iushr)) (h : ex sh y pc lv st μ (.iushr) = some (.inl t)) (hl : LV ad fm y ls lv) (hw : Wo sh D cI cZ cG ad A s H locs μ) (k : Kn sh p l e R s m args below meth c cells slots Q D cI cZ cG ad fm A y t) : W p l e R s m args below meth c H locs cells slots Q (F0 m pc ls (st.map (tr ad fm))) := by
  obtain ⟨n9, hd, hn⟩ := ins_dec hi
  cases (show n9 = 1 from hn)
  simp only [ex] at h
  split at h
  · simp only [nx, Option.some.injEq, Sum.inl.injEq] at h; subst h; exact lv_iushr C.1 C.2.1 hd rfl (k _ _ _ hl hw)
  · cases h
theorem sm_lshl  (C : Cx p s m args meth c R y) (E : Ev D cI cZ cG ad fm A s) (hX : mo y = 11 → SC ad A s μ) (hi : ins y pc = some (.lshl)) (h : ex sh y pc lv st μ (.lshl) = some (.inl t)) (hl : LV ad fm y ls lv) (hw : Wo sh D cI cZ cG ad A s H locs μ) (k : Kn sh p l e R s m args below meth c cells slots Q D cI cZ cG ad fm A y t) : W p l e R s m args below meth c H locs cells slots Q (F0 m pc ls (st.map (tr ad fm))) := by
  obtain ⟨n9, hd, hn⟩ := ins_dec hi
  cases (show n9 = 1 from hn)
  simp only [ex] at h
  split at h
  · simp only [nx, Option.some.injEq, Sum.inl.injEq] at h; subst h; exact lv_lshl C.1 C.2.1 hd rfl (k _ _ _ hl hw)
  · cases h
theorem sm_lshr  (C : Cx p s m args meth c R y) (E : Ev D cI cZ cG ad fm A s) (hX : mo y = 11 → SC ad A s μ) (hi : ins y pc = some (.lshr)) (h : ex sh y pc lv st μ (.lshr) = some (.inl t)) (hl : LV ad fm y ls lv) (hw : Wo sh D cI cZ cG ad A s H locs μ) (k : Kn sh p l e R s m args below meth c cells slots Q D cI cZ cG ad fm A y t) : W p l e R s m args below meth c H locs cells slots Q (F0 m pc ls (st.map (tr ad fm))) := by
  obtain ⟨n9, hd, hn⟩ := ins_dec hi
  cases (show n9 = 1 from hn)
  simp only [ex] at h
  split at h
  · simp only [nx, Option.some.injEq, Sum.inl.injEq] at h; subst h; exact lv_lshr C.1 C.2.1 hd rfl (k _ _ _ hl hw)
  · cases h
theorem sm_idiv  (C : Cx p s m args meth c R y) (E : Ev D cI cZ cG ad fm A s) (hX : mo y = 11 → SC ad A s μ) (hi : ins y pc = some (.idiv)) (h : ex sh y pc lv st μ (.idiv) = some (.inl t)) (hl : LV ad fm y ls lv) (hw : Wo sh D cI cZ cG ad A s H locs μ) (k : Kn sh p l e R s m args below meth c cells slots Q D cI cZ cG ad fm A y t) : W p l e R s m args below meth c H locs cells slots Q (F0 m pc ls (st.map (tr ad fm))) := by
  obtain ⟨n9, hd, hn⟩ := ins_dec hi
  cases (show n9 = 1 from hn)
  simp only [ex] at h
  split at h
  · split at h
    · cases h
    · rename_i hne; simp only [nx, Option.some.injEq, Sum.inl.injEq] at h; subst h; exact lv_idiv C.1 C.2.1 hd hne (k _ _ _ hl hw)
  · cases h
theorem sm_irem  (C : Cx p s m args meth c R y) (E : Ev D cI cZ cG ad fm A s) (hX : mo y = 11 → SC ad A s μ) (hi : ins y pc = some (.irem)) (h : ex sh y pc lv st μ (.irem) = some (.inl t)) (hl : LV ad fm y ls lv) (hw : Wo sh D cI cZ cG ad A s H locs μ) (k : Kn sh p l e R s m args below meth c cells slots Q D cI cZ cG ad fm A y t) : W p l e R s m args below meth c H locs cells slots Q (F0 m pc ls (st.map (tr ad fm))) := by
  obtain ⟨n9, hd, hn⟩ := ins_dec hi
  cases (show n9 = 1 from hn)
  simp only [ex] at h
  split at h
  · split at h
    · cases h
    · rename_i hne; simp only [nx, Option.some.injEq, Sum.inl.injEq] at h; subst h; exact lv_irem C.1 C.2.1 hd hne (k _ _ _ hl hw)
  · cases h
theorem sm_lcmp  (C : Cx p s m args meth c R y) (E : Ev D cI cZ cG ad fm A s) (hX : mo y = 11 → SC ad A s μ) (hi : ins y pc = some (.lcmp)) (h : ex sh y pc lv st μ (.lcmp) = some (.inl t)) (hl : LV ad fm y ls lv) (hw : Wo sh D cI cZ cG ad A s H locs μ) (k : Kn sh p l e R s m args below meth c cells slots Q D cI cZ cG ad fm A y t) : W p l e R s m args below meth c H locs cells slots Q (F0 m pc ls (st.map (tr ad fm))) := by
  obtain ⟨n9, hd, hn⟩ := ins_dec hi
  cases (show n9 = 1 from hn)
  simp only [ex] at h
  split at h
  · simp only [nx, Option.some.injEq, Sum.inl.injEq] at h; subst h; exact W.lcmp C.1 C.2.1 hd (k _ _ _ hl hw)
  · cases h
theorem sm_iload_n {n : Fin 4} (C : Cx p s m args meth c R y) (E : Ev D cI cZ cG ad fm A s) (hX : mo y = 11 → SC ad A s μ) (hi : ins y pc = some (.iload_n n)) (h : ex sh y pc lv st μ (.iload_n n) = some (.inl t)) (hl : LV ad fm y ls lv) (hw : Wo sh D cI cZ cG ad A s H locs μ) (k : Kn sh p l e R s m args below meth c cells slots Q D cI cZ cG ad fm A y t) : W p l e R s m args below meth c H locs cells slots Q (F0 m pc ls (st.map (tr ad fm))) := by
  obtain ⟨n9, hd, hn⟩ := ins_dec hi
  cases (show n9 = 1 from hn)
  simp only [ex] at h
  unfold lod at h
  split at h
  · rename_i v hv
    split at h
    · rename_i hk
      cases v <;> first | (cases hk; done) | skip
      simp only [nx, Option.some.injEq, Sum.inl.injEq] at h; subst h; exact lv_iload_n C.1 C.2.1 hd rfl (hl.2.2 _ _ hv) (k _ _ _ hl hw)
    · cases h
  · cases h
theorem sm_iload {n : Nat} (C : Cx p s m args meth c R y) (E : Ev D cI cZ cG ad fm A s) (hX : mo y = 11 → SC ad A s μ) (hi : ins y pc = some (.iload n)) (h : ex sh y pc lv st μ (.iload n) = some (.inl t)) (hl : LV ad fm y ls lv) (hw : Wo sh D cI cZ cG ad A s H locs μ) (k : Kn sh p l e R s m args below meth c cells slots Q D cI cZ cG ad fm A y t) : W p l e R s m args below meth c H locs cells slots Q (F0 m pc ls (st.map (tr ad fm))) := by
  obtain ⟨n9, hd, hn⟩ := ins_dec hi
  cases (show n9 = 2 from hn)
  simp only [ex] at h
  unfold lod at h
  split at h
  · rename_i v hv
    split at h
    · rename_i hk
      cases v <;> first | (cases hk; done) | skip
      simp only [nx, Option.some.injEq, Sum.inl.injEq] at h; subst h; exact lv_iload C.1 C.2.1 hd (hl.2.2 _ _ hv) (k _ _ _ hl hw)
    · cases h
  · cases h
theorem sm_lload_n {n : Fin 4} (C : Cx p s m args meth c R y) (E : Ev D cI cZ cG ad fm A s) (hX : mo y = 11 → SC ad A s μ) (hi : ins y pc = some (.lload_n n)) (h : ex sh y pc lv st μ (.lload_n n) = some (.inl t)) (hl : LV ad fm y ls lv) (hw : Wo sh D cI cZ cG ad A s H locs μ) (k : Kn sh p l e R s m args below meth c cells slots Q D cI cZ cG ad fm A y t) : W p l e R s m args below meth c H locs cells slots Q (F0 m pc ls (st.map (tr ad fm))) := by
  obtain ⟨n9, hd, hn⟩ := ins_dec hi
  cases (show n9 = 1 from hn)
  simp only [ex] at h
  unfold lod at h
  split at h
  · rename_i v hv
    split at h
    · rename_i hk
      cases v <;> first | (cases hk; done) | skip
      simp only [nx, Option.some.injEq, Sum.inl.injEq] at h; subst h; exact lv_lload_n C.1 C.2.1 hd rfl (hl.2.2 _ _ hv) (k _ _ _ hl hw)
    · cases h
  · cases h
theorem sm_aload_n {n : Fin 4} (C : Cx p s m args meth c R y) (E : Ev D cI cZ cG ad fm A s) (hX : mo y = 11 → SC ad A s μ) (hi : ins y pc = some (.aload_n n)) (h : ex sh y pc lv st μ (.aload_n n) = some (.inl t)) (hl : LV ad fm y ls lv) (hw : Wo sh D cI cZ cG ad A s H locs μ) (k : Kn sh p l e R s m args below meth c cells slots Q D cI cZ cG ad fm A y t) : W p l e R s m args below meth c H locs cells slots Q (F0 m pc ls (st.map (tr ad fm))) := by
  obtain ⟨n9, hd, hn⟩ := ins_dec hi
  cases (show n9 = 1 from hn)
  simp only [ex] at h
  unfold lod at h
  split at h
  · rename_i v hv
    split at h
    · rename_i hk
      cases v <;> first | (cases hk; done) | skip
      rename_i a
      have ha : ¬ a = 1200 := by simpa [isR] using hk
      simp only [nx, Option.some.injEq, Sum.inl.injEq] at h; subst h; have h1 := hl.2.2 _ _ hv
      have h2 : tr ad fm (.ref a) = .ref (ad a) := by simp [tr, rv, ha]
      have h3 := k _ _ _ hl hw
      rw [h2] at h1
      simp only [List.map_cons, h2] at h3
      exact lv_aload_n C.1 C.2.1 hd rfl h1 h3
    · cases h
  · cases h
theorem sm_istore_n {n : Fin 4} (C : Cx p s m args meth c R y) (E : Ev D cI cZ cG ad fm A s) (hX : mo y = 11 → SC ad A s μ) (hi : ins y pc = some (.istore_n n)) (h : ex sh y pc lv st μ (.istore_n n) = some (.inl t)) (hl : LV ad fm y ls lv) (hw : Wo sh D cI cZ cG ad A s H locs μ) (k : Kn sh p l e R s m args below meth c cells slots Q D cI cZ cG ad fm A y t) : W p l e R s m args below meth c H locs cells slots Q (F0 m pc ls (st.map (tr ad fm))) := by
  obtain ⟨n9, hd, hn⟩ := ins_dec hi
  cases (show n9 = 1 from hn)
  simp only [ex] at h
  unfold sto at h
  split at h
  · split at h
    · rename_i hc
      simp only [nx, Option.some.injEq, Sum.inl.injEq] at h; subst h; exact lv_istore_n C.1 C.2.1 hd rfl hl.has hc.1 rfl (fun ls2 h2 => k _ _ _ (LV.sto E.2.1 hc.2 h2) hw)
    · cases h
  · cases h
theorem sm_istore {n : Nat} (C : Cx p s m args meth c R y) (E : Ev D cI cZ cG ad fm A s) (hX : mo y = 11 → SC ad A s μ) (hi : ins y pc = some (.istore n)) (h : ex sh y pc lv st μ (.istore n) = some (.inl t)) (hl : LV ad fm y ls lv) (hw : Wo sh D cI cZ cG ad A s H locs μ) (k : Kn sh p l e R s m args below meth c cells slots Q D cI cZ cG ad fm A y t) : W p l e R s m args below meth c H locs cells slots Q (F0 m pc ls (st.map (tr ad fm))) := by
  obtain ⟨n9, hd, hn⟩ := ins_dec hi
  cases (show n9 = 2 from hn)
  simp only [ex] at h
  unfold sto at h
  split at h
  · split at h
    · rename_i hc
      simp only [nx, Option.some.injEq, Sum.inl.injEq] at h; subst h; exact lv_istore C.1 C.2.1 hd hl.has hc.1 rfl (fun ls2 h2 => k _ _ _ (LV.sto E.2.1 hc.2 h2) hw)
    · cases h
  · cases h
theorem sm_iinc {i : Nat} {n : Int} (C : Cx p s m args meth c R y) (E : Ev D cI cZ cG ad fm A s) (hX : mo y = 11 → SC ad A s μ) (hi : ins y pc = some (.iinc i n)) (h : ex sh y pc lv st μ (.iinc i n) = some (.inl t)) (hl : LV ad fm y ls lv) (hw : Wo sh D cI cZ cG ad A s H locs μ) (k : Kn sh p l e R s m args below meth c cells slots Q D cI cZ cG ad fm A y t) : W p l e R s m args below meth c H locs cells slots Q (F0 m pc ls (st.map (tr ad fm))) := by
  obtain ⟨n9, hd, hn⟩ := ins_dec hi
  cases (show n9 = 3 from hn)
  simp only [ex] at h
  split at h
  · rename_i x hx
    split at h
    · rename_i hc
      simp only [nx, Option.some.injEq, Sum.inl.injEq] at h; subst h; obtain ⟨k0, hk0⟩ := List.getElem?_of_mem (asc_in ad fm lv 0 i _ hx)
      rw [Nat.zero_add] at hk0
      exact lv_iinc C.1 C.2.1 hd hl.has hk0 rfl hc.1 rfl (fun ls2 h2 => k _ _ _ (LV.sto E.2.1 hc.2 h2) hw)
    · cases h
  · cases h
theorem sm_dup  (C : Cx p s m args meth c R y) (E : Ev D cI cZ cG ad fm A s) (hX : mo y = 11 → SC ad A s μ) (hi : ins y pc = some (.dup)) (h : ex sh y pc lv st μ (.dup) = some (.inl t)) (hl : LV ad fm y ls lv) (hw : Wo sh D cI cZ cG ad A s H locs μ) (k : Kn sh p l e R s m args below meth c cells slots Q D cI cZ cG ad fm A y t) : W p l e R s m args below meth c H locs cells slots Q (F0 m pc ls (st.map (tr ad fm))) := by
  obtain ⟨n9, hd, hn⟩ := ins_dec hi
  cases (show n9 = 1 from hn)
  simp only [ex] at h
  split at h
  · simp only [nx, Option.some.injEq, Sum.inl.injEq] at h; subst h; exact lv_dup C.1 C.2.1 hd rfl (k _ _ _ hl hw)
  · simp only [nx, Option.some.injEq, Sum.inl.injEq] at h; subst h; exact lv_dup C.1 C.2.1 hd ((tr_cat E.2.1 _).trans rfl) (k _ _ _ hl hw)
  · cases h
theorem sm_pop  (C : Cx p s m args meth c R y) (E : Ev D cI cZ cG ad fm A s) (hX : mo y = 11 → SC ad A s μ) (hi : ins y pc = some (.pop)) (h : ex sh y pc lv st μ (.pop) = some (.inl t)) (hl : LV ad fm y ls lv) (hw : Wo sh D cI cZ cG ad A s H locs μ) (k : Kn sh p l e R s m args below meth c cells slots Q D cI cZ cG ad fm A y t) : W p l e R s m args below meth c H locs cells slots Q (F0 m pc ls (st.map (tr ad fm))) := by
  obtain ⟨n9, hd, hn⟩ := ins_dec hi
  cases (show n9 = 1 from hn)
  simp only [ex] at h
  split at h
  · simp only [nx, Option.some.injEq, Sum.inl.injEq] at h; subst h; exact lv_pop C.1 C.2.1 hd rfl (k _ _ _ hl hw)
  · cases h
theorem sm_goto {off : Int} (C : Cx p s m args meth c R y) (E : Ev D cI cZ cG ad fm A s) (hX : mo y = 11 → SC ad A s μ) (hi : ins y pc = some (.goto off)) (h : ex sh y pc lv st μ (.goto off) = some (.inl t)) (hl : LV ad fm y ls lv) (hw : Wo sh D cI cZ cG ad A s H locs μ) (k : Kn sh p l e R s m args below meth c cells slots Q D cI cZ cG ad fm A y t) : W p l e R s m args below meth c H locs cells slots Q (F0 m pc ls (st.map (tr ad fm))) := by
  obtain ⟨n9, hd, hn⟩ := ins_dec hi
  cases (show n9 = 3 from hn)
  simp only [ex] at h
  obtain ⟨tgt, ht, rfl⟩ := jmp_inv h
  exact lv_goto C.1 C.2.1 hd ht (k _ _ _ hl hw)
theorem sm_if_eq {off : Int} (C : Cx p s m args meth c R y) (E : Ev D cI cZ cG ad fm A s) (hX : mo y = 11 → SC ad A s μ) (hi : ins y pc = some (.ifCond .eq off)) (h : ex sh y pc lv st μ (.ifCond .eq off) = some (.inl t)) (hl : LV ad fm y ls lv) (hw : Wo sh D cI cZ cG ad A s H locs μ) (k : Kn sh p l e R s m args below meth c cells slots Q D cI cZ cG ad fm A y t) : W p l e R s m args below meth c H locs cells slots Q (F0 m pc ls (st.map (tr ad fm))) := by
  obtain ⟨n9, hd, hn⟩ := ins_dec hi
  cases (show n9 = 3 from hn)
  simp only [ex] at h
  split at h
  · obtain ⟨tgt, ht, h⟩ := jck_inv h
    split at h
    · rename_i hc; simp only [nx, Option.some.injEq, Sum.inl.injEq] at h; subst h; exact lv_if_eq C.1 C.2.1 hd ht (fun _ => k _ _ _ hl hw) (fun z => absurd hc z)
    · rename_i hc; simp only [nx, Option.some.injEq, Sum.inl.injEq] at h; subst h; exact lv_if_eq C.1 C.2.1 hd ht (fun z => absurd z hc) (fun _ => k _ _ _ hl hw)
  · cases h
theorem sm_icmp_eq {off : Int} (C : Cx p s m args meth c R y) (E : Ev D cI cZ cG ad fm A s) (hX : mo y = 11 → SC ad A s μ) (hi : ins y pc = some (.if_icmp .eq off)) (h : ex sh y pc lv st μ (.if_icmp .eq off) = some (.inl t)) (hl : LV ad fm y ls lv) (hw : Wo sh D cI cZ cG ad A s H locs μ) (k : Kn sh p l e R s m args below meth c cells slots Q D cI cZ cG ad fm A y t) : W p l e R s m args below meth c H locs cells slots Q (F0 m pc ls (st.map (tr ad fm))) := by
  obtain ⟨n9, hd, hn⟩ := ins_dec hi
  cases (show n9 = 3 from hn)
  simp only [ex] at h
  split at h
  · obtain ⟨tgt, ht, h⟩ := jck_inv h
    split at h
    · rename_i hc; simp only [nx, Option.some.injEq, Sum.inl.injEq] at h; subst h; exact lv_icmp_eq C.1 C.2.1 hd ht (fun _ => k _ _ _ hl hw) (fun z => absurd hc z)
    · rename_i hc; simp only [nx, Option.some.injEq, Sum.inl.injEq] at h; subst h; exact lv_icmp_eq C.1 C.2.1 hd ht (fun z => absurd z hc) (fun _ => k _ _ _ hl hw)
  · cases h
theorem sm_if_ne {off : Int} (C : Cx p s m args meth c R y) (E : Ev D cI cZ cG ad fm A s) (hX : mo y = 11 → SC ad A s μ) (hi : ins y pc = some (.ifCond .ne off)) (h : ex sh y pc lv st μ (.ifCond .ne off) = some (.inl t)) (hl : LV ad fm y ls lv) (hw : Wo sh D cI cZ cG ad A s H locs μ) (k : Kn sh p l e R s m args below meth c cells slots Q D cI cZ cG ad fm A y t) : W p l e R s m args below meth c H locs cells slots Q (F0 m pc ls (st.map (tr ad fm))) := by
  obtain ⟨n9, hd, hn⟩ := ins_dec hi
  cases (show n9 = 3 from hn)
  simp only [ex] at h
  split at h
  · obtain ⟨tgt, ht, h⟩ := jck_inv h
    split at h
    · rename_i hc; simp only [nx, Option.some.injEq, Sum.inl.injEq] at h; subst h; exact lv_if_ne C.1 C.2.1 hd ht (fun z => absurd hc z) (fun _ => k _ _ _ hl hw)
    · rename_i hc; simp only [nx, Option.some.injEq, Sum.inl.injEq] at h; subst h; exact lv_if_ne C.1 C.2.1 hd ht (fun _ => k _ _ _ hl hw) (fun z => absurd z hc)
  · cases h
theorem sm_icmp_ne {off : Int} (C : Cx p s m args meth c R y) (E : Ev D cI cZ cG ad fm A s) (hX : mo y = 11 → SC ad A s μ) (hi : ins y pc = some (.if_icmp .ne off)) (h : ex sh y pc lv st μ (.if_icmp .ne off) = some (.inl t)) (hl : LV ad fm y ls lv) (hw : Wo sh D cI cZ cG ad A s H locs μ) (k : Kn sh p l e R s m args below meth c cells slots Q D cI cZ cG ad fm A y t) : W p l e R s m args below meth c H locs cells slots Q (F0 m pc ls (st.map (tr ad fm))) := by
  obtain ⟨n9, hd, hn⟩ := ins_dec hi
  cases (show n9 = 3 from hn)
  simp only [ex] at h
  split at h
  · obtain ⟨tgt, ht, h⟩ := jck_inv h
    split at h
    · rename_i hc; simp only [nx, Option.some.injEq, Sum.inl.injEq] at h; subst h; exact lv_icmp_ne C.1 C.2.1 hd ht (fun z => absurd hc z) (fun _ => k _ _ _ hl hw)
    · rename_i hc; simp only [nx, Option.some.injEq, Sum.inl.injEq] at h; subst h; exact lv_icmp_ne C.1 C.2.1 hd ht (fun _ => k _ _ _ hl hw) (fun z => absurd z hc)
  · cases h
theorem sm_if_lt {off : Int} (C : Cx p s m args meth c R y) (E : Ev D cI cZ cG ad fm A s) (hX : mo y = 11 → SC ad A s μ) (hi : ins y pc = some (.ifCond .lt off)) (h : ex sh y pc lv st μ (.ifCond .lt off) = some (.inl t)) (hl : LV ad fm y ls lv) (hw : Wo sh D cI cZ cG ad A s H locs μ) (k : Kn sh p l e R s m args below meth c cells slots Q D cI cZ cG ad fm A y t) : W p l e R s m args below meth c H locs cells slots Q (F0 m pc ls (st.map (tr ad fm))) := by
  obtain ⟨n9, hd, hn⟩ := ins_dec hi
  cases (show n9 = 3 from hn)
  simp only [ex] at h
  split at h
  · obtain ⟨tgt, ht, h⟩ := jck_inv h
    split at h
    · rename_i hc; simp only [nx, Option.some.injEq, Sum.inl.injEq] at h; subst h; exact lv_if_lt C.1 C.2.1 hd ht (fun _ => k _ _ _ hl hw) (fun z => absurd hc z)
    · rename_i hc; simp only [nx, Option.some.injEq, Sum.inl.injEq] at h; subst h; exact lv_if_lt C.1 C.2.1 hd ht (fun z => absurd z hc) (fun _ => k _ _ _ hl hw)
  · cases h
theorem sm_icmp_lt {off : Int} (C : Cx p s m args meth c R y) (E : Ev D cI cZ cG ad fm A s) (hX : mo y = 11 → SC ad A s μ) (hi : ins y pc = some (.if_icmp .lt off)) (h : ex sh y pc lv st μ (.if_icmp .lt off) = some (.inl t)) (hl : LV ad fm y ls lv) (hw : Wo sh D cI cZ cG ad A s H locs μ) (k : Kn sh p l e R s m args below meth c cells slots Q D cI cZ cG ad fm A y t) : W p l e R s m args below meth c H locs cells slots Q (F0 m pc ls (st.map (tr ad fm))) := by
  obtain ⟨n9, hd, hn⟩ := ins_dec hi
  cases (show n9 = 3 from hn)
  simp only [ex] at h
  split at h
  · obtain ⟨tgt, ht, h⟩ := jck_inv h
    split at h
    · rename_i hc; simp only [nx, Option.some.injEq, Sum.inl.injEq] at h; subst h; exact lv_icmp_lt C.1 C.2.1 hd ht (fun _ => k _ _ _ hl hw) (fun z => absurd hc z)
    · rename_i hc; simp only [nx, Option.some.injEq, Sum.inl.injEq] at h; subst h; exact lv_icmp_lt C.1 C.2.1 hd ht (fun z => absurd z hc) (fun _ => k _ _ _ hl hw)
  · cases h
theorem sm_if_ge {off : Int} (C : Cx p s m args meth c R y) (E : Ev D cI cZ cG ad fm A s) (hX : mo y = 11 → SC ad A s μ) (hi : ins y pc = some (.ifCond .ge off)) (h : ex sh y pc lv st μ (.ifCond .ge off) = some (.inl t)) (hl : LV ad fm y ls lv) (hw : Wo sh D cI cZ cG ad A s H locs μ) (k : Kn sh p l e R s m args below meth c cells slots Q D cI cZ cG ad fm A y t) : W p l e R s m args below meth c H locs cells slots Q (F0 m pc ls (st.map (tr ad fm))) := by
  obtain ⟨n9, hd, hn⟩ := ins_dec hi
  cases (show n9 = 3 from hn)
  simp only [ex] at h
  split at h
  · obtain ⟨tgt, ht, h⟩ := jck_inv h
    split at h
    · rename_i hc; simp only [nx, Option.some.injEq, Sum.inl.injEq] at h; subst h; exact lv_if_ge C.1 C.2.1 hd ht (fun _ => k _ _ _ hl hw) (fun z => absurd hc z)
    · rename_i hc; simp only [nx, Option.some.injEq, Sum.inl.injEq] at h; subst h; exact lv_if_ge C.1 C.2.1 hd ht (fun z => absurd z hc) (fun _ => k _ _ _ hl hw)
  · cases h
theorem sm_icmp_ge {off : Int} (C : Cx p s m args meth c R y) (E : Ev D cI cZ cG ad fm A s) (hX : mo y = 11 → SC ad A s μ) (hi : ins y pc = some (.if_icmp .ge off)) (h : ex sh y pc lv st μ (.if_icmp .ge off) = some (.inl t)) (hl : LV ad fm y ls lv) (hw : Wo sh D cI cZ cG ad A s H locs μ) (k : Kn sh p l e R s m args below meth c cells slots Q D cI cZ cG ad fm A y t) : W p l e R s m args below meth c H locs cells slots Q (F0 m pc ls (st.map (tr ad fm))) := by
  obtain ⟨n9, hd, hn⟩ := ins_dec hi
  cases (show n9 = 3 from hn)
  simp only [ex] at h
  split at h
  · obtain ⟨tgt, ht, h⟩ := jck_inv h
    split at h
    · rename_i hc; simp only [nx, Option.some.injEq, Sum.inl.injEq] at h; subst h; exact lv_icmp_ge C.1 C.2.1 hd ht (fun _ => k _ _ _ hl hw) (fun z => absurd hc z)
    · rename_i hc; simp only [nx, Option.some.injEq, Sum.inl.injEq] at h; subst h; exact lv_icmp_ge C.1 C.2.1 hd ht (fun z => absurd z hc) (fun _ => k _ _ _ hl hw)
  · cases h
theorem sm_if_gt {off : Int} (C : Cx p s m args meth c R y) (E : Ev D cI cZ cG ad fm A s) (hX : mo y = 11 → SC ad A s μ) (hi : ins y pc = some (.ifCond .gt off)) (h : ex sh y pc lv st μ (.ifCond .gt off) = some (.inl t)) (hl : LV ad fm y ls lv) (hw : Wo sh D cI cZ cG ad A s H locs μ) (k : Kn sh p l e R s m args below meth c cells slots Q D cI cZ cG ad fm A y t) : W p l e R s m args below meth c H locs cells slots Q (F0 m pc ls (st.map (tr ad fm))) := by
  obtain ⟨n9, hd, hn⟩ := ins_dec hi
  cases (show n9 = 3 from hn)
  simp only [ex] at h
  split at h
  · obtain ⟨tgt, ht, h⟩ := jck_inv h
    split at h
    · rename_i hc; simp only [nx, Option.some.injEq, Sum.inl.injEq] at h; subst h; exact lv_if_gt C.1 C.2.1 hd ht (fun _ => k _ _ _ hl hw) (fun z => absurd hc z)
    · rename_i hc; simp only [nx, Option.some.injEq, Sum.inl.injEq] at h; subst h; exact lv_if_gt C.1 C.2.1 hd ht (fun z => absurd z hc) (fun _ => k _ _ _ hl hw)
  · cases h
theorem sm_icmp_gt {off : Int} (C : Cx p s m args meth c R y) (E : Ev D cI cZ cG ad fm A s) (hX : mo y = 11 → SC ad A s μ) (hi : ins y pc = some (.if_icmp .gt off)) (h : ex sh y pc lv st μ (.if_icmp .gt off) = some (.inl t)) (hl : LV ad fm y ls lv) (hw : Wo sh D cI cZ cG ad A s H locs μ) (k : Kn sh p l e R s m args below meth c cells slots Q D cI cZ cG ad fm A y t) : W p l e R s m args below meth c H locs cells slots Q (F0 m pc ls (st.map (tr ad fm))) := by
  obtain ⟨n9, hd, hn⟩ := ins_dec hi
  cases (show n9 = 3 from hn)
  simp only [ex] at h
  split at h
  · obtain ⟨tgt, ht, h⟩ := jck_inv h
    split at h
    · rename_i hc; simp only [nx, Option.some.injEq, Sum.inl.injEq] at h; subst h; exact lv_icmp_gt C.1 C.2.1 hd ht (fun _ => k _ _ _ hl hw) (fun z => absurd hc z)
    · rename_i hc; simp only [nx, Option.some.injEq, Sum.inl.injEq] at h; subst h; exact lv_icmp_gt C.1 C.2.1 hd ht (fun z => absurd z hc) (fun _ => k _ _ _ hl hw)
  · cases h
theorem sm_if_le {off : Int} (C : Cx p s m args meth c R y) (E : Ev D cI cZ cG ad fm A s) (hX : mo y = 11 → SC ad A s μ) (hi : ins y pc = some (.ifCond .le off)) (h : ex sh y pc lv st μ (.ifCond .le off) = some (.inl t)) (hl : LV ad fm y ls lv) (hw : Wo sh D cI cZ cG ad A s H locs μ) (k : Kn sh p l e R s m args below meth c cells slots Q D cI cZ cG ad fm A y t) : W p l e R s m args below meth c H locs cells slots Q (F0 m pc ls (st.map (tr ad fm))) := by
  obtain ⟨n9, hd, hn⟩ := ins_dec hi
  cases (show n9 = 3 from hn)
  simp only [ex] at h
  split at h
  · obtain ⟨tgt, ht, h⟩ := jck_inv h
    split at h
    · rename_i hc; simp only [nx, Option.some.injEq, Sum.inl.injEq] at h; subst h; exact lv_if_le C.1 C.2.1 hd ht (fun _ => k _ _ _ hl hw) (fun z => absurd hc z)
    · rename_i hc; simp only [nx, Option.some.injEq, Sum.inl.injEq] at h; subst h; exact lv_if_le C.1 C.2.1 hd ht (fun z => absurd z hc) (fun _ => k _ _ _ hl hw)
  · cases h
theorem sm_icmp_le {off : Int} (C : Cx p s m args meth c R y) (E : Ev D cI cZ cG ad fm A s) (hX : mo y = 11 → SC ad A s μ) (hi : ins y pc = some (.if_icmp .le off)) (h : ex sh y pc lv st μ (.if_icmp .le off) = some (.inl t)) (hl : LV ad fm y ls lv) (hw : Wo sh D cI cZ cG ad A s H locs μ) (k : Kn sh p l e R s m args below meth c cells slots Q D cI cZ cG ad fm A y t) : W p l e R s m args below meth c H locs cells slots Q (F0 m pc ls (st.map (tr ad fm))) := by
  obtain ⟨n9, hd, hn⟩ := ins_dec hi
  cases (show n9 = 3 from hn)
  simp only [ex] at h
  split at h
  · obtain ⟨tgt, ht, h⟩ := jck_inv h
    split at h
    · rename_i hc; simp only [nx, Option.some.injEq, Sum.inl.injEq] at h; subst h; exact lv_icmp_le C.1 C.2.1 hd ht (fun _ => k _ _ _ hl hw) (fun z => absurd hc z)
    · rename_i hc; simp only [nx, Option.some.injEq, Sum.inl.injEq] at h; subst h; exact lv_icmp_le C.1 C.2.1 hd ht (fun z => absurd z hc) (fun _ => k _ _ _ hl hw)
  · cases h
theorem sm_tableswitch {d lo up : Int} {offs : Array Int} (C : Cx p s m args meth c R y) (E : Ev D cI cZ cG ad fm A s) (hX : mo y = 11 → SC ad A s μ) (hi : ins y pc = some (.tableswitch d lo up offs)) (h : ex sh y pc lv st μ (.tableswitch d lo up offs) = some (.inl t)) (hl : LV ad fm y ls lv) (hw : Wo sh D cI cZ cG ad A s H locs μ) (k : Kn sh p l e R s m args below meth c cells slots Q D cI cZ cG ad fm A y t) : W p l e R s m args below meth c H locs cells slots Q (F0 m pc ls (st.map (tr ad fm))) := by
  obtain ⟨n9, hd, hn⟩ := ins_dec hi
  simp only [ex] at h
  split at h
  · split at h
    · rename_i hc; obtain ⟨tgt, ht, rfl⟩ := jmp_inv h
      exact lv_tableOut C.1 C.2.1 hd hc ht (k _ _ _ hl hw)
    · rename_i hc
      split at h
      · rename_i off ho; obtain ⟨tgt, ht, rfl⟩ := jmp_inv h
        exact lv_tableIn C.1 C.2.1 hd (fun z => hc (Or.inl z)) (fun z => hc (Or.inr z)) ho ht (k _ _ _ hl hw)
      · cases h
  · cases h
theorem sm_lookupswitch {d : Int} {ps : Array (Int × Int)} (C : Cx p s m args meth c R y) (E : Ev D cI cZ cG ad fm A s) (hX : mo y = 11 → SC ad A s μ) (hi : ins y pc = some (.lookupswitch d ps)) (h : ex sh y pc lv st μ (.lookupswitch d ps) = some (.inl t)) (hl : LV ad fm y ls lv) (hw : Wo sh D cI cZ cG ad A s H locs μ) (k : Kn sh p l e R s m args below meth c cells slots Q D cI cZ cG ad fm A y t) : W p l e R s m args below meth c H locs cells slots Q (F0 m pc ls (st.map (tr ad fm))) := by
  obtain ⟨n9, hd, hn⟩ := ins_dec hi
  simp only [ex] at h
  split at h
  · split at h
    · rename_i hc; obtain ⟨tgt, ht, rfl⟩ := jmp_inv h
      exact lv_lookup C.1 C.2.1 hd hc rfl ht (k _ _ _ hl hw)
    · cases h
  · cases h
theorem sm_ldc2_w {i : Nat} (C : Cx p s m args meth c R y) (E : Ev D cI cZ cG ad fm A s) (hX : mo y = 11 → SC ad A s μ) (hi : ins y pc = some (.ldc2_w i)) (h : ex sh y pc lv st μ (.ldc2_w i) = some (.inl t)) (hl : LV ad fm y ls lv) (hw : Wo sh D cI cZ cG ad A s H locs μ) (k : Kn sh p l e R s m args below meth c cells slots Q D cI cZ cG ad fm A y t) : W p l e R s m args below meth c H locs cells slots Q (F0 m pc ls (st.map (tr ad fm))) := by
  obtain ⟨n9, hd, hn⟩ := ins_dec hi
  cases (show n9 = 3 from hn)
  simp only [ex] at h
  split at h
  · rename_i v hv; simp only [nx, Option.some.injEq, Sum.inl.injEq] at h; subst h; exact lv_ldc2 C.1 C.2.1 C.2.2.2.2.2.1 (C.2.2.2.2.2.2.1 _ (g_of (cst_lw hv) rfl)) hd (k _ _ _ hl hw)
  · cases h
theorem sm_ldc_w {i : Nat} (C : Cx p s m args meth c R y) (E : Ev D cI cZ cG ad fm A s) (hX : mo y = 11 → SC ad A s μ) (hi : ins y pc = some (.ldc_w i)) (h : ex sh y pc lv st μ (.ldc_w i) = some (.inl t)) (hl : LV ad fm y ls lv) (hw : Wo sh D cI cZ cG ad A s H locs μ) (k : Kn sh p l e R s m args below meth c cells slots Q D cI cZ cG ad fm A y t) : W p l e R s m args below meth c H locs cells slots Q (F0 m pc ls (st.map (tr ad fm))) := by
  obtain ⟨n9, hd, hn⟩ := ins_dec hi
  cases (show n9 = 3 from hn)
  simp only [ex] at h
  split at h
  · rename_i v hv; simp only [nx, Option.some.injEq, Sum.inl.injEq] at h; subst h; exact lv_ldcw C.1 C.2.1 C.2.2.2.2.2.1 (C.2.2.2.2.2.2.1 _ (g_of (cst_iw hv) rfl)) hd (k _ _ _ hl hw)
  · cases h
theorem sm_ldc {i : Nat} (C : Cx p s m args meth c R y) (E : Ev D cI cZ cG ad fm A s) (hX : mo y = 11 → SC ad A s μ) (hi : ins y pc = some (.ldc i)) (h : ex sh y pc lv st μ (.ldc i) = some (.inl t)) (hl : LV ad fm y ls lv) (hw : Wo sh D cI cZ cG ad A s H locs μ) (k : Kn sh p l e R s m args below meth c cells slots Q D cI cZ cG ad fm A y t) : W p l e R s m args below meth c H locs cells slots Q (F0 m pc ls (st.map (tr ad fm))) := by
  obtain ⟨n9, hd, hn⟩ := ins_dec hi
  cases (show n9 = 2 from hn)
  simp only [ex] at h
  split at h
  · rename_i v hv; simp only [nx, Option.some.injEq, Sum.inl.injEq] at h; subst h; exact lv_ldc C.1 C.2.1 C.2.2.2.2.2.1 (C.2.2.2.2.2.2.1 _ (g_of (cst_iw hv) rfl)) hd (k _ _ _ hl hw)
  · rename_i q hv; simp only [nx, Option.some.injEq, Sum.inl.injEq] at h; subst h; have h1 := all_at cst_r (cst_mem hv)
    simp only [Bool.and_eq_true, decide_eq_true_eq, List.any_eq_true] at h1
    obtain ⟨h1, z, hz, h2, h3⟩ := h1
    have h4 := E.2.2.2.2.2 z hz
    have hq : ¬ q = 1200 := by have := all_at jst_small hz; intro h9; rw [← h3] at h9; simp [h9] at this
    have h5 := k _ _ _ hl hw
    have h6 : tr ad fm (.ref q) = .ref (ad q) := by simp [tr, rv, hq]
    simp only [List.map_cons, h6] at h5
    rw [h2, h3] at h4
    have h7 := C.2.2.2.2.2.1
    rw [h1] at h7
    exact va_ldcS C.1 C.2.1 h7 h4 hd h5
  · cases h
end SIM
end
section
/-! memory: fields, arrays, statics -/
theorem vw_11 {ci : Nat} (h : ci < 11) : ∃ C T N, vwCl[ci]? = some (C, T, N) ∧ ((vwCl[ci]?).getD (RX0, TX0, 0)) = (C, T, N) ∧ (∀ w ∈ u_ws C T N, w ∈ gtb) ∧ (∃ ty0 : Nat → FieldType, ∀ k, k < N → parseFieldDescriptor (T k).2.2.1 = some (ty0 k)) ∧ ∀ a, a < N → ∀ b, b < N → a ≠ b → (T a).2.1 ≠ (T b).2.1 := by
  rcases (show ci = 0 ∨ ci = 1 ∨ ci = 2 ∨ ci = 3 ∨ ci = 4 ∨ ci = 5 ∨ ci = 6 ∨ ci = 7 ∨ ci = 8 ∨ ci = 9 ∨ ci = 10 by omega) with rfl | rfl | rfl | rfl | rfl | rfl | rfl | rfl | rfl | rfl | rfl
  · exact ⟨RX0, TX0, 7, rfl, rfl, inX0, ⟨tyX0, tyX0_ok⟩, nmX0⟩
  · exact ⟨RX1, TX1, 7, rfl, rfl, inX1, ⟨tyX1, tyX1_ok⟩, nmX1⟩
  · exact ⟨RX2, TX2, 9, rfl, rfl, inX2, ⟨tyX2, tyX2_ok⟩, nmX2⟩
  · exact ⟨RX3, TX3, 12, rfl, rfl, inX3, ⟨tyX3, tyX3_ok⟩, nmX3⟩
  · exact ⟨RX4, TX4, 11, rfl, rfl, inX4, ⟨tyX4, tyX4_ok⟩, nmX4⟩
  · exact ⟨RX5, TX5, 5, rfl, rfl, inX5, ⟨tyX5, tyX5_ok⟩, nmX5⟩
  · exact ⟨RX6, TX6, 2, rfl, rfl, inX6, ⟨tyX6, tyX6_ok⟩, nmX6⟩
  · exact ⟨RX7, TX7, 6, rfl, rfl, inX7, ⟨tyX7, tyX7_ok⟩, nmX7⟩
  · exact ⟨RX8, TX8, 4, rfl, rfl, inX8, ⟨tyX8, tyX8_ok⟩, nmX8⟩
  · exact ⟨RX9, TX9, 9, rfl, rfl, inX9, ⟨tyX9, tyX9_ok⟩, nmX9⟩
  · exact ⟨RX10, TX10, 37, rfl, rfl, inX10, ⟨tyX10, tyX10_ok⟩, nmX10⟩
/-- the slots of the cells are as many as the class has fields; ints stand where the field is an int that is no final, the long likewise -/
def shk (c : Nat × Nat × List Nat) : Bool := if c.1 < 11 then (match vwCl[c.1]? with
    | some q => decide (c.2.2.length = q.2.2) && (List.range q.2.2).all (fun j => match c.2.2[j]? with
      | some 0 => decide ((q.2.1 j).2.2.2 = false) && decide (parseFieldDescriptor (q.2.1 j).2.2.1 = some .int)
      | some 1 => decide ((q.2.1 j).2.2.2 = false) && decide (parseFieldDescriptor (q.2.1 j).2.2.1 = some .long)
      | _ => true)
    | none => false) else true
/-- a shape that will do -/
def okS (sh : List (Nat × Nat × List Nat)) : Bool := sh.all shk && (sh.all (fun c => c.2.2.all (fun r => decide (r < 998))) && (decide (sh.length ≤ 998) && lgk sh))
theorem okS_shk {sh : List (Nat × Nat × List Nat)} (h : okS sh = true) : sh.all shk = true := (Bool.and_eq_true _ _ ▸ h).1
theorem okS_small {sh : List (Nat × Nat × List Nat)} (h : okS sh = true) : sh.all (fun c => c.2.2.all (fun r => decide (r < 998))) = true := (Bool.and_eq_true _ _ ▸ (Bool.and_eq_true _ _ ▸ h).2).1
theorem okS_len {sh : List (Nat × Nat × List Nat)} (h : okS sh = true) : sh.length ≤ 998 := of_decide_eq_true (Bool.and_eq_true _ _ ▸ (Bool.and_eq_true _ _ ▸ (Bool.and_eq_true _ _ ▸ h).2).2).1
theorem okS_lg {sh : List (Nat × Nat × List Nat)} (h : okS sh = true) : lgk sh = true := (Bool.and_eq_true _ _ ▸ (Bool.and_eq_true _ _ ▸ (Bool.and_eq_true _ _ ▸ h).2).2).2
theorem shp_lt {sh : List (Nat × Nat × List Nat)} (hsh : okS sh = true) {k : Nat} {x : Nat × Nat × List Nat} (h : sh[k]? = some x) : k < 998 := Nat.lt_of_lt_of_le (List.getElem?_eq_some_iff.mp h).1 (okS_len hsh)
theorem shk_of {sh : List (Nat × Nat × List Nat)} (hsh : okS sh = true) {k : Nat} {c n : Nat} {sl0 : List Nat} (h : sh[k]? = some (c, n, sl0)) (hc : c < 11) {C : String} {T : u_T} {N : Nat} (hv : vwCl[c]? = some (C, T, N)) : sl0.length = N ∧ ∀ j, (sl0[j]? = some 0 → (T j).2.2.2 = false ∧ parseFieldDescriptor (T j).2.2.1 = some .int) ∧ (sl0[j]? = some 1 → (T j).2.2.2 = false ∧ parseFieldDescriptor (T j).2.2.1 = some .long) := by
  have h1 := all_at (okS_shk hsh) (List.mem_of_getElem? h)
  unfold shk at h1
  simp only [hc, if_true, hv, Bool.and_eq_true, decide_eq_true_eq] at h1
  refine ⟨h1.1, fun j => ?_⟩
  by_cases hj : j < N
  · have h2 := all_at h1.2 (List.mem_range.mpr hj)
    constructor
    · intro h3
      simpa [h3] using h2
    · intro h3
      simpa [h3] using h2
  · constructor <;> (intro h3; exact absurd (List.getElem?_eq_some_iff.mp h3).1 (by rw [h1.1]; exact hj))
theorem cE_obj {cI cZ cG : ClassId} {ad : Nat → Nat} {μ : mm} {k c n : Nat} {sl0 : List Nat} (hc : c < 11) : cE cI cZ cG ad μ k (c, n, sl0) = .inr (c, slVs ad μ k 0 sl0) := by
  unfold cE
  rw [if_neg (by show ¬ c = 100; omega), if_neg (by show ¬ c = 101; omega), if_neg (by show ¬ c = 102; omega)]
theorem str_v : Cond.fieldLink (cnm 20) 9 "java/lang/String" "value" "[B" ∈ lw_tbl := List.mem_of_getElem? (i := 1299) (by decide +kernel)
theorem str_c : Cond.fieldLink (cnm 20) 15 "java/lang/String" "coder" "B" ∈ lw_tbl := List.mem_of_getElem? (i := 1300) (by decide +kernel)
theorem str_s1 : Cond.fieldLink (cnm 20) 38 "java/lang/String" "COMPACT_STRINGS" "Z" ∈ lw_tbl := List.mem_of_getElem? (i := 485) (by decide +kernel)
theorem str_s2 : Cond.fieldLink (cnm 20) 1053 "jdk/internal/util/Preconditions" "SIOOBE_FORMATTER" "Ljava/util/function/BiFunction;" ∈ lw_tbl := List.mem_of_getElem? (i := 501) (by decide +kernel)
section SIM2
variable {sh : List (Nat × Nat × List Nat)}
variable {p : Program} {l : Launch} {e : Env} {R : Room} {s : State} {m : MethodId} {args : Array Value} {below : List Frame} {meth : Method} {c : Code} {H : Heap} {locs : List Loc} {cells slots : Nat} {Q : State → Prop}
variable {D : va_G} {cI cZ cG : ClassId} {ad : Nat → Nat} {fm : Value} {A : Nat → Prop} {y pc : Nat} {lv : List (Option Value)} {st : List Value} {μ : mm} {ls : Array Slot} {t : mS}
theorem tr_lt {k : Nat} (h : k < 1200) : tr ad fm (.ref k) = .ref (ad k) := by simp [tr, rv, show ¬ k = 1200 by omega]

theorem gfd_inv {i k : Nat} {v : Value} (hsh : okS sh = true) (h : gfd sh y i k μ = some v) : ∃ ci j n sl0, fld (mo y) i = some (ci, j) ∧ ci < 11 ∧ sh[k]? = some (ci, n, sl0) ∧ (slVs ad μ k 0 sl0)[j]? = some (tr ad fm v) ∧ j < sl0.length := by
  unfold gfd at h
  split at h
  · rename_i ci j hf
    split at h
    · rename_i c0 n sl0 hs
      split at h
      · rename_i hc
        obtain ⟨rfl, hc⟩ := hc
        refine ⟨_, j, n, sl0, hf, hc, hs, ?_⟩
        rw [slVs_get, Nat.zero_add]
        split at h
        · rename_i hj; cases h; rw [hj]; exact ⟨rfl, (List.getElem?_eq_some_iff.mp hj).1⟩
        · rename_i hj; cases h; rw [hj]; exact ⟨rfl, (List.getElem?_eq_some_iff.mp hj).1⟩
        · rename_i r hj
          cases h
          rw [hj]
          have h3 := all_at (okS_small hsh) (List.mem_of_getElem? hs)
          have h4 := all_at h3 (List.mem_of_getElem? hj)
          simp only [decide_eq_true_eq] at h4
          refine ⟨?_, (List.getElem?_eq_some_iff.mp hj).1⟩
          simp [slV, tr_lt (show r < 1200 by omega)]
        · cases h
      · cases h
    · cases h
  · cases h
theorem sm_getfield {i : Nat} (hsh : okS sh = true) (C : Cx p s m args meth c R y) (E : Ev D cI cZ cG ad fm A s) (hX : mo y = 11 → SC ad A s μ) (hi : ins y pc = some (.getfield i)) (h : ex sh y pc lv st μ (.getfield i) = some (.inl t)) (hl : LV ad fm y ls lv) (hw : Wo sh D cI cZ cG ad A s H locs μ) (k : Kn sh p l e R s m args below meth c cells slots Q D cI cZ cG ad fm A y t) : W p l e R s m args below meth c H locs cells slots Q (F0 m pc ls (st.map (tr ad fm))) := by
  obtain ⟨n9, hd, hn⟩ := ins_dec hi
  cases (show n9 = 3 from hn)
  simp only [ex] at h
  split at h
  · rename_i q r
    split at h
    · split at h
      · rename_i hq x9 v hv
        simp only [nx, Option.some.injEq, Sum.inl.injEq] at h; subst h
        obtain ⟨ci, j, n, sl0, h1, h2, h3, h4, h5⟩ := gfd_inv (ad := ad) (fm := fm) hsh hv
        obtain ⟨CC, T, N, v1, v2, v3, -, -⟩ := vw_11 h2
        have hN := (shk_of hsh h3 h2 v1).1
        have hlink := C.2.2.2.2.2.2.1 _ (g_of (fld_w h1) rfl)
        unfold fwd at hlink
        simp only [v2] at hlink
        have hgo := k _ _ _ hl hw
        have hwd := wd_get cI cZ cG ad μ h3
        rw [cE_obj h2] at hwd
        show W p l e R s m args below meth c H locs cells slots Q (F0 m pc ls (tr ad fm (.ref q) :: r.map (tr ad fm)))
        rw [tr_lt (Nat.lt_of_lt_of_le hq (by decide))]
        exact va_get (D := D) (ci := ci) (v := tr ad fm v) (C := CC) (T := T) (N := N) C.1 C.2.1 C.2.2.2.2.2.2.1 v3 C.2.2.2.2.2.1 E.1 hw.1 q hwd v1 j (by rw [← hN]; exact h5) hlink (fun _ h9 => h9) h4 hd hgo
      · cases h
    · rename_i hq
      split at h
      · rename_i v hv
        simp only [nx, Option.some.injEq, Sum.inl.injEq] at h; subst h
        have hgo := k _ _ _ hl hw
        unfold gst at hv
        split at hv
        · rename_i hm
          obtain ⟨k9, rfl⟩ : ∃ k9 : Nat, q = 1000 + k9 := ⟨q - 1000, (Nat.add_sub_cancel' (Nat.not_lt.mp hq)).symm⟩
          have hk9 : k9 < 7 := Nat.lt_of_add_lt_add_left (show 1000 + k9 < 1000 + 7 from hm.2)
          obtain ⟨-, e2, e3, -⟩ := E.2.2.2.2.1.1 k9 hk9
          have hown := C.2.2.2.2.2.1
          rw [hm.1] at hown
          show W p l e R s m args below meth c H locs cells slots Q (F0 m pc ls (tr ad fm (.ref (1000 + k9)) :: r.map (tr ad fm)))
          rw [tr_lt (show 1000 + k9 < 1200 by omega)]
          split at hv
          · rename_i hi9
            subst hi9
            cases hv
            have h7 : tr ad fm (.ref (1000 + k9 + 100)) = .ref (ad (1100 + k9)) := by rw [tr_lt (show 1000 + k9 + 100 < 1200 by omega), show 1000 + k9 + 100 = 1100 + k9 by omega]
            simp only [List.map_cons, h7] at hgo
            exact vk_getf C.1 C.2.1 e3 hw.2.2 hown (C.2.2.2.2.2.2.1 _ (g_of str_v rfl)) (fun _ h9 => h9) hd hgo
          · split at hv
            · rename_i hi9
              subst hi9
              cases hv
              exact vk_getf C.1 C.2.1 e2 hw.2.2 hown (C.2.2.2.2.2.2.1 _ (g_of str_c rfl)) (fun _ h9 => h9) hd hgo
            · cases hv
        · cases hv
      · cases h
  · cases h
theorem sm_getstatic {i : Nat} (hsh : okS sh = true) (C : Cx p s m args meth c R y) (E : Ev D cI cZ cG ad fm A s) (hX : mo y = 11 → SC ad A s μ) (hi : ins y pc = some (.getstatic i)) (h : ex sh y pc lv st μ (.getstatic i) = some (.inl t)) (hl : LV ad fm y ls lv) (hw : Wo sh D cI cZ cG ad A s H locs μ) (k : Kn sh p l e R s m args below meth c cells slots Q D cI cZ cG ad fm A y t) : W p l e R s m args below meth c H locs cells slots Q (F0 m pc ls (st.map (tr ad fm))) := by
  obtain ⟨n9, hd, hn⟩ := ins_dec hi
  cases (show n9 = 3 from hn)
  simp only [ex] at h
  split at h
  · rename_i hm
    obtain ⟨hm, rfl⟩ := hm
    have hown := C.2.2.2.2.2.1
    rw [hm] at hown
    simp only [nx, Option.some.injEq, Sum.inl.injEq] at h; subst h
    exact va_gets C.1 C.2.1 E.2.2.1 hw.2.2 hown (C.2.2.2.2.2.2.1 _ (g_of str_s1 rfl)) (fun _ h9 => h9) hd (k _ _ _ hl hw)
  · split at h
    · rename_i hm
      obtain ⟨hm, rfl⟩ := hm
      have hown := C.2.2.2.2.2.1
      rw [hm] at hown
      simp only [nx, Option.some.injEq, Sum.inl.injEq] at h; subst h
      have hgo := k _ _ _ hl hw
      have h7 : tr ad fm (.ref 1200) = fm := by simp [tr, rv]
      simp only [List.map_cons, h7] at hgo
      exact va_gets C.1 C.2.1 E.2.2.2.1 hw.2.2 hown (C.2.2.2.2.2.2.1 _ (g_of str_s2 rfl)) (fun _ h9 => h9) hd hgo
    · cases h
theorem sm_putfield {i : Nat} (hsh : okS sh = true) (C : Cx p s m args meth c R y) (E : Ev D cI cZ cG ad fm A s) (hX : mo y = 11 → SC ad A s μ) (hi : ins y pc = some (.putfield i)) (h : ex sh y pc lv st μ (.putfield i) = some (.inl t)) (hl : LV ad fm y ls lv) (hw : Wo sh D cI cZ cG ad A s H locs μ) (k : Kn sh p l e R s m args below meth c cells slots Q D cI cZ cG ad fm A y t) : W p l e R s m args below meth c H locs cells slots Q (F0 m pc ls (st.map (tr ad fm))) := by
  obtain ⟨n9, hd, hn⟩ := ins_dec hi
  cases (show n9 = 3 from hn)
  simp only [ex] at h
  split at h
  · rename_i x q r
    split at h
    · rename_i ci j hf
      split at h
      · rename_i c0 n sl0 hs
        split at h
        · rename_i hc
          obtain ⟨rfl, hc, hj⟩ := hc
          simp only [nx, Option.some.injEq, Sum.inl.injEq] at h; subst h
          obtain ⟨CC, T, N, v1, v2, v3, ⟨ty0, v4⟩, v5⟩ := vw_11 hc
          obtain ⟨hN, hT⟩ := shk_of hsh hs hc v1
          obtain ⟨t1, t2⟩ := (hT j).1 hj
          have hlink := C.2.2.2.2.2.2.1 _ (g_of (fld_w hf) rfl)
          unfold fwd at hlink
          simp only [v2] at hlink
          have hwd := wd_get cI cZ cG ad μ hs
          rw [cE_obj hc] at hwd
          have hjl : j < sl0.length := (List.getElem?_eq_some_iff.mp hj).1
          have hset : (wd sh cI cZ cG ad μ).set q (ad q, .inr (c0, (slVs ad μ q 0 sl0).set j (.int x))) = wd sh cI cZ cG ad (mup μ q j x) := by
            refine wd_set hs ?_ (fun i d hd' hi' => cE_mup cI cZ cG ad μ j x hi' d)
            rw [cE_obj hc, slVs_set ad μ q x sl0 0 j hj, Nat.zero_add]
          show W p l e R s m args below meth c H locs cells slots Q (F0 m pc ls (.int x :: tr ad fm (.ref q) :: r.map (tr ad fm)))
          rw [tr_lt (Nat.lt_of_lt_of_le (shp_lt hsh hs) (by decide))]
          refine va_put (D := D) (ci := c0) (v := .int x) (ty := .int) (C := CC) (T := T) (N := N) C.1 C.2.1 C.2.2.2.2.2.2.1 v3 ty0 v4 v5 C.2.2.2.2.2.1 E.1 hw.1 hw.2.1 hw.2.2 q hwd v1 j (by rw [← hN]; exact hjl) hlink (fun _ h9 => h9) t1 t2 rfl rfl (by rw [slVs_len]; exact hjl) hd (fun H1 locs1 g1 g2 g3 => ?_)
          rw [hset] at g1 g2
          exact k _ _ _ hl ⟨g1, g2, g3⟩
        · cases h
      · cases h
    · cases h
  · rename_i x q r
    split at h
    · rename_i ci j hf
      split at h
      · rename_i c0 n sl0 hs
        split at h
        · rename_i hc
          obtain ⟨rfl, hc, hj⟩ := hc
          simp only [nx, Option.some.injEq, Sum.inl.injEq] at h; subst h
          obtain ⟨CC, T, N, v1, v2, v3, ⟨ty0, v4⟩, v5⟩ := vw_11 hc
          obtain ⟨hN, hT⟩ := shk_of hsh hs hc v1
          obtain ⟨t1, t2⟩ := (hT j).2 hj
          have hlink := C.2.2.2.2.2.2.1 _ (g_of (fld_w hf) rfl)
          unfold fwd at hlink
          simp only [v2] at hlink
          have hwd := wd_get cI cZ cG ad μ hs
          rw [cE_obj hc] at hwd
          have hjl : j < sl0.length := (List.getElem?_eq_some_iff.mp hj).1
          have hset : (wd sh cI cZ cG ad μ).set q (ad q, .inr (c0, (slVs ad μ q 0 sl0).set j (.long x))) = wd sh cI cZ cG ad (μ.1, x) := by
            refine wd_set hs ?_ (fun i d hd' hi' => cE_long cI cZ cG ad μ x i d (fun z => by obtain ⟨j', hj'⟩ := List.getElem?_of_mem z; exact hi' (lgk_one (okS_lg hsh) hd' hj' hs hj).1))
            rw [cE_obj hc, slVs_setL ad μ q x sl0 j hj (fun a ha => (lgk_one (okS_lg hsh) hs ha hs hj).2)]
          show W p l e R s m args below meth c H locs cells slots Q (F0 m pc ls (.long x :: tr ad fm (.ref q) :: r.map (tr ad fm)))
          rw [tr_lt (Nat.lt_of_lt_of_le (shp_lt hsh hs) (by decide))]
          refine va_put (D := D) (ci := c0) (v := .long x) (ty := .long) (C := CC) (T := T) (N := N) C.1 C.2.1 C.2.2.2.2.2.2.1 v3 ty0 v4 v5 C.2.2.2.2.2.1 E.1 hw.1 hw.2.1 hw.2.2 q hwd v1 j (by rw [← hN]; exact hjl) hlink (fun _ h9 => h9) t1 t2 rfl rfl (by rw [slVs_len]; exact hjl) hd (fun H1 locs1 g1 g2 g3 => ?_)
          rw [hset] at g1 g2
          exact k _ _ _ hl ⟨g1, g2, g3⟩
        · cases h
      · cases h
    · cases h
  · cases h
end SIM2
end
section
/-! arrays -/
theorem cE_i {cI cZ cG : ClassId} {ad : Nat → Nat} {μ : mm} {k n : Nat} {sl0 : List Nat} : cE cI cZ cG ad μ k (100, n, sl0) = .inl (cI, n, .inl (μ.1 k)) := by simp [cE]
theorem cE_z {cI cZ cG : ClassId} {ad : Nat → Nat} {μ : mm} {k n : Nat} {sl0 : List Nat} : cE cI cZ cG ad μ k (101, n, sl0) = .inl (cZ, n, .inl (μ.1 k)) := by simp [cE]
theorem cE_g {cI cZ cG : ClassId} {ad : Nat → Nat} {μ : mm} {k n : Nat} {sl0 : List Nat} : cE cI cZ cG ad μ k (102, n, sl0) = .inl (cG, n, .inr (.inr (.inr (.inr (fun j => (sl0[j]?).map ad))))) := by simp [cE]
theorem mup_row (μ : mm) (k j : Nat) (x : Int32) : (mup μ k j x).1 k = upd (μ.1 k) j x := by simp [mup]
section SIM3
variable {sh : List (Nat × Nat × List Nat)}
variable {p : Program} {l : Launch} {e : Env} {R : Room} {s : State} {m : MethodId} {args : Array Value} {below : List Frame} {meth : Method} {c : Code} {H : Heap} {locs : List Loc} {cells slots : Nat} {Q : State → Prop}
variable {D : va_G} {cI cZ cG : ClassId} {ad : Nat → Nat} {fm : Value} {A : Nat → Prop} {y pc : Nat} {lv : List (Option Value)} {st : List Value} {μ : mm} {ls : Array Slot} {t : mS}
theorem sm_iaload (hsh : okS sh = true) (C : Cx p s m args meth c R y) (E : Ev D cI cZ cG ad fm A s) (hX : mo y = 11 → SC ad A s μ) (hi : ins y pc = some .iaload) (h : ex sh y pc lv st μ .iaload = some (.inl t)) (hl : LV ad fm y ls lv) (hw : Wo sh D cI cZ cG ad A s H locs μ) (k : Kn sh p l e R s m args below meth c cells slots Q D cI cZ cG ad fm A y t) : W p l e R s m args below meth c H locs cells slots Q (F0 m pc ls (st.map (tr ad fm))) := by
  obtain ⟨n9, hd, hn⟩ := ins_dec hi
  cases (show n9 = 1 from hn)
  simp only [ex] at h
  split at h
  · rename_i i q r
    split at h
    · rename_i hq
      subst hq
      split at h
      · rename_i hm
        split at h
        · cases h
        · rename_i hin
          simp only [nx, Option.some.injEq, Sum.inl.injEq] at h; subst h
          obtain ⟨L, hL, x1, x2, x3, x4⟩ := hX hm
          show W p l e R s m args below meth c H locs cells slots Q (F0 m pc ls (.int i :: tr ad fm (.ref 999) :: r.map (tr ad fm)))
          rw [tr_lt (by decide)]
          refine va_sld C.1 C.2.1 x1 x2 x3 hw.2.2 (i := i) ?_ hd (k _ _ _ hl hw)
          rw [x4] at hin
          have hL2 : (Int32.ofNat L).toNatClampNeg = L := nI_clamp hL
          rw [hL2] at hin
          exact hin
      · cases h
    · split at h
      · rename_i tg n sl0 hs
        split at h
        · rename_i htg
          subst htg
          split at h
          · cases h
          · rename_i hin
            simp only [nx, Option.some.injEq, Sum.inl.injEq] at h; subst h
            have hwd := wd_get cI cZ cG ad μ hs
            rw [cE_i] at hwd
            show W p l e R s m args below meth c H locs cells slots Q (F0 m pc ls (.int i :: tr ad fm (.ref q) :: r.map (tr ad fm)))
            rw [tr_lt (Nat.lt_of_lt_of_le (shp_lt hsh hs) (by decide))]
            exact va_iald C.1 C.2.1 E.1 hw.1 q 0 hwd rfl hin hd (k _ _ _ hl hw)
        · cases h
      · cases h
  · cases h
theorem sm_baload (hsh : okS sh = true) (C : Cx p s m args meth c R y) (E : Ev D cI cZ cG ad fm A s) (hX : mo y = 11 → SC ad A s μ) (hi : ins y pc = some .baload) (h : ex sh y pc lv st μ .baload = some (.inl t)) (hl : LV ad fm y ls lv) (hw : Wo sh D cI cZ cG ad A s H locs μ) (k : Kn sh p l e R s m args below meth c cells slots Q D cI cZ cG ad fm A y t) : W p l e R s m args below meth c H locs cells slots Q (F0 m pc ls (st.map (tr ad fm))) := by
  obtain ⟨n9, hd, hn⟩ := ins_dec hi
  cases (show n9 = 1 from hn)
  simp only [ex] at h
  split at h
  · rename_i i q r
    split at h
    · split at h
      · rename_i tg n sl0 hs
        split at h
        · rename_i htg
          subst htg
          split at h
          · cases h
          · rename_i hin
            simp only [nx, Option.some.injEq, Sum.inl.injEq] at h; subst h
            have hwd := wd_get cI cZ cG ad μ hs
            rw [cE_z] at hwd
            show W p l e R s m args below meth c H locs cells slots Q (F0 m pc ls (.int i :: tr ad fm (.ref q) :: r.map (tr ad fm)))
            rw [tr_lt (Nat.lt_of_lt_of_le (shp_lt hsh hs) (by decide))]
            exact va_zald C.1 C.2.1 E.1 hw.1 q 1 hwd rfl hin hd (k _ _ _ hl hw)
        · cases h
      · cases h
    · split at h
      · rename_i hq
        split at h
        · cases h
        · rename_i hin
          simp only [nx, Option.some.injEq, Sum.inl.injEq] at h; subst h
          obtain ⟨k9, rfl⟩ : ∃ k9 : Nat, q = 1100 + k9 := ⟨q - 1100, (Nat.add_sub_cancel' hq.1).symm⟩
          have hk9 : k9 < 7 := Nat.lt_of_add_lt_add_left (show 1100 + k9 < 1100 + 7 from hq.2)
          have e9 : 1100 + k9 - 1100 = k9 := by omega
          have hin2 : ¬ (i < 0 ∨ jsl.getD k9 0 ≤ i.toNatClampNeg) := by rw [← e9]; exact hin
          have hgo := k _ _ _ hl hw
          obtain ⟨-, -, -, e4⟩ := E.2.2.2.2.1.1 k9 hk9
          show W p l e R s m args below meth c H locs cells slots Q (F0 m pc ls (.int i :: tr ad fm (.ref (1100 + k9)) :: r.map (tr ad fm)))
          rw [tr_lt (show 1100 + k9 < 1200 by omega)]
          refine va_tb C.1 C.2.1 e4 hw.2.2 hin2 rfl hd ?_
          have e10 : (jsb.getD (1100 + k9 - 1100) []).getD i.toNatClampNeg 0 = (jsb.getD k9 []).getD i.toNatClampNeg 0 := by rw [e9]
          have hgo2 : W p l e R s m args below meth c H locs cells slots Q (F0 m (pc + 1) ls (.int ((jsb.getD (1100 + k9 - 1100) []).getD i.toNatClampNeg 0) :: r.map (tr ad fm))) := hgo
          rw [e10] at hgo2
          exact hgo2
      · cases h
  · cases h
theorem sm_iastore (hsh : okS sh = true) (C : Cx p s m args meth c R y) (E : Ev D cI cZ cG ad fm A s) (hX : mo y = 11 → SC ad A s μ) (hi : ins y pc = some .iastore) (h : ex sh y pc lv st μ .iastore = some (.inl t)) (hl : LV ad fm y ls lv) (hw : Wo sh D cI cZ cG ad A s H locs μ) (k : Kn sh p l e R s m args below meth c cells slots Q D cI cZ cG ad fm A y t) : W p l e R s m args below meth c H locs cells slots Q (F0 m pc ls (st.map (tr ad fm))) := by
  obtain ⟨n9, hd, hn⟩ := ins_dec hi
  cases (show n9 = 1 from hn)
  simp only [ex] at h
  split at h
  · rename_i x i q r
    split at h
    · rename_i tg n sl0 hs
      split at h
      · rename_i htg
        subst htg
        split at h
        · cases h
        · rename_i hin
          simp only [nx, Option.some.injEq, Sum.inl.injEq] at h; subst h
          have hwd := wd_get cI cZ cG ad μ hs
          rw [cE_i] at hwd
          have hset : (wd sh cI cZ cG ad μ).set q (ad q, .inl (cI, n, .inl (upd (μ.1 q) i.toNatClampNeg x))) = wd sh cI cZ cG ad (mup μ q i.toNatClampNeg x) := by
            refine wd_set hs ?_ (fun i' d hd' hi' => cE_mup cI cZ cG ad μ _ x hi' d)
            rw [cE_i, mup_row]
          show W p l e R s m args below meth c H locs cells slots Q (F0 m pc ls (.int x :: .int i :: tr ad fm (.ref q) :: r.map (tr ad fm)))
          rw [tr_lt (Nat.lt_of_lt_of_le (shp_lt hsh hs) (by decide))]
          refine va_iast C.1 C.2.1 E.1 hw.1 hw.2.1 hw.2.2 q 0 hwd rfl hin hd (fun H1 locs1 g1 g2 g3 => ?_)
          rw [hset] at g1 g2
          exact k _ _ _ hl ⟨g1, g2, g3⟩
      · cases h
    · cases h
  · cases h
theorem sm_bastore (hsh : okS sh = true) (C : Cx p s m args meth c R y) (E : Ev D cI cZ cG ad fm A s) (hX : mo y = 11 → SC ad A s μ) (hi : ins y pc = some .bastore) (h : ex sh y pc lv st μ .bastore = some (.inl t)) (hl : LV ad fm y ls lv) (hw : Wo sh D cI cZ cG ad A s H locs μ) (k : Kn sh p l e R s m args below meth c cells slots Q D cI cZ cG ad fm A y t) : W p l e R s m args below meth c H locs cells slots Q (F0 m pc ls (st.map (tr ad fm))) := by
  obtain ⟨n9, hd, hn⟩ := ins_dec hi
  cases (show n9 = 1 from hn)
  simp only [ex] at h
  split at h
  · rename_i x i q r
    split at h
    · rename_i tg n sl0 hs
      split at h
      · rename_i htg
        subst htg
        split at h
        · cases h
        · rename_i hin
          simp only [nx, Option.some.injEq, Sum.inl.injEq] at h; subst h
          have hwd := wd_get cI cZ cG ad μ hs
          rw [cE_z] at hwd
          have hset : (wd sh cI cZ cG ad μ).set q (ad q, .inl (cZ, n, .inl (upd (μ.1 q) i.toNatClampNeg (vp_nar .boolean x)))) = wd sh cI cZ cG ad (mup μ q i.toNatClampNeg (vp_nar .boolean x)) := by
            refine wd_set hs ?_ (fun i' d hd' hi' => cE_mup cI cZ cG ad μ _ _ hi' d)
            rw [cE_z, mup_row]
          show W p l e R s m args below meth c H locs cells slots Q (F0 m pc ls (.int x :: .int i :: tr ad fm (.ref q) :: r.map (tr ad fm)))
          rw [tr_lt (Nat.lt_of_lt_of_le (shp_lt hsh hs) (by decide))]
          refine va_zast C.1 C.2.1 E.1 hw.1 hw.2.1 hw.2.2 q 1 hwd rfl hin hd (fun H1 locs1 g1 g2 g3 => ?_)
          rw [hset] at g1 g2
          exact k _ _ _ hl ⟨g1, g2, g3⟩
      · cases h
    · cases h
  · cases h
theorem sm_aaload (hsh : okS sh = true) (C : Cx p s m args meth c R y) (E : Ev D cI cZ cG ad fm A s) (hX : mo y = 11 → SC ad A s μ) (hi : ins y pc = some .aaload) (h : ex sh y pc lv st μ .aaload = some (.inl t)) (hl : LV ad fm y ls lv) (hw : Wo sh D cI cZ cG ad A s H locs μ) (k : Kn sh p l e R s m args below meth c cells slots Q D cI cZ cG ad fm A y t) : W p l e R s m args below meth c H locs cells slots Q (F0 m pc ls (st.map (tr ad fm))) := by
  obtain ⟨n9, hd, hn⟩ := ins_dec hi
  cases (show n9 = 1 from hn)
  simp only [ex] at h
  split at h
  · rename_i i q r
    split at h
    · rename_i tg n sl0 hs
      split at h
      · rename_i htg
        subst htg
        split at h
        · cases h
        · rename_i hin
          split at h
          · rename_i w hwq
            simp only [nx, Option.some.injEq, Sum.inl.injEq] at h; subst h
            have hwd := wd_get cI cZ cG ad μ hs
            rw [cE_g] at hwd
            have h3 := all_at (okS_small hsh) (List.mem_of_getElem? hs)
            have h4 := all_at h3 (List.mem_of_getElem? hwq)
            simp only [decide_eq_true_eq] at h4
            have hgo := k _ _ _ hl hw
            have h7 : tr ad fm (.ref w) = .ref (ad w) := tr_lt (show w < 1200 by omega)
            simp only [List.map_cons, h7] at hgo
            show W p l e R s m args below meth c H locs cells slots Q (F0 m pc ls (.int i :: tr ad fm (.ref q) :: r.map (tr ad fm)))
            rw [tr_lt (Nat.lt_of_lt_of_le (shp_lt hsh hs) (by decide))]
            have hlt : i.toNatClampNeg < n := Nat.not_le.mp fun z => hin (Or.inr z)
            refine W.aald (v := .ref (ad w)) (ty := .array .int) C.1 C.2.1 (hw.1 q _ hwd) ((E.1.2 2 _ rfl).1 n (fun j => va_rf ((sl0[j]?).map ad))) rfl (fun z => by cases z) (by show ¬ (i < 0 ∨ (arrV _ _ _).slots.size ≤ _); rw [arrV_size]; exact hin) ?_ rfl rfl hd hgo
            show (arrV _ _ _).slots[_]? = _
            rw [arrV_read _ _ hlt]
            show some (va_rf (Option.map ad sl0[i.toNatClampNeg]?)) = _
            rw [hwq]
            rfl
          · cases h
      · cases h
    · cases h
  · cases h
theorem sm_arraylength (hsh : okS sh = true) (C : Cx p s m args meth c R y) (E : Ev D cI cZ cG ad fm A s) (hX : mo y = 11 → SC ad A s μ) (hi : ins y pc = some .arraylength) (h : ex sh y pc lv st μ .arraylength = some (.inl t)) (hl : LV ad fm y ls lv) (hw : Wo sh D cI cZ cG ad A s H locs μ) (k : Kn sh p l e R s m args below meth c cells slots Q D cI cZ cG ad fm A y t) : W p l e R s m args below meth c H locs cells slots Q (F0 m pc ls (st.map (tr ad fm))) := by
  obtain ⟨n9, hd, hn⟩ := ins_dec hi
  cases (show n9 = 1 from hn)
  simp only [ex] at h
  split at h
  · rename_i q r
    split at h
    · rename_i hq
      subst hq
      split at h
      · rename_i hm
        simp only [nx, Option.some.injEq, Sum.inl.injEq] at h; subst h
        obtain ⟨L, hL, x1, x2, x3, x4⟩ := hX hm
        have hgo := k _ _ _ hl hw
        simp only [List.map_cons, x4] at hgo
        show W p l e R s m args below meth c H locs cells slots Q (F0 m pc ls (tr ad fm (.ref 999) :: r.map (tr ad fm)))
        rw [tr_lt (by decide)]
        exact va_slen C.1 C.2.1 x1 x2 x3 hw.2.2 hd hgo
      · cases h
    · split at h
      · rename_i hq
        simp only [nx, Option.some.injEq, Sum.inl.injEq] at h; subst h
        obtain ⟨k9, rfl⟩ : ∃ k9 : Nat, q = 1100 + k9 := ⟨q - 1100, (Nat.add_sub_cancel' hq.1).symm⟩
        have hk9 : k9 < 7 := Nat.lt_of_add_lt_add_left (show 1100 + k9 < 1100 + 7 from hq.2)
        have e9 : 1100 + k9 - 1100 = k9 := by omega
        have hgo := k _ _ _ hl hw
        obtain ⟨-, -, -, e4⟩ := E.2.2.2.2.1.1 k9 hk9
        show W p l e R s m args below meth c H locs cells slots Q (F0 m pc ls (tr ad fm (.ref (1100 + k9)) :: r.map (tr ad fm)))
        rw [tr_lt (show 1100 + k9 < 1200 by omega)]
        have hgo2 : W p l e R s m args below meth c H locs cells slots Q (F0 m (pc + 1) ls (.int (Int32.ofNat (jsl.getD (1100 + k9 - 1100) 0)) :: r.map (tr ad fm))) := hgo
        rw [e9] at hgo2
        exact va_tlen C.1 C.2.1 e4 hw.2.2 rfl hd hgo2
      · cases h
  · cases h
end SIM3
end
section
/-! all steps; calls; ends -/
theorem ex_call {sh : List (Nat × Nat × List Nat)} {y pc : Nat} {lv : List (Option Value)} {st : List Value} {μ : mm} {i : Instr} {z pc' : Nat} {as : List Value} {lv' : List (Option Value)} {st' : List Value} {μ' : mm} (h : ex sh y pc lv st μ i = some (.inr (.inl (z, as, pc', lv', st', μ')))) :
    (∃ idx b, i = .invokevirtual idx ∧ lnk (mo y) idx = some (0, z) ∧ as = .ref b :: (st.take (na z)).reverse ∧ st.drop (na z) = .ref b :: st' ∧ okr sh z b = true ∧ okc y z as st' = true ∧ pc' = pc + 3 ∧ lv' = lv ∧ μ' = μ) ∨
    (∃ idx, i = .invokestatic idx ∧ lnk (mo y) idx = some (1, z) ∧ as = (st.take (na z)).reverse ∧ st' = st.drop (na z) ∧ na z ≤ st.length ∧ okc y z as st' = true ∧ pc' = pc + 3 ∧ lv' = lv ∧ μ' = μ) := by
  unfold ex at h
  split at h
  all_goals (try (simp only [nx, jmp, jck, lod, sto] at h))
  all_goals (try (repeat' split at h))
  all_goals (try (cases h; done))
  · left
    rename_i idx
    unfold cV at h
    split at h
    · rename_i z1 hz
      split at h
      · rename_i b rest hb
        split at h
        · rename_i hok
          rw [Bool.and_eq_true] at hok
          cases h
          exact ⟨idx, b, rfl, hz, rfl, hb, hok.1, hok.2, rfl, rfl, rfl⟩
        · cases h
      · cases h
    · cases h
  · right
    rename_i idx
    unfold cS at h
    split at h
    · rename_i z1 hz
      split at h
      · rename_i hok
        rw [Bool.and_eq_true] at hok
        cases h
        exact ⟨idx, rfl, hz, rfl, rfl, of_decide_eq_true hok.1, hok.2, rfl, rfl, rfl⟩
      · cases h
    · cases h
theorem ex_ret {sh : List (Nat × Nat × List Nat)} {y pc : Nat} {lv : List (Option Value)} {st : List Value} {μ : mm} {i : Instr} {v : Option Value} {μ' : mm} (h : ex sh y pc lv st μ i = some (.inr (.inr (v, μ')))) :
    μ' = μ ∧ ((i = .ireturn ∧ ∃ x ty, st = [.int x] ∧ v = some (.int x) ∧ mr y = some ty ∧ narrow ty (.int x) = .int x) ∨ (i = .return_ ∧ st = [] ∧ v = none ∧ mr y = none)) := by
  unfold ex at h
  split at h
  all_goals (try (simp only [nx, jmp, jck, lod, sto, cV, cS] at h))
  all_goals (try (repeat' split at h))
  all_goals (try (cases h; done))
  · rename_i x x9 ty hty hn
    cases h
    exact ⟨rfl, Or.inl ⟨rfl, x, ty, rfl, rfl, hty, hn⟩⟩
  · rename_i hn
    cases h
    exact ⟨rfl, Or.inr ⟨rfl, rfl, rfl, hn⟩⟩
theorem mup_ne {μ : mm} {q j k : Nat} {x : Int32} (h : k ≠ q) : (mup μ q j x).1 k = μ.1 k := if_neg h
theorem ex_keep {sh : List (Nat × Nat × List Nat)} {y pc : Nat} {lv : List (Option Value)} {st : List Value} {μ : mm} {i : Instr} {t : mS} (h : ex sh y pc lv st μ i = some (.inl t)) : ∀ k, sh.length ≤ k → t.2.2.2.1 k = μ.1 k := by
  intro k hk
  unfold ex at h
  split at h
  all_goals (try (simp only [nx, jmp, jck, lod, sto, cV, cS] at h))
  all_goals (try (repeat' split at h))
  all_goals (try (cases h; done))
  all_goals (try (cases h; rfl))
  all_goals (cases h)
  all_goals (exact mup_ne (fun z => by subst z; have h8 := (List.getElem?_eq_some_iff.mp (by assumption : sh[_]? = some _)).1; exact absurd hk (Nat.not_le.mpr h8)))
theorem stp_keep {sh : List (Nat × Nat × List Nat)} {y pc : Nat} {lv : List (Option Value)} {st : List Value} {μ : mm} {t : mS} (h : stp sh y pc lv st μ = some (.inl t)) : ∀ k, sh.length ≤ k → t.2.2.2.1 k = μ.1 k := by
  unfold stp at h
  split at h
  · exact ex_keep h
  · cases h
theorem run_keep {sh : List (Nat × Nat × List Nat)} : ∀ (n y pc : Nat) (lv : List (Option Value)) (st : List Value) (μ : mm) (v : Option Value) (μ' : mm), run sh n y pc lv st μ = some (v, μ') → ∀ k, sh.length ≤ k → μ'.1 k = μ.1 k
  | 0, _, _, _, _, _, _, _, h => by cases h
  | n + 1, y, pc, lv, st, μ, v, μ', h => by
    intro k hk
    unfold run at h
    split at h
    · cases h
    · rename_i a b c d hs
      rw [run_keep n y a b c d v μ' h k hk, stp_keep hs k hk]
    · rename_i z as a b c d hs
      have hd : d = μ := by
        unfold stp at hs
        split at hs
        · rcases ex_call hs with ⟨_, _, _, _, _, _, _, _, _, _, h9⟩ | ⟨_, _, _, _, _, _, _, _, _, h9⟩ <;> exact h9
        · cases hs
      split at h
      · cases h
      · rename_i w μ2 hr
        rw [run_keep n y a b _ μ2 v μ' h k hk, run_keep n z 0 _ _ d w μ2 hr k hk, hd]
    · rename_i r hs
      cases h
      unfold stp at hs
      split at hs
      · rw [(ex_ret hs).1]
      · cases hs
section SIM4
variable {sh : List (Nat × Nat × List Nat)}
variable {p : Program} {l : Launch} {e : Env} {R : Room} {s : State} {m : MethodId} {args : Array Value} {below : List Frame} {meth : Method} {c : Code} {H : Heap} {locs : List Loc} {cells slots : Nat} {Q : State → Prop}
variable {D : va_G} {cI cZ cG : ClassId} {ad : Nat → Nat} {fm : Value} {A : Nat → Prop} {y pc : Nat} {lv : List (Option Value)} {st : List Value} {μ : mm} {ls : Array Slot} {t : mS}
theorem step_sim (hsh : okS sh = true) (C : Cx p s m args meth c R y) (E : Ev D cI cZ cG ad fm A s) (hX : mo y = 11 → SC ad A s μ) (h : stp sh y pc lv st μ = some (.inl t)) (hl : LV ad fm y ls lv) (hw : Wo sh D cI cZ cG ad A s H locs μ) (k : Kn sh p l e R s m args below meth c cells slots Q D cI cZ cG ad fm A y t) : W p l e R s m args below meth c H locs cells slots Q (F0 m pc ls (st.map (tr ad fm))) := by
  unfold stp at h
  cases hi : ins y pc with
  | none => rw [hi] at h; cases h
  | some i =>
    rw [hi] at h
    cases i with
    | iconst n => exact sm_iconst C E hX hi h hl hw k
    | bipush n => exact sm_bipush C E hX hi h hl hw k
    | sipush n => exact sm_sipush C E hX hi h hl hw k
    | lconst n => exact sm_lconst C E hX hi h hl hw k
    | iadd  => exact sm_iadd C E hX hi h hl hw k
    | isub  => exact sm_isub C E hX hi h hl hw k
    | imul  => exact sm_imul C E hX hi h hl hw k
    | iand  => exact sm_iand C E hX hi h hl hw k
    | ior  => exact sm_ior C E hX hi h hl hw k
    | ixor  => exact sm_ixor C E hX hi h hl hw k
    | ishl  => exact sm_ishl C E hX hi h hl hw k
    | ishr  => exact sm_ishr C E hX hi h hl hw k
    | ladd  => exact sm_ladd C E hX hi h hl hw k
    | lsub  => exact sm_lsub C E hX hi h hl hw k
    | lmul  => exact sm_lmul C E hX hi h hl hw k
    | land  => exact sm_land C E hX hi h hl hw k
    | lor  => exact sm_lor C E hX hi h hl hw k
    | ineg  => exact sm_ineg C E hX hi h hl hw k
    | i2l  => exact sm_i2l C E hX hi h hl hw k
    | i2c  => exact sm_i2c C E hX hi h hl hw k
    | l2i  => exact sm_l2i C E hX hi h hl hw k
    | iushr  => exact sm_iushr C E hX hi h hl hw k
    | lshl  => exact sm_lshl C E hX hi h hl hw k
    | lshr  => exact sm_lshr C E hX hi h hl hw k
    | idiv  => exact sm_idiv C E hX hi h hl hw k
    | irem  => exact sm_irem C E hX hi h hl hw k
    | lcmp  => exact sm_lcmp C E hX hi h hl hw k
    | iload_n n => exact sm_iload_n C E hX hi h hl hw k
    | iload n => exact sm_iload C E hX hi h hl hw k
    | lload_n n => exact sm_lload_n C E hX hi h hl hw k
    | aload_n n => exact sm_aload_n C E hX hi h hl hw k
    | istore_n n => exact sm_istore_n C E hX hi h hl hw k
    | istore n => exact sm_istore C E hX hi h hl hw k
    | iinc i n => exact sm_iinc C E hX hi h hl hw k
    | dup  => exact sm_dup C E hX hi h hl hw k
    | pop  => exact sm_pop C E hX hi h hl hw k
    | goto off => exact sm_goto C E hX hi h hl hw k
    | tableswitch d lo up offs => exact sm_tableswitch C E hX hi h hl hw k
    | lookupswitch d ps => exact sm_lookupswitch C E hX hi h hl hw k
    | ldc2_w i => exact sm_ldc2_w C E hX hi h hl hw k
    | ldc_w i => exact sm_ldc_w C E hX hi h hl hw k
    | ldc i => exact sm_ldc C E hX hi h hl hw k
    | ifCond cc off => cases cc with
      | eq => exact sm_if_eq C E hX hi h hl hw k
      | ne => exact sm_if_ne C E hX hi h hl hw k
      | lt => exact sm_if_lt C E hX hi h hl hw k
      | ge => exact sm_if_ge C E hX hi h hl hw k
      | gt => exact sm_if_gt C E hX hi h hl hw k
      | le => exact sm_if_le C E hX hi h hl hw k
    | if_icmp cc off => cases cc with
      | eq => exact sm_icmp_eq C E hX hi h hl hw k
      | ne => exact sm_icmp_ne C E hX hi h hl hw k
      | lt => exact sm_icmp_lt C E hX hi h hl hw k
      | ge => exact sm_icmp_ge C E hX hi h hl hw k
      | gt => exact sm_icmp_gt C E hX hi h hl hw k
      | le => exact sm_icmp_le C E hX hi h hl hw k
    | getfield i => exact sm_getfield hsh C E hX hi h hl hw k
    | putfield i => exact sm_putfield hsh C E hX hi h hl hw k
    | getstatic i => exact sm_getstatic hsh C E hX hi h hl hw k
    | iaload => exact sm_iaload hsh C E hX hi h hl hw k
    | iastore => exact sm_iastore hsh C E hX hi h hl hw k
    | baload => exact sm_baload hsh C E hX hi h hl hw k
    | bastore => exact sm_bastore hsh C E hX hi h hl hw k
    | aaload => exact sm_aaload hsh C E hX hi h hl hw k
    | arraylength => exact sm_arraylength hsh C E hX hi h hl hw k
    | invokevirtual i =>
      exfalso
      simp only [ex, cV] at h
      (repeat' split at h) <;> cases h
    | invokestatic i =>
      exfalso
      simp only [ex, cS] at h
      (repeat' split at h) <;> cases h
    | ireturn =>
      exfalso
      simp only [ex] at h
      (repeat' split at h) <;> cases h
    | return_ =>
      exfalso
      simp only [ex] at h
      (repeat' split at h) <;> cases h
    | _ => cases h
end SIM4
end
section
/-! A RUN OF THE SMALL MACHINE IS A CONTRACT OF THE MACHINE -/
theorem met_ofW {l : Launch} {y : MethodName} {ws ws' : List Cond} {rm : Room} {Pc : Array Value → State → Prop} {Qc : Array Value → State → Outcome → State → Prop} {mc ms : Nat} {free : Addr → Prop} {cc : ByteArray} {maxL : Nat} {ret : Option FieldType}
    (hy : plainFor y = true) (hw : ws = Cond.code y cc maxL ret :: ws')
    (body : ∀ p e s m args below meth c s₁, BodyLoose p l y (headSpec ws rm) cc maxL ret e s m args below meth c s₁ → c.maxLocals = maxL → Pc args s →
      W p l e (headSpec ws rm).room s m args below meth c s.heap [] 0 0 (MQ below Qc args s mc ms free) (entryFrame m args maxL)) : Met l y ws rm Pc Qc mc ms free := by
  refine MetFree.of_bodySF (code := cc) (maxLocals := maxL) (ret := ret) hy ?_ ?_
  · intro args s m h hn
    obtain ⟨meth, c, h1, h2, h3, h4, h5, h6, -, -⟩ := Cond.code_spec hn (atoms_spec (ws := ws) h _ (by rw [hw]; exact List.mem_cons_self))
    exact ⟨meth, c, h1, h2, h3, h4, h5, h6⟩
  · intro p e s m args below meth c s₁ B hml hP _
    have hh0 : s₁.heap = s.heap := by rw [B.state]; rfl
    obtain ⟨t, a1, o, b1, b2, b3⟩ := body p e s m args below meth c s₁ B hml hP s₁ hh0 (Stand.of_body B)
    exact ⟨t, o, a1, b1, b2, ⟨b3.1, b3.2⟩⟩
def wz (z : Nat) : List Cond := Cond.code (my z) (mb z) (mL z) (mr z) :: gtb
def rz (z : Nat) : Room := { frames := mf z, cells := 0, slots := 0, locals := mlo z }
def PreM (sh : List (Nat × Nat × List Nat)) (D : va_G) (cI cZ cG : ClassId) (ad : Nat → Nat) (fm : Value) (μ : mm) (sz : Nat) (U : State) : Prop := U.heap.size = sz ∧ va_P D vwCl (wd sh cI cZ cG ad μ) U.heap ∧ va_D (fun _ => True) (wd sh cI cZ cG ad μ) ∧ Ev D cI cZ cG ad fm (va_A (wd sh cI cZ cG ad μ) sz) U
def PostB (sh : List (Nat × Nat × List Nat)) (D : va_G) (cI cZ cG : ClassId) (ad : Nat → Nat) (μ μ' : mm) (sz : Nat) (_ : Unit) (t : State) : Prop := va_P D vwCl (wd sh cI cZ cG ad μ') t.heap ∧ va_D (va_A (wd sh cI cZ cG ad μ) sz) (wd sh cI cZ cG ad μ')
def QcM (sh : List (Nat × Nat × List Nat)) (D : va_G) (cI cZ cG : ClassId) (ad : Nat → Nat) (μ μ' : mm) (sz : Nat) (v : Option Value) : Array Value → State → Outcome → State → Prop := match v with
  | some (.int r) => va_Qi (S := Unit) (fun r' _ => r' = r) (PostB sh D cI cZ cG ad μ μ' sz) (va_A (wd sh cI cZ cG ad μ) sz)
  | _ => va_Qv (S := Unit) (fun _ => True) (PostB sh D cI cZ cG ad μ μ' sz) (va_A (wd sh cI cZ cG ad μ) sz)
theorem run_ret {sh : List (Nat × Nat × List Nat)} : ∀ (n y pc : Nat) (lv : List (Option Value)) (st : List Value) (μ : mm) (v : Option Value) (μ' : mm), run sh n y pc lv st μ = some (v, μ') → v = none ∨ ∃ x, v = some (.int x)
  | 0, _, _, _, _, _, _, _, h => by cases h
  | n + 1, y, pc, lv, st, μ, v, μ', h => by
    unfold run at h
    split at h
    · cases h
    · exact run_ret n _ _ _ _ _ v μ' h
    · split at h
      · cases h
      · exact run_ret n _ _ _ _ _ v μ' h
    · rename_i r hs
      cases h
      unfold stp at hs
      split at hs
      · rcases (ex_ret hs).2 with ⟨_, x, _, _, h2, _⟩ | ⟨_, _, h2, _⟩
        · exact Or.inr ⟨x, h2⟩
        · exact Or.inl h2
      · cases hs
theorem Ev.moved {D : va_G} {cI cZ cG : ClassId} {ad : Nat → Nat} {fm : Value} {A : Nat → Prop} {u U : State} (hh : U.heap = u.heap) (hv : U.vm = u.vm) (h : Ev D cI cZ cG ad fm A u) : Ev D cI cZ cG ad fm A U := by
  have hal : u.vm.Alike U.vm := by rw [hv]; exact Vm.Alike.refl u.vm
  obtain ⟨h1, h2, h3, h4, h5, h6⟩ := h
  exact ⟨h1.moved hal, h2, by rw [hh]; exact h3.moved hal, by rw [hh]; exact h4.moved hal, by rw [hh]; exact h5.moved hal, fun q hq => (h6 q hq).same hv⟩
theorem ent_args (ad : Nat → Nat) (fm : Value) (hf : fm.category = 1) : ∀ (as : List Value) (k i : Nat) (v : Value), (ent as)[i]? = some (some v) → (k + i, tr ad fm v) ∈ lv_args k (as.map (tr ad fm))
  | [], k, i, v, h => by simp [ent] at h
  | a :: t, k, i, v, h => by
    unfold ent at h
    simp only [List.map_cons, lv_args]
    rw [tr_cat hf]
    split at h
    · rename_i hc
      rw [if_pos hc]
      match i, h with
      | 0, h => cases h; exact List.mem_cons_self
      | 1, h => simp at h
      | i + 2, h =>
        have := ent_args ad fm hf t (k + 2) i v (by simpa using h)
        rw [show k + (i + 2) = k + 2 + i by omega]
        exact List.mem_cons_of_mem _ this
    · rename_i hc
      rw [if_neg hc]
      match i, h with
      | 0, h => cases h; exact List.mem_cons_self
      | i + 1, h =>
        have := ent_args ad fm hf t (k + 1) i v (by simpa using h)
        rw [show k + (i + 1) = k + 1 + i by omega]
        exact List.mem_cons_of_mem _ this
theorem lg_len (ad : Nat → Nat) (fm : Value) (hf : fm.category = 1) : ∀ (as : List Value), (lg_sl (as.map (tr ad fm))).length = (as.map fun v => v.category).sum
  | [] => rfl
  | a :: t => by
    have ih := lg_len ad fm hf t
    unfold lg_sl at ih ⊢
    simp only [List.map_cons, List.flatMap_cons, List.length_append, List.sum_cons, ih, tr_cat hf]
    rcases lv_cat a with h | h <;> simp [h]
def SimAt (sh : List (Nat × Nat × List Nat)) (n : Nat) : Prop := ∀ (l : Launch) (D : va_G) (cI cZ cG : ClassId) (ad : Nat → Nat) (fm : Value) (y pc : Nat) (lv : List (Option Value)) (st : List Value) (μ : mm) (v : Option Value) (μ' : mm), run sh n y pc lv st μ = some (v, μ') →
  ∀ (p : Program) (e : Env) (R : Room) (s : State) (m : MethodId) (args : Array Value) (below : List Frame) (meth : Method) (c : Code) (H : Heap) (locs : List Loc) (cells slots : Nat) (Q : State → Prop) (A : Nat → Prop) (ls : Array Slot),
    Cx p s m args meth c R y → Ev D cI cZ cG ad fm A s → (mo y = 11 → SC ad A s μ) → (∀ q, s.heap.size ≤ q → A q) → cells ≤ R.cells → slots ≤ R.slots → LV ad fm y ls lv → Wo sh D cI cZ cG ad A s H locs μ →
    (∀ (pc' : Nat) (lv' : List (Option Value)) (st' : List Value) (ls' : Array Slot) (H' : Heap) (locs' : List Loc), stp sh y pc' lv' st' μ' = some (.inr (.inr (v, μ'))) → Wo sh D cI cZ cG ad A s H' locs' μ' → W p l e R s m args below meth c H' locs' cells slots Q (F0 m pc' ls' (st'.map (tr ad fm)))) →
    W p l e R s m args below meth c H locs cells slots Q (F0 m pc ls (st.map (tr ad fm)))
theorem met_of {sh : List (Nat × Nat × List Nat)} {n : Nat} (ih : SimAt sh n) {l : Launch} {D : va_G} {cI cZ cG : ClassId} {ad : Nat → Nat} {fm : Value} {z : Nat} {as : List Value} {μ μ' : mm} {v : Option Value} (hz : z ∈ czs) (hr : run sh n z 0 (ent as) [] μ = some (v, μ')) (hlen : (as.map fun v => v.category).sum ≤ mL z) (sz : Nat) :
    Met l (my z) (wz z) (rz z) (va_Pc (as.map (tr ad fm)) (PreM sh D cI cZ cG ad fm μ sz)) (QcM sh D cI cZ cG ad μ μ' sz v) 0 0 (va_A (wd sh cI cZ cG ad μ) sz) := by
  refine met_ofW (cc := mb z) (maxL := mL z) (ret := mr z) (c_pf hz) rfl ?_
  intro p e s m args below meth c s₁ B hml hv
  obtain ⟨rfl, hsz, hP, hD0, hE⟩ := hv
  subst hsz
  have hts := atoms_spec (ws := wz z) B.pre
  have hown : s.vm.findClass (my z).cls = some m.cls := findClass_of_methodNamed B.named
  rw [c_cls hz] at hown
  have C : Cx p s m (as.map (tr ad fm)).toArray meth c (headSpec (wz z) (rz z)).room z := ⟨B.exec, B.bytes, hml, B.returns, B.notSynchronized, hown, fun w hw => hts w (List.mem_cons_of_mem _ hw), Nat.le_refl _, Nat.le_refl _⟩
  have hl := lv_entry (as.map (tr ad fm)) (n := mL z) (by rw [lg_len ad fm hE.2.1]; exact hlen)
  rw [lg_entry_eq]
  generalize (lg_sl (as.map (tr ad fm)) ++ List.replicate (mL z - (lg_sl (as.map (tr ad fm))).length) Slot.unset).toArray = ls at hl ⊢
  have hl2 : LV ad fm z ls (ent as) := ⟨hl.1, hl.2.1, fun i v hv => by have := hl.2.2 _ (ent_args ad fm hE.2.1 as 0 i v hv); simpa using this⟩
  refine ih l D cI cZ cG ad fm z 0 (ent as) [] μ v μ' hr p e _ s m _ below meth c s.heap [] 0 0 _ (va_A (wd sh cI cZ cG ad μ) s.heap.size) ls C hE (fun h9 => absurd h9 (by have := all_at cz_f6 hz; simpa using this)) (fun q h => Or.inr h) (Nat.zero_le _) (Nat.zero_le _) hl2 ⟨hP, hD0.self, va_S.rf⟩ ?_
  intro pc' lv' st' ls' H' locs' hst hw
  unfold stp at hst
  split at hst
  · rename_i i hi
    obtain ⟨-, h2⟩ := ex_ret hst
    obtain ⟨n9, hd, hn⟩ := ins_dec hi
    rcases h2 with ⟨rfl, x, ty, rfl, rfl, hty, hnr⟩ | ⟨rfl, rfl, rfl, hty⟩
    · cases (show n9 = 1 from hn)
      exact W.zret C.1 C.2.1 (C.2.2.2.1.trans hty) hnr (fun t ht hW => ⟨⟨x, (), rfl, rfl, by rw [ht]; exact hw.1, hw.2.1⟩, hw.2.2.F ht⟩) hw.2.2.2.2 hd (hlocks := C.2.2.2.2.1)
    · cases (show n9 = 1 from hn)
      exact W.vret C.1 C.2.1 (C.2.2.2.1.trans hty) (fun t ht hW => ⟨⟨(), rfl, trivial, by rw [ht]; exact hw.1, hw.2.1⟩, hw.2.2.F ht⟩) hw.2.2.2.2 hd (hlocks := C.2.2.2.2.1)
  · cases hst
end
section
/-! every run -/
theorem vw_nm {ci : Nat} (h : ci < 11) : ∃ T N, vwCl[ci]? = some (cnm ci, T, N) := by
  rcases (show ci = 0 ∨ ci = 1 ∨ ci = 2 ∨ ci = 3 ∨ ci = 4 ∨ ci = 5 ∨ ci = 6 ∨ ci = 7 ∨ ci = 8 ∨ ci = 9 ∨ ci = 10 by omega) with rfl | rfl | rfl | rfl | rfl | rfl | rfl | rfl | rfl | rfl | rfl <;> exact ⟨_, _, rfl⟩
theorem okc_of {y z : Nat} {as rest : List Value} (h : okc y z as rest = true) : mf z + 1 ≤ mf y ∧ 8 + (mL z + 11) + mlo z ≤ mlo y ∧ (rest.map fun v => v.category).sum ≤ 8 ∧ (as.map fun v => v.category).sum ≤ mL z := by
  unfold okc at h
  simpa only [Bool.and_eq_true, decide_eq_true_eq] using h
theorem map_cat {ad : Nat → Nat} {fm : Value} (hf : fm.category = 1) (l : List Value) : ((l.map (tr ad fm)).map fun v => v.category) = l.map fun v => v.category := by
  rw [List.map_map]
  exact List.map_congr_left (fun v _ => tr_cat hf v)
theorem good_wz {z : Nat} (hz : z ∈ czs) : GoodIn gtb (wz z) := by
  intro w hw
  have h : w ∈ gtb := by
    rcases List.mem_cons.mp hw with rfl | h
    · exact g_of (cw_all z hz) rfl
    · exact h
  exact ⟨h, good_of_word (gtb_good h).2⟩
theorem good_of_g {w : Cond} (h : w ∈ gtb) : w ∈ gtb ∧ ((w.onTables && w.keeps) = true ∨ ∃ ty, w = .arrayClass ty) := ⟨h, good_of_word (gtb_good h).2⟩
section SIM5
variable {sh : List (Nat × Nat × List Nat)}
variable {p : Program} {l : Launch} {e : Env} {R : Room} {s : State} {m : MethodId} {args : Array Value} {below : List Frame} {meth : Method} {c : Code} {H : Heap} {locs : List Loc} {cells slots : Nat} {Q : State → Prop}
variable {D : va_G} {cI cZ cG : ClassId} {ad : Nat → Nat} {fm : Value} {A : Nat → Prop} {y pc : Nat} {lv : List (Option Value)} {st : List Value} {μ : mm} {ls : Array Slot} {t : mS}
theorem fr_of (hw : Wo sh D cI cZ cG ad A s H locs μ) (hA : ∀ q, s.heap.size ≤ q → A q) : ∀ q, va_A (wd sh cI cZ cG ad μ) H.size q → A q := by
  intro q h
  rcases h with ⟨k, e, h⟩ | h
  · exact hw.2.1.2 k _ h
  · exact hA q (Nat.le_trans hw.2.2.1 h)
/-- what a callee finds -/
theorem pre_of (E : Ev D cI cZ cG ad fm A s) (hw : Wo sh D cI cZ cG ad A s H locs μ) (hA : ∀ q, s.heap.size ≤ q → A q) (U : State) (hU : U.heap = H) (hW : s.WarmedH U.vm) : PreM sh D cI cZ cG ad fm μ H.size U := by
  have hF := fr_of hw hA
  refine ⟨by rw [hU], by rw [hU]; exact hw.1, hw.2.1.weaken (fun _ _ _ _ => trivial), E.1.moved hW.alike, E.2.1, ?_, ?_, ?_, fun q hq => (E.2.2.2.2.2 q hq).warm hW⟩
  · rw [hU]; exact ((E.2.2.1.kept hw.2.2.2.1).narrow hF).moved hW.alike
  · rw [hU]; exact ((E.2.2.2.1.kept hw.2.2.2.1).narrow hF).moved hW.alike
  · rw [hU]; exact ((E.2.2.2.2.1.kept hw.2.2.2.1).narrow hF).moved hW.alike
theorem blind (as : List Value) (sz : Nat) : FrameBlind (va_Pc (as.map (tr ad fm)) (PreM sh D cI cZ cG ad fm μ sz)) := by
  intro a U g mk q
  obtain ⟨q1, q2, q3, q4, q5⟩ := q
  exact ⟨q1, q2, q3, q4, q5.moved (u := U) (U := U.calling g mk a) rfl rfl⟩
/-- behind a call -/
theorem call_sim {n : Nat} (ih : SimAt sh n) {z : Nat} {as : List Value} {w : Option Value} {μ2 : mm} {rest : List Value} {st0 : List Value} (hw : Wo sh D cI cZ cG ad A s H locs μ) (hA : ∀ q, s.heap.size ≤ q → A q) (hret : w = none ∨ ∃ x, w = some (.int x)) {a0 : Array Value}
    (hrun : va_Run p l e R s m args below meth c H locs cells slots 0 0 (F0 m pc ls st0) (rest.map (tr ad fm)) (QcM sh D cI cZ cG ad μ μ2 H.size w a0) (va_A (wd sh cI cZ cG ad μ) H.size))
    (kk : ∀ (H1 : Heap) (locs1 : List Loc), Wo sh D cI cZ cG ad A s H1 locs1 μ2 → W p l e R s m args below meth c H1 locs1 cells slots Q (F0 m (pc + 3) ls ((w.toList ++ rest).map (tr ad fm)))) : W p l e R s m args below meth c H locs cells slots Q (F0 m pc ls st0) := by
  have hF := fr_of hw hA
  rcases hret with rfl | ⟨x, rfl⟩
  · refine va_callv (S := Unit) (a := a0) hrun hw.2.2 (fun q _ h => hF q h) hF (fun u t H1 locs1 ht hvm hp hB hz1 hk1 hS => ?_)
    obtain ⟨b1, b2⟩ := hB
    rw [ht] at b1
    exact kk H1 locs1 ⟨b1, b2.weaken (fun _ q _ h => hF q.1 h), hS⟩
  · refine va_calli (S := Unit) (a := a0) hrun hw.2.2 (fun q _ h => hF q h) hF (fun r u t H1 locs1 ht hvm hp hB hz1 hk1 hS => ?_)
    obtain ⟨b1, b2⟩ := hB
    rw [ht] at b1
    subst hp
    exact kk H1 locs1 ⟨b1, b2.weaken (fun _ q _ h => hF q.1 h), hS⟩
theorem sim_all (hsh : okS sh = true) : ∀ n, SimAt sh n := by
  intro n
  induction n with
  | zero =>
    intro l D cI cZ cG ad fm y pc lv st μ v μ' h
    cases h
  | succ n ih =>
    intro l D cI cZ cG ad fm y pc lv st μ v μ' h p e R s m args below meth c H locs cells slots Q A ls C E hX hA hc hs hl hw hf
    unfold run at h
    split at h
    · cases h
    · rename_i a b c1 d hst
      refine step_sim hsh C E hX hst hl hw (fun ls' H' locs' hl' hw' => ?_)
      refine ih l D cI cZ cG ad fm y a b c1 d v μ' h p e R s m args below meth c H' locs' cells slots Q A ls' C E (fun h9 => ?_) hA hc hs hl' hw' hf
      have hk := stp_keep hst
      obtain ⟨L, x1, x2, x3, x4, x5⟩ := hX h9
      have k1 : d.1 999 = μ.1 999 := hk 999 (Nat.le_trans (okS_len hsh) (by decide))
      have k2 : d.1 998 = μ.1 998 := hk 998 (okS_len hsh)
      exact ⟨L, x1, by rw [k1]; exact x2, x3, x4, by rw [k2]; exact x5⟩
    · rename_i z as a b c1 d hst
      split at h
      · cases h
      · rename_i w μ2 hr
        unfold stp at hst
        split at hst
        · rename_i i hi
          obtain ⟨n9, hd, hn⟩ := ins_dec hi
          have hret := run_ret _ _ _ _ _ _ _ _ hr
          have hgo : ∀ (H1 : Heap) (locs1 : List Loc), a = pc + 3 → b = lv → d = μ → Wo sh D cI cZ cG ad A s H1 locs1 μ2 → W p l e R s m args below meth c H1 locs1 cells slots Q (F0 m (pc + 3) ls ((w.toList ++ c1).map (tr ad fm))) := by
            intro H1 locs1 ha hb hdm hw1
            subst ha hb hdm
            refine ih l D cI cZ cG ad fm y _ _ _ μ2 v μ' h p e R s m args below meth c H1 locs1 cells slots Q A ls C E (fun h9 => ?_) hA hc hs hl hw1 hf
            have hk := run_keep _ _ _ _ _ _ _ _ hr
            obtain ⟨L, x1, x2, x3, x4, x5⟩ := hX h9
            have k1 : μ2.1 999 = d.1 999 := hk 999 (Nat.le_trans (okS_len hsh) (by decide))
            have k2 : μ2.1 998 = d.1 998 := hk 998 (okS_len hsh)
            exact ⟨L, x1, by rw [k1]; exact x2, x3, x4, by rw [k2]; exact x5⟩
          rcases ex_call hst with ⟨idx, bb, rfl, hlk, rfl, hdr, hokr, hokc, ha, hb, hdm⟩ | ⟨idx, rfl, hlk, rfl, rfl, hna, hokc, ha, hb, hdm⟩
          · cases (show n9 = 3 from hn)
            subst hdm
            obtain ⟨o1, o2, o3, o4⟩ := okc_of hokc
            have hzv := lnk_v hlk
            have hz := v_c hzv
            have hb1200 : (bb : Nat) < 1200 := by
              unfold okr at hokr
              split at hokr
              · rename_i h9; exact Nat.lt_of_lt_of_le h9 (by decide)
              · rw [Bool.and_eq_true] at hokr
                exact Nat.lt_of_lt_of_le (of_decide_eq_true hokr.1) (by decide)
            have htr : tr ad fm (.ref bb) = .ref (ad bb) := tr_lt hb1200
            have hM := met_of (l := l) (D := D) (cI := cI) (cZ := cZ) (cG := cG) (ad := ad) (fm := fm) ih hz hr o4 H.size
            have hstk : st = st.take (na z) ++ .ref bb :: c1 := by rw [← hdr]; exact (List.take_append_drop _ _).symm
            have hcell : ∃ cellB : Cell, H[ad bb]? = some cellB ∧ cellB.vm.isStatics = false ∧ s.vm.findClass (cnm (mo z)) = some cellB.cls := by
              unfold okr at hokr
              split at hokr
              · rw [Bool.and_eq_true] at hokr
                have h11 : mo z < 11 := of_decide_eq_true hokr.1
                have h12 := hokr.2
                rw [beq_iff_eq] at h12
                obtain ⟨cc, hcc, h13⟩ := Option.map_eq_some_iff.mp h12
                obtain ⟨c0, n0, s0⟩ := cc
                obtain rfl : c0 = mo z := h13
                have hwd := wd_get cI cZ cG ad d hcc
                rw [cE_obj h11] at hwd
                obtain ⟨T, N, hvw⟩ := vw_nm h11
                exact va_recv E.1 hw.1 hvw hwd
              · rename_i h9
                rw [Bool.and_eq_true] at hokr
                obtain ⟨k9, hk9⟩ : ∃ k9 : Nat, bb = 1000 + k9 := ⟨bb - 1000, (Nat.add_sub_cancel' (Nat.not_lt.mp h9)).symm⟩
                have h10 : (bb : Nat) < 1007 := of_decide_eq_true hokr.1
                have hk7 : k9 < 7 := Nat.lt_of_add_lt_add_left (show 1000 + k9 < 1000 + 7 by rw [← hk9]; exact h10)
                have h20 : mo z = 20 := of_decide_eq_true hokr.2
                rw [h20, hk9]
                exact vk_recv (adK := fun i => ad (1000 + i)) (i := k9) E.2.2.2.2.1 hk7 hw.2.2
            have hrun := va_runV (R := R) (p := p) (e := e) (below := below) (meth := meth) (locs := locs) (cells := cells) (slots := slots) (b := ad bb) (As := (st.take (na z)).reverse.map (tr ad fm)) (rest := c1.map (tr ad fm)) (g := F0 m pc ls (st.map (tr ad fm))) (C := cnm (mo z)) ⟨C.1, C.2.1, C.2.2.1, C.2.2.2.2.2.1, C.2.2.2.2.2.2.1⟩ hM
              (cwV (na z) C.2.2.2.2.2.2.1 (fun w hw9 => by
                unfold wsV at hw9
                rcases List.mem_append.mp hw9 with h | h
                · simp only [List.mem_cons, List.not_mem_nil, or_false] at h
                  rcases h with rfl | rfl | rfl | rfl
                  · exact good_of_g (g_of (lnk_w hlk) rfl)
                  · exact good_of_g (g_of (v_i hzv) rfl)
                  · exact good_of_g (g_of (v_s hzv) rfl)
                  · exact good_of_g (g_of (c_ini hz) rfl)
                · exact good_wz hz w h) rfl rfl rfl ⟨c_cls hz, (c_mh hz).1, (c_mh hz).2, c_na hz⟩ ⟨Nat.le_trans o1 C.2.2.2.2.2.2.2.1, Nat.le_trans o2 C.2.2.2.2.2.2.2.2⟩)
              ⟨blind _ _, hcell, fun U hU hW => ⟨by rw [List.map_cons, htr], pre_of E hw hA U hU hW⟩⟩ rfl (by
                rw [List.length_map, List.length_reverse, List.length_take, Nat.min_eq_left]
                have h8 : (st.drop (na z)).length = c1.length + 1 := by rw [hdr]; rfl
                rw [List.length_drop] at h8
                omega) (hl.1) (by
                show st.map (tr ad fm) = ((st.take (na z)).reverse.map (tr ad fm)).reverse ++ .ref (ad bb) :: c1.map (tr ad fm)
                rw [← List.map_reverse, List.reverse_reverse, ← htr]
                conv => lhs; rw [hstk]
                rw [List.map_append, List.map_cons]) (lv_room (by rw [map_cat E.2.1]; exact o3)) hd ⟨hc, hs⟩
            exact call_sim ih (z := z) (as := .ref bb :: (st.take (na z)).reverse) (rest := c1) hw hA hret hrun (fun H1 locs1 hw1 => hgo H1 locs1 ha hb rfl hw1)
          · cases (show n9 = 3 from hn)
            subst hdm
            obtain ⟨o1, o2, o3, o4⟩ := okc_of hokc
            have hzs := lnk_s hlk
            have hz := s_c hzs
            have hM := met_of (l := l) (D := D) (cI := cI) (cZ := cZ) (cG := cG) (ad := ad) (fm := fm) ih hz hr o4 H.size
            have hrun := va_runS (R := R) (p := p) (e := e) (below := below) (meth := meth) (locs := locs) (cells := cells) (slots := slots) (As := (st.take (na z)).reverse.map (tr ad fm)) (rest := (st.drop (na z)).map (tr ad fm)) (g := F0 m pc ls (st.map (tr ad fm))) ⟨C.1, C.2.1, C.2.2.1, C.2.2.2.2.2.1, C.2.2.2.2.2.2.1⟩ hM
              (va_cwS (na z) C.2.2.2.2.2.2.1 (fun w hw9 => by
                unfold va_wsS at hw9
                rcases List.mem_append.mp hw9 with h | h
                · simp only [List.mem_cons, List.not_mem_nil, or_false] at h
                  rcases h with rfl | rfl | rfl
                  · exact good_of_g (g_of (lnk_w hlk) rfl)
                  · exact good_of_g (g_of (s_s hzs) rfl)
                  · rw [c_cls hz]; exact good_of_g (g_of (c_ini hz) rfl)
                · exact good_wz hz w h) rfl rfl rfl ⟨(c_mh hz).1, (c_mh hz).2, c_na hz⟩ ⟨Nat.le_trans o1 C.2.2.2.2.2.2.2.1, Nat.le_trans o2 C.2.2.2.2.2.2.2.2⟩)
              ⟨blind _ _, fun U hU hW => ⟨rfl, pre_of E hw hA U hU hW⟩⟩ rfl (by
                rw [List.length_map, List.length_reverse, List.length_take, Nat.min_eq_left hna]) (hl.1) (by
                show st.map (tr ad fm) = ((st.take (na z)).reverse.map (tr ad fm)).reverse ++ (st.drop (na z)).map (tr ad fm)
                rw [← List.map_reverse, List.reverse_reverse, ← List.map_append, List.take_append_drop]) (lv_room (by rw [map_cat E.2.1]; exact o3)) hd ⟨hc, hs⟩
            exact call_sim ih (z := z) (as := (st.take (na z)).reverse) (rest := st.drop (na z)) hw hA hret hrun (fun H1 locs1 hw1 => hgo H1 locs1 ha hb rfl hw1)
        · cases hst
    · rename_i r hst
      cases h
      have hμ : μ' = μ := by
        unfold stp at hst
        split at hst
        · exact (ex_ret hst).1
        · cases hst
      subst hμ
      exact hf pc lv st ls H locs hst hw
end SIM5
end
section
/-! WHAT A RUN COMES TO: G y pc locals stack memory Q: the small machine ends, with Q of answer and memory -/
theorem run_mono {sh : List (Nat × Nat × List Nat)} : ∀ (n y pc : Nat) (lv : List (Option Value)) (st : List Value) (μ : mm) (r : Option Value × mm), run sh n y pc lv st μ = some r → run sh (n + 1) y pc lv st μ = some r
  | 0, _, _, _, _, _, _, h => by cases h
  | n + 1, y, pc, lv, st, μ, r, h => by
    unfold run at h ⊢
    split at h
    · cases h
    · rename_i hs
      exact run_mono n _ _ _ _ _ r h
    · rename_i hs
      split at h
      · cases h
      · rename_i hr
        have h1 := run_mono n _ _ _ _ _ _ hr
        simp only [h1]
        exact run_mono n _ _ _ _ _ r h
    · rename_i hs
      exact h
theorem run_le {sh : List (Nat × Nat × List Nat)} {n m y pc : Nat} {lv : List (Option Value)} {st : List Value} {μ : mm} {r : Option Value × mm} (h : run sh n y pc lv st μ = some r) (hm : n ≤ m) : run sh m y pc lv st μ = some r := by
  obtain ⟨d, rfl⟩ := Nat.exists_eq_add_of_le hm
  induction d with
  | zero => exact h
  | succ d ih => exact run_mono _ _ _ _ _ _ _ (ih (Nat.le_add_right n d))
theorem shp_okS : okS shp = true := by decide +kernel
def G (y pc : Nat) (lv : List (Option Value)) (st : List Value) (μ : mm) (Q : Option Value → mm → Prop) : Prop := ∃ n v μ', run shp n y pc lv st μ = some (v, μ') ∧ Q v μ'
section GL
variable {y pc pc' : Nat} {lv lv' : List (Option Value)} {st st' : List Value} {μ μ' : mm} {Q : Option Value → mm → Prop}
theorem G_step (h : stp shp y pc lv st μ = some (.inl (pc', lv', st', μ'))) : G y pc lv st μ Q = G y pc' lv' st' μ' Q := by
  apply propext
  constructor
  · rintro ⟨n, v, m2, h1, h2⟩
    cases n with
    | zero => cases h1
    | succ n =>
      unfold run at h1
      rw [h] at h1
      exact ⟨n, v, m2, h1, h2⟩
  · rintro ⟨n, v, m2, h1, h2⟩
    refine ⟨n + 1, v, m2, ?_, h2⟩
    unfold run
    rw [h]
    exact h1
theorem G_ret {v : Option Value} (h : stp shp y pc lv st μ = some (.inr (.inr (v, μ')))) : G y pc lv st μ Q = Q v μ' := by
  apply propext
  constructor
  · rintro ⟨n, v2, m2, h1, h2⟩
    cases n with
    | zero => cases h1
    | succ n =>
      unfold run at h1
      rw [h] at h1
      cases h1
      exact h2
  · intro h2
    refine ⟨1, v, μ', ?_, h2⟩
    unfold run
    rw [h]
theorem G_none (h : stp shp y pc lv st μ = none) : G y pc lv st μ Q = False := by
  apply propext
  constructor
  · rintro ⟨n, v2, m2, h1, h2⟩
    cases n with
    | zero => cases h1
    | succ n =>
      unfold run at h1
      rw [h] at h1
      cases h1
  · exact False.elim
theorem G_call {z : Nat} {as : List Value} (h : stp shp y pc lv st μ = some (.inr (.inl (z, as, pc', lv', st', μ')))) : G y pc lv st μ Q = G z 0 (ent as) [] μ' (fun v μ2 => G y pc' lv' (v.toList ++ st') μ2 Q) := by
  apply propext
  constructor
  · rintro ⟨n, v2, m2, h1, h2⟩
    cases n with
    | zero => cases h1
    | succ n =>
      unfold run at h1
      rw [h] at h1
      dsimp only at h1
      split at h1
      · cases h1
      · rename_i w m3 hr
        exact ⟨n, w, m3, hr, n, v2, m2, h1, h2⟩
  · rintro ⟨n, w, m3, hr, n2, v2, m2, h1, h2⟩
    refine ⟨max n n2 + 1, v2, m2, ?_, h2⟩
    unfold run
    rw [h]
    have e1 := run_le hr (Nat.le_max_left n n2)
    have e2 := run_le h1 (Nat.le_max_right n n2)
    simp only [e1]
    exact e2
theorem G_imp {Q' : Option Value → mm → Prop} (h : G y pc lv st μ Q) (hQ : ∀ v μ', Q v μ' → Q' v μ') : G y pc lv st μ Q' := by
  obtain ⟨n, v, m2, h1, h2⟩ := h
  exact ⟨n, v, m2, h1, hQ _ _ h2⟩
theorem if_eq {c : Prop} {A B A' B' : Prop} (inst : Decidable c) (hA : A = A') (hB : B = B') : (if c then A else B) = (if c then A' else B') := by rw [hA, hB]
theorem stp_of {i : Instr} (hi : ins y pc = some i) : stp shp y pc lv st μ = ex shp y pc lv st μ i := by unfold stp; rw [hi]
variable {r : List Value}
theorem g_iconst {n : Int} {x : Int32} (hi : ins y pc = some (.iconst n)) (hx : Int32.ofInt n = x) : G y pc lv st μ Q = G y (pc + 1) lv (.int x :: st) μ Q := by subst hx; exact G_step ((stp_of hi).trans rfl)
theorem g_bipush {n : Int} {x : Int32} (hi : ins y pc = some (.bipush n)) (hx : (Int8.ofInt n).toInt32 = x) : G y pc lv st μ Q = G y (pc + 2) lv (.int x :: st) μ Q := by subst hx; exact G_step ((stp_of hi).trans rfl)
theorem g_sipush {n : Int} {x : Int32} (hi : ins y pc = some (.sipush n)) (hx : (Int16.ofInt n).toInt32 = x) : G y pc lv st μ Q = G y (pc + 3) lv (.int x :: st) μ Q := by subst hx; exact G_step ((stp_of hi).trans rfl)
theorem g_lconst {n : Fin 2} {x : Int64} (hi : ins y pc = some (.lconst n)) (hx : Int64.ofNat (n : Nat) = x) : G y pc lv st μ Q = G y (pc + 1) lv (.long x :: st) μ Q := by subst hx; exact G_step ((stp_of hi).trans rfl)
theorem g_ldc {i : Nat} {x : Int32} (hi : ins y pc = some (.ldc i)) (hx : cst (mo y) i = some (.int x)) : G y pc lv st μ Q = G y (pc + 2) lv (.int x :: st) μ Q := G_step ((stp_of hi).trans (by simp only [ex, hx, nx]))
theorem g_ldc_w {i : Nat} {x : Int32} (hi : ins y pc = some (.ldc_w i)) (hx : cst (mo y) i = some (.int x)) : G y pc lv st μ Q = G y (pc + 3) lv (.int x :: st) μ Q := G_step ((stp_of hi).trans (by simp only [ex, hx, nx]))
theorem g_ldc2_w {i : Nat} {x : Int64} (hi : ins y pc = some (.ldc2_w i)) (hx : cst (mo y) i = some (.long x)) : G y pc lv st μ Q = G y (pc + 3) lv (.long x :: st) μ Q := G_step ((stp_of hi).trans (by simp only [ex, hx, nx]))
theorem g_ldcS {i k : Nat} (hi : ins y pc = some (.ldc i)) (hx : cst (mo y) i = some (.ref k)) : G y pc lv st μ Q = G y (pc + 2) lv (.ref k :: st) μ Q := G_step ((stp_of hi).trans (by simp only [ex, hx, nx]))
theorem g_iload_n {k : Fin 4} {x : Int32} (hi : ins y pc = some (.iload_n k)) (hx : lv[(k : Nat)]? = some (some (.int x))) : G y pc lv st μ Q = G y (pc + 1) lv (.int x :: st) μ Q := G_step ((stp_of hi).trans (by simp only [ex, lod, hx, nx, isI, isL, if_true]))
theorem g_iload {k : Nat} {x : Int32} (hi : ins y pc = some (.iload k)) (hx : lv[(k : Nat)]? = some (some (.int x))) : G y pc lv st μ Q = G y (pc + 2) lv (.int x :: st) μ Q := G_step ((stp_of hi).trans (by simp only [ex, lod, hx, nx, isI, isL, if_true]))
theorem g_lload_n {k : Fin 4} {x : Int64} (hi : ins y pc = some (.lload_n k)) (hx : lv[(k : Nat)]? = some (some (.long x))) : G y pc lv st μ Q = G y (pc + 1) lv (.long x :: st) μ Q := G_step ((stp_of hi).trans (by simp only [ex, lod, hx, nx, isI, isL, if_true]))
theorem g_aload_n {k : Fin 4} {x : Nat} (hi : ins y pc = some (.aload_n k)) (hx : lv[(k : Nat)]? = some (some (.ref x))) (hk : decide (x ≠ 1200) = true) : G y pc lv st μ Q = G y (pc + 1) lv (.ref x :: st) μ Q := G_step ((stp_of hi).trans (by simp only [ex, lod, hx, nx]; exact if_pos hk))
theorem g_istore_n {k : Fin 4} {x : Int32} (hi : ins y pc = some (.istore_n k)) (hk : (k : Nat) < mL y) (hn : nolong k lv = true) (hl : sl k (some (.int x)) lv = lv') : G y pc lv (.int x :: r) μ Q = G y (pc + 1) lv' r μ Q := by subst hl; exact G_step ((stp_of hi).trans (by simp only [ex, sto, nx]; rw [if_pos ⟨hk, hn⟩]))
theorem g_istore {k : Nat} {x : Int32} (hi : ins y pc = some (.istore k)) (hk : (k : Nat) < mL y) (hn : nolong k lv = true) (hl : sl k (some (.int x)) lv = lv') : G y pc lv (.int x :: r) μ Q = G y (pc + 2) lv' r μ Q := by subst hl; exact G_step ((stp_of hi).trans (by simp only [ex, sto, nx]; rw [if_pos ⟨hk, hn⟩]))
theorem g_iinc {i : Nat} {n : Int} {x z : Int32} (hi : ins y pc = some (.iinc i n)) (hx : lv[i]? = some (some (.int x))) (hz : Int32.ofInt n = z) (hk : i < mL y) (hn : nolong i lv = true) (hl : sl i (some (.int (x + z))) lv = lv') : G y pc lv st μ Q = G y (pc + 3) lv' st μ Q := by subst hz; subst hl; exact G_step ((stp_of hi).trans (by simp only [ex, hx, nx]; rw [if_pos ⟨hk, hn⟩]))
theorem g_iadd {a b : Int32} (hi : ins y pc = some (.iadd)) : G y pc lv (.int b :: .int a :: r) μ Q = G y (pc + 1) lv (.int (a + b) :: r) μ Q := G_step ((stp_of hi).trans rfl)
theorem g_isub {a b : Int32} (hi : ins y pc = some (.isub)) : G y pc lv (.int b :: .int a :: r) μ Q = G y (pc + 1) lv (.int (a - b) :: r) μ Q := G_step ((stp_of hi).trans rfl)
theorem g_imul {a b : Int32} (hi : ins y pc = some (.imul)) : G y pc lv (.int b :: .int a :: r) μ Q = G y (pc + 1) lv (.int (a * b) :: r) μ Q := G_step ((stp_of hi).trans rfl)
theorem g_iand {a b : Int32} (hi : ins y pc = some (.iand)) : G y pc lv (.int b :: .int a :: r) μ Q = G y (pc + 1) lv (.int (a &&& b) :: r) μ Q := G_step ((stp_of hi).trans rfl)
theorem g_ior {a b : Int32} (hi : ins y pc = some (.ior)) : G y pc lv (.int b :: .int a :: r) μ Q = G y (pc + 1) lv (.int (a ||| b) :: r) μ Q := G_step ((stp_of hi).trans rfl)
theorem g_ixor {a b : Int32} (hi : ins y pc = some (.ixor)) : G y pc lv (.int b :: .int a :: r) μ Q = G y (pc + 1) lv (.int (a ^^^ b) :: r) μ Q := G_step ((stp_of hi).trans rfl)
theorem g_ishl {a b : Int32} (hi : ins y pc = some (.ishl)) : G y pc lv (.int b :: .int a :: r) μ Q = G y (pc + 1) lv (.int (a <<< (b &&& 31)) :: r) μ Q := G_step ((stp_of hi).trans rfl)
theorem g_ishr {a b : Int32} (hi : ins y pc = some (.ishr)) : G y pc lv (.int b :: .int a :: r) μ Q = G y (pc + 1) lv (.int (a >>> (b &&& 31)) :: r) μ Q := G_step ((stp_of hi).trans rfl)
theorem g_iushr {a b : Int32} (hi : ins y pc = some (.iushr)) : G y pc lv (.int b :: .int a :: r) μ Q = G y (pc + 1) lv (.int ((a.toUInt32 >>> (b.toUInt32 &&& Int32.toUInt32 31)).toInt32) :: r) μ Q := G_step ((stp_of hi).trans rfl)
theorem g_idiv {a b : Int32} (hi : ins y pc = some (.idiv)) (hb : ¬ b = 0) : G y pc lv (.int b :: .int a :: r) μ Q = G y (pc + 1) lv (.int (a / b) :: r) μ Q := G_step ((stp_of hi).trans (by simp only [ex, if_neg hb, nx]))
theorem g_irem {a b : Int32} (hi : ins y pc = some (.irem)) (hb : ¬ b = 0) : G y pc lv (.int b :: .int a :: r) μ Q = G y (pc + 1) lv (.int (a - a / b * b) :: r) μ Q := G_step ((stp_of hi).trans (by simp only [ex, if_neg hb, nx]))
theorem g_ineg {a : Int32} (hi : ins y pc = some (.ineg)) : G y pc lv (.int a :: r) μ Q = G y (pc + 1) lv (.int (-a) :: r) μ Q := G_step ((stp_of hi).trans rfl)
theorem g_i2l {a : Int32} (hi : ins y pc = some (.i2l)) : G y pc lv (.int a :: r) μ Q = G y (pc + 1) lv (.long a.toInt64 :: r) μ Q := G_step ((stp_of hi).trans rfl)
theorem g_i2c {a : Int32} (hi : ins y pc = some (.i2c)) : G y pc lv (.int a :: r) μ Q = G y (pc + 1) lv (.int (a.toUInt32 % 65536).toInt32 :: r) μ Q := G_step ((stp_of hi).trans rfl)
theorem g_l2i {a : Int64} (hi : ins y pc = some (.l2i)) : G y pc lv (.long a :: r) μ Q = G y (pc + 1) lv (.int a.toInt32 :: r) μ Q := G_step ((stp_of hi).trans rfl)
theorem g_ladd {a b : Int64} (hi : ins y pc = some (.ladd)) : G y pc lv (.long b :: .long a :: r) μ Q = G y (pc + 1) lv (.long (a + b) :: r) μ Q := G_step ((stp_of hi).trans rfl)
theorem g_lsub {a b : Int64} (hi : ins y pc = some (.lsub)) : G y pc lv (.long b :: .long a :: r) μ Q = G y (pc + 1) lv (.long (a - b) :: r) μ Q := G_step ((stp_of hi).trans rfl)
theorem g_lmul {a b : Int64} (hi : ins y pc = some (.lmul)) : G y pc lv (.long b :: .long a :: r) μ Q = G y (pc + 1) lv (.long (a * b) :: r) μ Q := G_step ((stp_of hi).trans rfl)
theorem g_land {a b : Int64} (hi : ins y pc = some (.land)) : G y pc lv (.long b :: .long a :: r) μ Q = G y (pc + 1) lv (.long (a &&& b) :: r) μ Q := G_step ((stp_of hi).trans rfl)
theorem g_lor {a b : Int64} (hi : ins y pc = some (.lor)) : G y pc lv (.long b :: .long a :: r) μ Q = G y (pc + 1) lv (.long (a ||| b) :: r) μ Q := G_step ((stp_of hi).trans rfl)
theorem g_lshl {a : Int64} {b : Int32} (hi : ins y pc = some (.lshl)) : G y pc lv (.int b :: .long a :: r) μ Q = G y (pc + 1) lv (.long (a <<< (b.toInt64 &&& 63)) :: r) μ Q := G_step ((stp_of hi).trans rfl)
theorem g_lshr {a : Int64} {b : Int32} (hi : ins y pc = some (.lshr)) : G y pc lv (.int b :: .long a :: r) μ Q = G y (pc + 1) lv (.long (a >>> (b.toInt64 &&& 63)) :: r) μ Q := G_step ((stp_of hi).trans rfl)
theorem g_lcmp {a b : Int64} (hi : ins y pc = some (.lcmp)) : G y pc lv (.long b :: .long a :: r) μ Q = G y (pc + 1) lv (.int (lg_cmp a b) :: r) μ Q := G_step ((stp_of hi).trans rfl)
theorem g_dupI {a : Int32} (hi : ins y pc = some (.dup)) : G y pc lv (.int a :: r) μ Q = G y (pc + 1) lv (.int a :: .int a :: r) μ Q := G_step ((stp_of hi).trans rfl)
theorem g_dupR {a : Nat} (hi : ins y pc = some (.dup)) : G y pc lv (.ref a :: r) μ Q = G y (pc + 1) lv (.ref a :: .ref a :: r) μ Q := G_step ((stp_of hi).trans rfl)
theorem g_pop {a : Int32} (hi : ins y pc = some (.pop)) : G y pc lv (.int a :: r) μ Q = G y (pc + 1) lv r μ Q := G_step ((stp_of hi).trans rfl)
theorem jck_of {off : Int} {tgt : Nat} {f : Nat → Option mR} (ht : (pc : Int) + off = (tgt : Int)) : jck pc off f = f tgt := by
  unfold jck
  rw [ht]
  simp
theorem g_goto {off : Int} {tgt : Nat} (hi : ins y pc = some (.goto off)) (ht : (pc : Int) + off = (tgt : Int)) : G y pc lv st μ Q = G y tgt lv st μ Q := G_step ((stp_of hi).trans (by simp only [ex, jmp]; rw [jck_of ht, nx]))
theorem g_if_eq {off : Int} {tgt : Nat} {x : Int32} (hi : ins y pc = some (.ifCond .eq off)) (ht : (pc : Int) + off = (tgt : Int)) : G y pc lv (.int x :: r) μ Q = (if x = 0 then G y tgt lv r μ Q else G y (pc + 3) lv r μ Q) := by
  split
  · rename_i hc; exact G_step ((stp_of hi).trans (by simp only [ex]; rw [jck_of ht, if_pos hc, nx]))
  · rename_i hc; exact G_step ((stp_of hi).trans (by simp only [ex]; rw [jck_of ht, if_neg hc, nx]))
theorem g_if_ne {off : Int} {tgt : Nat} {x : Int32} (hi : ins y pc = some (.ifCond .ne off)) (ht : (pc : Int) + off = (tgt : Int)) : G y pc lv (.int x :: r) μ Q = (if x = 0 then G y (pc + 3) lv r μ Q else G y tgt lv r μ Q) := by
  split
  · rename_i hc; exact G_step ((stp_of hi).trans (by simp only [ex]; rw [jck_of ht, if_pos hc, nx]))
  · rename_i hc; exact G_step ((stp_of hi).trans (by simp only [ex]; rw [jck_of ht, if_neg hc, nx]))
theorem g_if_lt {off : Int} {tgt : Nat} {x : Int32} (hi : ins y pc = some (.ifCond .lt off)) (ht : (pc : Int) + off = (tgt : Int)) : G y pc lv (.int x :: r) μ Q = (if x < 0 then G y tgt lv r μ Q else G y (pc + 3) lv r μ Q) := by
  split
  · rename_i hc; exact G_step ((stp_of hi).trans (by simp only [ex]; rw [jck_of ht, if_pos hc, nx]))
  · rename_i hc; exact G_step ((stp_of hi).trans (by simp only [ex]; rw [jck_of ht, if_neg hc, nx]))
theorem g_if_ge {off : Int} {tgt : Nat} {x : Int32} (hi : ins y pc = some (.ifCond .ge off)) (ht : (pc : Int) + off = (tgt : Int)) : G y pc lv (.int x :: r) μ Q = (if 0 ≤ x then G y tgt lv r μ Q else G y (pc + 3) lv r μ Q) := by
  split
  · rename_i hc; exact G_step ((stp_of hi).trans (by simp only [ex]; rw [jck_of ht, if_pos hc, nx]))
  · rename_i hc; exact G_step ((stp_of hi).trans (by simp only [ex]; rw [jck_of ht, if_neg hc, nx]))
theorem g_if_gt {off : Int} {tgt : Nat} {x : Int32} (hi : ins y pc = some (.ifCond .gt off)) (ht : (pc : Int) + off = (tgt : Int)) : G y pc lv (.int x :: r) μ Q = (if 0 < x then G y tgt lv r μ Q else G y (pc + 3) lv r μ Q) := by
  split
  · rename_i hc; exact G_step ((stp_of hi).trans (by simp only [ex]; rw [jck_of ht, if_pos hc, nx]))
  · rename_i hc; exact G_step ((stp_of hi).trans (by simp only [ex]; rw [jck_of ht, if_neg hc, nx]))
theorem g_if_le {off : Int} {tgt : Nat} {x : Int32} (hi : ins y pc = some (.ifCond .le off)) (ht : (pc : Int) + off = (tgt : Int)) : G y pc lv (.int x :: r) μ Q = (if x ≤ 0 then G y tgt lv r μ Q else G y (pc + 3) lv r μ Q) := by
  split
  · rename_i hc; exact G_step ((stp_of hi).trans (by simp only [ex]; rw [jck_of ht, if_pos hc, nx]))
  · rename_i hc; exact G_step ((stp_of hi).trans (by simp only [ex]; rw [jck_of ht, if_neg hc, nx]))
theorem g_icmp_eq {off : Int} {tgt : Nat} {a b : Int32} (hi : ins y pc = some (.if_icmp .eq off)) (ht : (pc : Int) + off = (tgt : Int)) : G y pc lv (.int b :: .int a :: r) μ Q = (if a = b then G y tgt lv r μ Q else G y (pc + 3) lv r μ Q) := by
  split
  · rename_i hc; exact G_step ((stp_of hi).trans (by simp only [ex]; rw [jck_of ht, if_pos hc, nx]))
  · rename_i hc; exact G_step ((stp_of hi).trans (by simp only [ex]; rw [jck_of ht, if_neg hc, nx]))
theorem g_icmp_ne {off : Int} {tgt : Nat} {a b : Int32} (hi : ins y pc = some (.if_icmp .ne off)) (ht : (pc : Int) + off = (tgt : Int)) : G y pc lv (.int b :: .int a :: r) μ Q = (if a = b then G y (pc + 3) lv r μ Q else G y tgt lv r μ Q) := by
  split
  · rename_i hc; exact G_step ((stp_of hi).trans (by simp only [ex]; rw [jck_of ht, if_pos hc, nx]))
  · rename_i hc; exact G_step ((stp_of hi).trans (by simp only [ex]; rw [jck_of ht, if_neg hc, nx]))
theorem g_icmp_lt {off : Int} {tgt : Nat} {a b : Int32} (hi : ins y pc = some (.if_icmp .lt off)) (ht : (pc : Int) + off = (tgt : Int)) : G y pc lv (.int b :: .int a :: r) μ Q = (if a < b then G y tgt lv r μ Q else G y (pc + 3) lv r μ Q) := by
  split
  · rename_i hc; exact G_step ((stp_of hi).trans (by simp only [ex]; rw [jck_of ht, if_pos hc, nx]))
  · rename_i hc; exact G_step ((stp_of hi).trans (by simp only [ex]; rw [jck_of ht, if_neg hc, nx]))
theorem g_icmp_ge {off : Int} {tgt : Nat} {a b : Int32} (hi : ins y pc = some (.if_icmp .ge off)) (ht : (pc : Int) + off = (tgt : Int)) : G y pc lv (.int b :: .int a :: r) μ Q = (if b ≤ a then G y tgt lv r μ Q else G y (pc + 3) lv r μ Q) := by
  split
  · rename_i hc; exact G_step ((stp_of hi).trans (by simp only [ex]; rw [jck_of ht, if_pos hc, nx]))
  · rename_i hc; exact G_step ((stp_of hi).trans (by simp only [ex]; rw [jck_of ht, if_neg hc, nx]))
theorem g_icmp_gt {off : Int} {tgt : Nat} {a b : Int32} (hi : ins y pc = some (.if_icmp .gt off)) (ht : (pc : Int) + off = (tgt : Int)) : G y pc lv (.int b :: .int a :: r) μ Q = (if b < a then G y tgt lv r μ Q else G y (pc + 3) lv r μ Q) := by
  split
  · rename_i hc; exact G_step ((stp_of hi).trans (by simp only [ex]; rw [jck_of ht, if_pos hc, nx]))
  · rename_i hc; exact G_step ((stp_of hi).trans (by simp only [ex]; rw [jck_of ht, if_neg hc, nx]))
theorem g_icmp_le {off : Int} {tgt : Nat} {a b : Int32} (hi : ins y pc = some (.if_icmp .le off)) (ht : (pc : Int) + off = (tgt : Int)) : G y pc lv (.int b :: .int a :: r) μ Q = (if a ≤ b then G y tgt lv r μ Q else G y (pc + 3) lv r μ Q) := by
  split
  · rename_i hc; exact G_step ((stp_of hi).trans (by simp only [ex]; rw [jck_of ht, if_pos hc, nx]))
  · rename_i hc; exact G_step ((stp_of hi).trans (by simp only [ex]; rw [jck_of ht, if_neg hc, nx]))
theorem g_tableOut {d lo up : Int} {offs : Array Int} {x : Int32} {tgt : Nat} (hi : ins y pc = some (.tableswitch d lo up offs)) (h : x.toInt < lo ∨ up < x.toInt) (ht : (pc : Int) + d = (tgt : Int)) : G y pc lv (.int x :: r) μ Q = G y tgt lv r μ Q := G_step ((stp_of hi).trans (by simp only [ex, jmp]; rw [if_pos h, jck_of ht, nx]))
theorem g_tableIn {d lo up : Int} {offs : Array Int} {x : Int32} {off : Int} {tgt : Nat} (hi : ins y pc = some (.tableswitch d lo up offs)) (h : ¬ (x.toInt < lo ∨ up < x.toInt)) (ho : offs[(x.toInt - lo).toNat]? = some off) (ht : (pc : Int) + off = (tgt : Int)) : G y pc lv (.int x :: r) μ Q = G y tgt lv r μ Q := G_step ((stp_of hi).trans (by simp only [ex, jmp]; rw [if_neg h]; simp only [ho]; rw [jck_of ht, nx]))
theorem g_lookup {d : Int} {ps : Array (Int × Int)} {x : Int32} {off : Int} {tgt : Nat} (hi : ins y pc = some (.lookupswitch d ps)) (hp : (ps.toList.zip (ps.toList.drop 1)).all (fun (a, next) => a.1 < next.1) = true) (ho : Op.lookupswitch.offset ps.toList d x.toInt = off) (ht : (pc : Int) + off = (tgt : Int)) : G y pc lv (.int x :: r) μ Q = G y tgt lv r μ Q := G_step ((stp_of hi).trans (by simp only [ex, jmp]; rw [if_pos hp, ho, jck_of ht, nx]))
theorem g_getI {i k ci j n : Nat} {s0 : List Nat} (hi : ins y pc = some (.getfield i)) (hf : fld (mo y) i = some (ci, j)) (hs : shp[k]? = some (ci, n, s0)) (hc : ci < 11) (hj : s0[j]? = some 0) : G y pc lv (.ref k :: r) μ Q = G y (pc + 3) lv (.int (μ.1 k j) :: r) μ Q := G_step ((stp_of hi).trans (by
  have hk : (k : Nat) < 1000 := Nat.lt_of_lt_of_le (shp_lt shp_okS hs) (by decide)
  simp only [ex, gfd, hf, hs, hj, nx, if_pos hk, hc, and_self, if_true]))
theorem g_getL {i k ci j n : Nat} {s0 : List Nat} (hi : ins y pc = some (.getfield i)) (hf : fld (mo y) i = some (ci, j)) (hs : shp[k]? = some (ci, n, s0)) (hc : ci < 11) (hj : s0[j]? = some 1) : G y pc lv (.ref k :: r) μ Q = G y (pc + 3) lv (.long μ.2 :: r) μ Q := G_step ((stp_of hi).trans (by
  have hk : (k : Nat) < 1000 := Nat.lt_of_lt_of_le (shp_lt shp_okS hs) (by decide)
  simp only [ex, gfd, hf, hs, hj, nx, if_pos hk, hc, and_self, if_true]))
theorem g_getR {i k ci j n q : Nat} {s0 : List Nat} (hi : ins y pc = some (.getfield i)) (hf : fld (mo y) i = some (ci, j)) (hs : shp[k]? = some (ci, n, s0)) (hc : ci < 11) (hj : s0[j]? = some (q + 2)) : G y pc lv (.ref k :: r) μ Q = G y (pc + 3) lv (.ref q :: r) μ Q := G_step ((stp_of hi).trans (by
  have hk : (k : Nat) < 1000 := Nat.lt_of_lt_of_le (shp_lt shp_okS hs) (by decide)
  simp only [ex, gfd, hf, hs, hj, nx, if_pos hk, hc, and_self, if_true]))
theorem g_getS {i k : Nat} {v : Value} (hi : ins y pc = some (.getfield i)) (hk : ¬ k < 1000) (hv : gst y i k = some v) : G y pc lv (.ref k :: r) μ Q = G y (pc + 3) lv (v :: r) μ Q := G_step ((stp_of hi).trans (by simp only [ex, if_neg hk, hv, nx]))
theorem g_putI {i k ci j n : Nat} {s0 : List Nat} {x : Int32} (hi : ins y pc = some (.putfield i)) (hf : fld (mo y) i = some (ci, j)) (hs : shp[k]? = some (ci, n, s0)) (hc : ci < 11) (hj : s0[j]? = some 0) : G y pc lv (.int x :: .ref k :: r) μ Q = G y (pc + 3) lv r (mup μ k j x) Q := G_step ((stp_of hi).trans (by
  simp only [ex, hf, hs, nx]; rw [if_pos ⟨trivial, hc, hj⟩]))
theorem g_putL {i k ci j n : Nat} {s0 : List Nat} {x : Int64} (hi : ins y pc = some (.putfield i)) (hf : fld (mo y) i = some (ci, j)) (hs : shp[k]? = some (ci, n, s0)) (hc : ci < 11) (hj : s0[j]? = some 1) : G y pc lv (.long x :: .ref k :: r) μ Q = G y (pc + 3) lv r (μ.1, x) Q := G_step ((stp_of hi).trans (by
  simp only [ex, hf, hs, nx]; rw [if_pos ⟨trivial, hc, hj⟩]))
theorem g_iaload {k n : Nat} {s0 : List Nat} {i : Int32} (hi : ins y pc = some .iaload) (hs : shp[k]? = some (100, n, s0)) : G y pc lv (.int i :: .ref k :: r) μ Q = (if i < 0 ∨ n ≤ i.toNatClampNeg then False else G y (pc + 1) lv (.int (μ.1 k i.toNatClampNeg) :: r) μ Q) := by
  have hk : ¬ (k : Nat) = 999 := fun z => absurd (shp_lt shp_okS hs) (by rw [z]; decide)
  split
  · rename_i hc; exact G_none ((stp_of hi).trans (by simp only [ex, if_neg hk, hs, if_true, if_pos hc]))
  · rename_i hc; exact G_step ((stp_of hi).trans (by simp only [ex, if_neg hk, hs, if_true, if_neg hc, nx]))
theorem g_iastore {k n : Nat} {s0 : List Nat} {i x : Int32} (hi : ins y pc = some .iastore) (hs : shp[k]? = some (100, n, s0)) : G y pc lv (.int x :: .int i :: .ref k :: r) μ Q = (if i < 0 ∨ n ≤ i.toNatClampNeg then False else G y (pc + 1) lv r (mup μ k i.toNatClampNeg x) Q) := by
  split
  · rename_i hc; exact G_none ((stp_of hi).trans (by simp only [ex, hs, if_true, if_pos hc]))
  · rename_i hc; exact G_step ((stp_of hi).trans (by simp only [ex, hs, if_true, if_neg hc, nx]))
theorem g_baload {k n : Nat} {s0 : List Nat} {i : Int32} (hi : ins y pc = some .baload) (hs : shp[k]? = some (101, n, s0)) : G y pc lv (.int i :: .ref k :: r) μ Q = (if i < 0 ∨ n ≤ i.toNatClampNeg then False else G y (pc + 1) lv (.int (μ.1 k i.toNatClampNeg) :: r) μ Q) := by
  have hk : (k : Nat) < 1000 := Nat.lt_of_lt_of_le (shp_lt shp_okS hs) (by decide)
  split
  · rename_i hc; exact G_none ((stp_of hi).trans (by simp only [ex, if_pos hk, hs, if_true, if_pos hc]))
  · rename_i hc; exact G_step ((stp_of hi).trans (by simp only [ex, if_pos hk, hs, if_true, if_neg hc, nx]))
theorem g_baloadS {k : Nat} {i : Int32} (hi : ins y pc = some .baload) (hk : 1100 ≤ k ∧ k < 1107) : G y pc lv (.int i :: .ref k :: r) μ Q = (if i < 0 ∨ jsl.getD (k - 1100) 0 ≤ i.toNatClampNeg then False else G y (pc + 1) lv (.int ((jsb.getD (k - 1100) []).getD i.toNatClampNeg 0) :: r) μ Q) := by
  have hk2 : ¬ (k : Nat) < 1000 := by omega
  split
  · rename_i hc; exact G_none ((stp_of hi).trans (by simp only [ex, if_neg hk2, if_pos hk, if_pos hc]))
  · rename_i hc; exact G_step ((stp_of hi).trans (by simp only [ex, if_neg hk2, if_pos hk, if_neg hc, nx]))
theorem g_bastore {k n : Nat} {s0 : List Nat} {i x : Int32} (hi : ins y pc = some .bastore) (hs : shp[k]? = some (101, n, s0)) : G y pc lv (.int x :: .int i :: .ref k :: r) μ Q = (if i < 0 ∨ n ≤ i.toNatClampNeg then False else G y (pc + 1) lv r (mup μ k i.toNatClampNeg (vp_nar .boolean x)) Q) := by
  split
  · rename_i hc; exact G_none ((stp_of hi).trans (by simp only [ex, hs, if_true, if_pos hc]))
  · rename_i hc; exact G_step ((stp_of hi).trans (by simp only [ex, hs, if_true, if_neg hc, nx]))
theorem g_aaload {i : Int32} (hi : ins y pc = some .aaload) : G y pc lv (.int i :: .ref 16 :: r) μ Q = (if i < 0 ∨ 10 ≤ i.toNatClampNeg then False else G y (pc + 1) lv (.ref (17 + i.toNatClampNeg) :: r) μ Q) := by
  have hs : shp[16]? = some (102, 10, [17, 18, 19, 20, 21, 22, 23, 24, 25, 26]) := rfl
  split
  · rename_i hc; exact G_none ((stp_of hi).trans (by simp only [ex, hs, if_true, if_pos hc]))
  · rename_i hc
    have hq : ([17, 18, 19, 20, 21, 22, 23, 24, 25, 26] : List Nat)[i.toNatClampNeg]? = some (17 + i.toNatClampNeg) := by
      have h9 : i.toNatClampNeg < 10 := Nat.not_le.mp (fun z => hc (Or.inr z))
      generalize i.toNatClampNeg = q at h9
      rcases (show q = 0 ∨ q = 1 ∨ q = 2 ∨ q = 3 ∨ q = 4 ∨ q = 5 ∨ q = 6 ∨ q = 7 ∨ q = 8 ∨ q = 9 by omega) with rfl | rfl | rfl | rfl | rfl | rfl | rfl | rfl | rfl | rfl <;> rfl
    exact G_step ((stp_of hi).trans (by simp only [ex, hs, if_true, if_neg hc, hq, nx]))
theorem shp_row {q : Nat} (h : q < 10) : shp[17 + q]? = some (100, 10, []) := by
  rcases (show q = 0 ∨ q = 1 ∨ q = 2 ∨ q = 3 ∨ q = 4 ∨ q = 5 ∨ q = 6 ∨ q = 7 ∨ q = 8 ∨ q = 9 by omega) with rfl | rfl | rfl | rfl | rfl | rfl | rfl | rfl | rfl | rfl <;> rfl
theorem g_scrL (hi : ins y pc = some .arraylength) (hm : mo y = 11) : G y pc lv (.ref 999 :: r) μ Q = G y (pc + 1) lv (.int (μ.1 998 0) :: r) μ Q := G_step ((stp_of hi).trans (by simp only [ex, if_true, hm, nx]))
theorem g_scr {i : Int32} (hi : ins y pc = some .iaload) (hm : mo y = 11) : G y pc lv (.int i :: .ref 999 :: r) μ Q = (if i < 0 ∨ (μ.1 998 0).toNatClampNeg ≤ i.toNatClampNeg then False else G y (pc + 1) lv (.int (μ.1 999 i.toNatClampNeg) :: r) μ Q) := by
  split
  · rename_i hc; exact G_none ((stp_of hi).trans (by simp only [ex, if_true, hm, if_pos hc]))
  · rename_i hc; exact G_step ((stp_of hi).trans (by simp only [ex, if_true, hm, if_neg hc, nx]))
theorem g_alenS {k : Nat} (hi : ins y pc = some .arraylength) (h9 : ¬ k = 999) (hk : 1100 ≤ k ∧ k < 1107) : G y pc lv (.ref k :: r) μ Q = G y (pc + 1) lv (.int (Int32.ofNat (jsl.getD (k - 1100) 0)) :: r) μ Q := G_step ((stp_of hi).trans (by simp only [ex, if_neg h9, if_pos hk, nx]))
theorem g_gets1 (hi : ins y pc = some (.getstatic 38)) (hm : mo y = 20) : G y pc lv st μ Q = G y (pc + 3) lv (.int 1 :: st) μ Q := G_step ((stp_of hi).trans (by simp only [ex, hm, and_self, if_true, nx]))
theorem g_gets2 (hi : ins y pc = some (.getstatic 1053)) (hm : mo y = 20) : G y pc lv st μ Q = G y (pc + 3) lv (.ref 1200 :: st) μ Q := G_step ((stp_of hi).trans (by simp only [ex, hm, nx]; rfl))
theorem g_cV {i z b : Nat} {as : List Value} (hi : ins y pc = some (.invokevirtual i)) (hk : lnk (mo y) i = some (0, z)) (hd : st.drop (na z) = .ref b :: r) (ha : .ref b :: (st.take (na z)).reverse = as) (hok : (okr shp z b && okc y z as r) = true) : G y pc lv st μ Q = G z 0 (ent as) [] μ (fun v μ2 => G y (pc + 3) lv (v.toList ++ r) μ2 Q) := by subst ha; exact G_call ((stp_of hi).trans (by simp only [ex, cV, hk, hd, hok, if_true]))
theorem g_cS {i z : Nat} {as : List Value} (hi : ins y pc = some (.invokestatic i)) (hk : lnk (mo y) i = some (1, z)) (hd : st.drop (na z) = r) (ha : (st.take (na z)).reverse = as) (hok : (decide (na z ≤ st.length) && okc y z as r) = true) : G y pc lv st μ Q = G z 0 (ent as) [] μ (fun v μ2 => G y (pc + 3) lv (v.toList ++ r) μ2 Q) := by subst ha; subst hd; exact G_call ((stp_of hi).trans (by simp only [ex, cS, hk, hok, if_true]))
theorem g_iret {v : Int32} {ty : FieldType} (hi : ins y pc = some .ireturn) (hm : mr y = some ty) (hn : narrow ty (.int v) = .int v) : G y pc lv [.int v] μ Q = Q (some (.int v)) μ := G_ret ((stp_of hi).trans (by simp only [ex, hm, hn, if_true]))
theorem g_ret (hi : ins y pc = some .return_) (hm : mr y = none) : G y pc lv [] μ Q = Q none μ := G_ret ((stp_of hi).trans (by simp only [ex, hm, if_true]))
end GL
end
