/-! blocks of the small machine (wip/gen/gen_blocks.py) -/
theorem d180_0 : ins 180 0 = some (.iload_n 0) := by decide +kernel
theorem d180_1 : ins 180 1 = some (.iload_n 0) := by decide +kernel
theorem d180_2 : ins 180 2 = some (.iconst 1) := by decide +kernel
theorem d180_3 : ins 180 3 = some (.iushr) := by decide +kernel
theorem d180_4 : ins 180 4 = some (.ldc_w 265) := by decide +kernel
theorem d180_7 : ins 180 7 = some (.iand) := by decide +kernel
theorem d180_8 : ins 180 8 = some (.isub) := by decide +kernel
theorem d180_9 : ins 180 9 = some (.istore_n 0) := by decide +kernel
theorem d180_10 : ins 180 10 = some (.iload_n 0) := by decide +kernel
theorem d180_11 : ins 180 11 = some (.ldc_w 266) := by decide +kernel
theorem d180_14 : ins 180 14 = some (.iand) := by decide +kernel
theorem d180_15 : ins 180 15 = some (.iload_n 0) := by decide +kernel
theorem d180_16 : ins 180 16 = some (.iconst 2) := by decide +kernel
theorem d180_17 : ins 180 17 = some (.iushr) := by decide +kernel
theorem d180_18 : ins 180 18 = some (.ldc_w 266) := by decide +kernel
theorem d180_21 : ins 180 21 = some (.iand) := by decide +kernel
theorem d180_22 : ins 180 22 = some (.iadd) := by decide +kernel
theorem d180_23 : ins 180 23 = some (.istore_n 0) := by decide +kernel
theorem d180_24 : ins 180 24 = some (.iload_n 0) := by decide +kernel
theorem d180_25 : ins 180 25 = some (.iload_n 0) := by decide +kernel
theorem d180_26 : ins 180 26 = some (.iconst 4) := by decide +kernel
theorem d180_27 : ins 180 27 = some (.iushr) := by decide +kernel
theorem d180_28 : ins 180 28 = some (.iadd) := by decide +kernel
theorem d180_29 : ins 180 29 = some (.ldc_w 267) := by decide +kernel
theorem d180_32 : ins 180 32 = some (.iand) := by decide +kernel
theorem d180_33 : ins 180 33 = some (.istore_n 0) := by decide +kernel
theorem d180_34 : ins 180 34 = some (.iload_n 0) := by decide +kernel
theorem d180_35 : ins 180 35 = some (.iload_n 0) := by decide +kernel
theorem d180_36 : ins 180 36 = some (.bipush 8) := by decide +kernel
theorem d180_38 : ins 180 38 = some (.iushr) := by decide +kernel
theorem d180_39 : ins 180 39 = some (.iadd) := by decide +kernel
theorem d180_40 : ins 180 40 = some (.istore_n 0) := by decide +kernel
theorem d180_41 : ins 180 41 = some (.iload_n 0) := by decide +kernel
theorem d180_42 : ins 180 42 = some (.iload_n 0) := by decide +kernel
theorem d180_43 : ins 180 43 = some (.bipush 16) := by decide +kernel
theorem d180_45 : ins 180 45 = some (.iushr) := by decide +kernel
theorem d180_46 : ins 180 46 = some (.iadd) := by decide +kernel
theorem d180_47 : ins 180 47 = some (.istore_n 0) := by decide +kernel
theorem d180_48 : ins 180 48 = some (.iload_n 0) := by decide +kernel
theorem d180_49 : ins 180 49 = some (.bipush 63) := by decide +kernel
theorem d180_51 : ins 180 51 = some (.iand) := by decide +kernel
theorem d180_52 : ins 180 52 = some (.ireturn) := by decide +kernel
set_option maxRecDepth 10000 in
theorem b180_0 {Q : Option Value → mm → Prop} (ρ : rm) (τ : Int64) (a1 : Int) (hB : BM ρ) (h_a1 : SB a1) : G 180 0 (some (vI a1) :: []) [] (toM ρ τ) Q = Q (some (vI ((iI ((((iI ((((iI (a1 - ((iI (((iI a1).toUInt32 >>> ((iI 1).toUInt32 &&& Int32.toUInt32 31)).toInt32.toInt) &&& iI 1431655765).toInt)) &&& iI 858993459).toInt) + ((iI (((iI (a1 - ((iI (((iI a1).toUInt32 >>> ((iI 1).toUInt32 &&& Int32.toUInt32 31)).toInt32.toInt) &&& iI 1431655765).toInt))).toUInt32 >>> ((iI 2).toUInt32 &&& Int32.toUInt32 31)).toInt32.toInt) &&& iI 858993459).toInt)) + (((iI (((iI (a1 - ((iI (((iI a1).toUInt32 >>> ((iI 1).toUInt32 &&& Int32.toUInt32 31)).toInt32.toInt) &&& iI 1431655765).toInt)) &&& iI 858993459).toInt) + ((iI (((iI (a1 - ((iI (((iI a1).toUInt32 >>> ((iI 1).toUInt32 &&& Int32.toUInt32 31)).toInt32.toInt) &&& iI 1431655765).toInt))).toUInt32 >>> ((iI 2).toUInt32 &&& Int32.toUInt32 31)).toInt32.toInt) &&& iI 858993459).toInt))).toUInt32 >>> ((iI 4).toUInt32 &&& Int32.toUInt32 31)).toInt32.toInt)) &&& iI 252645135).toInt) + (((iI ((iI ((((iI (a1 - ((iI (((iI a1).toUInt32 >>> ((iI 1).toUInt32 &&& Int32.toUInt32 31)).toInt32.toInt) &&& iI 1431655765).toInt)) &&& iI 858993459).toInt) + ((iI (((iI (a1 - ((iI (((iI a1).toUInt32 >>> ((iI 1).toUInt32 &&& Int32.toUInt32 31)).toInt32.toInt) &&& iI 1431655765).toInt))).toUInt32 >>> ((iI 2).toUInt32 &&& Int32.toUInt32 31)).toInt32.toInt) &&& iI 858993459).toInt)) + (((iI (((iI (a1 - ((iI (((iI a1).toUInt32 >>> ((iI 1).toUInt32 &&& Int32.toUInt32 31)).toInt32.toInt) &&& iI 1431655765).toInt)) &&& iI 858993459).toInt) + ((iI (((iI (a1 - ((iI (((iI a1).toUInt32 >>> ((iI 1).toUInt32 &&& Int32.toUInt32 31)).toInt32.toInt) &&& iI 1431655765).toInt))).toUInt32 >>> ((iI 2).toUInt32 &&& Int32.toUInt32 31)).toInt32.toInt) &&& iI 858993459).toInt))).toUInt32 >>> ((iI 4).toUInt32 &&& Int32.toUInt32 31)).toInt32.toInt)) &&& iI 252645135).toInt)).toUInt32 >>> ((iI 8).toUInt32 &&& Int32.toUInt32 31)).toInt32.toInt)) + (((iI (((iI ((((iI (a1 - ((iI (((iI a1).toUInt32 >>> ((iI 1).toUInt32 &&& Int32.toUInt32 31)).toInt32.toInt) &&& iI 1431655765).toInt)) &&& iI 858993459).toInt) + ((iI (((iI (a1 - ((iI (((iI a1).toUInt32 >>> ((iI 1).toUInt32 &&& Int32.toUInt32 31)).toInt32.toInt) &&& iI 1431655765).toInt))).toUInt32 >>> ((iI 2).toUInt32 &&& Int32.toUInt32 31)).toInt32.toInt) &&& iI 858993459).toInt)) + (((iI (((iI (a1 - ((iI (((iI a1).toUInt32 >>> ((iI 1).toUInt32 &&& Int32.toUInt32 31)).toInt32.toInt) &&& iI 1431655765).toInt)) &&& iI 858993459).toInt) + ((iI (((iI (a1 - ((iI (((iI a1).toUInt32 >>> ((iI 1).toUInt32 &&& Int32.toUInt32 31)).toInt32.toInt) &&& iI 1431655765).toInt))).toUInt32 >>> ((iI 2).toUInt32 &&& Int32.toUInt32 31)).toInt32.toInt) &&& iI 858993459).toInt))).toUInt32 >>> ((iI 4).toUInt32 &&& Int32.toUInt32 31)).toInt32.toInt)) &&& iI 252645135).toInt) + (((iI ((iI ((((iI (a1 - ((iI (((iI a1).toUInt32 >>> ((iI 1).toUInt32 &&& Int32.toUInt32 31)).toInt32.toInt) &&& iI 1431655765).toInt)) &&& iI 858993459).toInt) + ((iI (((iI (a1 - ((iI (((iI a1).toUInt32 >>> ((iI 1).toUInt32 &&& Int32.toUInt32 31)).toInt32.toInt) &&& iI 1431655765).toInt))).toUInt32 >>> ((iI 2).toUInt32 &&& Int32.toUInt32 31)).toInt32.toInt) &&& iI 858993459).toInt)) + (((iI (((iI (a1 - ((iI (((iI a1).toUInt32 >>> ((iI 1).toUInt32 &&& Int32.toUInt32 31)).toInt32.toInt) &&& iI 1431655765).toInt)) &&& iI 858993459).toInt) + ((iI (((iI (a1 - ((iI (((iI a1).toUInt32 >>> ((iI 1).toUInt32 &&& Int32.toUInt32 31)).toInt32.toInt) &&& iI 1431655765).toInt))).toUInt32 >>> ((iI 2).toUInt32 &&& Int32.toUInt32 31)).toInt32.toInt) &&& iI 858993459).toInt))).toUInt32 >>> ((iI 4).toUInt32 &&& Int32.toUInt32 31)).toInt32.toInt)) &&& iI 252645135).toInt)).toUInt32 >>> ((iI 8).toUInt32 &&& Int32.toUInt32 31)).toInt32.toInt))).toUInt32 >>> ((iI 16).toUInt32 &&& Int32.toUInt32 31)).toInt32.toInt)) &&& iI 63).toInt))) (toM ρ τ) := by
  refine (g_iload_n d180_0 rfl).trans ?_
  refine (g_iload_n d180_1 rfl).trans ?_
  refine (j_iconst d180_2).trans ?_
  refine (j_iushr d180_3).trans ?_
  have q1 := SB_of (((iI a1).toUInt32 >>> ((iI 1).toUInt32 &&& Int32.toUInt32 31)).toInt32)
  refine (j_ldcw (n := 1431655765) d180_4 cs26_265 (by decide)).trans ?_
  refine (j_iand d180_7).trans ?_
  have q2 := SB_of (iI (((iI a1).toUInt32 >>> ((iI 1).toUInt32 &&& Int32.toUInt32 31)).toInt32.toInt) &&& iI 1431655765)
  refine (j_isub d180_8).trans ?_
  refine (g_istore_n d180_9 (by decide) rfl rfl).trans ?_
  refine (g_iload_n d180_10 rfl).trans ?_
  refine (j_ldcw (n := 858993459) d180_11 cs26_266 (by decide)).trans ?_
  refine (j_iand d180_14).trans ?_
  have q3 := SB_of (iI (a1 - ((iI (((iI a1).toUInt32 >>> ((iI 1).toUInt32 &&& Int32.toUInt32 31)).toInt32.toInt) &&& iI 1431655765).toInt)) &&& iI 858993459)
  refine (g_iload_n d180_15 rfl).trans ?_
  refine (j_iconst d180_16).trans ?_
  refine (j_iushr d180_17).trans ?_
  have q4 := SB_of (((iI (a1 - ((iI (((iI a1).toUInt32 >>> ((iI 1).toUInt32 &&& Int32.toUInt32 31)).toInt32.toInt) &&& iI 1431655765).toInt))).toUInt32 >>> ((iI 2).toUInt32 &&& Int32.toUInt32 31)).toInt32)
  refine (j_ldcw (n := 858993459) d180_18 cs26_266 (by decide)).trans ?_
  refine (j_iand d180_21).trans ?_
  have q5 := SB_of (iI (((iI (a1 - ((iI (((iI a1).toUInt32 >>> ((iI 1).toUInt32 &&& Int32.toUInt32 31)).toInt32.toInt) &&& iI 1431655765).toInt))).toUInt32 >>> ((iI 2).toUInt32 &&& Int32.toUInt32 31)).toInt32.toInt) &&& iI 858993459)
  refine (j_iadd d180_22).trans ?_
  refine (g_istore_n d180_23 (by decide) rfl rfl).trans ?_
  refine (g_iload_n d180_24 rfl).trans ?_
  refine (g_iload_n d180_25 rfl).trans ?_
  refine (j_iconst d180_26).trans ?_
  refine (j_iushr d180_27).trans ?_
  have q6 := SB_of (((iI (((iI (a1 - ((iI (((iI a1).toUInt32 >>> ((iI 1).toUInt32 &&& Int32.toUInt32 31)).toInt32.toInt) &&& iI 1431655765).toInt)) &&& iI 858993459).toInt) + ((iI (((iI (a1 - ((iI (((iI a1).toUInt32 >>> ((iI 1).toUInt32 &&& Int32.toUInt32 31)).toInt32.toInt) &&& iI 1431655765).toInt))).toUInt32 >>> ((iI 2).toUInt32 &&& Int32.toUInt32 31)).toInt32.toInt) &&& iI 858993459).toInt))).toUInt32 >>> ((iI 4).toUInt32 &&& Int32.toUInt32 31)).toInt32)
  refine (j_iadd d180_28).trans ?_
  refine (j_ldcw (n := 252645135) d180_29 cs26_267 (by decide)).trans ?_
  refine (j_iand d180_32).trans ?_
  have q7 := SB_of (iI ((((iI (a1 - ((iI (((iI a1).toUInt32 >>> ((iI 1).toUInt32 &&& Int32.toUInt32 31)).toInt32.toInt) &&& iI 1431655765).toInt)) &&& iI 858993459).toInt) + ((iI (((iI (a1 - ((iI (((iI a1).toUInt32 >>> ((iI 1).toUInt32 &&& Int32.toUInt32 31)).toInt32.toInt) &&& iI 1431655765).toInt))).toUInt32 >>> ((iI 2).toUInt32 &&& Int32.toUInt32 31)).toInt32.toInt) &&& iI 858993459).toInt)) + (((iI (((iI (a1 - ((iI (((iI a1).toUInt32 >>> ((iI 1).toUInt32 &&& Int32.toUInt32 31)).toInt32.toInt) &&& iI 1431655765).toInt)) &&& iI 858993459).toInt) + ((iI (((iI (a1 - ((iI (((iI a1).toUInt32 >>> ((iI 1).toUInt32 &&& Int32.toUInt32 31)).toInt32.toInt) &&& iI 1431655765).toInt))).toUInt32 >>> ((iI 2).toUInt32 &&& Int32.toUInt32 31)).toInt32.toInt) &&& iI 858993459).toInt))).toUInt32 >>> ((iI 4).toUInt32 &&& Int32.toUInt32 31)).toInt32.toInt)) &&& iI 252645135)
  refine (g_istore_n d180_33 (by decide) rfl rfl).trans ?_
  refine (g_iload_n d180_34 rfl).trans ?_
  refine (g_iload_n d180_35 rfl).trans ?_
  refine (j_bipush d180_36 (by decide)).trans ?_
  refine (j_iushr d180_38).trans ?_
  have q8 := SB_of (((iI ((iI ((((iI (a1 - ((iI (((iI a1).toUInt32 >>> ((iI 1).toUInt32 &&& Int32.toUInt32 31)).toInt32.toInt) &&& iI 1431655765).toInt)) &&& iI 858993459).toInt) + ((iI (((iI (a1 - ((iI (((iI a1).toUInt32 >>> ((iI 1).toUInt32 &&& Int32.toUInt32 31)).toInt32.toInt) &&& iI 1431655765).toInt))).toUInt32 >>> ((iI 2).toUInt32 &&& Int32.toUInt32 31)).toInt32.toInt) &&& iI 858993459).toInt)) + (((iI (((iI (a1 - ((iI (((iI a1).toUInt32 >>> ((iI 1).toUInt32 &&& Int32.toUInt32 31)).toInt32.toInt) &&& iI 1431655765).toInt)) &&& iI 858993459).toInt) + ((iI (((iI (a1 - ((iI (((iI a1).toUInt32 >>> ((iI 1).toUInt32 &&& Int32.toUInt32 31)).toInt32.toInt) &&& iI 1431655765).toInt))).toUInt32 >>> ((iI 2).toUInt32 &&& Int32.toUInt32 31)).toInt32.toInt) &&& iI 858993459).toInt))).toUInt32 >>> ((iI 4).toUInt32 &&& Int32.toUInt32 31)).toInt32.toInt)) &&& iI 252645135).toInt)).toUInt32 >>> ((iI 8).toUInt32 &&& Int32.toUInt32 31)).toInt32)
  refine (j_iadd d180_39).trans ?_
  refine (g_istore_n d180_40 (by decide) rfl rfl).trans ?_
  refine (g_iload_n d180_41 rfl).trans ?_
  refine (g_iload_n d180_42 rfl).trans ?_
  refine (j_bipush d180_43 (by decide)).trans ?_
  refine (j_iushr d180_45).trans ?_
  have q9 := SB_of (((iI (((iI ((((iI (a1 - ((iI (((iI a1).toUInt32 >>> ((iI 1).toUInt32 &&& Int32.toUInt32 31)).toInt32.toInt) &&& iI 1431655765).toInt)) &&& iI 858993459).toInt) + ((iI (((iI (a1 - ((iI (((iI a1).toUInt32 >>> ((iI 1).toUInt32 &&& Int32.toUInt32 31)).toInt32.toInt) &&& iI 1431655765).toInt))).toUInt32 >>> ((iI 2).toUInt32 &&& Int32.toUInt32 31)).toInt32.toInt) &&& iI 858993459).toInt)) + (((iI (((iI (a1 - ((iI (((iI a1).toUInt32 >>> ((iI 1).toUInt32 &&& Int32.toUInt32 31)).toInt32.toInt) &&& iI 1431655765).toInt)) &&& iI 858993459).toInt) + ((iI (((iI (a1 - ((iI (((iI a1).toUInt32 >>> ((iI 1).toUInt32 &&& Int32.toUInt32 31)).toInt32.toInt) &&& iI 1431655765).toInt))).toUInt32 >>> ((iI 2).toUInt32 &&& Int32.toUInt32 31)).toInt32.toInt) &&& iI 858993459).toInt))).toUInt32 >>> ((iI 4).toUInt32 &&& Int32.toUInt32 31)).toInt32.toInt)) &&& iI 252645135).toInt) + (((iI ((iI ((((iI (a1 - ((iI (((iI a1).toUInt32 >>> ((iI 1).toUInt32 &&& Int32.toUInt32 31)).toInt32.toInt) &&& iI 1431655765).toInt)) &&& iI 858993459).toInt) + ((iI (((iI (a1 - ((iI (((iI a1).toUInt32 >>> ((iI 1).toUInt32 &&& Int32.toUInt32 31)).toInt32.toInt) &&& iI 1431655765).toInt))).toUInt32 >>> ((iI 2).toUInt32 &&& Int32.toUInt32 31)).toInt32.toInt) &&& iI 858993459).toInt)) + (((iI (((iI (a1 - ((iI (((iI a1).toUInt32 >>> ((iI 1).toUInt32 &&& Int32.toUInt32 31)).toInt32.toInt) &&& iI 1431655765).toInt)) &&& iI 858993459).toInt) + ((iI (((iI (a1 - ((iI (((iI a1).toUInt32 >>> ((iI 1).toUInt32 &&& Int32.toUInt32 31)).toInt32.toInt) &&& iI 1431655765).toInt))).toUInt32 >>> ((iI 2).toUInt32 &&& Int32.toUInt32 31)).toInt32.toInt) &&& iI 858993459).toInt))).toUInt32 >>> ((iI 4).toUInt32 &&& Int32.toUInt32 31)).toInt32.toInt)) &&& iI 252645135).toInt)).toUInt32 >>> ((iI 8).toUInt32 &&& Int32.toUInt32 31)).toInt32.toInt))).toUInt32 >>> ((iI 16).toUInt32 &&& Int32.toUInt32 31)).toInt32)
  refine (j_iadd d180_46).trans ?_
  refine (g_istore_n d180_47 (by decide) rfl rfl).trans ?_
  refine (g_iload_n d180_48 rfl).trans ?_
  refine (j_bipush d180_49 (by decide)).trans ?_
  refine (j_iand d180_51).trans ?_
  have q10 := SB_of (iI ((((iI ((((iI (a1 - ((iI (((iI a1).toUInt32 >>> ((iI 1).toUInt32 &&& Int32.toUInt32 31)).toInt32.toInt) &&& iI 1431655765).toInt)) &&& iI 858993459).toInt) + ((iI (((iI (a1 - ((iI (((iI a1).toUInt32 >>> ((iI 1).toUInt32 &&& Int32.toUInt32 31)).toInt32.toInt) &&& iI 1431655765).toInt))).toUInt32 >>> ((iI 2).toUInt32 &&& Int32.toUInt32 31)).toInt32.toInt) &&& iI 858993459).toInt)) + (((iI (((iI (a1 - ((iI (((iI a1).toUInt32 >>> ((iI 1).toUInt32 &&& Int32.toUInt32 31)).toInt32.toInt) &&& iI 1431655765).toInt)) &&& iI 858993459).toInt) + ((iI (((iI (a1 - ((iI (((iI a1).toUInt32 >>> ((iI 1).toUInt32 &&& Int32.toUInt32 31)).toInt32.toInt) &&& iI 1431655765).toInt))).toUInt32 >>> ((iI 2).toUInt32 &&& Int32.toUInt32 31)).toInt32.toInt) &&& iI 858993459).toInt))).toUInt32 >>> ((iI 4).toUInt32 &&& Int32.toUInt32 31)).toInt32.toInt)) &&& iI 252645135).toInt) + (((iI ((iI ((((iI (a1 - ((iI (((iI a1).toUInt32 >>> ((iI 1).toUInt32 &&& Int32.toUInt32 31)).toInt32.toInt) &&& iI 1431655765).toInt)) &&& iI 858993459).toInt) + ((iI (((iI (a1 - ((iI (((iI a1).toUInt32 >>> ((iI 1).toUInt32 &&& Int32.toUInt32 31)).toInt32.toInt) &&& iI 1431655765).toInt))).toUInt32 >>> ((iI 2).toUInt32 &&& Int32.toUInt32 31)).toInt32.toInt) &&& iI 858993459).toInt)) + (((iI (((iI (a1 - ((iI (((iI a1).toUInt32 >>> ((iI 1).toUInt32 &&& Int32.toUInt32 31)).toInt32.toInt) &&& iI 1431655765).toInt)) &&& iI 858993459).toInt) + ((iI (((iI (a1 - ((iI (((iI a1).toUInt32 >>> ((iI 1).toUInt32 &&& Int32.toUInt32 31)).toInt32.toInt) &&& iI 1431655765).toInt))).toUInt32 >>> ((iI 2).toUInt32 &&& Int32.toUInt32 31)).toInt32.toInt) &&& iI 858993459).toInt))).toUInt32 >>> ((iI 4).toUInt32 &&& Int32.toUInt32 31)).toInt32.toInt)) &&& iI 252645135).toInt)).toUInt32 >>> ((iI 8).toUInt32 &&& Int32.toUInt32 31)).toInt32.toInt)) + (((iI (((iI ((((iI (a1 - ((iI (((iI a1).toUInt32 >>> ((iI 1).toUInt32 &&& Int32.toUInt32 31)).toInt32.toInt) &&& iI 1431655765).toInt)) &&& iI 858993459).toInt) + ((iI (((iI (a1 - ((iI (((iI a1).toUInt32 >>> ((iI 1).toUInt32 &&& Int32.toUInt32 31)).toInt32.toInt) &&& iI 1431655765).toInt))).toUInt32 >>> ((iI 2).toUInt32 &&& Int32.toUInt32 31)).toInt32.toInt) &&& iI 858993459).toInt)) + (((iI (((iI (a1 - ((iI (((iI a1).toUInt32 >>> ((iI 1).toUInt32 &&& Int32.toUInt32 31)).toInt32.toInt) &&& iI 1431655765).toInt)) &&& iI 858993459).toInt) + ((iI (((iI (a1 - ((iI (((iI a1).toUInt32 >>> ((iI 1).toUInt32 &&& Int32.toUInt32 31)).toInt32.toInt) &&& iI 1431655765).toInt))).toUInt32 >>> ((iI 2).toUInt32 &&& Int32.toUInt32 31)).toInt32.toInt) &&& iI 858993459).toInt))).toUInt32 >>> ((iI 4).toUInt32 &&& Int32.toUInt32 31)).toInt32.toInt)) &&& iI 252645135).toInt) + (((iI ((iI ((((iI (a1 - ((iI (((iI a1).toUInt32 >>> ((iI 1).toUInt32 &&& Int32.toUInt32 31)).toInt32.toInt) &&& iI 1431655765).toInt)) &&& iI 858993459).toInt) + ((iI (((iI (a1 - ((iI (((iI a1).toUInt32 >>> ((iI 1).toUInt32 &&& Int32.toUInt32 31)).toInt32.toInt) &&& iI 1431655765).toInt))).toUInt32 >>> ((iI 2).toUInt32 &&& Int32.toUInt32 31)).toInt32.toInt) &&& iI 858993459).toInt)) + (((iI (((iI (a1 - ((iI (((iI a1).toUInt32 >>> ((iI 1).toUInt32 &&& Int32.toUInt32 31)).toInt32.toInt) &&& iI 1431655765).toInt)) &&& iI 858993459).toInt) + ((iI (((iI (a1 - ((iI (((iI a1).toUInt32 >>> ((iI 1).toUInt32 &&& Int32.toUInt32 31)).toInt32.toInt) &&& iI 1431655765).toInt))).toUInt32 >>> ((iI 2).toUInt32 &&& Int32.toUInt32 31)).toInt32.toInt) &&& iI 858993459).toInt))).toUInt32 >>> ((iI 4).toUInt32 &&& Int32.toUInt32 31)).toInt32.toInt)) &&& iI 252645135).toInt)).toUInt32 >>> ((iI 8).toUInt32 &&& Int32.toUInt32 31)).toInt32.toInt))).toUInt32 >>> ((iI 16).toUInt32 &&& Int32.toUInt32 31)).toInt32.toInt)) &&& iI 63)
  exact g_iret d180_52 rfl rfl
theorem d181_0 : ins 181 0 = some (.iload_n 0) := by decide +kernel
theorem d181_1 : ins 181 1 = some (.iload_n 1) := by decide +kernel
theorem d181_2 : ins 181 2 = some (.idiv) := by decide +kernel
theorem d181_3 : ins 181 3 = some (.istore_n 2) := by decide +kernel
theorem d181_4 : ins 181 4 = some (.iload_n 0) := by decide +kernel
theorem d181_5 : ins 181 5 = some (.iload_n 1) := by decide +kernel
theorem d181_6 : ins 181 6 = some (.ixor) := by decide +kernel
theorem d181_7 : ins 181 7 = some (.ifCond .ge 14) := by decide +kernel
theorem d181_10 : ins 181 10 = some (.iload_n 2) := by decide +kernel
theorem d181_11 : ins 181 11 = some (.iload_n 1) := by decide +kernel
theorem d181_12 : ins 181 12 = some (.imul) := by decide +kernel
theorem d181_13 : ins 181 13 = some (.iload_n 0) := by decide +kernel
theorem d181_14 : ins 181 14 = some (.if_icmp .eq 7) := by decide +kernel
theorem d181_17 : ins 181 17 = some (.iload_n 2) := by decide +kernel
theorem d181_18 : ins 181 18 = some (.iconst 1) := by decide +kernel
theorem d181_19 : ins 181 19 = some (.isub) := by decide +kernel
theorem d181_20 : ins 181 20 = some (.ireturn) := by decide +kernel
theorem d181_21 : ins 181 21 = some (.iload_n 2) := by decide +kernel
theorem d181_22 : ins 181 22 = some (.ireturn) := by decide +kernel
set_option maxRecDepth 10000 in
theorem b181_0 {Q : Option Value → mm → Prop} (ρ : rm) (τ : Int64) (a1 : Int) (hB : BM ρ) (h_a1 : SM a1) : G 181 0 (some (vI a1) :: some (vI 1440) :: []) [] (toM ρ τ) Q = (if 0 ≤ ((iI a1 ^^^ iI 1440).toInt) then Q (some (vI (Int.tdiv a1 1440))) (toM ρ τ) else (if ((Int.tdiv a1 1440) * 1440) = a1 then Q (some (vI (Int.tdiv a1 1440))) (toM ρ τ) else Q (some (vI ((Int.tdiv a1 1440) - 1))) (toM ρ τ))) := by
  refine (g_iload_n d181_0 rfl).trans ?_
  refine (g_iload_n d181_1 rfl).trans ?_
  refine (j_idiv d181_2 (by omega) (by omega) (by omega)).trans ?_
  have q1 := tdiv_bd a1 (b := 1440) (by omega)
  refine (g_istore_n d181_3 (by decide) rfl rfl).trans ?_
  refine (g_iload_n d181_4 rfl).trans ?_
  refine (g_iload_n d181_5 rfl).trans ?_
  refine (j_ixor d181_6).trans ?_
  have q2 := SB_of (iI a1 ^^^ iI 1440)
  refine j_if_ge (tgt := 21) d181_7 (by decide) (by omega) (fun q3 => ?_) (fun q3 => ?_)
  ·
    refine (g_iload_n d181_21 rfl).trans ?_
    exact g_iret d181_22 rfl rfl
  ·
    refine (g_iload_n d181_10 rfl).trans ?_
    refine (g_iload_n d181_11 rfl).trans ?_
    refine (j_imul d181_12).trans ?_
    refine (g_iload_n d181_13 rfl).trans ?_
    refine j_icmp_eq (tgt := 21) d181_14 (by decide) (by omega) (by omega) (fun q4 => ?_) (fun q4 => ?_)
    ·
      refine (g_iload_n d181_21 rfl).trans ?_
      exact g_iret d181_22 rfl rfl
    ·
      refine (g_iload_n d181_17 rfl).trans ?_
      refine (j_iconst d181_18).trans ?_
      refine (j_isub d181_19).trans ?_
      exact g_iret d181_20 rfl rfl
theorem d182_0 : ins 182 0 = some (.iload_n 0) := by decide +kernel
theorem d182_1 : ins 182 1 = some (.iload_n 1) := by decide +kernel
theorem d182_2 : ins 182 2 = some (.irem) := by decide +kernel
theorem d182_3 : ins 182 3 = some (.istore_n 2) := by decide +kernel
theorem d182_4 : ins 182 4 = some (.iload_n 0) := by decide +kernel
theorem d182_5 : ins 182 5 = some (.iload_n 1) := by decide +kernel
theorem d182_6 : ins 182 6 = some (.ixor) := by decide +kernel
theorem d182_7 : ins 182 7 = some (.ifCond .ge 11) := by decide +kernel
theorem d182_10 : ins 182 10 = some (.iload_n 2) := by decide +kernel
theorem d182_11 : ins 182 11 = some (.ifCond .eq 7) := by decide +kernel
theorem d182_14 : ins 182 14 = some (.iload_n 2) := by decide +kernel
theorem d182_15 : ins 182 15 = some (.iload_n 1) := by decide +kernel
theorem d182_16 : ins 182 16 = some (.iadd) := by decide +kernel
theorem d182_17 : ins 182 17 = some (.ireturn) := by decide +kernel
theorem d182_18 : ins 182 18 = some (.iload_n 2) := by decide +kernel
theorem d182_19 : ins 182 19 = some (.ireturn) := by decide +kernel
set_option maxRecDepth 10000 in
theorem b182_0 {Q : Option Value → mm → Prop} (ρ : rm) (τ : Int64) (a1 : Int) (hB : BM ρ) (h_a1 : SM a1) : G 182 0 (some (vI a1) :: some (vI 1440) :: []) [] (toM ρ τ) Q = (if 0 ≤ ((iI a1 ^^^ iI 1440).toInt) then Q (some (vI (Int.tmod a1 1440))) (toM ρ τ) else (if (Int.tmod a1 1440) = 0 then Q (some (vI (Int.tmod a1 1440))) (toM ρ τ) else Q (some (vI ((Int.tmod a1 1440) + 1440))) (toM ρ τ))) := by
  refine (g_iload_n d182_0 rfl).trans ?_
  refine (g_iload_n d182_1 rfl).trans ?_
  refine (j_irem d182_2 (by omega) (by omega) (by omega)).trans ?_
  have q1 := tmod_bd a1 (b := 1440) (by omega)
  refine (g_istore_n d182_3 (by decide) rfl rfl).trans ?_
  refine (g_iload_n d182_4 rfl).trans ?_
  refine (g_iload_n d182_5 rfl).trans ?_
  refine (j_ixor d182_6).trans ?_
  have q2 := SB_of (iI a1 ^^^ iI 1440)
  refine j_if_ge (tgt := 18) d182_7 (by decide) (by omega) (fun q3 => ?_) (fun q3 => ?_)
  ·
    refine (g_iload_n d182_18 rfl).trans ?_
    exact g_iret d182_19 rfl rfl
  ·
    refine (g_iload_n d182_10 rfl).trans ?_
    refine j_if_eq (tgt := 18) d182_11 (by decide) (by omega) (fun q4 => ?_) (fun q4 => ?_)
    ·
      refine (g_iload_n d182_18 rfl).trans ?_
      exact g_iret d182_19 rfl rfl
    ·
      refine (g_iload_n d182_14 rfl).trans ?_
      refine (g_iload_n d182_15 rfl).trans ?_
      refine (j_iadd d182_16).trans ?_
      exact g_iret d182_17 rfl rfl
theorem d183_0 : ins 183 0 = some (.iload_n 0) := by decide +kernel
theorem d183_1 : ins 183 1 = some (.ifCond .ge 8) := by decide +kernel
theorem d183_4 : ins 183 4 = some (.iload_n 0) := by decide +kernel
theorem d183_5 : ins 183 5 = some (.ineg) := by decide +kernel
theorem d183_6 : ins 183 6 = some (.goto 4) := by decide +kernel
theorem d183_9 : ins 183 9 = some (.iload_n 0) := by decide +kernel
theorem d183_10 : ins 183 10 = some (.ireturn) := by decide +kernel
set_option maxRecDepth 10000 in
theorem b183_0 {Q : Option Value → mm → Prop} (ρ : rm) (τ : Int64) (a1 : Int) (hB : BM ρ) (h_a1 : SB a1) : G 183 0 (some (vI a1) :: []) [] (toM ρ τ) Q = (if 0 ≤ a1 then Q (some (vI a1)) (toM ρ τ) else Q (some (vI (-a1))) (toM ρ τ)) := by
  refine (g_iload_n d183_0 rfl).trans ?_
  refine j_if_ge (tgt := 9) d183_1 (by decide) (by omega) (fun q1 => ?_) (fun q1 => ?_)
  ·
    refine (g_iload_n d183_9 rfl).trans ?_
    exact g_iret d183_10 rfl rfl
  ·
    refine (g_iload_n d183_4 rfl).trans ?_
    refine (j_ineg d183_5).trans ?_
    refine (g_goto (tgt := 10) d183_6 (by decide)).trans ?_
    exact g_iret d183_10 rfl rfl
theorem d184_0 : ins 184 0 = some (.iload_n 0) := by decide +kernel
theorem d184_1 : ins 184 1 = some (.iload_n 1) := by decide +kernel
theorem d184_2 : ins 184 2 = some (.if_icmp .lt 7) := by decide +kernel
theorem d184_5 : ins 184 5 = some (.iload_n 0) := by decide +kernel
theorem d184_6 : ins 184 6 = some (.goto 4) := by decide +kernel
theorem d184_9 : ins 184 9 = some (.iload_n 1) := by decide +kernel
theorem d184_10 : ins 184 10 = some (.ireturn) := by decide +kernel
set_option maxRecDepth 10000 in
theorem b184_0 {Q : Option Value → mm → Prop} (ρ : rm) (τ : Int64) (a1 : Int) (a2 : Int) (hB : BM ρ) (h_a1 : SB a1) (h_a2 : SB a2) : G 184 0 (some (vI a1) :: some (vI a2) :: []) [] (toM ρ τ) Q = (if a1 < a2 then Q (some (vI a2)) (toM ρ τ) else Q (some (vI a1)) (toM ρ τ)) := by
  refine (g_iload_n d184_0 rfl).trans ?_
  refine (g_iload_n d184_1 rfl).trans ?_
  refine j_icmp_lt (tgt := 9) d184_2 (by decide) (by omega) (by omega) (fun q1 => ?_) (fun q1 => ?_)
  ·
    refine (g_iload_n d184_9 rfl).trans ?_
    exact g_iret d184_10 rfl rfl
  ·
    refine (g_iload_n d184_5 rfl).trans ?_
    refine (g_goto (tgt := 10) d184_6 (by decide)).trans ?_
    exact g_iret d184_10 rfl rfl
theorem d185_0 : ins 185 0 = some (.iload_n 0) := by decide +kernel
theorem d185_1 : ins 185 1 = some (.iload_n 1) := by decide +kernel
theorem d185_2 : ins 185 2 = some (.if_icmp .gt 7) := by decide +kernel
theorem d185_5 : ins 185 5 = some (.iload_n 0) := by decide +kernel
theorem d185_6 : ins 185 6 = some (.goto 4) := by decide +kernel
theorem d185_9 : ins 185 9 = some (.iload_n 1) := by decide +kernel
theorem d185_10 : ins 185 10 = some (.ireturn) := by decide +kernel
set_option maxRecDepth 10000 in
theorem b185_0 {Q : Option Value → mm → Prop} (ρ : rm) (τ : Int64) (a1 : Int) (a2 : Int) (hB : BM ρ) (h_a1 : SB a1) (h_a2 : SB a2) : G 185 0 (some (vI a1) :: some (vI a2) :: []) [] (toM ρ τ) Q = (if a2 < a1 then Q (some (vI a2)) (toM ρ τ) else Q (some (vI a1)) (toM ρ τ)) := by
  refine (g_iload_n d185_0 rfl).trans ?_
  refine (g_iload_n d185_1 rfl).trans ?_
  refine j_icmp_gt (tgt := 9) d185_2 (by decide) (by omega) (by omega) (fun q1 => ?_) (fun q1 => ?_)
  ·
    refine (g_iload_n d185_9 rfl).trans ?_
    exact g_iret d185_10 rfl rfl
  ·
    refine (g_iload_n d185_5 rfl).trans ?_
    refine (g_goto (tgt := 10) d185_6 (by decide)).trans ?_
    exact g_iret d185_10 rfl rfl
