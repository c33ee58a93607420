/-! blocks of the small machine (wip/gen/gen_blocks.py) -/
theorem d59_0 : ins 59 0 = some (.aload_n 0) := by decide +kernel
theorem d59_1 : ins 59 1 = some (.getfield 31) := by decide +kernel
theorem d59_4 : ins 59 4 = some (.bipush 6) := by decide +kernel
theorem d59_6 : ins 59 6 = some (.if_icmp .ge 65) := by decide +kernel
theorem d59_9 : ins 59 9 = some (.aload_n 0) := by decide +kernel
theorem d59_10 : ins 59 10 = some (.getfield 9) := by decide +kernel
theorem d59_13 : ins 59 13 = some (.aload_n 0) := by decide +kernel
theorem d59_14 : ins 59 14 = some (.getfield 31) := by decide +kernel
theorem d59_17 : ins 59 17 = some (.iload_n 1) := by decide +kernel
theorem d59_18 : ins 59 18 = some (.iastore) := by decide +kernel
theorem d59_19 : ins 59 19 = some (.aload_n 0) := by decide +kernel
theorem d59_20 : ins 59 20 = some (.getfield 15) := by decide +kernel
theorem d59_23 : ins 59 23 = some (.aload_n 0) := by decide +kernel
theorem d59_24 : ins 59 24 = some (.getfield 31) := by decide +kernel
theorem d59_27 : ins 59 27 = some (.iload_n 2) := by decide +kernel
theorem d59_28 : ins 59 28 = some (.iastore) := by decide +kernel
theorem d59_29 : ins 59 29 = some (.aload_n 0) := by decide +kernel
theorem d59_30 : ins 59 30 = some (.getfield 18) := by decide +kernel
theorem d59_33 : ins 59 33 = some (.aload_n 0) := by decide +kernel
theorem d59_34 : ins 59 34 = some (.getfield 31) := by decide +kernel
theorem d59_37 : ins 59 37 = some (.iload_n 3) := by decide +kernel
theorem d59_38 : ins 59 38 = some (.iastore) := by decide +kernel
theorem d59_39 : ins 59 39 = some (.aload_n 0) := by decide +kernel
theorem d59_40 : ins 59 40 = some (.getfield 21) := by decide +kernel
theorem d59_43 : ins 59 43 = some (.aload_n 0) := by decide +kernel
theorem d59_44 : ins 59 44 = some (.getfield 31) := by decide +kernel
theorem d59_47 : ins 59 47 = some (.iload 4) := by decide +kernel
theorem d59_49 : ins 59 49 = some (.iastore) := by decide +kernel
theorem d59_50 : ins 59 50 = some (.aload_n 0) := by decide +kernel
theorem d59_51 : ins 59 51 = some (.getfield 24) := by decide +kernel
theorem d59_54 : ins 59 54 = some (.aload_n 0) := by decide +kernel
theorem d59_55 : ins 59 55 = some (.getfield 31) := by decide +kernel
theorem d59_58 : ins 59 58 = some (.iload 5) := by decide +kernel
theorem d59_60 : ins 59 60 = some (.iastore) := by decide +kernel
theorem d59_61 : ins 59 61 = some (.aload_n 0) := by decide +kernel
theorem d59_62 : ins 59 62 = some (.dup) := by decide +kernel
theorem d59_63 : ins 59 63 = some (.getfield 31) := by decide +kernel
theorem d59_66 : ins 59 66 = some (.iconst 1) := by decide +kernel
theorem d59_67 : ins 59 67 = some (.iadd) := by decide +kernel
theorem d59_68 : ins 59 68 = some (.putfield 31) := by decide +kernel
theorem d59_71 : ins 59 71 = some (.return_) := by decide +kernel
set_option maxRecDepth 10000 in
theorem b59_0 {Q : Option Value → mm → Prop} (ρ : rm) (τ : Int64) (a1 : Int) (a2 : Int) (a3 : Int) (a4 : Int) (a5 : Int) (hB : BM ρ) (h_a1 : SM a1) (h_a2 : SM a2) (h_a3 : SM a3) (h_a4 : SM a4) (h_a5 : SM a5) : G 59 0 (some (.ref 3) :: some (vI a1) :: some (vI a2) :: some (vI a3) :: some (vI a4) :: some (vI a5) :: []) [] (toM ρ τ) Q = (if 6 ≤ (ρ 3 0) then Q none (toM ρ τ) else (if 0 ≤ (ρ 3 0) ∧ (ρ 3 0) < 6 then (if 0 ≤ (ρ 3 0) ∧ (ρ 3 0) < 6 then (if 0 ≤ (ρ 3 0) ∧ (ρ 3 0) < 6 then (if 0 ≤ (ρ 3 0) ∧ (ρ 3 0) < 6 then (if 0 ≤ (ρ 3 0) ∧ (ρ 3 0) < 6 then Q none (toM (rup (rup (rup (rup (rup (rup ρ 32 (ρ 3 0) a1) 33 (ρ 3 0) a2) 34 (ρ 3 0) a3) 35 (ρ 3 0) a4) 36 (ρ 3 0) a5) 3 0 ((ρ 3 0) + 1)) τ) else False) else False) else False) else False) else False)) := by
  refine (g_aload_n d59_0 rfl rfl).trans ?_
  refine (j_getI (v := ρ 3 0) d59_1 f4_31 sh_3 (by decide) rfl rfl).trans ?_
  have q1 := hB 3 0 (by decide)
  refine (j_bipush d59_4 (by decide)).trans ?_
  refine j_icmp_ge (tgt := 71) d59_6 (by decide) (by omega) (by omega) (fun q2 => ?_) (fun q2 => ?_)
  ·
    exact g_ret d59_71 rfl
  ·
    refine (g_aload_n d59_9 rfl rfl).trans ?_
    refine (g_getR (q := 32) d59_10 f4_9 sh_3 (by decide) rfl).trans ?_
    refine (g_aload_n d59_13 rfl rfl).trans ?_
    refine (j_getI (v := ρ 3 0) d59_14 f4_31 sh_3 (by decide) rfl rfl).trans ?_
    refine (g_iload_n d59_17 rfl).trans ?_
    refine j_iastore d59_18 sh_32 (by omega) (fun q3 => ?_)
    refine (g_aload_n d59_19 rfl rfl).trans ?_
    refine (g_getR (q := 33) d59_20 f4_15 sh_3 (by decide) rfl).trans ?_
    refine (g_aload_n d59_23 rfl rfl).trans ?_
    refine (j_getI (v := ρ 3 0) d59_24 f4_31 sh_3 (by decide) rfl (by simp [rup])).trans ?_
    refine (g_iload_n d59_27 rfl).trans ?_
    refine j_iastore d59_28 sh_33 (by omega) (fun q4 => ?_)
    refine (g_aload_n d59_29 rfl rfl).trans ?_
    refine (g_getR (q := 34) d59_30 f4_18 sh_3 (by decide) rfl).trans ?_
    refine (g_aload_n d59_33 rfl rfl).trans ?_
    refine (j_getI (v := ρ 3 0) d59_34 f4_31 sh_3 (by decide) rfl (by simp [rup])).trans ?_
    refine (g_iload_n d59_37 rfl).trans ?_
    refine j_iastore d59_38 sh_34 (by omega) (fun q5 => ?_)
    refine (g_aload_n d59_39 rfl rfl).trans ?_
    refine (g_getR (q := 35) d59_40 f4_21 sh_3 (by decide) rfl).trans ?_
    refine (g_aload_n d59_43 rfl rfl).trans ?_
    refine (j_getI (v := ρ 3 0) d59_44 f4_31 sh_3 (by decide) rfl (by simp [rup])).trans ?_
    refine (g_iload d59_47 rfl).trans ?_
    refine j_iastore d59_49 sh_35 (by omega) (fun q6 => ?_)
    refine (g_aload_n d59_50 rfl rfl).trans ?_
    refine (g_getR (q := 36) d59_51 f4_24 sh_3 (by decide) rfl).trans ?_
    refine (g_aload_n d59_54 rfl rfl).trans ?_
    refine (j_getI (v := ρ 3 0) d59_55 f4_31 sh_3 (by decide) rfl (by simp [rup])).trans ?_
    refine (g_iload d59_58 rfl).trans ?_
    refine j_iastore d59_60 sh_36 (by omega) (fun q7 => ?_)
    refine (g_aload_n d59_61 rfl rfl).trans ?_
    refine (g_dupR d59_62).trans ?_
    refine (j_getI (v := ρ 3 0) d59_63 f4_31 sh_3 (by decide) rfl (by simp [rup])).trans ?_
    refine (j_iconst d59_66).trans ?_
    refine (j_iadd d59_67).trans ?_
    refine (j_putI d59_68 f4_31 sh_3 (by decide) rfl).trans ?_
    exact g_ret d59_71 rfl
theorem d60_0 : ins 60 0 = some (.iload_n 3) := by decide +kernel
theorem d60_1 : ins 60 1 = some (.aload_n 0) := by decide +kernel
theorem d60_2 : ins 60 2 = some (.getfield 27) := by decide +kernel
theorem d60_5 : ins 60 5 = some (.iload_n 2) := by decide +kernel
theorem d60_6 : ins 60 6 = some (.aload_n 0) := by decide +kernel
theorem d60_7 : ins 60 7 = some (.getfield 9) := by decide +kernel
theorem d60_10 : ins 60 10 = some (.iload_n 1) := by decide +kernel
theorem d60_11 : ins 60 11 = some (.iaload) := by decide +kernel
theorem d60_12 : ins 60 12 = some (.invokevirtual 35) := by decide +kernel
theorem d60_15 : ins 60 15 = some (.iadd) := by decide +kernel
theorem d60_16 : ins 60 16 = some (.istore 4) := by decide +kernel
theorem d60_18 : ins 60 18 = some (.aload_n 0) := by decide +kernel
theorem d60_19 : ins 60 19 = some (.getfield 27) := by decide +kernel
theorem d60_22 : ins 60 22 = some (.aload_n 0) := by decide +kernel
theorem d60_23 : ins 60 23 = some (.getfield 9) := by decide +kernel
theorem d60_26 : ins 60 26 = some (.iload_n 1) := by decide +kernel
theorem d60_27 : ins 60 27 = some (.iaload) := by decide +kernel
theorem d60_28 : ins 60 28 = some (.iload 4) := by decide +kernel
theorem d60_30 : ins 60 30 = some (.invokevirtual 41) := by decide +kernel
theorem d60_33 : ins 60 33 = some (.istore 5) := by decide +kernel
theorem d60_35 : ins 60 35 = some (.iload 5) := by decide +kernel
theorem d60_37 : ins 60 37 = some (.aload_n 0) := by decide +kernel
theorem d60_38 : ins 60 38 = some (.getfield 15) := by decide +kernel
theorem d60_41 : ins 60 41 = some (.iload_n 1) := by decide +kernel
theorem d60_42 : ins 60 42 = some (.iaload) := by decide +kernel
theorem d60_43 : ins 60 43 = some (.if_icmp .lt 17) := by decide +kernel
theorem d60_46 : ins 60 46 = some (.iload 5) := by decide +kernel
theorem d60_48 : ins 60 48 = some (.aload_n 0) := by decide +kernel
theorem d60_49 : ins 60 49 = some (.getfield 18) := by decide +kernel
theorem d60_52 : ins 60 52 = some (.iload_n 1) := by decide +kernel
theorem d60_53 : ins 60 53 = some (.iaload) := by decide +kernel
theorem d60_54 : ins 60 54 = some (.if_icmp .ge 6) := by decide +kernel
theorem d60_57 : ins 60 57 = some (.iload 4) := by decide +kernel
theorem d60_59 : ins 60 59 = some (.ireturn) := by decide +kernel
theorem d60_60 : ins 60 60 = some (.iload 4) := by decide +kernel
theorem d60_62 : ins 60 62 = some (.aload_n 0) := by decide +kernel
theorem d60_63 : ins 60 63 = some (.getfield 15) := by decide +kernel
theorem d60_66 : ins 60 66 = some (.iload_n 1) := by decide +kernel
theorem d60_67 : ins 60 67 = some (.iaload) := by decide +kernel
theorem d60_68 : ins 60 68 = some (.iload 5) := by decide +kernel
theorem d60_70 : ins 60 70 = some (.isub) := by decide +kernel
theorem d60_71 : ins 60 71 = some (.sipush 1440) := by decide +kernel
theorem d60_74 : ins 60 74 = some (.invokestatic 44) := by decide +kernel
theorem d60_77 : ins 60 77 = some (.iadd) := by decide +kernel
theorem d60_78 : ins 60 78 = some (.ireturn) := by decide +kernel
set_option maxRecDepth 10000 in
theorem b60_0 {Q : Option Value → mm → Prop} (ρ : rm) (τ : Int64) (a1 : Int) (a2 : Int) (a3 : Int) (hB : BM ρ) (h_a1 : SM a1) (h_a2 : SM a2) (h_a3 : SM a3) : G 60 0 (some (.ref 3) :: some (vI a1) :: some (vI a2) :: some (vI a3) :: []) [] (toM ρ τ) Q = (if 0 ≤ a1 ∧ a1 < 6 then G 33 0 [some (.ref 1), some (vI a2), some (vI (ρ 32 a1))] [] (toM ρ τ) (fun v μ2 => G 60 15 (some (.ref 3) :: some (vI a1) :: some (vI a2) :: some (vI a3) :: []) (v.toList ++ [vI a3]) μ2 Q) else False) := by
  refine (g_iload_n d60_0 rfl).trans ?_
  refine (g_aload_n d60_1 rfl rfl).trans ?_
  refine (g_getR (q := 1) d60_2 f4_27 sh_3 (by decide) rfl).trans ?_
  refine (g_iload_n d60_5 rfl).trans ?_
  refine (g_aload_n d60_6 rfl rfl).trans ?_
  refine (g_getR (q := 32) d60_7 f4_9 sh_3 (by decide) rfl).trans ?_
  refine (g_iload_n d60_10 rfl).trans ?_
  refine j_iaload (v := ρ 32 a1) d60_11 sh_32 (by omega) rfl (fun q1 => ?_)
  have q2 := hB 32 a1 (by omega)
  exact g_cV d60_12 k4_35 rfl rfl rfl
set_option maxRecDepth 10000 in
theorem b60_15 {Q : Option Value → mm → Prop} (ρ : rm) (τ : Int64) (l1 : Int) (l2 : Int) (l3 : Int) (t : List (Option Value)) (s0 : Int) (r : Int) (hB : BM ρ) (h_l1 : SM l1) (h_l2 : SM l2) (h_l3 : SM l3) (h_s0 : SM s0) (h_r : SM r) : G 60 15 (some (.ref 3) :: some (vI l1) :: some (vI l2) :: some (vI l3) :: t) ((some (vI r)).toList ++ [vI s0]) (toM ρ τ) Q = (if 0 ≤ l1 ∧ l1 < 6 then G 34 0 [some (.ref 1), some (vI (ρ 32 l1)), some (vI (s0 + r))] [] (toM ρ τ) (fun v μ2 => G 60 33 (some (.ref 3) :: some (vI l1) :: some (vI l2) :: some (vI l3) :: some (vI (s0 + r)) :: t.tail) (v.toList ++ []) μ2 Q) else False) := by
  refine (j_iadd d60_15).trans ?_
  refine (g_istore d60_16 (by decide) rfl rfl).trans ?_
  refine (g_aload_n d60_18 rfl rfl).trans ?_
  refine (g_getR (q := 1) d60_19 f4_27 sh_3 (by decide) rfl).trans ?_
  refine (g_aload_n d60_22 rfl rfl).trans ?_
  refine (g_getR (q := 32) d60_23 f4_9 sh_3 (by decide) rfl).trans ?_
  refine (g_iload_n d60_26 rfl).trans ?_
  refine j_iaload (v := ρ 32 l1) d60_27 sh_32 (by omega) rfl (fun q1 => ?_)
  have q2 := hB 32 l1 (by omega)
  refine (g_iload d60_28 rfl).trans ?_
  exact g_cV d60_30 k4_41 rfl rfl rfl
set_option maxRecDepth 10000 in
theorem b60_33 {Q : Option Value → mm → Prop} (ρ : rm) (τ : Int64) (l1 : Int) (l2 : Int) (l3 : Int) (l4 : Int) (t : List (Option Value)) (r : Int) (hB : BM ρ) (h_l1 : SM l1) (h_l2 : SM l2) (h_l3 : SM l3) (h_l4 : SM l4) (h_r : SM r) : G 60 33 (some (.ref 3) :: some (vI l1) :: some (vI l2) :: some (vI l3) :: some (vI l4) :: t) ((some (vI r)).toList ++ []) (toM ρ τ) Q = (if 0 ≤ l1 ∧ l1 < 6 then (if r < (ρ 33 l1) then (if 0 ≤ l1 ∧ l1 < 6 then G 182 0 [some (vI ((ρ 33 l1) - r)), some (vI 1440)] [] (toM ρ τ) (fun v μ2 => G 60 77 (some (.ref 3) :: some (vI l1) :: some (vI l2) :: some (vI l3) :: some (vI l4) :: some (vI r) :: t.tail) (v.toList ++ [vI l4]) μ2 Q) else False) else (if 0 ≤ l1 ∧ l1 < 6 then (if (ρ 34 l1) ≤ r then (if 0 ≤ l1 ∧ l1 < 6 then G 182 0 [some (vI ((ρ 33 l1) - r)), some (vI 1440)] [] (toM ρ τ) (fun v μ2 => G 60 77 (some (.ref 3) :: some (vI l1) :: some (vI l2) :: some (vI l3) :: some (vI l4) :: some (vI r) :: t.tail) (v.toList ++ [vI l4]) μ2 Q) else False) else Q (some (vI l4)) (toM ρ τ)) else False)) else False) := by
  refine (g_istore d60_33 (by decide) rfl rfl).trans ?_
  refine (g_iload d60_35 rfl).trans ?_
  refine (g_aload_n d60_37 rfl rfl).trans ?_
  refine (g_getR (q := 33) d60_38 f4_15 sh_3 (by decide) rfl).trans ?_
  refine (g_iload_n d60_41 rfl).trans ?_
  refine j_iaload (v := ρ 33 l1) d60_42 sh_33 (by omega) rfl (fun q1 => ?_)
  have q2 := hB 33 l1 (by omega)
  refine j_icmp_lt (tgt := 60) d60_43 (by decide) (by omega) (by omega) (fun q3 => ?_) (fun q3 => ?_)
  ·
    refine (g_iload d60_60 rfl).trans ?_
    refine (g_aload_n d60_62 rfl rfl).trans ?_
    refine (g_getR (q := 33) d60_63 f4_15 sh_3 (by decide) rfl).trans ?_
    refine (g_iload_n d60_66 rfl).trans ?_
    refine j_iaload (v := ρ 33 l1) d60_67 sh_33 (by omega) rfl (fun q4 => ?_)
    refine (g_iload d60_68 rfl).trans ?_
    refine (j_isub d60_70).trans ?_
    refine (j_sipush d60_71 (by decide)).trans ?_
    exact g_cS d60_74 k4_44 rfl rfl rfl
  ·
    refine (g_iload d60_46 rfl).trans ?_
    refine (g_aload_n d60_48 rfl rfl).trans ?_
    refine (g_getR (q := 34) d60_49 f4_18 sh_3 (by decide) rfl).trans ?_
    refine (g_iload_n d60_52 rfl).trans ?_
    refine j_iaload (v := ρ 34 l1) d60_53 sh_34 (by omega) rfl (fun q5 => ?_)
    have q6 := hB 34 l1 (by omega)
    refine j_icmp_ge (tgt := 60) d60_54 (by decide) (by omega) (by omega) (fun q7 => ?_) (fun q7 => ?_)
    ·
      refine (g_iload d60_60 rfl).trans ?_
      refine (g_aload_n d60_62 rfl rfl).trans ?_
      refine (g_getR (q := 33) d60_63 f4_15 sh_3 (by decide) rfl).trans ?_
      refine (g_iload_n d60_66 rfl).trans ?_
      refine j_iaload (v := ρ 33 l1) d60_67 sh_33 (by omega) rfl (fun q8 => ?_)
      refine (g_iload d60_68 rfl).trans ?_
      refine (j_isub d60_70).trans ?_
      refine (j_sipush d60_71 (by decide)).trans ?_
      exact g_cS d60_74 k4_44 rfl rfl rfl
    ·
      refine (g_iload d60_57 rfl).trans ?_
      exact g_iret d60_59 rfl rfl
set_option maxRecDepth 10000 in
theorem b60_77 {Q : Option Value → mm → Prop} (ρ : rm) (τ : Int64) (l1 : Int) (l2 : Int) (l3 : Int) (l4 : Int) (l5 : Int) (t : List (Option Value)) (s0 : Int) (r : Int) (hB : BM ρ) (h_l1 : SM l1) (h_l2 : SM l2) (h_l3 : SM l3) (h_l4 : SM l4) (h_l5 : SM l5) (h_s0 : SM s0) (h_r : SM r) : G 60 77 (some (.ref 3) :: some (vI l1) :: some (vI l2) :: some (vI l3) :: some (vI l4) :: some (vI l5) :: t) ((some (vI r)).toList ++ [vI s0]) (toM ρ τ) Q = Q (some (vI (s0 + r))) (toM ρ τ) := by
  refine (j_iadd d60_77).trans ?_
  exact g_iret d60_78 rfl rfl
theorem d61_0 : ins 61 0 = some (.aload_n 0) := by decide +kernel
theorem d61_1 : ins 61 1 = some (.iconst 0) := by decide +kernel
theorem d61_2 : ins 61 2 = some (.putfield 49) := by decide +kernel
theorem d61_5 : ins 61 5 = some (.iconst 0) := by decide +kernel
theorem d61_6 : ins 61 6 = some (.istore_n 3) := by decide +kernel
theorem d61_7 : ins 61 7 = some (.iload_n 3) := by decide +kernel
theorem d61_8 : ins 61 8 = some (.aload_n 0) := by decide +kernel
theorem d61_9 : ins 61 9 = some (.getfield 31) := by decide +kernel
theorem d61_12 : ins 61 12 = some (.if_icmp .ge 110) := by decide +kernel
theorem d61_15 : ins 61 15 = some (.aload_n 0) := by decide +kernel
theorem d61_16 : ins 61 16 = some (.iload_n 3) := by decide +kernel
theorem d61_17 : ins 61 17 = some (.iload_n 1) := by decide +kernel
theorem d61_18 : ins 61 18 = some (.iload_n 2) := by decide +kernel
theorem d61_19 : ins 61 19 = some (.invokevirtual 52) := by decide +kernel
theorem d61_22 : ins 61 22 = some (.istore 4) := by decide +kernel
theorem d61_24 : ins 61 24 = some (.iconst 0) := by decide +kernel
theorem d61_25 : ins 61 25 = some (.istore 5) := by decide +kernel
theorem d61_27 : ins 61 27 = some (.iload 5) := by decide +kernel
theorem d61_29 : ins 61 29 = some (.aload_n 0) := by decide +kernel
theorem d61_30 : ins 61 30 = some (.getfield 31) := by decide +kernel
theorem d61_33 : ins 61 33 = some (.if_icmp .ge 83) := by decide +kernel
theorem d61_36 : ins 61 36 = some (.aload_n 0) := by decide +kernel
theorem d61_37 : ins 61 37 = some (.iload 5) := by decide +kernel
theorem d61_39 : ins 61 39 = some (.aload_n 0) := by decide +kernel
theorem d61_40 : ins 61 40 = some (.getfield 9) := by decide +kernel
theorem d61_43 : ins 61 43 = some (.iload_n 3) := by decide +kernel
theorem d61_44 : ins 61 44 = some (.iaload) := by decide +kernel
theorem d61_45 : ins 61 45 = some (.iload 4) := by decide +kernel
theorem d61_47 : ins 61 47 = some (.invokevirtual 52) := by decide +kernel
theorem d61_50 : ins 61 50 = some (.istore 6) := by decide +kernel
theorem d61_52 : ins 61 52 = some (.aload_n 0) := by decide +kernel
theorem d61_53 : ins 61 53 = some (.getfield 24) := by decide +kernel
theorem d61_56 : ins 61 56 = some (.iload 5) := by decide +kernel
theorem d61_58 : ins 61 58 = some (.iaload) := by decide +kernel
theorem d61_59 : ins 61 59 = some (.aload_n 0) := by decide +kernel
theorem d61_60 : ins 61 60 = some (.getfield 21) := by decide +kernel
theorem d61_63 : ins 61 63 = some (.iload_n 3) := by decide +kernel
theorem d61_64 : ins 61 64 = some (.iaload) := by decide +kernel
theorem d61_65 : ins 61 65 = some (.isub) := by decide +kernel
theorem d61_66 : ins 61 66 = some (.istore 7) := by decide +kernel
theorem d61_68 : ins 61 68 = some (.iload 7) := by decide +kernel
theorem d61_70 : ins 61 70 = some (.aload_n 0) := by decide +kernel
theorem d61_71 : ins 61 71 = some (.getfield 49) := by decide +kernel
theorem d61_74 : ins 61 74 = some (.if_icmp .le 36) := by decide +kernel
theorem d61_77 : ins 61 77 = some (.iload 6) := by decide +kernel
theorem d61_79 : ins 61 79 = some (.iload_n 2) := by decide +kernel
theorem d61_80 : ins 61 80 = some (.isub) := by decide +kernel
theorem d61_81 : ins 61 81 = some (.sipush 2880) := by decide +kernel
theorem d61_84 : ins 61 84 = some (.if_icmp .gt 26) := by decide +kernel
theorem d61_87 : ins 61 87 = some (.aload_n 0) := by decide +kernel
theorem d61_88 : ins 61 88 = some (.iload 7) := by decide +kernel
theorem d61_90 : ins 61 90 = some (.putfield 49) := by decide +kernel
theorem d61_93 : ins 61 93 = some (.aload_n 0) := by decide +kernel
theorem d61_94 : ins 61 94 = some (.iload_n 3) := by decide +kernel
theorem d61_95 : ins 61 95 = some (.putfield 56) := by decide +kernel
theorem d61_98 : ins 61 98 = some (.aload_n 0) := by decide +kernel
theorem d61_99 : ins 61 99 = some (.iload 5) := by decide +kernel
theorem d61_101 : ins 61 101 = some (.putfield 59) := by decide +kernel
theorem d61_104 : ins 61 104 = some (.aload_n 0) := by decide +kernel
theorem d61_105 : ins 61 105 = some (.iload 6) := by decide +kernel
theorem d61_107 : ins 61 107 = some (.putfield 62) := by decide +kernel
theorem d61_110 : ins 61 110 = some (.iinc 5 1) := by decide +kernel
theorem d61_113 : ins 61 113 = some (.goto (-86)) := by decide +kernel
theorem d61_116 : ins 61 116 = some (.iinc 3 1) := by decide +kernel
theorem d61_119 : ins 61 119 = some (.goto (-112)) := by decide +kernel
theorem d61_122 : ins 61 122 = some (.return_) := by decide +kernel
set_option maxRecDepth 10000 in
theorem b61_0 {Q : Option Value → mm → Prop} (ρ : rm) (τ : Int64) (a1 : Int) (a2 : Int) (hB : BM ρ) (h_a1 : SM a1) (h_a2 : SM a2) : G 61 0 (some (.ref 3) :: some (vI a1) :: some (vI a2) :: []) [] (toM ρ τ) Q = G 61 7 (some (.ref 3) :: some (vI a1) :: some (vI a2) :: some (vI 0) :: []) [] (toM (rup ρ 3 1 0) τ) Q := by
  refine (g_aload_n d61_0 rfl rfl).trans ?_
  refine (j_iconst d61_1).trans ?_
  refine (j_putI d61_2 f4_49 sh_3 (by decide) rfl).trans ?_
  refine (j_iconst d61_5).trans ?_
  refine (g_istore_n d61_6 (by decide) rfl rfl).trans ?_
  rfl
set_option maxRecDepth 10000 in
theorem b61_7 {Q : Option Value → mm → Prop} (ρ : rm) (τ : Int64) (l1 : Int) (l2 : Int) (l3 : Int) (t : List (Option Value)) (hB : BM ρ) (h_l1 : SM l1) (h_l2 : SM l2) (h_l3 : SM l3) : G 61 7 (some (.ref 3) :: some (vI l1) :: some (vI l2) :: some (vI l3) :: t) [] (toM ρ τ) Q = (if (ρ 3 0) ≤ l3 then Q none (toM ρ τ) else G 60 0 [some (.ref 3), some (vI l3), some (vI l1), some (vI l2)] [] (toM ρ τ) (fun v μ2 => G 61 22 (some (.ref 3) :: some (vI l1) :: some (vI l2) :: some (vI l3) :: t) (v.toList ++ []) μ2 Q)) := by
  refine (g_iload_n d61_7 rfl).trans ?_
  refine (g_aload_n d61_8 rfl rfl).trans ?_
  refine (j_getI (v := ρ 3 0) d61_9 f4_31 sh_3 (by decide) rfl rfl).trans ?_
  have q1 := hB 3 0 (by decide)
  refine j_icmp_ge (tgt := 122) d61_12 (by decide) (by omega) (by omega) (fun q2 => ?_) (fun q2 => ?_)
  ·
    exact g_ret d61_122 rfl
  ·
    refine (g_aload_n d61_15 rfl rfl).trans ?_
    refine (g_iload_n d61_16 rfl).trans ?_
    refine (g_iload_n d61_17 rfl).trans ?_
    refine (g_iload_n d61_18 rfl).trans ?_
    exact g_cV d61_19 k4_52 rfl rfl rfl
set_option maxRecDepth 10000 in
theorem b61_22 {Q : Option Value → mm → Prop} (ρ : rm) (τ : Int64) (l1 : Int) (l2 : Int) (l3 : Int) (t : List (Option Value)) (r : Int) (hB : BM ρ) (h_l1 : SM l1) (h_l2 : SM l2) (h_l3 : SM l3) (h_r : SM r) : G 61 22 (some (.ref 3) :: some (vI l1) :: some (vI l2) :: some (vI l3) :: t) ((some (vI r)).toList ++ []) (toM ρ τ) Q = G 61 27 (some (.ref 3) :: some (vI l1) :: some (vI l2) :: some (vI l3) :: some (vI r) :: some (vI 0) :: t.tail.tail) [] (toM ρ τ) Q := by
  refine (g_istore d61_22 (by decide) rfl rfl).trans ?_
  refine (j_iconst d61_24).trans ?_
  refine (g_istore d61_25 (by decide) rfl rfl).trans ?_
  rfl
set_option maxRecDepth 10000 in
theorem b61_27 {Q : Option Value → mm → Prop} (ρ : rm) (τ : Int64) (l1 : Int) (l2 : Int) (l3 : Int) (l4 : Int) (l5 : Int) (t : List (Option Value)) (hB : BM ρ) (h_l1 : SM l1) (h_l2 : SM l2) (h_l3 : SM l3) (h_l4 : SM l4) (h_l5 : SM l5) : G 61 27 (some (.ref 3) :: some (vI l1) :: some (vI l2) :: some (vI l3) :: some (vI l4) :: some (vI l5) :: t) [] (toM ρ τ) Q = (if (ρ 3 0) ≤ l5 then G 61 7 (some (.ref 3) :: some (vI l1) :: some (vI l2) :: some (vI (l3 + 1)) :: some (vI l4) :: some (vI l5) :: t) [] (toM ρ τ) Q else (if 0 ≤ l3 ∧ l3 < 6 then G 60 0 [some (.ref 3), some (vI l5), some (vI (ρ 32 l3)), some (vI l4)] [] (toM ρ τ) (fun v μ2 => G 61 50 (some (.ref 3) :: some (vI l1) :: some (vI l2) :: some (vI l3) :: some (vI l4) :: some (vI l5) :: t) (v.toList ++ []) μ2 Q) else False)) := by
  refine (g_iload d61_27 rfl).trans ?_
  refine (g_aload_n d61_29 rfl rfl).trans ?_
  refine (j_getI (v := ρ 3 0) d61_30 f4_31 sh_3 (by decide) rfl rfl).trans ?_
  have q1 := hB 3 0 (by decide)
  refine j_icmp_ge (tgt := 116) d61_33 (by decide) (by omega) (by omega) (fun q2 => ?_) (fun q2 => ?_)
  ·
    refine (j_iinc d61_116 rfl (by decide) rfl rfl).trans ?_
    refine (g_goto (tgt := 7) d61_119 (by decide)).trans ?_
    rfl
  ·
    refine (g_aload_n d61_36 rfl rfl).trans ?_
    refine (g_iload d61_37 rfl).trans ?_
    refine (g_aload_n d61_39 rfl rfl).trans ?_
    refine (g_getR (q := 32) d61_40 f4_9 sh_3 (by decide) rfl).trans ?_
    refine (g_iload_n d61_43 rfl).trans ?_
    refine j_iaload (v := ρ 32 l3) d61_44 sh_32 (by omega) rfl (fun q3 => ?_)
    have q4 := hB 32 l3 (by omega)
    refine (g_iload d61_45 rfl).trans ?_
    exact g_cV d61_47 k4_52 rfl rfl rfl
set_option maxRecDepth 10000 in
theorem b61_50 {Q : Option Value → mm → Prop} (ρ : rm) (τ : Int64) (l1 : Int) (l2 : Int) (l3 : Int) (l4 : Int) (l5 : Int) (t : List (Option Value)) (r : Int) (hB : BM ρ) (h_l1 : SM l1) (h_l2 : SM l2) (h_l3 : SM l3) (h_l4 : SM l4) (h_l5 : SM l5) (h_r : SM r) : G 61 50 (some (.ref 3) :: some (vI l1) :: some (vI l2) :: some (vI l3) :: some (vI l4) :: some (vI l5) :: t) ((some (vI r)).toList ++ []) (toM ρ τ) Q = (if 0 ≤ l5 ∧ l5 < 6 then (if 0 ≤ l3 ∧ l3 < 6 then (if ((ρ 36 l5) - (ρ 35 l3)) ≤ (ρ 3 1) then G 61 27 (some (.ref 3) :: some (vI l1) :: some (vI l2) :: some (vI l3) :: some (vI l4) :: some (vI (l5 + 1)) :: some (vI r) :: some (vI ((ρ 36 l5) - (ρ 35 l3))) :: t.tail.tail) [] (toM ρ τ) Q else (if 2880 < (r - l2) then G 61 27 (some (.ref 3) :: some (vI l1) :: some (vI l2) :: some (vI l3) :: some (vI l4) :: some (vI (l5 + 1)) :: some (vI r) :: some (vI ((ρ 36 l5) - (ρ 35 l3))) :: t.tail.tail) [] (toM ρ τ) Q else G 61 27 (some (.ref 3) :: some (vI l1) :: some (vI l2) :: some (vI l3) :: some (vI l4) :: some (vI (l5 + 1)) :: some (vI r) :: some (vI ((ρ 36 l5) - (ρ 35 l3))) :: t.tail.tail) [] (toM (rup (rup (rup (rup ρ 3 1 ((ρ 36 l5) - (ρ 35 l3))) 3 2 l3) 3 3 l5) 3 4 r) τ) Q)) else False) else False) := by
  refine (g_istore d61_50 (by decide) rfl rfl).trans ?_
  refine (g_aload_n d61_52 rfl rfl).trans ?_
  refine (g_getR (q := 36) d61_53 f4_24 sh_3 (by decide) rfl).trans ?_
  refine (g_iload d61_56 rfl).trans ?_
  refine j_iaload (v := ρ 36 l5) d61_58 sh_36 (by omega) rfl (fun q1 => ?_)
  have q2 := hB 36 l5 (by omega)
  refine (g_aload_n d61_59 rfl rfl).trans ?_
  refine (g_getR (q := 35) d61_60 f4_21 sh_3 (by decide) rfl).trans ?_
  refine (g_iload_n d61_63 rfl).trans ?_
  refine j_iaload (v := ρ 35 l3) d61_64 sh_35 (by omega) rfl (fun q3 => ?_)
  have q4 := hB 35 l3 (by omega)
  refine (j_isub d61_65).trans ?_
  refine (g_istore d61_66 (by decide) rfl rfl).trans ?_
  refine (g_iload d61_68 rfl).trans ?_
  refine (g_aload_n d61_70 rfl rfl).trans ?_
  refine (j_getI (v := ρ 3 1) d61_71 f4_49 sh_3 (by decide) rfl rfl).trans ?_
  have q5 := hB 3 1 (by decide)
  refine j_icmp_le (tgt := 110) d61_74 (by decide) (by omega) (by omega) (fun q6 => ?_) (fun q6 => ?_)
  ·
    refine (j_iinc d61_110 rfl (by decide) rfl rfl).trans ?_
    refine (g_goto (tgt := 27) d61_113 (by decide)).trans ?_
    rfl
  ·
    refine (g_iload d61_77 rfl).trans ?_
    refine (g_iload_n d61_79 rfl).trans ?_
    refine (j_isub d61_80).trans ?_
    refine (j_sipush d61_81 (by decide)).trans ?_
    refine j_icmp_gt (tgt := 110) d61_84 (by decide) (by omega) (by omega) (fun q7 => ?_) (fun q7 => ?_)
    ·
      refine (j_iinc d61_110 rfl (by decide) rfl rfl).trans ?_
      refine (g_goto (tgt := 27) d61_113 (by decide)).trans ?_
      rfl
    ·
      refine (g_aload_n d61_87 rfl rfl).trans ?_
      refine (g_iload d61_88 rfl).trans ?_
      refine (j_putI d61_90 f4_49 sh_3 (by decide) rfl).trans ?_
      refine (g_aload_n d61_93 rfl rfl).trans ?_
      refine (g_iload_n d61_94 rfl).trans ?_
      refine (j_putI d61_95 f4_56 sh_3 (by decide) rfl).trans ?_
      refine (g_aload_n d61_98 rfl rfl).trans ?_
      refine (g_iload d61_99 rfl).trans ?_
      refine (j_putI d61_101 f4_59 sh_3 (by decide) rfl).trans ?_
      refine (g_aload_n d61_104 rfl rfl).trans ?_
      refine (g_iload d61_105 rfl).trans ?_
      refine (j_putI d61_107 f4_62 sh_3 (by decide) rfl).trans ?_
      refine (j_iinc d61_110 rfl (by decide) rfl rfl).trans ?_
      refine (g_goto (tgt := 27) d61_113 (by decide)).trans ?_
      rfl
theorem d63_0 : ins 63 0 = some (.aload_n 0) := by decide +kernel
theorem d63_1 : ins 63 1 = some (.getfield 25) := by decide +kernel
theorem d63_4 : ins 63 4 = some (.bipush 12) := by decide +kernel
theorem d63_6 : ins 63 6 = some (.if_icmp .lt 6) := by decide +kernel
theorem d63_9 : ins 63 9 = some (.bipush (-5)) := by decide +kernel
theorem d63_11 : ins 63 11 = some (.ireturn) := by decide +kernel
theorem d63_12 : ins 63 12 = some (.aload_n 0) := by decide +kernel
theorem d63_13 : ins 63 13 = some (.getfield 9) := by decide +kernel
theorem d63_16 : ins 63 16 = some (.aload_n 0) := by decide +kernel
theorem d63_17 : ins 63 17 = some (.getfield 25) := by decide +kernel
theorem d63_20 : ins 63 20 = some (.iload_n 1) := by decide +kernel
theorem d63_21 : ins 63 21 = some (.iastore) := by decide +kernel
theorem d63_22 : ins 63 22 = some (.aload_n 0) := by decide +kernel
theorem d63_23 : ins 63 23 = some (.getfield 15) := by decide +kernel
theorem d63_26 : ins 63 26 = some (.aload_n 0) := by decide +kernel
theorem d63_27 : ins 63 27 = some (.getfield 25) := by decide +kernel
theorem d63_30 : ins 63 30 = some (.iload_n 2) := by decide +kernel
theorem d63_31 : ins 63 31 = some (.iastore) := by decide +kernel
theorem d63_32 : ins 63 32 = some (.aload_n 0) := by decide +kernel
theorem d63_33 : ins 63 33 = some (.getfield 18) := by decide +kernel
theorem d63_36 : ins 63 36 = some (.aload_n 0) := by decide +kernel
theorem d63_37 : ins 63 37 = some (.getfield 25) := by decide +kernel
theorem d63_40 : ins 63 40 = some (.aload_n 0) := by decide +kernel
theorem d63_41 : ins 63 41 = some (.getfield 21) := by decide +kernel
theorem d63_44 : ins 63 44 = some (.iload_n 2) := by decide +kernel
theorem d63_45 : ins 63 45 = some (.iload_n 3) := by decide +kernel
theorem d63_46 : ins 63 46 = some (.invokevirtual 29) := by decide +kernel
theorem d63_49 : ins 63 49 = some (.iastore) := by decide +kernel
theorem d63_50 : ins 63 50 = some (.aload_n 0) := by decide +kernel
theorem d63_51 : ins 63 51 = some (.dup) := by decide +kernel
theorem d63_52 : ins 63 52 = some (.getfield 25) := by decide +kernel
theorem d63_55 : ins 63 55 = some (.iconst 1) := by decide +kernel
theorem d63_56 : ins 63 56 = some (.iadd) := by decide +kernel
theorem d63_57 : ins 63 57 = some (.putfield 25) := by decide +kernel
theorem d63_60 : ins 63 60 = some (.aload_n 0) := by decide +kernel
theorem d63_61 : ins 63 61 = some (.getfield 25) := by decide +kernel
theorem d63_64 : ins 63 64 = some (.ireturn) := by decide +kernel
set_option maxRecDepth 10000 in
theorem b63_0 {Q : Option Value → mm → Prop} (ρ : rm) (τ : Int64) (a1 : Int) (a2 : Int) (a3 : Int) (hB : BM ρ) (h_a1 : SM a1) (h_a2 : SM a2) (h_a3 : SM a3) : G 63 0 (some (.ref 9) :: some (vI a1) :: some (vI a2) :: some (vI a3) :: []) [] (toM ρ τ) Q = (if (ρ 9 0) < 12 then (if 0 ≤ (ρ 9 0) ∧ (ρ 9 0) < 12 then (if 0 ≤ (ρ 9 0) ∧ (ρ 9 0) < 12 then G 36 0 [some (.ref 1), some (vI a2), some (vI a3)] [] (toM (rup (rup ρ 48 (ρ 9 0) a1) 49 (ρ 9 0) a2) τ) (fun v μ2 => G 63 49 (some (.ref 9) :: some (vI a1) :: some (vI a2) :: some (vI a3) :: []) (v.toList ++ [vI (ρ 9 0), .ref 50]) μ2 Q) else False) else False) else Q (some (vI (-5))) (toM ρ τ)) := by
  refine (g_aload_n d63_0 rfl rfl).trans ?_
  refine (j_getI (v := ρ 9 0) d63_1 f5_25 sh_9 (by decide) rfl rfl).trans ?_
  have q1 := hB 9 0 (by decide)
  refine (j_bipush d63_4 (by decide)).trans ?_
  refine j_icmp_lt (tgt := 12) d63_6 (by decide) (by omega) (by omega) (fun q2 => ?_) (fun q2 => ?_)
  ·
    refine (g_aload_n d63_12 rfl rfl).trans ?_
    refine (g_getR (q := 48) d63_13 f5_9 sh_9 (by decide) rfl).trans ?_
    refine (g_aload_n d63_16 rfl rfl).trans ?_
    refine (j_getI (v := ρ 9 0) d63_17 f5_25 sh_9 (by decide) rfl rfl).trans ?_
    refine (g_iload_n d63_20 rfl).trans ?_
    refine j_iastore d63_21 sh_48 (by omega) (fun q3 => ?_)
    refine (g_aload_n d63_22 rfl rfl).trans ?_
    refine (g_getR (q := 49) d63_23 f5_15 sh_9 (by decide) rfl).trans ?_
    refine (g_aload_n d63_26 rfl rfl).trans ?_
    refine (j_getI (v := ρ 9 0) d63_27 f5_25 sh_9 (by decide) rfl (by simp [rup])).trans ?_
    refine (g_iload_n d63_30 rfl).trans ?_
    refine j_iastore d63_31 sh_49 (by omega) (fun q4 => ?_)
    refine (g_aload_n d63_32 rfl rfl).trans ?_
    refine (g_getR (q := 50) d63_33 f5_18 sh_9 (by decide) rfl).trans ?_
    refine (g_aload_n d63_36 rfl rfl).trans ?_
    refine (j_getI (v := ρ 9 0) d63_37 f5_25 sh_9 (by decide) rfl (by simp [rup])).trans ?_
    refine (g_aload_n d63_40 rfl rfl).trans ?_
    refine (g_getR (q := 1) d63_41 f5_21 sh_9 (by decide) rfl).trans ?_
    refine (g_iload_n d63_44 rfl).trans ?_
    refine (g_iload_n d63_45 rfl).trans ?_
    exact g_cV d63_46 k5_29 rfl rfl rfl
  ·
    refine (j_bipush d63_9 (by decide)).trans ?_
    exact g_iret d63_11 rfl rfl
set_option maxRecDepth 10000 in
theorem b63_49 {Q : Option Value → mm → Prop} (ρ : rm) (τ : Int64) (l1 : Int) (l2 : Int) (l3 : Int) (t : List (Option Value)) (s0 : Int) (r : Int) (hB : BM ρ) (h_l1 : SM l1) (h_l2 : SM l2) (h_l3 : SM l3) (h_s0 : SM s0) (h_r : SM r) : G 63 49 (some (.ref 9) :: some (vI l1) :: some (vI l2) :: some (vI l3) :: t) ((some (vI r)).toList ++ [vI s0, .ref 50]) (toM ρ τ) Q = (if 0 ≤ s0 ∧ s0 < 12 then Q (some (vI ((ρ 9 0) + 1))) (toM (rup (rup ρ 50 s0 r) 9 0 ((ρ 9 0) + 1)) τ) else False) := by
  refine j_iastore d63_49 sh_50 (by omega) (fun q1 => ?_)
  refine (g_aload_n d63_50 rfl rfl).trans ?_
  refine (g_dupR d63_51).trans ?_
  refine (j_getI (v := ρ 9 0) d63_52 f5_25 sh_9 (by decide) rfl (by simp [rup])).trans ?_
  have q2 := hB 9 0 (by decide)
  refine (j_iconst d63_55).trans ?_
  refine (j_iadd d63_56).trans ?_
  refine (j_putI d63_57 f5_25 sh_9 (by decide) rfl).trans ?_
  refine (g_aload_n d63_60 rfl rfl).trans ?_
  refine (j_getI (v := (ρ 9 0) + 1) d63_61 f5_25 sh_9 (by decide) rfl (by simp [rup])).trans ?_
  exact g_iret d63_64 rfl rfl
theorem d64_0 : ins 64 0 = some (.aload_n 0) := by decide +kernel
theorem d64_1 : ins 64 1 = some (.getfield 25) := by decide +kernel
theorem d64_4 : ins 64 4 = some (.istore_n 1) := by decide +kernel
theorem d64_5 : ins 64 5 = some (.aload_n 0) := by decide +kernel
theorem d64_6 : ins 64 6 = some (.iconst 0) := by decide +kernel
theorem d64_7 : ins 64 7 = some (.putfield 25) := by decide +kernel
theorem d64_10 : ins 64 10 = some (.iload_n 1) := by decide +kernel
theorem d64_11 : ins 64 11 = some (.ireturn) := by decide +kernel
set_option maxRecDepth 10000 in
theorem b64_0 {Q : Option Value → mm → Prop} (ρ : rm) (τ : Int64)  (hB : BM ρ)  : G 64 0 (some (.ref 9) :: []) [] (toM ρ τ) Q = Q (some (vI (ρ 9 0))) (toM (rup ρ 9 0 0) τ) := by
  refine (g_aload_n d64_0 rfl rfl).trans ?_
  refine (j_getI (v := ρ 9 0) d64_1 f5_25 sh_9 (by decide) rfl rfl).trans ?_
  have q1 := hB 9 0 (by decide)
  refine (g_istore_n d64_4 (by decide) rfl rfl).trans ?_
  refine (g_aload_n d64_5 rfl rfl).trans ?_
  refine (j_iconst d64_6).trans ?_
  refine (j_putI d64_7 f5_25 sh_9 (by decide) rfl).trans ?_
  refine (g_iload_n d64_10 rfl).trans ?_
  exact g_iret d64_11 rfl rfl
theorem d65_0 : ins 65 0 = some (.iconst 0) := by decide +kernel
theorem d65_1 : ins 65 1 = some (.istore_n 3) := by decide +kernel
theorem d65_2 : ins 65 2 = some (.iconst 0) := by decide +kernel
theorem d65_3 : ins 65 3 = some (.istore 4) := by decide +kernel
theorem d65_5 : ins 65 5 = some (.iload 4) := by decide +kernel
theorem d65_7 : ins 65 7 = some (.aload_n 0) := by decide +kernel
theorem d65_8 : ins 65 8 = some (.getfield 25) := by decide +kernel
theorem d65_11 : ins 65 11 = some (.if_icmp .ge 51) := by decide +kernel
theorem d65_14 : ins 65 14 = some (.aload_n 0) := by decide +kernel
theorem d65_15 : ins 65 15 = some (.getfield 21) := by decide +kernel
theorem d65_18 : ins 65 18 = some (.iload_n 1) := by decide +kernel
theorem d65_19 : ins 65 19 = some (.aload_n 0) := by decide +kernel
theorem d65_20 : ins 65 20 = some (.getfield 15) := by decide +kernel
theorem d65_23 : ins 65 23 = some (.iload 4) := by decide +kernel
theorem d65_25 : ins 65 25 = some (.iaload) := by decide +kernel
theorem d65_26 : ins 65 26 = some (.invokevirtual 35) := by decide +kernel
theorem d65_29 : ins 65 29 = some (.iload_n 2) := by decide +kernel
theorem d65_30 : ins 65 30 = some (.aload_n 0) := by decide +kernel
theorem d65_31 : ins 65 31 = some (.getfield 18) := by decide +kernel
theorem d65_34 : ins 65 34 = some (.iload 4) := by decide +kernel
theorem d65_36 : ins 65 36 = some (.iaload) := by decide +kernel
theorem d65_37 : ins 65 37 = some (.isub) := by decide +kernel
theorem d65_38 : ins 65 38 = some (.invokestatic 38) := by decide +kernel
theorem d65_41 : ins 65 41 = some (.if_icmp .le 15) := by decide +kernel
theorem d65_44 : ins 65 44 = some (.iload_n 3) := by decide +kernel
theorem d65_45 : ins 65 45 = some (.iconst 1) := by decide +kernel
theorem d65_46 : ins 65 46 = some (.aload_n 0) := by decide +kernel
theorem d65_47 : ins 65 47 = some (.getfield 9) := by decide +kernel
theorem d65_50 : ins 65 50 = some (.iload 4) := by decide +kernel
theorem d65_52 : ins 65 52 = some (.iaload) := by decide +kernel
theorem d65_53 : ins 65 53 = some (.ishl) := by decide +kernel
theorem d65_54 : ins 65 54 = some (.ior) := by decide +kernel
theorem d65_55 : ins 65 55 = some (.istore_n 3) := by decide +kernel
theorem d65_56 : ins 65 56 = some (.iinc 4 1) := by decide +kernel
theorem d65_59 : ins 65 59 = some (.goto (-54)) := by decide +kernel
theorem d65_62 : ins 65 62 = some (.iload_n 3) := by decide +kernel
theorem d65_63 : ins 65 63 = some (.ireturn) := by decide +kernel
set_option maxRecDepth 10000 in
theorem b65_0 {Q : Option Value → mm → Prop} (ρ : rm) (τ : Int64) (a1 : Int) (a2 : Int) (hB : BM ρ) (h_a1 : SM a1) (h_a2 : SM a2) : G 65 0 (some (.ref 9) :: some (vI a1) :: some (vI a2) :: []) [] (toM ρ τ) Q = G 65 5 (some (.ref 9) :: some (vI a1) :: some (vI a2) :: some (vI 0) :: some (vI 0) :: []) [] (toM ρ τ) Q := by
  refine (j_iconst d65_0).trans ?_
  refine (g_istore_n d65_1 (by decide) rfl rfl).trans ?_
  refine (j_iconst d65_2).trans ?_
  refine (g_istore d65_3 (by decide) rfl rfl).trans ?_
  rfl
set_option maxRecDepth 10000 in
theorem b65_5 {Q : Option Value → mm → Prop} (ρ : rm) (τ : Int64) (l1 : Int) (l2 : Int) (l3 : Int) (l4 : Int) (t : List (Option Value)) (hB : BM ρ) (h_l1 : SM l1) (h_l2 : SM l2) (h_l3 : SM l3) (h_l4 : SM l4) : G 65 5 (some (.ref 9) :: some (vI l1) :: some (vI l2) :: some (vI l3) :: some (vI l4) :: t) [] (toM ρ τ) Q = (if (ρ 9 0) ≤ l4 then Q (some (vI l3)) (toM ρ τ) else (if 0 ≤ l4 ∧ l4 < 12 then G 33 0 [some (.ref 1), some (vI l1), some (vI (ρ 49 l4))] [] (toM ρ τ) (fun v μ2 => G 65 29 (some (.ref 9) :: some (vI l1) :: some (vI l2) :: some (vI l3) :: some (vI l4) :: t) (v.toList ++ []) μ2 Q) else False)) := by
  refine (g_iload d65_5 rfl).trans ?_
  refine (g_aload_n d65_7 rfl rfl).trans ?_
  refine (j_getI (v := ρ 9 0) d65_8 f5_25 sh_9 (by decide) rfl rfl).trans ?_
  have q1 := hB 9 0 (by decide)
  refine j_icmp_ge (tgt := 62) d65_11 (by decide) (by omega) (by omega) (fun q2 => ?_) (fun q2 => ?_)
  ·
    refine (g_iload_n d65_62 rfl).trans ?_
    exact g_iret d65_63 rfl rfl
  ·
    refine (g_aload_n d65_14 rfl rfl).trans ?_
    refine (g_getR (q := 1) d65_15 f5_21 sh_9 (by decide) rfl).trans ?_
    refine (g_iload_n d65_18 rfl).trans ?_
    refine (g_aload_n d65_19 rfl rfl).trans ?_
    refine (g_getR (q := 49) d65_20 f5_15 sh_9 (by decide) rfl).trans ?_
    refine (g_iload d65_23 rfl).trans ?_
    refine j_iaload (v := ρ 49 l4) d65_25 sh_49 (by omega) rfl (fun q3 => ?_)
    have q4 := hB 49 l4 (by omega)
    exact g_cV d65_26 k5_35 rfl rfl rfl
set_option maxRecDepth 10000 in
theorem b65_29 {Q : Option Value → mm → Prop} (ρ : rm) (τ : Int64) (l1 : Int) (l2 : Int) (l3 : Int) (l4 : Int) (t : List (Option Value)) (r : Int) (hB : BM ρ) (h_l1 : SM l1) (h_l2 : SM l2) (h_l3 : SM l3) (h_l4 : SM l4) (h_r : SM r) : G 65 29 (some (.ref 9) :: some (vI l1) :: some (vI l2) :: some (vI l3) :: some (vI l4) :: t) ((some (vI r)).toList ++ []) (toM ρ τ) Q = (if 0 ≤ l4 ∧ l4 < 12 then G 183 0 [some (vI (l2 - (ρ 50 l4)))] [] (toM ρ τ) (fun v μ2 => G 65 41 (some (.ref 9) :: some (vI l1) :: some (vI l2) :: some (vI l3) :: some (vI l4) :: t) (v.toList ++ [vI r]) μ2 Q) else False) := by
  refine (g_iload_n d65_29 rfl).trans ?_
  refine (g_aload_n d65_30 rfl rfl).trans ?_
  refine (g_getR (q := 50) d65_31 f5_18 sh_9 (by decide) rfl).trans ?_
  refine (g_iload d65_34 rfl).trans ?_
  refine j_iaload (v := ρ 50 l4) d65_36 sh_50 (by omega) rfl (fun q1 => ?_)
  have q2 := hB 50 l4 (by omega)
  refine (j_isub d65_37).trans ?_
  exact g_cS d65_38 k5_38 rfl rfl rfl
set_option maxRecDepth 10000 in
theorem b65_41 {Q : Option Value → mm → Prop} (ρ : rm) (τ : Int64) (l1 : Int) (l2 : Int) (l3 : Int) (l4 : Int) (t : List (Option Value)) (s0 : Int) (r : Int) (hB : BM ρ) (h_l1 : SM l1) (h_l2 : SM l2) (h_l3 : SM l3) (h_l4 : SM l4) (h_s0 : SM s0) (h_r : SM r) : G 65 41 (some (.ref 9) :: some (vI l1) :: some (vI l2) :: some (vI l3) :: some (vI l4) :: t) ((some (vI r)).toList ++ [vI s0]) (toM ρ τ) Q = (if s0 ≤ r then G 65 5 (some (.ref 9) :: some (vI l1) :: some (vI l2) :: some (vI l3) :: some (vI (l4 + 1)) :: t) [] (toM ρ τ) Q else (if 0 ≤ l4 ∧ l4 < 12 then G 65 5 (some (.ref 9) :: some (vI l1) :: some (vI l2) :: some (vI ((iI l3 ||| iI ((iI 1 <<< (iI (ρ 48 l4) &&& 31)).toInt)).toInt)) :: some (vI (l4 + 1)) :: t) [] (toM ρ τ) Q else False)) := by
  refine j_icmp_le (tgt := 56) d65_41 (by decide) (by omega) (by omega) (fun q1 => ?_) (fun q1 => ?_)
  ·
    refine (j_iinc d65_56 rfl (by decide) rfl rfl).trans ?_
    refine (g_goto (tgt := 5) d65_59 (by decide)).trans ?_
    rfl
  ·
    refine (g_iload_n d65_44 rfl).trans ?_
    refine (j_iconst d65_45).trans ?_
    refine (g_aload_n d65_46 rfl rfl).trans ?_
    refine (g_getR (q := 48) d65_47 f5_9 sh_9 (by decide) rfl).trans ?_
    refine (g_iload d65_50 rfl).trans ?_
    refine j_iaload (v := ρ 48 l4) d65_52 sh_48 (by omega) rfl (fun q2 => ?_)
    have q3 := hB 48 l4 (by omega)
    refine (j_ishl d65_53).trans ?_
    have q4 := SB_of (iI 1 <<< (iI (ρ 48 l4) &&& 31))
    refine (j_ior d65_54).trans ?_
    have q5 := SB_of (iI l3 ||| iI ((iI 1 <<< (iI (ρ 48 l4) &&& 31)).toInt))
    refine (g_istore_n d65_55 (by decide) rfl rfl).trans ?_
    refine (j_iinc d65_56 rfl (by decide) rfl rfl).trans ?_
    refine (g_goto (tgt := 5) d65_59 (by decide)).trans ?_
    rfl
theorem d66_0 : ins 66 0 = some (.iconst 0) := by decide +kernel
theorem d66_1 : ins 66 1 = some (.istore_n 1) := by decide +kernel
theorem d66_2 : ins 66 2 = some (.iconst 0) := by decide +kernel
theorem d66_3 : ins 66 3 = some (.istore_n 2) := by decide +kernel
theorem d66_4 : ins 66 4 = some (.iload_n 2) := by decide +kernel
theorem d66_5 : ins 66 5 = some (.aload_n 0) := by decide +kernel
theorem d66_6 : ins 66 6 = some (.getfield 25) := by decide +kernel
theorem d66_9 : ins 66 9 = some (.if_icmp .ge 37) := by decide +kernel
theorem d66_12 : ins 66 12 = some (.iload_n 1) := by decide +kernel
theorem d66_13 : ins 66 13 = some (.aload_n 0) := by decide +kernel
theorem d66_14 : ins 66 14 = some (.aload_n 0) := by decide +kernel
theorem d66_15 : ins 66 15 = some (.getfield 15) := by decide +kernel
theorem d66_18 : ins 66 18 = some (.iload_n 2) := by decide +kernel
theorem d66_19 : ins 66 19 = some (.iaload) := by decide +kernel
theorem d66_20 : ins 66 20 = some (.aload_n 0) := by decide +kernel
theorem d66_21 : ins 66 21 = some (.getfield 18) := by decide +kernel
theorem d66_24 : ins 66 24 = some (.iload_n 2) := by decide +kernel
theorem d66_25 : ins 66 25 = some (.iaload) := by decide +kernel
theorem d66_26 : ins 66 26 = some (.invokevirtual 44) := by decide +kernel
theorem d66_29 : ins 66 29 = some (.iconst 1) := by decide +kernel
theorem d66_30 : ins 66 30 = some (.aload_n 0) := by decide +kernel
theorem d66_31 : ins 66 31 = some (.getfield 9) := by decide +kernel
theorem d66_34 : ins 66 34 = some (.iload_n 2) := by decide +kernel
theorem d66_35 : ins 66 35 = some (.iaload) := by decide +kernel
theorem d66_36 : ins 66 36 = some (.ishl) := by decide +kernel
theorem d66_37 : ins 66 37 = some (.iand) := by decide +kernel
theorem d66_38 : ins 66 38 = some (.ior) := by decide +kernel
theorem d66_39 : ins 66 39 = some (.istore_n 1) := by decide +kernel
theorem d66_40 : ins 66 40 = some (.iinc 2 1) := by decide +kernel
theorem d66_43 : ins 66 43 = some (.goto (-39)) := by decide +kernel
theorem d66_46 : ins 66 46 = some (.iload_n 1) := by decide +kernel
theorem d66_47 : ins 66 47 = some (.ireturn) := by decide +kernel
set_option maxRecDepth 10000 in
theorem b66_0 {Q : Option Value → mm → Prop} (ρ : rm) (τ : Int64)  (hB : BM ρ)  : G 66 0 (some (.ref 9) :: []) [] (toM ρ τ) Q = G 66 4 (some (.ref 9) :: some (vI 0) :: some (vI 0) :: []) [] (toM ρ τ) Q := by
  refine (j_iconst d66_0).trans ?_
  refine (g_istore_n d66_1 (by decide) rfl rfl).trans ?_
  refine (j_iconst d66_2).trans ?_
  refine (g_istore_n d66_3 (by decide) rfl rfl).trans ?_
  rfl
set_option maxRecDepth 10000 in
theorem b66_4 {Q : Option Value → mm → Prop} (ρ : rm) (τ : Int64) (l1 : Int) (l2 : Int) (t : List (Option Value)) (hB : BM ρ) (h_l1 : SM l1) (h_l2 : SM l2) : G 66 4 (some (.ref 9) :: some (vI l1) :: some (vI l2) :: t) [] (toM ρ τ) Q = (if (ρ 9 0) ≤ l2 then Q (some (vI l1)) (toM ρ τ) else (if 0 ≤ l2 ∧ l2 < 12 then (if 0 ≤ l2 ∧ l2 < 12 then G 65 0 [some (.ref 9), some (vI (ρ 49 l2)), some (vI (ρ 50 l2))] [] (toM ρ τ) (fun v μ2 => G 66 29 (some (.ref 9) :: some (vI l1) :: some (vI l2) :: t) (v.toList ++ [vI l1]) μ2 Q) else False) else False)) := by
  refine (g_iload_n d66_4 rfl).trans ?_
  refine (g_aload_n d66_5 rfl rfl).trans ?_
  refine (j_getI (v := ρ 9 0) d66_6 f5_25 sh_9 (by decide) rfl rfl).trans ?_
  have q1 := hB 9 0 (by decide)
  refine j_icmp_ge (tgt := 46) d66_9 (by decide) (by omega) (by omega) (fun q2 => ?_) (fun q2 => ?_)
  ·
    refine (g_iload_n d66_46 rfl).trans ?_
    exact g_iret d66_47 rfl rfl
  ·
    refine (g_iload_n d66_12 rfl).trans ?_
    refine (g_aload_n d66_13 rfl rfl).trans ?_
    refine (g_aload_n d66_14 rfl rfl).trans ?_
    refine (g_getR (q := 49) d66_15 f5_15 sh_9 (by decide) rfl).trans ?_
    refine (g_iload_n d66_18 rfl).trans ?_
    refine j_iaload (v := ρ 49 l2) d66_19 sh_49 (by omega) rfl (fun q3 => ?_)
    have q4 := hB 49 l2 (by omega)
    refine (g_aload_n d66_20 rfl rfl).trans ?_
    refine (g_getR (q := 50) d66_21 f5_18 sh_9 (by decide) rfl).trans ?_
    refine (g_iload_n d66_24 rfl).trans ?_
    refine j_iaload (v := ρ 50 l2) d66_25 sh_50 (by omega) rfl (fun q5 => ?_)
    have q6 := hB 50 l2 (by omega)
    exact g_cV d66_26 k5_44 rfl rfl rfl
set_option maxRecDepth 10000 in
theorem b66_29 {Q : Option Value → mm → Prop} (ρ : rm) (τ : Int64) (l1 : Int) (l2 : Int) (t : List (Option Value)) (s0 : Int) (r : Int) (hB : BM ρ) (h_l1 : SM l1) (h_l2 : SM l2) (h_s0 : SM s0) (h_r : SM r) : G 66 29 (some (.ref 9) :: some (vI l1) :: some (vI l2) :: t) ((some (vI r)).toList ++ [vI s0]) (toM ρ τ) Q = (if 0 ≤ l2 ∧ l2 < 12 then G 66 4 (some (.ref 9) :: some (vI ((iI s0 ||| iI ((iI r &&& iI ((iI 1 <<< (iI (ρ 48 l2) &&& 31)).toInt)).toInt)).toInt)) :: some (vI (l2 + 1)) :: t) [] (toM ρ τ) Q else False) := by
  refine (j_iconst d66_29).trans ?_
  refine (g_aload_n d66_30 rfl rfl).trans ?_
  refine (g_getR (q := 48) d66_31 f5_9 sh_9 (by decide) rfl).trans ?_
  refine (g_iload_n d66_34 rfl).trans ?_
  refine j_iaload (v := ρ 48 l2) d66_35 sh_48 (by omega) rfl (fun q1 => ?_)
  have q2 := hB 48 l2 (by omega)
  refine (j_ishl d66_36).trans ?_
  have q3 := SB_of (iI 1 <<< (iI (ρ 48 l2) &&& 31))
  refine (j_iand d66_37).trans ?_
  have q4 := SB_of (iI r &&& iI ((iI 1 <<< (iI (ρ 48 l2) &&& 31)).toInt))
  refine (j_ior d66_38).trans ?_
  have q5 := SB_of (iI s0 ||| iI ((iI r &&& iI ((iI 1 <<< (iI (ρ 48 l2) &&& 31)).toInt)).toInt))
  refine (g_istore_n d66_39 (by decide) rfl rfl).trans ?_
  refine (j_iinc d66_40 rfl (by decide) rfl rfl).trans ?_
  refine (g_goto (tgt := 4) d66_43 (by decide)).trans ?_
  rfl
theorem d67_0 : ins 67 0 = some (.bipush 63) := by decide +kernel
theorem d67_2 : ins 67 2 = some (.istore_n 3) := by decide +kernel
theorem d67_3 : ins 67 3 = some (.iload_n 3) := by decide +kernel
theorem d67_4 : ins 67 4 = some (.aload_n 0) := by decide +kernel
theorem d67_5 : ins 67 5 = some (.invokevirtual 47) := by decide +kernel
theorem d67_8 : ins 67 8 = some (.iconst (-1)) := by decide +kernel
theorem d67_9 : ins 67 9 = some (.ixor) := by decide +kernel
theorem d67_10 : ins 67 10 = some (.iand) := by decide +kernel
theorem d67_11 : ins 67 11 = some (.aload_n 0) := by decide +kernel
theorem d67_12 : ins 67 12 = some (.iload_n 1) := by decide +kernel
theorem d67_13 : ins 67 13 = some (.aload_n 0) := by decide +kernel
theorem d67_14 : ins 67 14 = some (.getfield 21) := by decide +kernel
theorem d67_17 : ins 67 17 = some (.iload_n 1) := by decide +kernel
theorem d67_18 : ins 67 18 = some (.iload_n 2) := by decide +kernel
theorem d67_19 : ins 67 19 = some (.invokevirtual 29) := by decide +kernel
theorem d67_22 : ins 67 22 = some (.invokevirtual 44) := by decide +kernel
theorem d67_25 : ins 67 25 = some (.iconst (-1)) := by decide +kernel
theorem d67_26 : ins 67 26 = some (.ixor) := by decide +kernel
theorem d67_27 : ins 67 27 = some (.iand) := by decide +kernel
theorem d67_28 : ins 67 28 = some (.ireturn) := by decide +kernel
set_option maxRecDepth 10000 in
theorem b67_0 {Q : Option Value → mm → Prop} (ρ : rm) (τ : Int64) (a1 : Int) (a2 : Int) (hB : BM ρ) (h_a1 : SM a1) (h_a2 : SM a2) : G 67 0 (some (.ref 9) :: some (vI a1) :: some (vI a2) :: []) [] (toM ρ τ) Q = G 66 0 [some (.ref 9)] [] (toM ρ τ) (fun v μ2 => G 67 8 (some (.ref 9) :: some (vI a1) :: some (vI a2) :: some (vI 63) :: []) (v.toList ++ [vI 63]) μ2 Q) := by
  refine (j_bipush d67_0 (by decide)).trans ?_
  refine (g_istore_n d67_2 (by decide) rfl rfl).trans ?_
  refine (g_iload_n d67_3 rfl).trans ?_
  refine (g_aload_n d67_4 rfl rfl).trans ?_
  exact g_cV d67_5 k5_47 rfl rfl rfl
set_option maxRecDepth 10000 in
theorem b67_8 {Q : Option Value → mm → Prop} (ρ : rm) (τ : Int64) (l1 : Int) (l2 : Int) (l3 : Int) (t : List (Option Value)) (s0 : Int) (r : Int) (hB : BM ρ) (h_l1 : SM l1) (h_l2 : SM l2) (h_l3 : SM l3) (h_s0 : SM s0) (h_r : SM r) : G 67 8 (some (.ref 9) :: some (vI l1) :: some (vI l2) :: some (vI l3) :: t) ((some (vI r)).toList ++ [vI s0]) (toM ρ τ) Q = G 36 0 [some (.ref 1), some (vI l1), some (vI l2)] [] (toM ρ τ) (fun v μ2 => G 67 22 (some (.ref 9) :: some (vI l1) :: some (vI l2) :: some (vI l3) :: t) (v.toList ++ [vI l1, .ref 9, vI ((iI s0 &&& iI ((iI r ^^^ iI (-1)).toInt)).toInt)]) μ2 Q) := by
  refine (j_iconst d67_8).trans ?_
  refine (j_ixor d67_9).trans ?_
  have q1 := SB_of (iI r ^^^ iI (-1))
  refine (j_iand d67_10).trans ?_
  have q2 := SB_of (iI s0 &&& iI ((iI r ^^^ iI (-1)).toInt))
  refine (g_aload_n d67_11 rfl rfl).trans ?_
  refine (g_iload_n d67_12 rfl).trans ?_
  refine (g_aload_n d67_13 rfl rfl).trans ?_
  refine (g_getR (q := 1) d67_14 f5_21 sh_9 (by decide) rfl).trans ?_
  refine (g_iload_n d67_17 rfl).trans ?_
  refine (g_iload_n d67_18 rfl).trans ?_
  exact g_cV d67_19 k5_29 rfl rfl rfl
set_option maxRecDepth 10000 in
theorem b67_22 {Q : Option Value → mm → Prop} (ρ : rm) (τ : Int64) (l1 : Int) (l2 : Int) (l3 : Int) (t : List (Option Value)) (s0 : Int) (s2 : Int) (r : Int) (hB : BM ρ) (h_l1 : SM l1) (h_l2 : SM l2) (h_l3 : SM l3) (h_s0 : SM s0) (h_s2 : SM s2) (h_r : SM r) : G 67 22 (some (.ref 9) :: some (vI l1) :: some (vI l2) :: some (vI l3) :: t) ((some (vI r)).toList ++ [vI s0, .ref 9, vI s2]) (toM ρ τ) Q = G 65 0 [some (.ref 9), some (vI s0), some (vI r)] [] (toM ρ τ) (fun v μ2 => G 67 25 (some (.ref 9) :: some (vI l1) :: some (vI l2) :: some (vI l3) :: t) (v.toList ++ [vI s2]) μ2 Q) := by
  exact g_cV d67_22 k5_44 rfl rfl rfl
set_option maxRecDepth 10000 in
theorem b67_25 {Q : Option Value → mm → Prop} (ρ : rm) (τ : Int64) (l1 : Int) (l2 : Int) (l3 : Int) (t : List (Option Value)) (s0 : Int) (r : Int) (hB : BM ρ) (h_l1 : SM l1) (h_l2 : SM l2) (h_l3 : SM l3) (h_s0 : SM s0) (h_r : SM r) : G 67 25 (some (.ref 9) :: some (vI l1) :: some (vI l2) :: some (vI l3) :: t) ((some (vI r)).toList ++ [vI s0]) (toM ρ τ) Q = Q (some (vI ((iI s0 &&& iI ((iI r ^^^ iI (-1)).toInt)).toInt))) (toM ρ τ) := by
  refine (j_iconst d67_25).trans ?_
  refine (j_ixor d67_26).trans ?_
  have q1 := SB_of (iI r ^^^ iI (-1))
  refine (j_iand d67_27).trans ?_
  have q2 := SB_of (iI s0 &&& iI ((iI r ^^^ iI (-1)).toInt))
  exact g_iret d67_28 rfl rfl
theorem d69_0 : ins 69 0 = some (.aload_n 0) := by decide +kernel
theorem d69_1 : ins 69 1 = some (.getfield 15) := by decide +kernel
theorem d69_4 : ins 69 4 = some (.iload_n 3) := by decide +kernel
theorem d69_5 : ins 69 5 = some (.iadd) := by decide +kernel
theorem d69_6 : ins 69 6 = some (.sipush 200) := by decide +kernel
theorem d69_9 : ins 69 9 = some (.if_icmp .le 6) := by decide +kernel
theorem d69_12 : ins 69 12 = some (.bipush (-5)) := by decide +kernel
theorem d69_14 : ins 69 14 = some (.ireturn) := by decide +kernel
theorem d69_15 : ins 69 15 = some (.iconst 0) := by decide +kernel
theorem d69_16 : ins 69 16 = some (.istore 4) := by decide +kernel
theorem d69_18 : ins 69 18 = some (.iload 4) := by decide +kernel
theorem d69_20 : ins 69 20 = some (.iload_n 3) := by decide +kernel
theorem d69_21 : ins 69 21 = some (.if_icmp .ge 40) := by decide +kernel
theorem d69_24 : ins 69 24 = some (.aload_n 0) := by decide +kernel
theorem d69_25 : ins 69 25 = some (.getfield 9) := by decide +kernel
theorem d69_28 : ins 69 28 = some (.aload_n 0) := by decide +kernel
theorem d69_29 : ins 69 29 = some (.getfield 15) := by decide +kernel
theorem d69_32 : ins 69 32 = some (.lload_n 1) := by decide +kernel
theorem d69_33 : ins 69 33 = some (.bipush 8) := by decide +kernel
theorem d69_35 : ins 69 35 = some (.iload 4) := by decide +kernel
theorem d69_37 : ins 69 37 = some (.imul) := by decide +kernel
theorem d69_38 : ins 69 38 = some (.lshr) := by decide +kernel
theorem d69_39 : ins 69 39 = some (.ldc2_w 19) := by decide +kernel
theorem d69_42 : ins 69 42 = some (.land) := by decide +kernel
theorem d69_43 : ins 69 43 = some (.l2i) := by decide +kernel
theorem d69_44 : ins 69 44 = some (.iastore) := by decide +kernel
theorem d69_45 : ins 69 45 = some (.aload_n 0) := by decide +kernel
theorem d69_46 : ins 69 46 = some (.dup) := by decide +kernel
theorem d69_47 : ins 69 47 = some (.getfield 15) := by decide +kernel
theorem d69_50 : ins 69 50 = some (.iconst 1) := by decide +kernel
theorem d69_51 : ins 69 51 = some (.iadd) := by decide +kernel
theorem d69_52 : ins 69 52 = some (.putfield 15) := by decide +kernel
theorem d69_55 : ins 69 55 = some (.iinc 4 1) := by decide +kernel
theorem d69_58 : ins 69 58 = some (.goto (-40)) := by decide +kernel
theorem d69_61 : ins 69 61 = some (.aload_n 0) := by decide +kernel
theorem d69_62 : ins 69 62 = some (.getfield 15) := by decide +kernel
theorem d69_65 : ins 69 65 = some (.ireturn) := by decide +kernel
set_option maxRecDepth 10000 in
theorem b69_0 {Q : Option Value → mm → Prop} (ρ : rm) (τ : Int64) (a1 : Int64) (a2 : Int) (hB : BM ρ) (h_a2 : SM a2) : G 69 0 (some (.ref 4) :: some (.long a1) :: none :: some (vI a2) :: []) [] (toM ρ τ) Q = (if ((ρ 4 1) + a2) ≤ 200 then G 69 18 (some (.ref 4) :: some (.long a1) :: none :: some (vI a2) :: some (vI 0) :: []) [] (toM ρ τ) Q else Q (some (vI (-5))) (toM ρ τ)) := by
  refine (g_aload_n d69_0 rfl rfl).trans ?_
  refine (j_getI (v := ρ 4 1) d69_1 f6_15 sh_4 (by decide) rfl rfl).trans ?_
  have q1 := hB 4 1 (by decide)
  refine (g_iload_n d69_4 rfl).trans ?_
  refine (j_iadd d69_5).trans ?_
  refine (j_sipush d69_6 (by decide)).trans ?_
  refine j_icmp_le (tgt := 15) d69_9 (by decide) (by omega) (by omega) (fun q2 => ?_) (fun q2 => ?_)
  ·
    refine (j_iconst d69_15).trans ?_
    refine (g_istore d69_16 (by decide) rfl rfl).trans ?_
    rfl
  ·
    refine (j_bipush d69_12 (by decide)).trans ?_
    exact g_iret d69_14 rfl rfl
set_option maxRecDepth 10000 in
theorem b69_18 {Q : Option Value → mm → Prop} (ρ : rm) (τ : Int64) (l1 : Int64) (l3 : Int) (l4 : Int) (t : List (Option Value)) (hB : BM ρ) (h_l3 : SM l3) (h_l4 : SM l4) : G 69 18 (some (.ref 4) :: some (.long l1) :: none :: some (vI l3) :: some (vI l4) :: t) [] (toM ρ τ) Q = (if l3 ≤ l4 then Q (some (vI (ρ 4 1))) (toM ρ τ) else (if 0 ≤ (ρ 4 1) ∧ (ρ 4 1) < 200 then G 69 18 (some (.ref 4) :: some (.long l1) :: none :: some (vI l3) :: some (vI (l4 + 1)) :: t) [] (toM (rup (rup ρ 37 (ρ 4 1) (((l1 >>> ((iI (8 * l4)).toInt64 &&& 63)) &&& (255 : Int64)).toInt32.toInt)) 4 1 ((ρ 4 1) + 1)) τ) Q else False)) := by
  refine (g_iload d69_18 rfl).trans ?_
  refine (g_iload_n d69_20 rfl).trans ?_
  refine j_icmp_ge (tgt := 61) d69_21 (by decide) (by omega) (by omega) (fun q1 => ?_) (fun q1 => ?_)
  ·
    refine (g_aload_n d69_61 rfl rfl).trans ?_
    refine (j_getI (v := ρ 4 1) d69_62 f6_15 sh_4 (by decide) rfl rfl).trans ?_
    have q2 := hB 4 1 (by decide)
    exact g_iret d69_65 rfl rfl
  ·
    refine (g_aload_n d69_24 rfl rfl).trans ?_
    refine (g_getR (q := 37) d69_25 f6_9 sh_4 (by decide) rfl).trans ?_
    refine (g_aload_n d69_28 rfl rfl).trans ?_
    refine (j_getI (v := ρ 4 1) d69_29 f6_15 sh_4 (by decide) rfl rfl).trans ?_
    have q3 := hB 4 1 (by decide)
    refine (g_lload_n d69_32 rfl).trans ?_
    refine (j_bipush d69_33 (by decide)).trans ?_
    refine (g_iload d69_35 rfl).trans ?_
    refine (j_imul d69_37).trans ?_
    refine (g_lshr d69_38).trans ?_
    refine (g_ldc2_w d69_39 cs6_19).trans ?_
    refine (g_land d69_42).trans ?_
    refine (j_l2i d69_43).trans ?_
    have q4 := SB_of ((l1 >>> ((iI (8 * l4)).toInt64 &&& 63)) &&& (255 : Int64)).toInt32
    refine j_iastore d69_44 sh_37 (by omega) (fun q5 => ?_)
    refine (g_aload_n d69_45 rfl rfl).trans ?_
    refine (g_dupR d69_46).trans ?_
    refine (j_getI (v := ρ 4 1) d69_47 f6_15 sh_4 (by decide) rfl (by simp [rup])).trans ?_
    refine (j_iconst d69_50).trans ?_
    refine (j_iadd d69_51).trans ?_
    refine (j_putI d69_52 f6_15 sh_4 (by decide) rfl).trans ?_
    refine (j_iinc d69_55 rfl (by decide) rfl rfl).trans ?_
    refine (g_goto (tgt := 18) d69_58 (by decide)).trans ?_
    rfl
theorem d70_0 : ins 70 0 = some (.aload_n 0) := by decide +kernel
theorem d70_1 : ins 70 1 = some (.getfield 15) := by decide +kernel
theorem d70_4 : ins 70 4 = some (.istore_n 1) := by decide +kernel
theorem d70_5 : ins 70 5 = some (.aload_n 0) := by decide +kernel
theorem d70_6 : ins 70 6 = some (.iconst 0) := by decide +kernel
theorem d70_7 : ins 70 7 = some (.putfield 15) := by decide +kernel
theorem d70_10 : ins 70 10 = some (.iload_n 1) := by decide +kernel
theorem d70_11 : ins 70 11 = some (.ireturn) := by decide +kernel
set_option maxRecDepth 10000 in
theorem b70_0 {Q : Option Value → mm → Prop} (ρ : rm) (τ : Int64)  (hB : BM ρ)  : G 70 0 (some (.ref 4) :: []) [] (toM ρ τ) Q = Q (some (vI (ρ 4 1))) (toM (rup ρ 4 1 0) τ) := by
  refine (g_aload_n d70_0 rfl rfl).trans ?_
  refine (j_getI (v := ρ 4 1) d70_1 f6_15 sh_4 (by decide) rfl rfl).trans ?_
  have q1 := hB 4 1 (by decide)
  refine (g_istore_n d70_4 (by decide) rfl rfl).trans ?_
  refine (g_aload_n d70_5 rfl rfl).trans ?_
  refine (j_iconst d70_6).trans ?_
  refine (j_putI d70_7 f6_15 sh_4 (by decide) rfl).trans ?_
  refine (g_iload_n d70_10 rfl).trans ?_
  exact g_iret d70_11 rfl rfl
theorem d72_0 : ins 72 0 = some (.aload_n 0) := by decide +kernel
theorem d72_1 : ins 72 1 = some (.getfield 19) := by decide +kernel
theorem d72_4 : ins 72 4 = some (.bipush 12) := by decide +kernel
theorem d72_6 : ins 72 6 = some (.if_icmp .lt 6) := by decide +kernel
theorem d72_9 : ins 72 9 = some (.bipush (-5)) := by decide +kernel
theorem d72_11 : ins 72 11 = some (.ireturn) := by decide +kernel
theorem d72_12 : ins 72 12 = some (.aload_n 0) := by decide +kernel
theorem d72_13 : ins 72 13 = some (.getfield 9) := by decide +kernel
theorem d72_16 : ins 72 16 = some (.aload_n 0) := by decide +kernel
theorem d72_17 : ins 72 17 = some (.getfield 19) := by decide +kernel
theorem d72_20 : ins 72 20 = some (.iload_n 1) := by decide +kernel
theorem d72_21 : ins 72 21 = some (.iastore) := by decide +kernel
theorem d72_22 : ins 72 22 = some (.aload_n 0) := by decide +kernel
theorem d72_23 : ins 72 23 = some (.dup) := by decide +kernel
theorem d72_24 : ins 72 24 = some (.getfield 19) := by decide +kernel
theorem d72_27 : ins 72 27 = some (.iconst 1) := by decide +kernel
theorem d72_28 : ins 72 28 = some (.iadd) := by decide +kernel
theorem d72_29 : ins 72 29 = some (.putfield 19) := by decide +kernel
theorem d72_32 : ins 72 32 = some (.aload_n 0) := by decide +kernel
theorem d72_33 : ins 72 33 = some (.getfield 19) := by decide +kernel
theorem d72_36 : ins 72 36 = some (.ireturn) := by decide +kernel
set_option maxRecDepth 10000 in
theorem b72_0 {Q : Option Value → mm → Prop} (ρ : rm) (τ : Int64) (a1 : Int) (hB : BM ρ) (h_a1 : SM a1) : G 72 0 (some (.ref 7) :: some (vI a1) :: []) [] (toM ρ τ) Q = (if (ρ 7 0) < 12 then (if 0 ≤ (ρ 7 0) ∧ (ρ 7 0) < 12 then Q (some (vI ((ρ 7 0) + 1))) (toM (rup (rup ρ 42 (ρ 7 0) a1) 7 0 ((ρ 7 0) + 1)) τ) else False) else Q (some (vI (-5))) (toM ρ τ)) := by
  refine (g_aload_n d72_0 rfl rfl).trans ?_
  refine (j_getI (v := ρ 7 0) d72_1 f7_19 sh_7 (by decide) rfl rfl).trans ?_
  have q1 := hB 7 0 (by decide)
  refine (j_bipush d72_4 (by decide)).trans ?_
  refine j_icmp_lt (tgt := 12) d72_6 (by decide) (by omega) (by omega) (fun q2 => ?_) (fun q2 => ?_)
  ·
    refine (g_aload_n d72_12 rfl rfl).trans ?_
    refine (g_getR (q := 42) d72_13 f7_9 sh_7 (by decide) rfl).trans ?_
    refine (g_aload_n d72_16 rfl rfl).trans ?_
    refine (j_getI (v := ρ 7 0) d72_17 f7_19 sh_7 (by decide) rfl rfl).trans ?_
    refine (g_iload_n d72_20 rfl).trans ?_
    refine j_iastore d72_21 sh_42 (by omega) (fun q3 => ?_)
    refine (g_aload_n d72_22 rfl rfl).trans ?_
    refine (g_dupR d72_23).trans ?_
    refine (j_getI (v := ρ 7 0) d72_24 f7_19 sh_7 (by decide) rfl (by simp [rup])).trans ?_
    refine (j_iconst d72_27).trans ?_
    refine (j_iadd d72_28).trans ?_
    refine (j_putI d72_29 f7_19 sh_7 (by decide) rfl).trans ?_
    refine (g_aload_n d72_32 rfl rfl).trans ?_
    refine (j_getI (v := (ρ 7 0) + 1) d72_33 f7_19 sh_7 (by decide) rfl (by simp [rup])).trans ?_
    exact g_iret d72_36 rfl rfl
  ·
    refine (j_bipush d72_9 (by decide)).trans ?_
    exact g_iret d72_11 rfl rfl
theorem d73_0 : ins 73 0 = some (.aload_n 0) := by decide +kernel
theorem d73_1 : ins 73 1 = some (.getfield 19) := by decide +kernel
theorem d73_4 : ins 73 4 = some (.istore_n 1) := by decide +kernel
theorem d73_5 : ins 73 5 = some (.aload_n 0) := by decide +kernel
theorem d73_6 : ins 73 6 = some (.iconst 0) := by decide +kernel
theorem d73_7 : ins 73 7 = some (.putfield 19) := by decide +kernel
theorem d73_10 : ins 73 10 = some (.iload_n 1) := by decide +kernel
theorem d73_11 : ins 73 11 = some (.ireturn) := by decide +kernel
set_option maxRecDepth 10000 in
theorem b73_0 {Q : Option Value → mm → Prop} (ρ : rm) (τ : Int64)  (hB : BM ρ)  : G 73 0 (some (.ref 7) :: []) [] (toM ρ τ) Q = Q (some (vI (ρ 7 0))) (toM (rup ρ 7 0 0) τ) := by
  refine (g_aload_n d73_0 rfl rfl).trans ?_
  refine (j_getI (v := ρ 7 0) d73_1 f7_19 sh_7 (by decide) rfl rfl).trans ?_
  have q1 := hB 7 0 (by decide)
  refine (g_istore_n d73_4 (by decide) rfl rfl).trans ?_
  refine (g_aload_n d73_5 rfl rfl).trans ?_
  refine (j_iconst d73_6).trans ?_
  refine (j_putI d73_7 f7_19 sh_7 (by decide) rfl).trans ?_
  refine (g_iload_n d73_10 rfl).trans ?_
  exact g_iret d73_11 rfl rfl
theorem d74_0 : ins 74 0 = some (.aload_n 0) := by decide +kernel
theorem d74_1 : ins 74 1 = some (.iload_n 1) := by decide +kernel
theorem d74_2 : ins 74 2 = some (.putfield 23) := by decide +kernel
theorem d74_5 : ins 74 5 = some (.aload_n 0) := by decide +kernel
theorem d74_6 : ins 74 6 = some (.iconst 0) := by decide +kernel
theorem d74_7 : ins 74 7 = some (.putfield 26) := by decide +kernel
theorem d74_10 : ins 74 10 = some (.aload_n 0) := by decide +kernel
theorem d74_11 : ins 74 11 = some (.iconst 0) := by decide +kernel
theorem d74_12 : ins 74 12 = some (.putfield 29) := by decide +kernel
theorem d74_15 : ins 74 15 = some (.iconst 1) := by decide +kernel
theorem d74_16 : ins 74 16 = some (.istore_n 2) := by decide +kernel
theorem d74_17 : ins 74 17 = some (.iload_n 2) := by decide +kernel
theorem d74_18 : ins 74 18 = some (.aload_n 0) := by decide +kernel
theorem d74_19 : ins 74 19 = some (.getfield 19) := by decide +kernel
theorem d74_22 : ins 74 22 = some (.if_icmp .ge 134) := by decide +kernel
theorem d74_25 : ins 74 25 = some (.aload_n 0) := by decide +kernel
theorem d74_26 : ins 74 26 = some (.getfield 15) := by decide +kernel
theorem d74_29 : ins 74 29 = some (.aload_n 0) := by decide +kernel
theorem d74_30 : ins 74 30 = some (.getfield 9) := by decide +kernel
theorem d74_33 : ins 74 33 = some (.iload_n 2) := by decide +kernel
theorem d74_34 : ins 74 34 = some (.iconst 1) := by decide +kernel
theorem d74_35 : ins 74 35 = some (.isub) := by decide +kernel
theorem d74_36 : ins 74 36 = some (.iaload) := by decide +kernel
theorem d74_37 : ins 74 37 = some (.aload_n 0) := by decide +kernel
theorem d74_38 : ins 74 38 = some (.getfield 23) := by decide +kernel
theorem d74_41 : ins 74 41 = some (.invokevirtual 32) := by decide +kernel
theorem d74_44 : ins 74 44 = some (.istore_n 3) := by decide +kernel
theorem d74_45 : ins 74 45 = some (.aload_n 0) := by decide +kernel
theorem d74_46 : ins 74 46 = some (.dup) := by decide +kernel
theorem d74_47 : ins 74 47 = some (.getfield 23) := by decide +kernel
theorem d74_50 : ins 74 50 = some (.aload_n 0) := by decide +kernel
theorem d74_51 : ins 74 51 = some (.getfield 9) := by decide +kernel
theorem d74_54 : ins 74 54 = some (.iload_n 2) := by decide +kernel
theorem d74_55 : ins 74 55 = some (.iaload) := by decide +kernel
theorem d74_56 : ins 74 56 = some (.aload_n 0) := by decide +kernel
theorem d74_57 : ins 74 57 = some (.getfield 9) := by decide +kernel
theorem d74_60 : ins 74 60 = some (.iload_n 2) := by decide +kernel
theorem d74_61 : ins 74 61 = some (.iconst 1) := by decide +kernel
theorem d74_62 : ins 74 62 = some (.isub) := by decide +kernel
theorem d74_63 : ins 74 63 = some (.iaload) := by decide +kernel
theorem d74_64 : ins 74 64 = some (.if_icmp .ne 7) := by decide +kernel
theorem d74_67 : ins 74 67 = some (.iconst 1) := by decide +kernel
theorem d74_68 : ins 74 68 = some (.goto 24) := by decide +kernel
theorem d74_71 : ins 74 71 = some (.aload_n 0) := by decide +kernel
theorem d74_72 : ins 74 72 = some (.getfield 15) := by decide +kernel
theorem d74_75 : ins 74 75 = some (.aload_n 0) := by decide +kernel
theorem d74_76 : ins 74 76 = some (.getfield 9) := by decide +kernel
theorem d74_79 : ins 74 79 = some (.iload_n 2) := by decide +kernel
theorem d74_80 : ins 74 80 = some (.iconst 1) := by decide +kernel
theorem d74_81 : ins 74 81 = some (.isub) := by decide +kernel
theorem d74_82 : ins 74 82 = some (.iaload) := by decide +kernel
theorem d74_83 : ins 74 83 = some (.aload_n 0) := by decide +kernel
theorem d74_84 : ins 74 84 = some (.getfield 9) := by decide +kernel
theorem d74_87 : ins 74 87 = some (.iload_n 2) := by decide +kernel
theorem d74_88 : ins 74 88 = some (.iaload) := by decide +kernel
theorem d74_89 : ins 74 89 = some (.invokevirtual 38) := by decide +kernel
theorem d74_92 : ins 74 92 = some (.iadd) := by decide +kernel
theorem d74_93 : ins 74 93 = some (.putfield 23) := by decide +kernel
theorem d74_96 : ins 74 96 = some (.aload_n 0) := by decide +kernel
theorem d74_97 : ins 74 97 = some (.getfield 15) := by decide +kernel
theorem d74_100 : ins 74 100 = some (.aload_n 0) := by decide +kernel
theorem d74_101 : ins 74 101 = some (.getfield 9) := by decide +kernel
theorem d74_104 : ins 74 104 = some (.iload_n 2) := by decide +kernel
theorem d74_105 : ins 74 105 = some (.iaload) := by decide +kernel
theorem d74_106 : ins 74 106 = some (.aload_n 0) := by decide +kernel
theorem d74_107 : ins 74 107 = some (.getfield 23) := by decide +kernel
theorem d74_110 : ins 74 110 = some (.invokevirtual 32) := by decide +kernel
theorem d74_113 : ins 74 113 = some (.istore 4) := by decide +kernel
theorem d74_115 : ins 74 115 = some (.iload 4) := by decide +kernel
theorem d74_117 : ins 74 117 = some (.iload_n 3) := by decide +kernel
theorem d74_118 : ins 74 118 = some (.if_icmp .le 16) := by decide +kernel
theorem d74_121 : ins 74 121 = some (.aload_n 0) := by decide +kernel
theorem d74_122 : ins 74 122 = some (.dup) := by decide +kernel
theorem d74_123 : ins 74 123 = some (.getfield 26) := by decide +kernel
theorem d74_126 : ins 74 126 = some (.iconst 1) := by decide +kernel
theorem d74_127 : ins 74 127 = some (.iadd) := by decide +kernel
theorem d74_128 : ins 74 128 = some (.putfield 26) := by decide +kernel
theorem d74_131 : ins 74 131 = some (.goto 19) := by decide +kernel
theorem d74_134 : ins 74 134 = some (.iload 4) := by decide +kernel
theorem d74_136 : ins 74 136 = some (.iload_n 3) := by decide +kernel
theorem d74_137 : ins 74 137 = some (.if_icmp .ge 13) := by decide +kernel
theorem d74_140 : ins 74 140 = some (.aload_n 0) := by decide +kernel
theorem d74_141 : ins 74 141 = some (.dup) := by decide +kernel
theorem d74_142 : ins 74 142 = some (.getfield 29) := by decide +kernel
theorem d74_145 : ins 74 145 = some (.iconst 1) := by decide +kernel
theorem d74_146 : ins 74 146 = some (.iadd) := by decide +kernel
theorem d74_147 : ins 74 147 = some (.putfield 29) := by decide +kernel
theorem d74_150 : ins 74 150 = some (.iinc 2 1) := by decide +kernel
theorem d74_153 : ins 74 153 = some (.goto (-136)) := by decide +kernel
theorem d74_156 : ins 74 156 = some (.return_) := by decide +kernel
set_option maxRecDepth 10000 in
theorem b74_0 {Q : Option Value → mm → Prop} (ρ : rm) (τ : Int64) (a1 : Int) (hB : BM ρ) (h_a1 : SM a1) : G 74 0 (some (.ref 7) :: some (vI a1) :: []) [] (toM ρ τ) Q = G 74 17 (some (.ref 7) :: some (vI a1) :: some (vI 1) :: []) [] (toM (rup (rup (rup ρ 7 1 a1) 7 2 0) 7 3 0) τ) Q := by
  refine (g_aload_n d74_0 rfl rfl).trans ?_
  refine (g_iload_n d74_1 rfl).trans ?_
  refine (j_putI d74_2 f7_23 sh_7 (by decide) rfl).trans ?_
  refine (g_aload_n d74_5 rfl rfl).trans ?_
  refine (j_iconst d74_6).trans ?_
  refine (j_putI d74_7 f7_26 sh_7 (by decide) rfl).trans ?_
  refine (g_aload_n d74_10 rfl rfl).trans ?_
  refine (j_iconst d74_11).trans ?_
  refine (j_putI d74_12 f7_29 sh_7 (by decide) rfl).trans ?_
  refine (j_iconst d74_15).trans ?_
  refine (g_istore_n d74_16 (by decide) rfl rfl).trans ?_
  rfl
set_option maxRecDepth 10000 in
theorem b74_17 {Q : Option Value → mm → Prop} (ρ : rm) (τ : Int64) (l1 : Int) (l2 : Int) (t : List (Option Value)) (hB : BM ρ) (h_l1 : SM l1) (h_l2 : SM l2) : G 74 17 (some (.ref 7) :: some (vI l1) :: some (vI l2) :: t) [] (toM ρ τ) Q = (if (ρ 7 0) ≤ l2 then Q none (toM ρ τ) else (if 0 ≤ (l2 - 1) ∧ (l2 - 1) < 12 then G 35 0 [some (.ref 1), some (vI (ρ 42 (l2 - 1))), some (vI (ρ 7 1))] [] (toM ρ τ) (fun v μ2 => G 74 44 (some (.ref 7) :: some (vI l1) :: some (vI l2) :: t) (v.toList ++ []) μ2 Q) else False)) := by
  refine (g_iload_n d74_17 rfl).trans ?_
  refine (g_aload_n d74_18 rfl rfl).trans ?_
  refine (j_getI (v := ρ 7 0) d74_19 f7_19 sh_7 (by decide) rfl rfl).trans ?_
  have q1 := hB 7 0 (by decide)
  refine j_icmp_ge (tgt := 156) d74_22 (by decide) (by omega) (by omega) (fun q2 => ?_) (fun q2 => ?_)
  ·
    exact g_ret d74_156 rfl
  ·
    refine (g_aload_n d74_25 rfl rfl).trans ?_
    refine (g_getR (q := 1) d74_26 f7_15 sh_7 (by decide) rfl).trans ?_
    refine (g_aload_n d74_29 rfl rfl).trans ?_
    refine (g_getR (q := 42) d74_30 f7_9 sh_7 (by decide) rfl).trans ?_
    refine (g_iload_n d74_33 rfl).trans ?_
    refine (j_iconst d74_34).trans ?_
    refine (j_isub d74_35).trans ?_
    refine j_iaload (v := ρ 42 (l2 - 1)) d74_36 sh_42 (by omega) rfl (fun q3 => ?_)
    have q4 := hB 42 (l2 - 1) (by omega)
    refine (g_aload_n d74_37 rfl rfl).trans ?_
    refine (j_getI (v := ρ 7 1) d74_38 f7_23 sh_7 (by decide) rfl rfl).trans ?_
    have q5 := hB 7 1 (by decide)
    exact g_cV d74_41 k7_32 rfl rfl rfl
set_option maxRecDepth 10000 in
theorem b74_44 {Q : Option Value → mm → Prop} (ρ : rm) (τ : Int64) (l1 : Int) (l2 : Int) (t : List (Option Value)) (r : Int) (hB : BM ρ) (h_l1 : SM l1) (h_l2 : SM l2) (h_r : SM r) : G 74 44 (some (.ref 7) :: some (vI l1) :: some (vI l2) :: t) ((some (vI r)).toList ++ []) (toM ρ τ) Q = (if 0 ≤ l2 ∧ l2 < 12 then (if 0 ≤ (l2 - 1) ∧ (l2 - 1) < 12 then (if (ρ 42 l2) = (ρ 42 (l2 - 1)) then (if 0 ≤ l2 ∧ l2 < 12 then G 35 0 [some (.ref 1), some (vI (ρ 42 l2)), some (vI ((ρ 7 1) + 1))] [] (toM (rup ρ 7 1 ((ρ 7 1) + 1)) τ) (fun v μ2 => G 74 113 (some (.ref 7) :: some (vI l1) :: some (vI l2) :: some (vI r) :: t.tail) (v.toList ++ []) μ2 Q) else False) else (if 0 ≤ (l2 - 1) ∧ (l2 - 1) < 12 then (if 0 ≤ l2 ∧ l2 < 12 then G 33 0 [some (.ref 1), some (vI (ρ 42 (l2 - 1))), some (vI (ρ 42 l2))] [] (toM ρ τ) (fun v μ2 => G 74 92 (some (.ref 7) :: some (vI l1) :: some (vI l2) :: some (vI r) :: t.tail) (v.toList ++ [vI (ρ 7 1), .ref 7]) μ2 Q) else False) else False)) else False) else False) := by
  refine (g_istore_n d74_44 (by decide) rfl rfl).trans ?_
  refine (g_aload_n d74_45 rfl rfl).trans ?_
  refine (g_dupR d74_46).trans ?_
  refine (j_getI (v := ρ 7 1) d74_47 f7_23 sh_7 (by decide) rfl rfl).trans ?_
  have q1 := hB 7 1 (by decide)
  refine (g_aload_n d74_50 rfl rfl).trans ?_
  refine (g_getR (q := 42) d74_51 f7_9 sh_7 (by decide) rfl).trans ?_
  refine (g_iload_n d74_54 rfl).trans ?_
  refine j_iaload (v := ρ 42 l2) d74_55 sh_42 (by omega) rfl (fun q2 => ?_)
  have q3 := hB 42 l2 (by omega)
  refine (g_aload_n d74_56 rfl rfl).trans ?_
  refine (g_getR (q := 42) d74_57 f7_9 sh_7 (by decide) rfl).trans ?_
  refine (g_iload_n d74_60 rfl).trans ?_
  refine (j_iconst d74_61).trans ?_
  refine (j_isub d74_62).trans ?_
  refine j_iaload (v := ρ 42 (l2 - 1)) d74_63 sh_42 (by omega) rfl (fun q4 => ?_)
  have q5 := hB 42 (l2 - 1) (by omega)
  refine j_icmp_ne (tgt := 71) d74_64 (by decide) (by omega) (by omega) (fun q6 => ?_) (fun q6 => ?_)
  ·
    refine (j_iconst d74_67).trans ?_
    refine (g_goto (tgt := 92) d74_68 (by decide)).trans ?_
    refine (j_iadd d74_92).trans ?_
    refine (j_putI d74_93 f7_23 sh_7 (by decide) rfl).trans ?_
    refine (g_aload_n d74_96 rfl rfl).trans ?_
    refine (g_getR (q := 1) d74_97 f7_15 sh_7 (by decide) rfl).trans ?_
    refine (g_aload_n d74_100 rfl rfl).trans ?_
    refine (g_getR (q := 42) d74_101 f7_9 sh_7 (by decide) rfl).trans ?_
    refine (g_iload_n d74_104 rfl).trans ?_
    refine j_iaload (v := ρ 42 l2) d74_105 sh_42 (by omega) (by simp [rup]) (fun q7 => ?_)
    refine (g_aload_n d74_106 rfl rfl).trans ?_
    refine (j_getI (v := (ρ 7 1) + 1) d74_107 f7_23 sh_7 (by decide) rfl (by simp [rup])).trans ?_
    exact g_cV d74_110 k7_32 rfl rfl rfl
  ·
    refine (g_aload_n d74_71 rfl rfl).trans ?_
    refine (g_getR (q := 1) d74_72 f7_15 sh_7 (by decide) rfl).trans ?_
    refine (g_aload_n d74_75 rfl rfl).trans ?_
    refine (g_getR (q := 42) d74_76 f7_9 sh_7 (by decide) rfl).trans ?_
    refine (g_iload_n d74_79 rfl).trans ?_
    refine (j_iconst d74_80).trans ?_
    refine (j_isub d74_81).trans ?_
    refine j_iaload (v := ρ 42 (l2 - 1)) d74_82 sh_42 (by omega) rfl (fun q8 => ?_)
    refine (g_aload_n d74_83 rfl rfl).trans ?_
    refine (g_getR (q := 42) d74_84 f7_9 sh_7 (by decide) rfl).trans ?_
    refine (g_iload_n d74_87 rfl).trans ?_
    refine j_iaload (v := ρ 42 l2) d74_88 sh_42 (by omega) rfl (fun q9 => ?_)
    exact g_cV d74_89 k7_38 rfl rfl rfl
set_option maxRecDepth 10000 in
theorem b74_113 {Q : Option Value → mm → Prop} (ρ : rm) (τ : Int64) (l1 : Int) (l2 : Int) (l3 : Int) (t : List (Option Value)) (r : Int) (hB : BM ρ) (h_l1 : SM l1) (h_l2 : SM l2) (h_l3 : SM l3) (h_r : SM r) : G 74 113 (some (.ref 7) :: some (vI l1) :: some (vI l2) :: some (vI l3) :: t) ((some (vI r)).toList ++ []) (toM ρ τ) Q = (if r ≤ l3 then (if l3 ≤ r then G 74 17 (some (.ref 7) :: some (vI l1) :: some (vI (l2 + 1)) :: some (vI l3) :: some (vI r) :: t.tail) [] (toM ρ τ) Q else G 74 17 (some (.ref 7) :: some (vI l1) :: some (vI (l2 + 1)) :: some (vI l3) :: some (vI r) :: t.tail) [] (toM (rup ρ 7 3 ((ρ 7 3) + 1)) τ) Q) else G 74 17 (some (.ref 7) :: some (vI l1) :: some (vI (l2 + 1)) :: some (vI l3) :: some (vI r) :: t.tail) [] (toM (rup ρ 7 2 ((ρ 7 2) + 1)) τ) Q) := by
  refine (g_istore d74_113 (by decide) rfl rfl).trans ?_
  refine (g_iload d74_115 rfl).trans ?_
  refine (g_iload_n d74_117 rfl).trans ?_
  refine j_icmp_le (tgt := 134) d74_118 (by decide) (by omega) (by omega) (fun q1 => ?_) (fun q1 => ?_)
  ·
    refine (g_iload d74_134 rfl).trans ?_
    refine (g_iload_n d74_136 rfl).trans ?_
    refine j_icmp_ge (tgt := 150) d74_137 (by decide) (by omega) (by omega) (fun q2 => ?_) (fun q2 => ?_)
    ·
      refine (j_iinc d74_150 rfl (by decide) rfl rfl).trans ?_
      refine (g_goto (tgt := 17) d74_153 (by decide)).trans ?_
      rfl
    ·
      refine (g_aload_n d74_140 rfl rfl).trans ?_
      refine (g_dupR d74_141).trans ?_
      refine (j_getI (v := ρ 7 3) d74_142 f7_29 sh_7 (by decide) rfl rfl).trans ?_
      have q3 := hB 7 3 (by decide)
      refine (j_iconst d74_145).trans ?_
      refine (j_iadd d74_146).trans ?_
      refine (j_putI d74_147 f7_29 sh_7 (by decide) rfl).trans ?_
      refine (j_iinc d74_150 rfl (by decide) rfl rfl).trans ?_
      refine (g_goto (tgt := 17) d74_153 (by decide)).trans ?_
      rfl
  ·
    refine (g_aload_n d74_121 rfl rfl).trans ?_
    refine (g_dupR d74_122).trans ?_
    refine (j_getI (v := ρ 7 2) d74_123 f7_26 sh_7 (by decide) rfl rfl).trans ?_
    have q4 := hB 7 2 (by decide)
    refine (j_iconst d74_126).trans ?_
    refine (j_iadd d74_127).trans ?_
    refine (j_putI d74_128 f7_26 sh_7 (by decide) rfl).trans ?_
    refine (g_goto (tgt := 150) d74_131 (by decide)).trans ?_
    refine (j_iinc d74_150 rfl (by decide) rfl rfl).trans ?_
    refine (g_goto (tgt := 17) d74_153 (by decide)).trans ?_
    rfl
set_option maxRecDepth 10000 in
theorem b74_92 {Q : Option Value → mm → Prop} (ρ : rm) (τ : Int64) (l1 : Int) (l2 : Int) (l3 : Int) (t : List (Option Value)) (s0 : Int) (r : Int) (hB : BM ρ) (h_l1 : SM l1) (h_l2 : SM l2) (h_l3 : SM l3) (h_s0 : SM s0) (h_r : SM r) : G 74 92 (some (.ref 7) :: some (vI l1) :: some (vI l2) :: some (vI l3) :: t) ((some (vI r)).toList ++ [vI s0, .ref 7]) (toM ρ τ) Q = (if 0 ≤ l2 ∧ l2 < 12 then G 35 0 [some (.ref 1), some (vI (ρ 42 l2)), some (vI (s0 + r))] [] (toM (rup ρ 7 1 (s0 + r)) τ) (fun v μ2 => G 74 113 (some (.ref 7) :: some (vI l1) :: some (vI l2) :: some (vI l3) :: t) (v.toList ++ []) μ2 Q) else False) := by
  refine (j_iadd d74_92).trans ?_
  refine (j_putI d74_93 f7_23 sh_7 (by decide) rfl).trans ?_
  refine (g_aload_n d74_96 rfl rfl).trans ?_
  refine (g_getR (q := 1) d74_97 f7_15 sh_7 (by decide) rfl).trans ?_
  refine (g_aload_n d74_100 rfl rfl).trans ?_
  refine (g_getR (q := 42) d74_101 f7_9 sh_7 (by decide) rfl).trans ?_
  refine (g_iload_n d74_104 rfl).trans ?_
  refine j_iaload (v := ρ 42 l2) d74_105 sh_42 (by omega) (by simp [rup]) (fun q1 => ?_)
  have q2 := hB 42 l2 (by omega)
  refine (g_aload_n d74_106 rfl rfl).trans ?_
  refine (j_getI (v := s0 + r) d74_107 f7_23 sh_7 (by decide) rfl (by simp [rup])).trans ?_
  exact g_cV d74_110 k7_32 rfl rfl rfl
theorem d76_0 : ins 76 0 = some (.aload_n 0) := by decide +kernel
theorem d76_1 : ins 76 1 = some (.iconst 0) := by decide +kernel
theorem d76_2 : ins 76 2 = some (.putfield 21) := by decide +kernel
theorem d76_5 : ins 76 5 = some (.aload_n 0) := by decide +kernel
theorem d76_6 : ins 76 6 = some (.iconst 0) := by decide +kernel
theorem d76_7 : ins 76 7 = some (.putfield 25) := by decide +kernel
theorem d76_10 : ins 76 10 = some (.iconst 0) := by decide +kernel
theorem d76_11 : ins 76 11 = some (.istore_n 1) := by decide +kernel
theorem d76_12 : ins 76 12 = some (.iload_n 1) := by decide +kernel
theorem d76_13 : ins 76 13 = some (.iconst 2) := by decide +kernel
theorem d76_14 : ins 76 14 = some (.if_icmp .ge 16) := by decide +kernel
theorem d76_17 : ins 76 17 = some (.aload_n 0) := by decide +kernel
theorem d76_18 : ins 76 18 = some (.getfield 9) := by decide +kernel
theorem d76_21 : ins 76 21 = some (.iload_n 1) := by decide +kernel
theorem d76_22 : ins 76 22 = some (.iconst (-1)) := by decide +kernel
theorem d76_23 : ins 76 23 = some (.iastore) := by decide +kernel
theorem d76_24 : ins 76 24 = some (.iinc 1 1) := by decide +kernel
theorem d76_27 : ins 76 27 = some (.goto (-15)) := by decide +kernel
theorem d76_30 : ins 76 30 = some (.return_) := by decide +kernel
set_option maxRecDepth 10000 in
theorem b76_0 {Q : Option Value → mm → Prop} (ρ : rm) (τ : Int64)  (hB : BM ρ)  : G 76 0 (some (.ref 6) :: []) [] (toM ρ τ) Q = G 76 12 (some (.ref 6) :: some (vI 0) :: []) [] (toM (rup (rup ρ 6 0 0) 6 1 0) τ) Q := by
  refine (g_aload_n d76_0 rfl rfl).trans ?_
  refine (j_iconst d76_1).trans ?_
  refine (j_putI d76_2 f8_21 sh_6 (by decide) rfl).trans ?_
  refine (g_aload_n d76_5 rfl rfl).trans ?_
  refine (j_iconst d76_6).trans ?_
  refine (j_putI d76_7 f8_25 sh_6 (by decide) rfl).trans ?_
  refine (j_iconst d76_10).trans ?_
  refine (g_istore_n d76_11 (by decide) rfl rfl).trans ?_
  rfl
set_option maxRecDepth 10000 in
theorem b76_12 {Q : Option Value → mm → Prop} (ρ : rm) (τ : Int64) (l1 : Int) (t : List (Option Value)) (hB : BM ρ) (h_l1 : SM l1) : G 76 12 (some (.ref 6) :: some (vI l1) :: t) [] (toM ρ τ) Q = (if 2 ≤ l1 then Q none (toM ρ τ) else (if 0 ≤ l1 ∧ l1 < 2 then G 76 12 (some (.ref 6) :: some (vI (l1 + 1)) :: t) [] (toM (rup ρ 40 l1 (-1)) τ) Q else False)) := by
  refine (g_iload_n d76_12 rfl).trans ?_
  refine (j_iconst d76_13).trans ?_
  refine j_icmp_ge (tgt := 30) d76_14 (by decide) (by omega) (by omega) (fun q1 => ?_) (fun q1 => ?_)
  ·
    exact g_ret d76_30 rfl
  ·
    refine (g_aload_n d76_17 rfl rfl).trans ?_
    refine (g_getR (q := 40) d76_18 f8_9 sh_6 (by decide) rfl).trans ?_
    refine (g_iload_n d76_21 rfl).trans ?_
    refine (j_iconst d76_22).trans ?_
    refine j_iastore d76_23 sh_40 (by omega) (fun q2 => ?_)
    refine (j_iinc d76_24 rfl (by decide) rfl rfl).trans ?_
    refine (g_goto (tgt := 12) d76_27 (by decide)).trans ?_
    rfl
theorem d77_0 : ins 77 0 = some (.aload_n 0) := by decide +kernel
theorem d77_1 : ins 77 1 = some (.getfield 25) := by decide +kernel
theorem d77_4 : ins 77 4 = some (.iload_n 1) := by decide +kernel
theorem d77_5 : ins 77 5 = some (.iadd) := by decide +kernel
theorem d77_6 : ins 77 6 = some (.ldc 28) := by decide +kernel
theorem d77_8 : ins 77 8 = some (.if_icmp .le 6) := by decide +kernel
theorem d77_11 : ins 77 11 = some (.bipush (-5)) := by decide +kernel
theorem d77_13 : ins 77 13 = some (.ireturn) := by decide +kernel
theorem d77_14 : ins 77 14 = some (.aload_n 0) := by decide +kernel
theorem d77_15 : ins 77 15 = some (.dup) := by decide +kernel
theorem d77_16 : ins 77 16 = some (.getfield 25) := by decide +kernel
theorem d77_19 : ins 77 19 = some (.iload_n 1) := by decide +kernel
theorem d77_20 : ins 77 20 = some (.iadd) := by decide +kernel
theorem d77_21 : ins 77 21 = some (.putfield 25) := by decide +kernel
theorem d77_24 : ins 77 24 = some (.aload_n 0) := by decide +kernel
theorem d77_25 : ins 77 25 = some (.iload_n 2) := by decide +kernel
theorem d77_26 : ins 77 26 = some (.putfield 21) := by decide +kernel
theorem d77_29 : ins 77 29 = some (.aload_n 0) := by decide +kernel
theorem d77_30 : ins 77 30 = some (.getfield 25) := by decide +kernel
theorem d77_33 : ins 77 33 = some (.ireturn) := by decide +kernel
set_option maxRecDepth 10000 in
theorem b77_0 {Q : Option Value → mm → Prop} (ρ : rm) (τ : Int64) (a1 : Int) (a2 : Int) (hB : BM ρ) (h_a1 : SM a1) (h_a2 : SM a2) : G 77 0 (some (.ref 6) :: some (vI a1) :: some (vI a2) :: []) [] (toM ρ τ) Q = (if ((ρ 6 1) + a1) ≤ 99999 then Q (some (vI ((ρ 6 1) + a1))) (toM (rup (rup ρ 6 1 ((ρ 6 1) + a1)) 6 0 a2) τ) else Q (some (vI (-5))) (toM ρ τ)) := by
  refine (g_aload_n d77_0 rfl rfl).trans ?_
  refine (j_getI (v := ρ 6 1) d77_1 f8_25 sh_6 (by decide) rfl rfl).trans ?_
  have q1 := hB 6 1 (by decide)
  refine (g_iload_n d77_4 rfl).trans ?_
  refine (j_iadd d77_5).trans ?_
  refine (j_ldc (n := 99999) d77_6 cs8_28 (by decide)).trans ?_
  refine j_icmp_le (tgt := 14) d77_8 (by decide) (by omega) (by omega) (fun q2 => ?_) (fun q2 => ?_)
  ·
    refine (g_aload_n d77_14 rfl rfl).trans ?_
    refine (g_dupR d77_15).trans ?_
    refine (j_getI (v := ρ 6 1) d77_16 f8_25 sh_6 (by decide) rfl rfl).trans ?_
    refine (g_iload_n d77_19 rfl).trans ?_
    refine (j_iadd d77_20).trans ?_
    refine (j_putI d77_21 f8_25 sh_6 (by decide) rfl).trans ?_
    refine (g_aload_n d77_24 rfl rfl).trans ?_
    refine (g_iload_n d77_25 rfl).trans ?_
    refine (j_putI d77_26 f8_21 sh_6 (by decide) rfl).trans ?_
    refine (g_aload_n d77_29 rfl rfl).trans ?_
    refine (j_getI (v := (ρ 6 1) + a1) d77_30 f8_25 sh_6 (by decide) rfl (by simp [rup])).trans ?_
    exact g_iret d77_33 rfl rfl
  ·
    refine (j_bipush d77_11 (by decide)).trans ?_
    exact g_iret d77_13 rfl rfl
theorem d78_0 : ins 78 0 = some (.aload_n 0) := by decide +kernel
theorem d78_1 : ins 78 1 = some (.getfield 9) := by decide +kernel
theorem d78_4 : ins 78 4 = some (.iload_n 1) := by decide +kernel
theorem d78_5 : ins 78 5 = some (.aload_n 0) := by decide +kernel
theorem d78_6 : ins 78 6 = some (.getfield 21) := by decide +kernel
theorem d78_9 : ins 78 9 = some (.iastore) := by decide +kernel
theorem d78_10 : ins 78 10 = some (.aload_n 0) := by decide +kernel
theorem d78_11 : ins 78 11 = some (.getfield 15) := by decide +kernel
theorem d78_14 : ins 78 14 = some (.iload_n 1) := by decide +kernel
theorem d78_15 : ins 78 15 = some (.aload_n 0) := by decide +kernel
theorem d78_16 : ins 78 16 = some (.getfield 25) := by decide +kernel
theorem d78_19 : ins 78 19 = some (.iastore) := by decide +kernel
theorem d78_20 : ins 78 20 = some (.aload_n 0) := by decide +kernel
theorem d78_21 : ins 78 21 = some (.getfield 25) := by decide +kernel
theorem d78_24 : ins 78 24 = some (.ireturn) := by decide +kernel
set_option maxRecDepth 10000 in
theorem b78_0 {Q : Option Value → mm → Prop} (ρ : rm) (τ : Int64) (a1 : Int) (hB : BM ρ) (h_a1 : SM a1) : G 78 0 (some (.ref 6) :: some (vI a1) :: []) [] (toM ρ τ) Q = (if 0 ≤ a1 ∧ a1 < 2 then (if 0 ≤ a1 ∧ a1 < 2 then Q (some (vI (ρ 6 1))) (toM (rup (rup ρ 40 a1 (ρ 6 0)) 41 a1 (ρ 6 1)) τ) else False) else False) := by
  refine (g_aload_n d78_0 rfl rfl).trans ?_
  refine (g_getR (q := 40) d78_1 f8_9 sh_6 (by decide) rfl).trans ?_
  refine (g_iload_n d78_4 rfl).trans ?_
  refine (g_aload_n d78_5 rfl rfl).trans ?_
  refine (j_getI (v := ρ 6 0) d78_6 f8_21 sh_6 (by decide) rfl rfl).trans ?_
  have q1 := hB 6 0 (by decide)
  refine j_iastore d78_9 sh_40 (by omega) (fun q2 => ?_)
  refine (g_aload_n d78_10 rfl rfl).trans ?_
  refine (g_getR (q := 41) d78_11 f8_15 sh_6 (by decide) rfl).trans ?_
  refine (g_iload_n d78_14 rfl).trans ?_
  refine (g_aload_n d78_15 rfl rfl).trans ?_
  refine (j_getI (v := ρ 6 1) d78_16 f8_25 sh_6 (by decide) rfl (by simp [rup])).trans ?_
  have q3 := hB 6 1 (by decide)
  refine j_iastore d78_19 sh_41 (by omega) (fun q4 => ?_)
  refine (g_aload_n d78_20 rfl rfl).trans ?_
  refine (j_getI (v := ρ 6 1) d78_21 f8_25 sh_6 (by decide) rfl (by simp [rup])).trans ?_
  exact g_iret d78_24 rfl rfl
theorem d79_0 : ins 79 0 = some (.aload_n 0) := by decide +kernel
theorem d79_1 : ins 79 1 = some (.getfield 9) := by decide +kernel
theorem d79_4 : ins 79 4 = some (.iload_n 1) := by decide +kernel
theorem d79_5 : ins 79 5 = some (.iaload) := by decide +kernel
theorem d79_6 : ins 79 6 = some (.iconst (-1)) := by decide +kernel
theorem d79_7 : ins 79 7 = some (.if_icmp .ne 6) := by decide +kernel
theorem d79_10 : ins 79 10 = some (.bipush (-4)) := by decide +kernel
theorem d79_12 : ins 79 12 = some (.ireturn) := by decide +kernel
theorem d79_13 : ins 79 13 = some (.aload_n 0) := by decide +kernel
theorem d79_14 : ins 79 14 = some (.aload_n 0) := by decide +kernel
theorem d79_15 : ins 79 15 = some (.getfield 9) := by decide +kernel
theorem d79_18 : ins 79 18 = some (.iload_n 1) := by decide +kernel
theorem d79_19 : ins 79 19 = some (.iaload) := by decide +kernel
theorem d79_20 : ins 79 20 = some (.putfield 21) := by decide +kernel
theorem d79_23 : ins 79 23 = some (.aload_n 0) := by decide +kernel
theorem d79_24 : ins 79 24 = some (.aload_n 0) := by decide +kernel
theorem d79_25 : ins 79 25 = some (.getfield 15) := by decide +kernel
theorem d79_28 : ins 79 28 = some (.iload_n 1) := by decide +kernel
theorem d79_29 : ins 79 29 = some (.iaload) := by decide +kernel
theorem d79_30 : ins 79 30 = some (.putfield 25) := by decide +kernel
theorem d79_33 : ins 79 33 = some (.aload_n 0) := by decide +kernel
theorem d79_34 : ins 79 34 = some (.getfield 25) := by decide +kernel
theorem d79_37 : ins 79 37 = some (.ireturn) := by decide +kernel
set_option maxRecDepth 10000 in
theorem b79_0 {Q : Option Value → mm → Prop} (ρ : rm) (τ : Int64) (a1 : Int) (hB : BM ρ) (h_a1 : SM a1) : G 79 0 (some (.ref 6) :: some (vI a1) :: []) [] (toM ρ τ) Q = (if 0 ≤ a1 ∧ a1 < 2 then (if (ρ 40 a1) = (-1) then Q (some (vI (-4))) (toM ρ τ) else (if 0 ≤ a1 ∧ a1 < 2 then (if 0 ≤ a1 ∧ a1 < 2 then Q (some (vI (ρ 41 a1))) (toM (rup (rup ρ 6 0 (ρ 40 a1)) 6 1 (ρ 41 a1)) τ) else False) else False)) else False) := by
  refine (g_aload_n d79_0 rfl rfl).trans ?_
  refine (g_getR (q := 40) d79_1 f8_9 sh_6 (by decide) rfl).trans ?_
  refine (g_iload_n d79_4 rfl).trans ?_
  refine j_iaload (v := ρ 40 a1) d79_5 sh_40 (by omega) rfl (fun q1 => ?_)
  have q2 := hB 40 a1 (by omega)
  refine (j_iconst d79_6).trans ?_
  refine j_icmp_ne (tgt := 13) d79_7 (by decide) (by omega) (by omega) (fun q3 => ?_) (fun q3 => ?_)
  ·
    refine (j_bipush d79_10 (by decide)).trans ?_
    exact g_iret d79_12 rfl rfl
  ·
    refine (g_aload_n d79_13 rfl rfl).trans ?_
    refine (g_aload_n d79_14 rfl rfl).trans ?_
    refine (g_getR (q := 40) d79_15 f8_9 sh_6 (by decide) rfl).trans ?_
    refine (g_iload_n d79_18 rfl).trans ?_
    refine j_iaload (v := ρ 40 a1) d79_19 sh_40 (by omega) rfl (fun q4 => ?_)
    refine (j_putI d79_20 f8_21 sh_6 (by decide) rfl).trans ?_
    refine (g_aload_n d79_23 rfl rfl).trans ?_
    refine (g_aload_n d79_24 rfl rfl).trans ?_
    refine (g_getR (q := 41) d79_25 f8_15 sh_6 (by decide) rfl).trans ?_
    refine (g_iload_n d79_28 rfl).trans ?_
    refine j_iaload (v := ρ 41 a1) d79_29 sh_41 (by omega) (by simp [rup]) (fun q5 => ?_)
    have q6 := hB 41 a1 (by omega)
    refine (j_putI d79_30 f8_25 sh_6 (by decide) rfl).trans ?_
    refine (g_aload_n d79_33 rfl rfl).trans ?_
    refine (j_getI (v := ρ 41 a1) d79_34 f8_25 sh_6 (by decide) rfl (by simp [rup])).trans ?_
    have q7 := hB 6 1 (by decide)
    exact g_iret d79_37 rfl rfl
