/-! blocks of the small machine (wip/gen/gen_blocks.py) -/
theorem d1_0 : ins 1 0 = some (.aload_n 0) := by decide +kernel
theorem d1_1 : ins 1 1 = some (.getfield 31) := by decide +kernel
theorem d1_4 : ins 1 4 = some (.bipush 10) := by decide +kernel
theorem d1_6 : ins 1 6 = some (.if_icmp .lt 6) := by decide +kernel
theorem d1_9 : ins 1 9 = some (.bipush (-5)) := by decide +kernel
theorem d1_11 : ins 1 11 = some (.ireturn) := by decide +kernel
theorem d1_12 : ins 1 12 = some (.aload_n 0) := by decide +kernel
theorem d1_13 : ins 1 13 = some (.getfield 9) := by decide +kernel
theorem d1_16 : ins 1 16 = some (.aload_n 0) := by decide +kernel
theorem d1_17 : ins 1 17 = some (.getfield 31) := by decide +kernel
theorem d1_20 : ins 1 20 = some (.iload_n 1) := by decide +kernel
theorem d1_21 : ins 1 21 = some (.iastore) := by decide +kernel
theorem d1_22 : ins 1 22 = some (.aload_n 0) := by decide +kernel
theorem d1_23 : ins 1 23 = some (.getfield 15) := by decide +kernel
theorem d1_26 : ins 1 26 = some (.aload_n 0) := by decide +kernel
theorem d1_27 : ins 1 27 = some (.getfield 31) := by decide +kernel
theorem d1_30 : ins 1 30 = some (.iload_n 3) := by decide +kernel
theorem d1_31 : ins 1 31 = some (.iastore) := by decide +kernel
theorem d1_32 : ins 1 32 = some (.aload_n 0) := by decide +kernel
theorem d1_33 : ins 1 33 = some (.getfield 18) := by decide +kernel
theorem d1_36 : ins 1 36 = some (.aload_n 0) := by decide +kernel
theorem d1_37 : ins 1 37 = some (.getfield 31) := by decide +kernel
theorem d1_40 : ins 1 40 = some (.iload_n 2) := by decide +kernel
theorem d1_41 : ins 1 41 = some (.aload_n 0) := by decide +kernel
theorem d1_42 : ins 1 42 = some (.getfield 27) := by decide +kernel
theorem d1_45 : ins 1 45 = some (.getfield 35) := by decide +kernel
theorem d1_48 : ins 1 48 = some (.iload_n 1) := by decide +kernel
theorem d1_49 : ins 1 49 = some (.iaload) := by decide +kernel
theorem d1_50 : ins 1 50 = some (.iadd) := by decide +kernel
theorem d1_51 : ins 1 51 = some (.iload 4) := by decide +kernel
theorem d1_53 : ins 1 53 = some (.isub) := by decide +kernel
theorem d1_54 : ins 1 54 = some (.aload_n 0) := by decide +kernel
theorem d1_55 : ins 1 55 = some (.getfield 27) := by decide +kernel
theorem d1_58 : ins 1 58 = some (.getfield 35) := by decide +kernel
theorem d1_61 : ins 1 61 = some (.iload_n 3) := by decide +kernel
theorem d1_62 : ins 1 62 = some (.iaload) := by decide +kernel
theorem d1_63 : ins 1 63 = some (.isub) := by decide +kernel
theorem d1_64 : ins 1 64 = some (.sipush 1440) := by decide +kernel
theorem d1_67 : ins 1 67 = some (.invokestatic 40) := by decide +kernel
theorem d1_70 : ins 1 70 = some (.iastore) := by decide +kernel
theorem d1_71 : ins 1 71 = some (.aload_n 0) := by decide +kernel
theorem d1_72 : ins 1 72 = some (.dup) := by decide +kernel
theorem d1_73 : ins 1 73 = some (.getfield 31) := by decide +kernel
theorem d1_76 : ins 1 76 = some (.iconst 1) := by decide +kernel
theorem d1_77 : ins 1 77 = some (.iadd) := by decide +kernel
theorem d1_78 : ins 1 78 = some (.putfield 31) := by decide +kernel
theorem d1_81 : ins 1 81 = some (.aload_n 0) := by decide +kernel
theorem d1_82 : ins 1 82 = some (.getfield 31) := by decide +kernel
theorem d1_85 : ins 1 85 = some (.ireturn) := by decide +kernel
set_option maxRecDepth 10000 in
theorem b1_0 {Q : Option Value → mm → Prop} (ρ : rm) (τ : Int64) (a1 : Int) (a2 : Int) (a3 : Int) (a4 : Int) (hB : BM ρ) (h_a1 : SM a1) (h_a2 : SM a2) (h_a3 : SM a3) (h_a4 : SM a4) : G 1 0 (some (.ref 8) :: some (vI a1) :: some (vI a2) :: some (vI a3) :: some (vI a4) :: []) [] (toM ρ τ) Q = (if (ρ 8 0) < 10 then (if 0 ≤ (ρ 8 0) ∧ (ρ 8 0) < 10 then (if 0 ≤ (ρ 8 0) ∧ (ρ 8 0) < 10 then (if 0 ≤ a1 ∧ a1 < 10 then (if 0 ≤ a3 ∧ a3 < 10 then G 182 0 [some (vI (((a2 + (ρ 10 a1)) - a4) - (ρ 10 a3))), some (vI 1440)] [] (toM (rup (rup ρ 43 (ρ 8 0) a1) 44 (ρ 8 0) a3) τ) (fun v μ2 => G 1 70 (some (.ref 8) :: some (vI a1) :: some (vI a2) :: some (vI a3) :: some (vI a4) :: []) (v.toList ++ [vI (ρ 8 0), .ref 45]) μ2 Q) else False) else False) else False) else False) else Q (some (vI (-5))) (toM ρ τ)) := by
  refine (g_aload_n d1_0 rfl rfl).trans ?_
  refine (j_getI (v := ρ 8 0) d1_1 f0_31 sh_8 (by decide) rfl rfl).trans ?_
  have q1 := hB 8 0 (by decide)
  refine (j_bipush d1_4 (by decide)).trans ?_
  refine j_icmp_lt (tgt := 12) d1_6 (by decide) (by omega) (by omega) (fun q2 => ?_) (fun q2 => ?_)
  ·
    refine (g_aload_n d1_12 rfl rfl).trans ?_
    refine (g_getR (q := 43) d1_13 f0_9 sh_8 (by decide) rfl).trans ?_
    refine (g_aload_n d1_16 rfl rfl).trans ?_
    refine (j_getI (v := ρ 8 0) d1_17 f0_31 sh_8 (by decide) rfl rfl).trans ?_
    refine (g_iload_n d1_20 rfl).trans ?_
    refine j_iastore d1_21 sh_43 (by omega) (fun q3 => ?_)
    refine (g_aload_n d1_22 rfl rfl).trans ?_
    refine (g_getR (q := 44) d1_23 f0_15 sh_8 (by decide) rfl).trans ?_
    refine (g_aload_n d1_26 rfl rfl).trans ?_
    refine (j_getI (v := ρ 8 0) d1_27 f0_31 sh_8 (by decide) rfl (by simp [rup])).trans ?_
    refine (g_iload_n d1_30 rfl).trans ?_
    refine j_iastore d1_31 sh_44 (by omega) (fun q4 => ?_)
    refine (g_aload_n d1_32 rfl rfl).trans ?_
    refine (g_getR (q := 45) d1_33 f0_18 sh_8 (by decide) rfl).trans ?_
    refine (g_aload_n d1_36 rfl rfl).trans ?_
    refine (j_getI (v := ρ 8 0) d1_37 f0_31 sh_8 (by decide) rfl (by simp [rup])).trans ?_
    refine (g_iload_n d1_40 rfl).trans ?_
    refine (g_aload_n d1_41 rfl rfl).trans ?_
    refine (g_getR (q := 1) d1_42 f0_27 sh_8 (by decide) rfl).trans ?_
    refine (g_getR (q := 10) d1_45 f0_35 sh_1 (by decide) rfl).trans ?_
    refine (g_iload_n d1_48 rfl).trans ?_
    refine j_iaload (v := ρ 10 a1) d1_49 sh_10 (by omega) (by simp [rup]) (fun q5 => ?_)
    have q6 := hB 10 a1 (by omega)
    refine (j_iadd d1_50).trans ?_
    refine (g_iload d1_51 rfl).trans ?_
    refine (j_isub d1_53).trans ?_
    refine (g_aload_n d1_54 rfl rfl).trans ?_
    refine (g_getR (q := 1) d1_55 f0_27 sh_8 (by decide) rfl).trans ?_
    refine (g_getR (q := 10) d1_58 f0_35 sh_1 (by decide) rfl).trans ?_
    refine (g_iload_n d1_61 rfl).trans ?_
    refine j_iaload (v := ρ 10 a3) d1_62 sh_10 (by omega) (by simp [rup]) (fun q7 => ?_)
    have q8 := hB 10 a3 (by omega)
    refine (j_isub d1_63).trans ?_
    refine (j_sipush d1_64 (by decide)).trans ?_
    exact g_cS d1_67 k0_40 rfl rfl rfl
  ·
    refine (j_bipush d1_9 (by decide)).trans ?_
    exact g_iret d1_11 rfl rfl
set_option maxRecDepth 10000 in
theorem b1_70 {Q : Option Value → mm → Prop} (ρ : rm) (τ : Int64) (l1 : Int) (l2 : Int) (l3 : Int) (l4 : Int) (t : List (Option Value)) (s0 : Int) (r : Int) (hB : BM ρ) (h_l1 : SM l1) (h_l2 : SM l2) (h_l3 : SM l3) (h_l4 : SM l4) (h_s0 : SM s0) (h_r : SM r) : G 1 70 (some (.ref 8) :: some (vI l1) :: some (vI l2) :: some (vI l3) :: some (vI l4) :: t) ((some (vI r)).toList ++ [vI s0, .ref 45]) (toM ρ τ) Q = (if 0 ≤ s0 ∧ s0 < 10 then Q (some (vI ((ρ 8 0) + 1))) (toM (rup (rup ρ 45 s0 r) 8 0 ((ρ 8 0) + 1)) τ) else False) := by
  refine j_iastore d1_70 sh_45 (by omega) (fun q1 => ?_)
  refine (g_aload_n d1_71 rfl rfl).trans ?_
  refine (g_dupR d1_72).trans ?_
  refine (j_getI (v := ρ 8 0) d1_73 f0_31 sh_8 (by decide) rfl (by simp [rup])).trans ?_
  have q2 := hB 8 0 (by decide)
  refine (j_iconst d1_76).trans ?_
  refine (j_iadd d1_77).trans ?_
  refine (j_putI d1_78 f0_31 sh_8 (by decide) rfl).trans ?_
  refine (g_aload_n d1_81 rfl rfl).trans ?_
  refine (j_getI (v := (ρ 8 0) + 1) d1_82 f0_31 sh_8 (by decide) rfl (by simp [rup])).trans ?_
  exact g_iret d1_85 rfl rfl
theorem d2_0 : ins 2 0 = some (.aload_n 0) := by decide +kernel
theorem d2_1 : ins 2 1 = some (.getfield 31) := by decide +kernel
theorem d2_4 : ins 2 4 = some (.istore_n 1) := by decide +kernel
theorem d2_5 : ins 2 5 = some (.aload_n 0) := by decide +kernel
theorem d2_6 : ins 2 6 = some (.iconst 0) := by decide +kernel
theorem d2_7 : ins 2 7 = some (.putfield 31) := by decide +kernel
theorem d2_10 : ins 2 10 = some (.iload_n 1) := by decide +kernel
theorem d2_11 : ins 2 11 = some (.ireturn) := by decide +kernel
set_option maxRecDepth 10000 in
theorem b2_0 {Q : Option Value → mm → Prop} (ρ : rm) (τ : Int64)  (hB : BM ρ)  : G 2 0 (some (.ref 8) :: []) [] (toM ρ τ) Q = Q (some (vI (ρ 8 0))) (toM (rup ρ 8 0 0) τ) := by
  refine (g_aload_n d2_0 rfl rfl).trans ?_
  refine (j_getI (v := ρ 8 0) d2_1 f0_31 sh_8 (by decide) rfl rfl).trans ?_
  have q1 := hB 8 0 (by decide)
  refine (g_istore_n d2_4 (by decide) rfl rfl).trans ?_
  refine (g_aload_n d2_5 rfl rfl).trans ?_
  refine (j_iconst d2_6).trans ?_
  refine (j_putI d2_7 f0_31 sh_8 (by decide) rfl).trans ?_
  refine (g_iload_n d2_10 rfl).trans ?_
  exact g_iret d2_11 rfl rfl
theorem d3_0 : ins 3 0 = some (.aload_n 0) := by decide +kernel
theorem d3_1 : ins 3 1 = some (.invokevirtual 46) := by decide +kernel
theorem d3_4 : ins 3 4 = some (.iconst 0) := by decide +kernel
theorem d3_5 : ins 3 5 = some (.istore_n 1) := by decide +kernel
theorem d3_6 : ins 3 6 = some (.iload_n 1) := by decide +kernel
theorem d3_7 : ins 3 7 = some (.aload_n 0) := by decide +kernel
theorem d3_8 : ins 3 8 = some (.getfield 31) := by decide +kernel
theorem d3_11 : ins 3 11 = some (.if_icmp .ge 49) := by decide +kernel
theorem d3_14 : ins 3 14 = some (.aload_n 0) := by decide +kernel
theorem d3_15 : ins 3 15 = some (.getfield 24) := by decide +kernel
theorem d3_18 : ins 3 18 = some (.aload_n 0) := by decide +kernel
theorem d3_19 : ins 3 19 = some (.getfield 9) := by decide +kernel
theorem d3_22 : ins 3 22 = some (.iload_n 1) := by decide +kernel
theorem d3_23 : ins 3 23 = some (.iaload) := by decide +kernel
theorem d3_24 : ins 3 24 = some (.iaload) := by decide +kernel
theorem d3_25 : ins 3 25 = some (.aload_n 0) := by decide +kernel
theorem d3_26 : ins 3 26 = some (.getfield 24) := by decide +kernel
theorem d3_29 : ins 3 29 = some (.aload_n 0) := by decide +kernel
theorem d3_30 : ins 3 30 = some (.getfield 15) := by decide +kernel
theorem d3_33 : ins 3 33 = some (.iload_n 1) := by decide +kernel
theorem d3_34 : ins 3 34 = some (.iaload) := by decide +kernel
theorem d3_35 : ins 3 35 = some (.iaload) := by decide +kernel
theorem d3_36 : ins 3 36 = some (.isub) := by decide +kernel
theorem d3_37 : ins 3 37 = some (.sipush 1440) := by decide +kernel
theorem d3_40 : ins 3 40 = some (.invokestatic 40) := by decide +kernel
theorem d3_43 : ins 3 43 = some (.aload_n 0) := by decide +kernel
theorem d3_44 : ins 3 44 = some (.getfield 18) := by decide +kernel
theorem d3_47 : ins 3 47 = some (.iload_n 1) := by decide +kernel
theorem d3_48 : ins 3 48 = some (.iaload) := by decide +kernel
theorem d3_49 : ins 3 49 = some (.if_icmp .eq 5) := by decide +kernel
theorem d3_52 : ins 3 52 = some (.iconst (-1)) := by decide +kernel
theorem d3_53 : ins 3 53 = some (.ireturn) := by decide +kernel
theorem d3_54 : ins 3 54 = some (.iinc 1 1) := by decide +kernel
theorem d3_57 : ins 3 57 = some (.goto (-51)) := by decide +kernel
theorem d3_60 : ins 3 60 = some (.iconst 0) := by decide +kernel
theorem d3_61 : ins 3 61 = some (.istore_n 1) := by decide +kernel
theorem d3_62 : ins 3 62 = some (.iconst 0) := by decide +kernel
theorem d3_63 : ins 3 63 = some (.istore_n 2) := by decide +kernel
theorem d3_64 : ins 3 64 = some (.iload_n 2) := by decide +kernel
theorem d3_65 : ins 3 65 = some (.aload_n 0) := by decide +kernel
theorem d3_66 : ins 3 66 = some (.getfield 27) := by decide +kernel
theorem d3_69 : ins 3 69 = some (.getfield 49) := by decide +kernel
theorem d3_72 : ins 3 72 = some (.if_icmp .ge 27) := by decide +kernel
theorem d3_75 : ins 3 75 = some (.aload_n 0) := by decide +kernel
theorem d3_76 : ins 3 76 = some (.getfield 21) := by decide +kernel
theorem d3_79 : ins 3 79 = some (.iload_n 2) := by decide +kernel
theorem d3_80 : ins 3 80 = some (.iaload) := by decide +kernel
theorem d3_81 : ins 3 81 = some (.iload_n 2) := by decide +kernel
theorem d3_82 : ins 3 82 = some (.if_icmp .ne 11) := by decide +kernel
theorem d3_85 : ins 3 85 = some (.iload_n 1) := by decide +kernel
theorem d3_86 : ins 3 86 = some (.aload_n 0) := by decide +kernel
theorem d3_87 : ins 3 87 = some (.iload_n 2) := by decide +kernel
theorem d3_88 : ins 3 88 = some (.invokevirtual 50) := by decide +kernel
theorem d3_91 : ins 3 91 = some (.ior) := by decide +kernel
theorem d3_92 : ins 3 92 = some (.istore_n 1) := by decide +kernel
theorem d3_93 : ins 3 93 = some (.iinc 2 1) := by decide +kernel
theorem d3_96 : ins 3 96 = some (.goto (-32)) := by decide +kernel
theorem d3_99 : ins 3 99 = some (.iload_n 1) := by decide +kernel
theorem d3_100 : ins 3 100 = some (.ireturn) := by decide +kernel
set_option maxRecDepth 10000 in
theorem b3_0 {Q : Option Value → mm → Prop} (ρ : rm) (τ : Int64)  (hB : BM ρ)  : G 3 0 (some (.ref 8) :: []) [] (toM ρ τ) Q = G 4 0 [some (.ref 8)] [] (toM ρ τ) (fun v μ2 => G 3 4 (some (.ref 8) :: []) (v.toList ++ []) μ2 Q) := by
  refine (g_aload_n d3_0 rfl rfl).trans ?_
  exact g_cV d3_1 k0_46 rfl rfl rfl
set_option maxRecDepth 10000 in
theorem b3_4 {Q : Option Value → mm → Prop} (ρ : rm) (τ : Int64) (t : List (Option Value)) (hB : BM ρ)  : G 3 4 (some (.ref 8) :: t) ((none : Option Value).toList ++ []) (toM ρ τ) Q = G 3 6 (some (.ref 8) :: some (vI 0) :: t.tail) [] (toM ρ τ) Q := by
  refine (j_iconst d3_4).trans ?_
  refine (g_istore_n d3_5 (by decide) rfl rfl).trans ?_
  rfl
set_option maxRecDepth 10000 in
theorem b3_6 {Q : Option Value → mm → Prop} (ρ : rm) (τ : Int64) (l1 : Int) (t : List (Option Value)) (hB : BM ρ) (h_l1 : SM l1) : G 3 6 (some (.ref 8) :: some (vI l1) :: t) [] (toM ρ τ) Q = (if (ρ 8 0) ≤ l1 then G 3 64 (some (.ref 8) :: some (vI 0) :: some (vI 0) :: t.tail) [] (toM ρ τ) Q else (if 0 ≤ l1 ∧ l1 < 10 then (if 0 ≤ (ρ 43 l1) ∧ (ρ 43 l1) < 10 then (if 0 ≤ l1 ∧ l1 < 10 then (if 0 ≤ (ρ 44 l1) ∧ (ρ 44 l1) < 10 then G 182 0 [some (vI ((ρ 47 (ρ 43 l1)) - (ρ 47 (ρ 44 l1)))), some (vI 1440)] [] (toM ρ τ) (fun v μ2 => G 3 43 (some (.ref 8) :: some (vI l1) :: t) (v.toList ++ []) μ2 Q) else False) else False) else False) else False)) := by
  refine (g_iload_n d3_6 rfl).trans ?_
  refine (g_aload_n d3_7 rfl rfl).trans ?_
  refine (j_getI (v := ρ 8 0) d3_8 f0_31 sh_8 (by decide) rfl rfl).trans ?_
  have q1 := hB 8 0 (by decide)
  refine j_icmp_ge (tgt := 60) d3_11 (by decide) (by omega) (by omega) (fun q2 => ?_) (fun q2 => ?_)
  ·
    refine (j_iconst d3_60).trans ?_
    refine (g_istore_n d3_61 (by decide) rfl rfl).trans ?_
    refine (j_iconst d3_62).trans ?_
    refine (g_istore_n d3_63 (by decide) rfl rfl).trans ?_
    rfl
  ·
    refine (g_aload_n d3_14 rfl rfl).trans ?_
    refine (g_getR (q := 47) d3_15 f0_24 sh_8 (by decide) rfl).trans ?_
    refine (g_aload_n d3_18 rfl rfl).trans ?_
    refine (g_getR (q := 43) d3_19 f0_9 sh_8 (by decide) rfl).trans ?_
    refine (g_iload_n d3_22 rfl).trans ?_
    refine j_iaload (v := ρ 43 l1) d3_23 sh_43 (by omega) rfl (fun q3 => ?_)
    have q4 := hB 43 l1 (by omega)
    refine j_iaload (v := ρ 47 (ρ 43 l1)) d3_24 sh_47 (by omega) rfl (fun q5 => ?_)
    have q6 := hB 47 (ρ 43 l1) (by omega)
    refine (g_aload_n d3_25 rfl rfl).trans ?_
    refine (g_getR (q := 47) d3_26 f0_24 sh_8 (by decide) rfl).trans ?_
    refine (g_aload_n d3_29 rfl rfl).trans ?_
    refine (g_getR (q := 44) d3_30 f0_15 sh_8 (by decide) rfl).trans ?_
    refine (g_iload_n d3_33 rfl).trans ?_
    refine j_iaload (v := ρ 44 l1) d3_34 sh_44 (by omega) rfl (fun q7 => ?_)
    have q8 := hB 44 l1 (by omega)
    refine j_iaload (v := ρ 47 (ρ 44 l1)) d3_35 sh_47 (by omega) rfl (fun q9 => ?_)
    have q10 := hB 47 (ρ 44 l1) (by omega)
    refine (j_isub d3_36).trans ?_
    refine (j_sipush d3_37 (by decide)).trans ?_
    exact g_cS d3_40 k0_40 rfl rfl rfl
set_option maxRecDepth 10000 in
theorem b3_64 {Q : Option Value → mm → Prop} (ρ : rm) (τ : Int64) (l1 : Int) (l2 : Int) (t : List (Option Value)) (hB : BM ρ) (h_l1 : SM l1) (h_l2 : SM l2) : G 3 64 (some (.ref 8) :: some (vI l1) :: some (vI l2) :: t) [] (toM ρ τ) Q = (if (ρ 1 1) ≤ l2 then Q (some (vI l1)) (toM ρ τ) else (if 0 ≤ l2 ∧ l2 < 10 then (if (ρ 46 l2) = l2 then G 7 0 [some (.ref 8), some (vI l2)] [] (toM ρ τ) (fun v μ2 => G 3 91 (some (.ref 8) :: some (vI l1) :: some (vI l2) :: t) (v.toList ++ [vI l1]) μ2 Q) else G 3 64 (some (.ref 8) :: some (vI l1) :: some (vI (l2 + 1)) :: t) [] (toM ρ τ) Q) else False)) := by
  refine (g_iload_n d3_64 rfl).trans ?_
  refine (g_aload_n d3_65 rfl rfl).trans ?_
  refine (g_getR (q := 1) d3_66 f0_27 sh_8 (by decide) rfl).trans ?_
  refine (j_getI (v := ρ 1 1) d3_69 f0_49 sh_1 (by decide) rfl rfl).trans ?_
  have q1 := hB 1 1 (by decide)
  refine j_icmp_ge (tgt := 99) d3_72 (by decide) (by omega) (by omega) (fun q2 => ?_) (fun q2 => ?_)
  ·
    refine (g_iload_n d3_99 rfl).trans ?_
    exact g_iret d3_100 rfl rfl
  ·
    refine (g_aload_n d3_75 rfl rfl).trans ?_
    refine (g_getR (q := 46) d3_76 f0_21 sh_8 (by decide) rfl).trans ?_
    refine (g_iload_n d3_79 rfl).trans ?_
    refine j_iaload (v := ρ 46 l2) d3_80 sh_46 (by omega) rfl (fun q3 => ?_)
    have q4 := hB 46 l2 (by omega)
    refine (g_iload_n d3_81 rfl).trans ?_
    refine j_icmp_ne (tgt := 93) d3_82 (by decide) (by omega) (by omega) (fun q5 => ?_) (fun q5 => ?_)
    ·
      refine (g_iload_n d3_85 rfl).trans ?_
      refine (g_aload_n d3_86 rfl rfl).trans ?_
      refine (g_iload_n d3_87 rfl).trans ?_
      exact g_cV d3_88 k0_50 rfl rfl rfl
    ·
      refine (j_iinc d3_93 rfl (by decide) rfl rfl).trans ?_
      refine (g_goto (tgt := 64) d3_96 (by decide)).trans ?_
      rfl
set_option maxRecDepth 10000 in
theorem b3_43 {Q : Option Value → mm → Prop} (ρ : rm) (τ : Int64) (l1 : Int) (t : List (Option Value)) (r : Int) (hB : BM ρ) (h_l1 : SM l1) (h_r : SM r) : G 3 43 (some (.ref 8) :: some (vI l1) :: t) ((some (vI r)).toList ++ []) (toM ρ τ) Q = (if 0 ≤ l1 ∧ l1 < 10 then (if r = (ρ 45 l1) then G 3 6 (some (.ref 8) :: some (vI (l1 + 1)) :: t) [] (toM ρ τ) Q else Q (some (vI (-1))) (toM ρ τ)) else False) := by
  refine (g_aload_n d3_43 rfl rfl).trans ?_
  refine (g_getR (q := 45) d3_44 f0_18 sh_8 (by decide) rfl).trans ?_
  refine (g_iload_n d3_47 rfl).trans ?_
  refine j_iaload (v := ρ 45 l1) d3_48 sh_45 (by omega) rfl (fun q1 => ?_)
  have q2 := hB 45 l1 (by omega)
  refine j_icmp_eq (tgt := 54) d3_49 (by decide) (by omega) (by omega) (fun q3 => ?_) (fun q3 => ?_)
  ·
    refine (j_iinc d3_54 rfl (by decide) rfl rfl).trans ?_
    refine (g_goto (tgt := 6) d3_57 (by decide)).trans ?_
    rfl
  ·
    refine (j_iconst d3_52).trans ?_
    exact g_iret d3_53 rfl rfl
set_option maxRecDepth 10000 in
theorem b3_91 {Q : Option Value → mm → Prop} (ρ : rm) (τ : Int64) (l1 : Int) (l2 : Int) (t : List (Option Value)) (s0 : Int) (r : Int) (hB : BM ρ) (h_l1 : SM l1) (h_l2 : SM l2) (h_s0 : SM s0) (h_r : SM r) : G 3 91 (some (.ref 8) :: some (vI l1) :: some (vI l2) :: t) ((some (vI r)).toList ++ [vI s0]) (toM ρ τ) Q = G 3 64 (some (.ref 8) :: some (vI ((iI s0 ||| iI r).toInt)) :: some (vI (l2 + 1)) :: t) [] (toM ρ τ) Q := by
  refine (j_ior d3_91).trans ?_
  have q1 := SB_of (iI s0 ||| iI r)
  refine (g_istore_n d3_92 (by decide) rfl rfl).trans ?_
  refine (j_iinc d3_93 rfl (by decide) rfl rfl).trans ?_
  refine (g_goto (tgt := 64) d3_96 (by decide)).trans ?_
  rfl
theorem d4_0 : ins 4 0 = some (.iconst 0) := by decide +kernel
theorem d4_1 : ins 4 1 = some (.istore_n 1) := by decide +kernel
theorem d4_2 : ins 4 2 = some (.iload_n 1) := by decide +kernel
theorem d4_3 : ins 4 3 = some (.aload_n 0) := by decide +kernel
theorem d4_4 : ins 4 4 = some (.getfield 27) := by decide +kernel
theorem d4_7 : ins 4 7 = some (.getfield 49) := by decide +kernel
theorem d4_10 : ins 4 10 = some (.if_icmp .ge 16) := by decide +kernel
theorem d4_13 : ins 4 13 = some (.aload_n 0) := by decide +kernel
theorem d4_14 : ins 4 14 = some (.getfield 21) := by decide +kernel
theorem d4_17 : ins 4 17 = some (.iload_n 1) := by decide +kernel
theorem d4_18 : ins 4 18 = some (.iconst (-1)) := by decide +kernel
theorem d4_19 : ins 4 19 = some (.iastore) := by decide +kernel
theorem d4_20 : ins 4 20 = some (.iinc 1 1) := by decide +kernel
theorem d4_23 : ins 4 23 = some (.goto (-21)) := by decide +kernel
theorem d4_26 : ins 4 26 = some (.iconst 0) := by decide +kernel
theorem d4_27 : ins 4 27 = some (.istore_n 1) := by decide +kernel
theorem d4_28 : ins 4 28 = some (.iload_n 1) := by decide +kernel
theorem d4_29 : ins 4 29 = some (.aload_n 0) := by decide +kernel
theorem d4_30 : ins 4 30 = some (.getfield 27) := by decide +kernel
theorem d4_33 : ins 4 33 = some (.getfield 49) := by decide +kernel
theorem d4_36 : ins 4 36 = some (.if_icmp .ge 37) := by decide +kernel
theorem d4_39 : ins 4 39 = some (.aload_n 0) := by decide +kernel
theorem d4_40 : ins 4 40 = some (.getfield 21) := by decide +kernel
theorem d4_43 : ins 4 43 = some (.iload_n 1) := by decide +kernel
theorem d4_44 : ins 4 44 = some (.iaload) := by decide +kernel
theorem d4_45 : ins 4 45 = some (.iconst (-1)) := by decide +kernel
theorem d4_46 : ins 4 46 = some (.if_icmp .ne 21) := by decide +kernel
theorem d4_49 : ins 4 49 = some (.aload_n 0) := by decide +kernel
theorem d4_50 : ins 4 50 = some (.getfield 21) := by decide +kernel
theorem d4_53 : ins 4 53 = some (.iload_n 1) := by decide +kernel
theorem d4_54 : ins 4 54 = some (.iload_n 1) := by decide +kernel
theorem d4_55 : ins 4 55 = some (.iastore) := by decide +kernel
theorem d4_56 : ins 4 56 = some (.aload_n 0) := by decide +kernel
theorem d4_57 : ins 4 57 = some (.getfield 24) := by decide +kernel
theorem d4_60 : ins 4 60 = some (.iload_n 1) := by decide +kernel
theorem d4_61 : ins 4 61 = some (.iconst 0) := by decide +kernel
theorem d4_62 : ins 4 62 = some (.iastore) := by decide +kernel
theorem d4_63 : ins 4 63 = some (.aload_n 0) := by decide +kernel
theorem d4_64 : ins 4 64 = some (.invokevirtual 54) := by decide +kernel
theorem d4_67 : ins 4 67 = some (.iinc 1 1) := by decide +kernel
theorem d4_70 : ins 4 70 = some (.goto (-42)) := by decide +kernel
theorem d4_73 : ins 4 73 = some (.return_) := by decide +kernel
set_option maxRecDepth 10000 in
theorem b4_0 {Q : Option Value → mm → Prop} (ρ : rm) (τ : Int64)  (hB : BM ρ)  : G 4 0 (some (.ref 8) :: []) [] (toM ρ τ) Q = G 4 2 (some (.ref 8) :: some (vI 0) :: []) [] (toM ρ τ) Q := by
  refine (j_iconst d4_0).trans ?_
  refine (g_istore_n d4_1 (by decide) rfl rfl).trans ?_
  rfl
set_option maxRecDepth 10000 in
theorem b4_2 {Q : Option Value → mm → Prop} (ρ : rm) (τ : Int64) (l1 : Int) (t : List (Option Value)) (hB : BM ρ) (h_l1 : SM l1) : G 4 2 (some (.ref 8) :: some (vI l1) :: t) [] (toM ρ τ) Q = (if (ρ 1 1) ≤ l1 then G 4 28 (some (.ref 8) :: some (vI 0) :: t) [] (toM ρ τ) Q else (if 0 ≤ l1 ∧ l1 < 10 then G 4 2 (some (.ref 8) :: some (vI (l1 + 1)) :: t) [] (toM (rup ρ 46 l1 (-1)) τ) Q else False)) := by
  refine (g_iload_n d4_2 rfl).trans ?_
  refine (g_aload_n d4_3 rfl rfl).trans ?_
  refine (g_getR (q := 1) d4_4 f0_27 sh_8 (by decide) rfl).trans ?_
  refine (j_getI (v := ρ 1 1) d4_7 f0_49 sh_1 (by decide) rfl rfl).trans ?_
  have q1 := hB 1 1 (by decide)
  refine j_icmp_ge (tgt := 26) d4_10 (by decide) (by omega) (by omega) (fun q2 => ?_) (fun q2 => ?_)
  ·
    refine (j_iconst d4_26).trans ?_
    refine (g_istore_n d4_27 (by decide) rfl rfl).trans ?_
    rfl
  ·
    refine (g_aload_n d4_13 rfl rfl).trans ?_
    refine (g_getR (q := 46) d4_14 f0_21 sh_8 (by decide) rfl).trans ?_
    refine (g_iload_n d4_17 rfl).trans ?_
    refine (j_iconst d4_18).trans ?_
    refine j_iastore d4_19 sh_46 (by omega) (fun q3 => ?_)
    refine (j_iinc d4_20 rfl (by decide) rfl rfl).trans ?_
    refine (g_goto (tgt := 2) d4_23 (by decide)).trans ?_
    rfl
set_option maxRecDepth 10000 in
theorem b4_28 {Q : Option Value → mm → Prop} (ρ : rm) (τ : Int64) (l1 : Int) (t : List (Option Value)) (hB : BM ρ) (h_l1 : SM l1) : G 4 28 (some (.ref 8) :: some (vI l1) :: t) [] (toM ρ τ) Q = (if (ρ 1 1) ≤ l1 then Q none (toM ρ τ) else (if 0 ≤ l1 ∧ l1 < 10 then (if (ρ 46 l1) = (-1) then (if 0 ≤ l1 ∧ l1 < 10 then (if 0 ≤ l1 ∧ l1 < 10 then G 5 0 [some (.ref 8)] [] (toM (rup (rup ρ 46 l1 l1) 47 l1 0) τ) (fun v μ2 => G 4 67 (some (.ref 8) :: some (vI l1) :: t) (v.toList ++ []) μ2 Q) else False) else False) else G 4 28 (some (.ref 8) :: some (vI (l1 + 1)) :: t) [] (toM ρ τ) Q) else False)) := by
  refine (g_iload_n d4_28 rfl).trans ?_
  refine (g_aload_n d4_29 rfl rfl).trans ?_
  refine (g_getR (q := 1) d4_30 f0_27 sh_8 (by decide) rfl).trans ?_
  refine (j_getI (v := ρ 1 1) d4_33 f0_49 sh_1 (by decide) rfl rfl).trans ?_
  have q1 := hB 1 1 (by decide)
  refine j_icmp_ge (tgt := 73) d4_36 (by decide) (by omega) (by omega) (fun q2 => ?_) (fun q2 => ?_)
  ·
    exact g_ret d4_73 rfl
  ·
    refine (g_aload_n d4_39 rfl rfl).trans ?_
    refine (g_getR (q := 46) d4_40 f0_21 sh_8 (by decide) rfl).trans ?_
    refine (g_iload_n d4_43 rfl).trans ?_
    refine j_iaload (v := ρ 46 l1) d4_44 sh_46 (by omega) rfl (fun q3 => ?_)
    have q4 := hB 46 l1 (by omega)
    refine (j_iconst d4_45).trans ?_
    refine j_icmp_ne (tgt := 67) d4_46 (by decide) (by omega) (by omega) (fun q5 => ?_) (fun q5 => ?_)
    ·
      refine (g_aload_n d4_49 rfl rfl).trans ?_
      refine (g_getR (q := 46) d4_50 f0_21 sh_8 (by decide) rfl).trans ?_
      refine (g_iload_n d4_53 rfl).trans ?_
      refine (g_iload_n d4_54 rfl).trans ?_
      refine j_iastore d4_55 sh_46 (by omega) (fun q6 => ?_)
      refine (g_aload_n d4_56 rfl rfl).trans ?_
      refine (g_getR (q := 47) d4_57 f0_24 sh_8 (by decide) rfl).trans ?_
      refine (g_iload_n d4_60 rfl).trans ?_
      refine (j_iconst d4_61).trans ?_
      refine j_iastore d4_62 sh_47 (by omega) (fun q7 => ?_)
      refine (g_aload_n d4_63 rfl rfl).trans ?_
      exact g_cV d4_64 k0_54 rfl rfl rfl
    ·
      refine (j_iinc d4_67 rfl (by decide) rfl rfl).trans ?_
      refine (g_goto (tgt := 28) d4_70 (by decide)).trans ?_
      rfl
set_option maxRecDepth 10000 in
theorem b4_67 {Q : Option Value → mm → Prop} (ρ : rm) (τ : Int64) (l1 : Int) (t : List (Option Value)) (hB : BM ρ) (h_l1 : SM l1) : G 4 67 (some (.ref 8) :: some (vI l1) :: t) ((none : Option Value).toList ++ []) (toM ρ τ) Q = G 4 28 (some (.ref 8) :: some (vI (l1 + 1)) :: t) [] (toM ρ τ) Q := by
  refine (j_iinc d4_67 rfl (by decide) rfl rfl).trans ?_
  refine (g_goto (tgt := 28) d4_70 (by decide)).trans ?_
  rfl
theorem d5_0 : ins 5 0 = some (.iconst 0) := by decide +kernel
theorem d5_1 : ins 5 1 = some (.istore_n 1) := by decide +kernel
theorem d5_2 : ins 5 2 = some (.iload_n 1) := by decide +kernel
theorem d5_3 : ins 5 3 = some (.aload_n 0) := by decide +kernel
theorem d5_4 : ins 5 4 = some (.getfield 27) := by decide +kernel
theorem d5_7 : ins 5 7 = some (.getfield 49) := by decide +kernel
theorem d5_10 : ins 5 10 = some (.if_icmp .ge 70) := by decide +kernel
theorem d5_13 : ins 5 13 = some (.iconst 0) := by decide +kernel
theorem d5_14 : ins 5 14 = some (.istore_n 2) := by decide +kernel
theorem d5_15 : ins 5 15 = some (.iload_n 2) := by decide +kernel
theorem d5_16 : ins 5 16 = some (.aload_n 0) := by decide +kernel
theorem d5_17 : ins 5 17 = some (.getfield 31) := by decide +kernel
theorem d5_20 : ins 5 20 = some (.if_icmp .ge 54) := by decide +kernel
theorem d5_23 : ins 5 23 = some (.aload_n 0) := by decide +kernel
theorem d5_24 : ins 5 24 = some (.aload_n 0) := by decide +kernel
theorem d5_25 : ins 5 25 = some (.getfield 9) := by decide +kernel
theorem d5_28 : ins 5 28 = some (.iload_n 2) := by decide +kernel
theorem d5_29 : ins 5 29 = some (.iaload) := by decide +kernel
theorem d5_30 : ins 5 30 = some (.aload_n 0) := by decide +kernel
theorem d5_31 : ins 5 31 = some (.getfield 15) := by decide +kernel
theorem d5_34 : ins 5 34 = some (.iload_n 2) := by decide +kernel
theorem d5_35 : ins 5 35 = some (.iaload) := by decide +kernel
theorem d5_36 : ins 5 36 = some (.aload_n 0) := by decide +kernel
theorem d5_37 : ins 5 37 = some (.getfield 18) := by decide +kernel
theorem d5_40 : ins 5 40 = some (.iload_n 2) := by decide +kernel
theorem d5_41 : ins 5 41 = some (.iaload) := by decide +kernel
theorem d5_42 : ins 5 42 = some (.ineg) := by decide +kernel
theorem d5_43 : ins 5 43 = some (.invokevirtual 57) := by decide +kernel
theorem d5_46 : ins 5 46 = some (.aload_n 0) := by decide +kernel
theorem d5_47 : ins 5 47 = some (.aload_n 0) := by decide +kernel
theorem d5_48 : ins 5 48 = some (.getfield 15) := by decide +kernel
theorem d5_51 : ins 5 51 = some (.iload_n 2) := by decide +kernel
theorem d5_52 : ins 5 52 = some (.iaload) := by decide +kernel
theorem d5_53 : ins 5 53 = some (.aload_n 0) := by decide +kernel
theorem d5_54 : ins 5 54 = some (.getfield 9) := by decide +kernel
theorem d5_57 : ins 5 57 = some (.iload_n 2) := by decide +kernel
theorem d5_58 : ins 5 58 = some (.iaload) := by decide +kernel
theorem d5_59 : ins 5 59 = some (.aload_n 0) := by decide +kernel
theorem d5_60 : ins 5 60 = some (.getfield 18) := by decide +kernel
theorem d5_63 : ins 5 63 = some (.iload_n 2) := by decide +kernel
theorem d5_64 : ins 5 64 = some (.iaload) := by decide +kernel
theorem d5_65 : ins 5 65 = some (.invokevirtual 57) := by decide +kernel
theorem d5_68 : ins 5 68 = some (.iinc 2 1) := by decide +kernel
theorem d5_71 : ins 5 71 = some (.goto (-56)) := by decide +kernel
theorem d5_74 : ins 5 74 = some (.iinc 1 1) := by decide +kernel
theorem d5_77 : ins 5 77 = some (.goto (-75)) := by decide +kernel
theorem d5_80 : ins 5 80 = some (.return_) := by decide +kernel
set_option maxRecDepth 10000 in
theorem b5_0 {Q : Option Value → mm → Prop} (ρ : rm) (τ : Int64)  (hB : BM ρ)  : G 5 0 (some (.ref 8) :: []) [] (toM ρ τ) Q = G 5 2 (some (.ref 8) :: some (vI 0) :: []) [] (toM ρ τ) Q := by
  refine (j_iconst d5_0).trans ?_
  refine (g_istore_n d5_1 (by decide) rfl rfl).trans ?_
  rfl
set_option maxRecDepth 10000 in
theorem b5_2 {Q : Option Value → mm → Prop} (ρ : rm) (τ : Int64) (l1 : Int) (t : List (Option Value)) (hB : BM ρ) (h_l1 : SM l1) : G 5 2 (some (.ref 8) :: some (vI l1) :: t) [] (toM ρ τ) Q = (if (ρ 1 1) ≤ l1 then Q none (toM ρ τ) else G 5 15 (some (.ref 8) :: some (vI l1) :: some (vI 0) :: t.tail) [] (toM ρ τ) Q) := by
  refine (g_iload_n d5_2 rfl).trans ?_
  refine (g_aload_n d5_3 rfl rfl).trans ?_
  refine (g_getR (q := 1) d5_4 f0_27 sh_8 (by decide) rfl).trans ?_
  refine (j_getI (v := ρ 1 1) d5_7 f0_49 sh_1 (by decide) rfl rfl).trans ?_
  have q1 := hB 1 1 (by decide)
  refine j_icmp_ge (tgt := 80) d5_10 (by decide) (by omega) (by omega) (fun q2 => ?_) (fun q2 => ?_)
  ·
    exact g_ret d5_80 rfl
  ·
    refine (j_iconst d5_13).trans ?_
    refine (g_istore_n d5_14 (by decide) rfl rfl).trans ?_
    rfl
set_option maxRecDepth 10000 in
theorem b5_15 {Q : Option Value → mm → Prop} (ρ : rm) (τ : Int64) (l1 : Int) (l2 : Int) (t : List (Option Value)) (hB : BM ρ) (h_l1 : SM l1) (h_l2 : SM l2) : G 5 15 (some (.ref 8) :: some (vI l1) :: some (vI l2) :: t) [] (toM ρ τ) Q = (if (ρ 8 0) ≤ l2 then G 5 2 (some (.ref 8) :: some (vI (l1 + 1)) :: some (vI l2) :: t) [] (toM ρ τ) Q else (if 0 ≤ l2 ∧ l2 < 10 then (if 0 ≤ l2 ∧ l2 < 10 then (if 0 ≤ l2 ∧ l2 < 10 then G 6 0 [some (.ref 8), some (vI (ρ 43 l2)), some (vI (ρ 44 l2)), some (vI (-(ρ 45 l2)))] [] (toM ρ τ) (fun v μ2 => G 5 46 (some (.ref 8) :: some (vI l1) :: some (vI l2) :: t) (v.toList ++ []) μ2 Q) else False) else False) else False)) := by
  refine (g_iload_n d5_15 rfl).trans ?_
  refine (g_aload_n d5_16 rfl rfl).trans ?_
  refine (j_getI (v := ρ 8 0) d5_17 f0_31 sh_8 (by decide) rfl rfl).trans ?_
  have q1 := hB 8 0 (by decide)
  refine j_icmp_ge (tgt := 74) d5_20 (by decide) (by omega) (by omega) (fun q2 => ?_) (fun q2 => ?_)
  ·
    refine (j_iinc d5_74 rfl (by decide) rfl rfl).trans ?_
    refine (g_goto (tgt := 2) d5_77 (by decide)).trans ?_
    rfl
  ·
    refine (g_aload_n d5_23 rfl rfl).trans ?_
    refine (g_aload_n d5_24 rfl rfl).trans ?_
    refine (g_getR (q := 43) d5_25 f0_9 sh_8 (by decide) rfl).trans ?_
    refine (g_iload_n d5_28 rfl).trans ?_
    refine j_iaload (v := ρ 43 l2) d5_29 sh_43 (by omega) rfl (fun q3 => ?_)
    have q4 := hB 43 l2 (by omega)
    refine (g_aload_n d5_30 rfl rfl).trans ?_
    refine (g_getR (q := 44) d5_31 f0_15 sh_8 (by decide) rfl).trans ?_
    refine (g_iload_n d5_34 rfl).trans ?_
    refine j_iaload (v := ρ 44 l2) d5_35 sh_44 (by omega) rfl (fun q5 => ?_)
    have q6 := hB 44 l2 (by omega)
    refine (g_aload_n d5_36 rfl rfl).trans ?_
    refine (g_getR (q := 45) d5_37 f0_18 sh_8 (by decide) rfl).trans ?_
    refine (g_iload_n d5_40 rfl).trans ?_
    refine j_iaload (v := ρ 45 l2) d5_41 sh_45 (by omega) rfl (fun q7 => ?_)
    have q8 := hB 45 l2 (by omega)
    refine (j_ineg d5_42).trans ?_
    exact g_cV d5_43 k0_57 rfl rfl rfl
set_option maxRecDepth 10000 in
theorem b5_46 {Q : Option Value → mm → Prop} (ρ : rm) (τ : Int64) (l1 : Int) (l2 : Int) (t : List (Option Value)) (hB : BM ρ) (h_l1 : SM l1) (h_l2 : SM l2) : G 5 46 (some (.ref 8) :: some (vI l1) :: some (vI l2) :: t) ((none : Option Value).toList ++ []) (toM ρ τ) Q = (if 0 ≤ l2 ∧ l2 < 10 then (if 0 ≤ l2 ∧ l2 < 10 then (if 0 ≤ l2 ∧ l2 < 10 then G 6 0 [some (.ref 8), some (vI (ρ 44 l2)), some (vI (ρ 43 l2)), some (vI (ρ 45 l2))] [] (toM ρ τ) (fun v μ2 => G 5 68 (some (.ref 8) :: some (vI l1) :: some (vI l2) :: t) (v.toList ++ []) μ2 Q) else False) else False) else False) := by
  refine (g_aload_n d5_46 rfl rfl).trans ?_
  refine (g_aload_n d5_47 rfl rfl).trans ?_
  refine (g_getR (q := 44) d5_48 f0_15 sh_8 (by decide) rfl).trans ?_
  refine (g_iload_n d5_51 rfl).trans ?_
  refine j_iaload (v := ρ 44 l2) d5_52 sh_44 (by omega) rfl (fun q1 => ?_)
  have q2 := hB 44 l2 (by omega)
  refine (g_aload_n d5_53 rfl rfl).trans ?_
  refine (g_getR (q := 43) d5_54 f0_9 sh_8 (by decide) rfl).trans ?_
  refine (g_iload_n d5_57 rfl).trans ?_
  refine j_iaload (v := ρ 43 l2) d5_58 sh_43 (by omega) rfl (fun q3 => ?_)
  have q4 := hB 43 l2 (by omega)
  refine (g_aload_n d5_59 rfl rfl).trans ?_
  refine (g_getR (q := 45) d5_60 f0_18 sh_8 (by decide) rfl).trans ?_
  refine (g_iload_n d5_63 rfl).trans ?_
  refine j_iaload (v := ρ 45 l2) d5_64 sh_45 (by omega) rfl (fun q5 => ?_)
  have q6 := hB 45 l2 (by omega)
  exact g_cV d5_65 k0_57 rfl rfl rfl
set_option maxRecDepth 10000 in
theorem b5_68 {Q : Option Value → mm → Prop} (ρ : rm) (τ : Int64) (l1 : Int) (l2 : Int) (t : List (Option Value)) (hB : BM ρ) (h_l1 : SM l1) (h_l2 : SM l2) : G 5 68 (some (.ref 8) :: some (vI l1) :: some (vI l2) :: t) ((none : Option Value).toList ++ []) (toM ρ τ) Q = G 5 15 (some (.ref 8) :: some (vI l1) :: some (vI (l2 + 1)) :: t) [] (toM ρ τ) Q := by
  refine (j_iinc d5_68 rfl (by decide) rfl rfl).trans ?_
  refine (g_goto (tgt := 15) d5_71 (by decide)).trans ?_
  rfl
theorem d6_0 : ins 6 0 = some (.aload_n 0) := by decide +kernel
theorem d6_1 : ins 6 1 = some (.getfield 21) := by decide +kernel
theorem d6_4 : ins 6 4 = some (.iload_n 1) := by decide +kernel
theorem d6_5 : ins 6 5 = some (.iaload) := by decide +kernel
theorem d6_6 : ins 6 6 = some (.iconst (-1)) := by decide +kernel
theorem d6_7 : ins 6 7 = some (.if_icmp .eq 45) := by decide +kernel
theorem d6_10 : ins 6 10 = some (.aload_n 0) := by decide +kernel
theorem d6_11 : ins 6 11 = some (.getfield 21) := by decide +kernel
theorem d6_14 : ins 6 14 = some (.iload_n 2) := by decide +kernel
theorem d6_15 : ins 6 15 = some (.iaload) := by decide +kernel
theorem d6_16 : ins 6 16 = some (.iconst (-1)) := by decide +kernel
theorem d6_17 : ins 6 17 = some (.if_icmp .ne 35) := by decide +kernel
theorem d6_20 : ins 6 20 = some (.aload_n 0) := by decide +kernel
theorem d6_21 : ins 6 21 = some (.getfield 21) := by decide +kernel
theorem d6_24 : ins 6 24 = some (.iload_n 2) := by decide +kernel
theorem d6_25 : ins 6 25 = some (.aload_n 0) := by decide +kernel
theorem d6_26 : ins 6 26 = some (.getfield 21) := by decide +kernel
theorem d6_29 : ins 6 29 = some (.iload_n 1) := by decide +kernel
theorem d6_30 : ins 6 30 = some (.iaload) := by decide +kernel
theorem d6_31 : ins 6 31 = some (.iastore) := by decide +kernel
theorem d6_32 : ins 6 32 = some (.aload_n 0) := by decide +kernel
theorem d6_33 : ins 6 33 = some (.getfield 24) := by decide +kernel
theorem d6_36 : ins 6 36 = some (.iload_n 2) := by decide +kernel
theorem d6_37 : ins 6 37 = some (.aload_n 0) := by decide +kernel
theorem d6_38 : ins 6 38 = some (.getfield 24) := by decide +kernel
theorem d6_41 : ins 6 41 = some (.iload_n 1) := by decide +kernel
theorem d6_42 : ins 6 42 = some (.iaload) := by decide +kernel
theorem d6_43 : ins 6 43 = some (.iload_n 3) := by decide +kernel
theorem d6_44 : ins 6 44 = some (.iadd) := by decide +kernel
theorem d6_45 : ins 6 45 = some (.sipush 1440) := by decide +kernel
theorem d6_48 : ins 6 48 = some (.invokestatic 40) := by decide +kernel
theorem d6_51 : ins 6 51 = some (.iastore) := by decide +kernel
theorem d6_52 : ins 6 52 = some (.return_) := by decide +kernel
set_option maxRecDepth 10000 in
theorem b6_0 {Q : Option Value → mm → Prop} (ρ : rm) (τ : Int64) (a1 : Int) (a2 : Int) (a3 : Int) (hB : BM ρ) (h_a1 : SM a1) (h_a2 : SM a2) (h_a3 : SM a3) : G 6 0 (some (.ref 8) :: some (vI a1) :: some (vI a2) :: some (vI a3) :: []) [] (toM ρ τ) Q = (if 0 ≤ a1 ∧ a1 < 10 then (if (ρ 46 a1) = (-1) then Q none (toM ρ τ) else (if 0 ≤ a2 ∧ a2 < 10 then (if (ρ 46 a2) = (-1) then (if 0 ≤ a1 ∧ a1 < 10 then (if 0 ≤ a2 ∧ a2 < 10 then (if 0 ≤ a1 ∧ a1 < 10 then G 182 0 [some (vI ((ρ 47 a1) + a3)), some (vI 1440)] [] (toM (rup ρ 46 a2 (ρ 46 a1)) τ) (fun v μ2 => G 6 51 (some (.ref 8) :: some (vI a1) :: some (vI a2) :: some (vI a3) :: []) (v.toList ++ [vI a2, .ref 47]) μ2 Q) else False) else False) else False) else Q none (toM ρ τ)) else False)) else False) := by
  refine (g_aload_n d6_0 rfl rfl).trans ?_
  refine (g_getR (q := 46) d6_1 f0_21 sh_8 (by decide) rfl).trans ?_
  refine (g_iload_n d6_4 rfl).trans ?_
  refine j_iaload (v := ρ 46 a1) d6_5 sh_46 (by omega) rfl (fun q1 => ?_)
  have q2 := hB 46 a1 (by omega)
  refine (j_iconst d6_6).trans ?_
  refine j_icmp_eq (tgt := 52) d6_7 (by decide) (by omega) (by omega) (fun q3 => ?_) (fun q3 => ?_)
  ·
    exact g_ret d6_52 rfl
  ·
    refine (g_aload_n d6_10 rfl rfl).trans ?_
    refine (g_getR (q := 46) d6_11 f0_21 sh_8 (by decide) rfl).trans ?_
    refine (g_iload_n d6_14 rfl).trans ?_
    refine j_iaload (v := ρ 46 a2) d6_15 sh_46 (by omega) rfl (fun q4 => ?_)
    have q5 := hB 46 a2 (by omega)
    refine (j_iconst d6_16).trans ?_
    refine j_icmp_ne (tgt := 52) d6_17 (by decide) (by omega) (by omega) (fun q6 => ?_) (fun q6 => ?_)
    ·
      refine (g_aload_n d6_20 rfl rfl).trans ?_
      refine (g_getR (q := 46) d6_21 f0_21 sh_8 (by decide) rfl).trans ?_
      refine (g_iload_n d6_24 rfl).trans ?_
      refine (g_aload_n d6_25 rfl rfl).trans ?_
      refine (g_getR (q := 46) d6_26 f0_21 sh_8 (by decide) rfl).trans ?_
      refine (g_iload_n d6_29 rfl).trans ?_
      refine j_iaload (v := ρ 46 a1) d6_30 sh_46 (by omega) rfl (fun q7 => ?_)
      refine j_iastore d6_31 sh_46 (by omega) (fun q8 => ?_)
      refine (g_aload_n d6_32 rfl rfl).trans ?_
      refine (g_getR (q := 47) d6_33 f0_24 sh_8 (by decide) rfl).trans ?_
      refine (g_iload_n d6_36 rfl).trans ?_
      refine (g_aload_n d6_37 rfl rfl).trans ?_
      refine (g_getR (q := 47) d6_38 f0_24 sh_8 (by decide) rfl).trans ?_
      refine (g_iload_n d6_41 rfl).trans ?_
      refine j_iaload (v := ρ 47 a1) d6_42 sh_47 (by omega) (by simp [rup]) (fun q9 => ?_)
      have q10 := hB 47 a1 (by omega)
      refine (g_iload_n d6_43 rfl).trans ?_
      refine (j_iadd d6_44).trans ?_
      refine (j_sipush d6_45 (by decide)).trans ?_
      exact g_cS d6_48 k0_40 rfl rfl rfl
    ·
      exact g_ret d6_52 rfl
set_option maxRecDepth 10000 in
theorem b6_51 {Q : Option Value → mm → Prop} (ρ : rm) (τ : Int64) (l1 : Int) (l2 : Int) (l3 : Int) (t : List (Option Value)) (s0 : Int) (r : Int) (hB : BM ρ) (h_l1 : SM l1) (h_l2 : SM l2) (h_l3 : SM l3) (h_s0 : SM s0) (h_r : SM r) : G 6 51 (some (.ref 8) :: some (vI l1) :: some (vI l2) :: some (vI l3) :: t) ((some (vI r)).toList ++ [vI s0, .ref 47]) (toM ρ τ) Q = (if 0 ≤ s0 ∧ s0 < 10 then Q none (toM (rup ρ 47 s0 r) τ) else False) := by
  refine j_iastore d6_51 sh_47 (by omega) (fun q1 => ?_)
  exact g_ret d6_52 rfl
theorem d7_0 : ins 7 0 = some (.iconst 0) := by decide +kernel
theorem d7_1 : ins 7 1 = some (.istore_n 2) := by decide +kernel
theorem d7_2 : ins 7 2 = some (.iconst 0) := by decide +kernel
theorem d7_3 : ins 7 3 = some (.istore_n 3) := by decide +kernel
theorem d7_4 : ins 7 4 = some (.iconst 0) := by decide +kernel
theorem d7_5 : ins 7 5 = some (.istore 4) := by decide +kernel
theorem d7_7 : ins 7 7 = some (.iload 4) := by decide +kernel
theorem d7_9 : ins 7 9 = some (.aload_n 0) := by decide +kernel
theorem d7_10 : ins 7 10 = some (.getfield 27) := by decide +kernel
theorem d7_13 : ins 7 13 = some (.getfield 49) := by decide +kernel
theorem d7_16 : ins 7 16 = some (.if_icmp .ge 66) := by decide +kernel
theorem d7_19 : ins 7 19 = some (.aload_n 0) := by decide +kernel
theorem d7_20 : ins 7 20 = some (.getfield 21) := by decide +kernel
theorem d7_23 : ins 7 23 = some (.iload 4) := by decide +kernel
theorem d7_25 : ins 7 25 = some (.iaload) := by decide +kernel
theorem d7_26 : ins 7 26 = some (.iload_n 1) := by decide +kernel
theorem d7_27 : ins 7 27 = some (.if_icmp .ne 49) := by decide +kernel
theorem d7_30 : ins 7 30 = some (.iload_n 2) := by decide +kernel
theorem d7_31 : ins 7 31 = some (.iconst 1) := by decide +kernel
theorem d7_32 : ins 7 32 = some (.iload 4) := by decide +kernel
theorem d7_34 : ins 7 34 = some (.ishl) := by decide +kernel
theorem d7_35 : ins 7 35 = some (.ior) := by decide +kernel
theorem d7_36 : ins 7 36 = some (.istore_n 2) := by decide +kernel
theorem d7_37 : ins 7 37 = some (.aload_n 0) := by decide +kernel
theorem d7_38 : ins 7 38 = some (.iload 4) := by decide +kernel
theorem d7_40 : ins 7 40 = some (.invokevirtual 61) := by decide +kernel
theorem d7_43 : ins 7 43 = some (.istore 5) := by decide +kernel
theorem d7_45 : ins 7 45 = some (.iload 5) := by decide +kernel
theorem d7_47 : ins 7 47 = some (.invokestatic 64) := by decide +kernel
theorem d7_50 : ins 7 50 = some (.iload_n 3) := by decide +kernel
theorem d7_51 : ins 7 51 = some (.invokestatic 64) := by decide +kernel
theorem d7_54 : ins 7 54 = some (.isub) := by decide +kernel
theorem d7_55 : ins 7 55 = some (.istore 6) := by decide +kernel
theorem d7_57 : ins 7 57 = some (.iload 6) := by decide +kernel
theorem d7_59 : ins 7 59 = some (.ifCond .gt 14) := by decide +kernel
theorem d7_62 : ins 7 62 = some (.iload 6) := by decide +kernel
theorem d7_64 : ins 7 64 = some (.ifCond .ne 12) := by decide +kernel
theorem d7_67 : ins 7 67 = some (.iload 5) := by decide +kernel
theorem d7_69 : ins 7 69 = some (.iload_n 3) := by decide +kernel
theorem d7_70 : ins 7 70 = some (.if_icmp .le 6) := by decide +kernel
theorem d7_73 : ins 7 73 = some (.iload 5) := by decide +kernel
theorem d7_75 : ins 7 75 = some (.istore_n 3) := by decide +kernel
theorem d7_76 : ins 7 76 = some (.iinc 4 1) := by decide +kernel
theorem d7_79 : ins 7 79 = some (.goto (-72)) := by decide +kernel
theorem d7_82 : ins 7 82 = some (.iload_n 2) := by decide +kernel
theorem d7_83 : ins 7 83 = some (.iload_n 3) := by decide +kernel
theorem d7_84 : ins 7 84 = some (.iconst (-1)) := by decide +kernel
theorem d7_85 : ins 7 85 = some (.ixor) := by decide +kernel
theorem d7_86 : ins 7 86 = some (.iand) := by decide +kernel
theorem d7_87 : ins 7 87 = some (.ireturn) := by decide +kernel
set_option maxRecDepth 10000 in
theorem b7_0 {Q : Option Value → mm → Prop} (ρ : rm) (τ : Int64) (a1 : Int) (hB : BM ρ) (h_a1 : SM a1) : G 7 0 (some (.ref 8) :: some (vI a1) :: []) [] (toM ρ τ) Q = G 7 7 (some (.ref 8) :: some (vI a1) :: some (vI 0) :: some (vI 0) :: some (vI 0) :: []) [] (toM ρ τ) Q := by
  refine (j_iconst d7_0).trans ?_
  refine (g_istore_n d7_1 (by decide) rfl rfl).trans ?_
  refine (j_iconst d7_2).trans ?_
  refine (g_istore_n d7_3 (by decide) rfl rfl).trans ?_
  refine (j_iconst d7_4).trans ?_
  refine (g_istore d7_5 (by decide) rfl rfl).trans ?_
  rfl
set_option maxRecDepth 10000 in
theorem b7_7 {Q : Option Value → mm → Prop} (ρ : rm) (τ : Int64) (l1 : Int) (l2 : Int) (l3 : Int) (l4 : Int) (t : List (Option Value)) (hB : BM ρ) (h_l1 : SM l1) (h_l2 : SM l2) (h_l3 : SM l3) (h_l4 : SM l4) : G 7 7 (some (.ref 8) :: some (vI l1) :: some (vI l2) :: some (vI l3) :: some (vI l4) :: t) [] (toM ρ τ) Q = (if (ρ 1 1) ≤ l4 then Q (some (vI ((iI l2 &&& iI ((iI l3 ^^^ iI (-1)).toInt)).toInt))) (toM ρ τ) else (if 0 ≤ l4 ∧ l4 < 10 then (if (ρ 46 l4) = l1 then G 8 0 [some (.ref 8), some (vI l4)] [] (toM ρ τ) (fun v μ2 => G 7 43 (some (.ref 8) :: some (vI l1) :: some (vI ((iI l2 ||| iI ((iI 1 <<< (iI l4 &&& 31)).toInt)).toInt)) :: some (vI l3) :: some (vI l4) :: t) (v.toList ++ []) μ2 Q) else G 7 7 (some (.ref 8) :: some (vI l1) :: some (vI l2) :: some (vI l3) :: some (vI (l4 + 1)) :: t) [] (toM ρ τ) Q) else False)) := by
  refine (g_iload d7_7 rfl).trans ?_
  refine (g_aload_n d7_9 rfl rfl).trans ?_
  refine (g_getR (q := 1) d7_10 f0_27 sh_8 (by decide) rfl).trans ?_
  refine (j_getI (v := ρ 1 1) d7_13 f0_49 sh_1 (by decide) rfl rfl).trans ?_
  have q1 := hB 1 1 (by decide)
  refine j_icmp_ge (tgt := 82) d7_16 (by decide) (by omega) (by omega) (fun q2 => ?_) (fun q2 => ?_)
  ·
    refine (g_iload_n d7_82 rfl).trans ?_
    refine (g_iload_n d7_83 rfl).trans ?_
    refine (j_iconst d7_84).trans ?_
    refine (j_ixor d7_85).trans ?_
    have q3 := SB_of (iI l3 ^^^ iI (-1))
    refine (j_iand d7_86).trans ?_
    have q4 := SB_of (iI l2 &&& iI ((iI l3 ^^^ iI (-1)).toInt))
    exact g_iret d7_87 rfl rfl
  ·
    refine (g_aload_n d7_19 rfl rfl).trans ?_
    refine (g_getR (q := 46) d7_20 f0_21 sh_8 (by decide) rfl).trans ?_
    refine (g_iload d7_23 rfl).trans ?_
    refine j_iaload (v := ρ 46 l4) d7_25 sh_46 (by omega) rfl (fun q5 => ?_)
    have q6 := hB 46 l4 (by omega)
    refine (g_iload_n d7_26 rfl).trans ?_
    refine j_icmp_ne (tgt := 76) d7_27 (by decide) (by omega) (by omega) (fun q7 => ?_) (fun q7 => ?_)
    ·
      refine (g_iload_n d7_30 rfl).trans ?_
      refine (j_iconst d7_31).trans ?_
      refine (g_iload d7_32 rfl).trans ?_
      refine (j_ishl d7_34).trans ?_
      have q8 := SB_of (iI 1 <<< (iI l4 &&& 31))
      refine (j_ior d7_35).trans ?_
      have q9 := SB_of (iI l2 ||| iI ((iI 1 <<< (iI l4 &&& 31)).toInt))
      refine (g_istore_n d7_36 (by decide) rfl rfl).trans ?_
      refine (g_aload_n d7_37 rfl rfl).trans ?_
      refine (g_iload d7_38 rfl).trans ?_
      exact g_cV d7_40 k0_61 rfl rfl rfl
    ·
      refine (j_iinc d7_76 rfl (by decide) rfl rfl).trans ?_
      refine (g_goto (tgt := 7) d7_79 (by decide)).trans ?_
      rfl
set_option maxRecDepth 10000 in
theorem b7_43 {Q : Option Value → mm → Prop} (ρ : rm) (τ : Int64) (l1 : Int) (l2 : Int) (l3 : Int) (l4 : Int) (t : List (Option Value)) (r : Int) (hB : BM ρ) (h_l1 : SM l1) (h_l2 : SM l2) (h_l3 : SM l3) (h_l4 : SM l4) (h_r : SM r) : G 7 43 (some (.ref 8) :: some (vI l1) :: some (vI l2) :: some (vI l3) :: some (vI l4) :: t) ((some (vI r)).toList ++ []) (toM ρ τ) Q = G 180 0 [some (vI r)] [] (toM ρ τ) (fun v μ2 => G 7 50 (some (.ref 8) :: some (vI l1) :: some (vI l2) :: some (vI l3) :: some (vI l4) :: some (vI r) :: t.tail) (v.toList ++ []) μ2 Q) := by
  refine (g_istore d7_43 (by decide) rfl rfl).trans ?_
  refine (g_iload d7_45 rfl).trans ?_
  exact g_cS d7_47 k0_64 rfl rfl rfl
set_option maxRecDepth 10000 in
theorem b7_50 {Q : Option Value → mm → Prop} (ρ : rm) (τ : Int64) (l1 : Int) (l2 : Int) (l3 : Int) (l4 : Int) (l5 : Int) (t : List (Option Value)) (r : Int) (hB : BM ρ) (h_l1 : SM l1) (h_l2 : SM l2) (h_l3 : SM l3) (h_l4 : SM l4) (h_l5 : SM l5) (h_r : SM r) : G 7 50 (some (.ref 8) :: some (vI l1) :: some (vI l2) :: some (vI l3) :: some (vI l4) :: some (vI l5) :: t) ((some (vI r)).toList ++ []) (toM ρ τ) Q = G 180 0 [some (vI l3)] [] (toM ρ τ) (fun v μ2 => G 7 54 (some (.ref 8) :: some (vI l1) :: some (vI l2) :: some (vI l3) :: some (vI l4) :: some (vI l5) :: t) (v.toList ++ [vI r]) μ2 Q) := by
  refine (g_iload_n d7_50 rfl).trans ?_
  exact g_cS d7_51 k0_64 rfl rfl rfl
set_option maxRecDepth 10000 in
theorem b7_54 {Q : Option Value → mm → Prop} (ρ : rm) (τ : Int64) (l1 : Int) (l2 : Int) (l3 : Int) (l4 : Int) (l5 : Int) (t : List (Option Value)) (s0 : Int) (r : Int) (hB : BM ρ) (h_l1 : SM l1) (h_l2 : SM l2) (h_l3 : SM l3) (h_l4 : SM l4) (h_l5 : SM l5) (h_s0 : SM s0) (h_r : SM r) : G 7 54 (some (.ref 8) :: some (vI l1) :: some (vI l2) :: some (vI l3) :: some (vI l4) :: some (vI l5) :: t) ((some (vI r)).toList ++ [vI s0]) (toM ρ τ) Q = (if 0 < (s0 - r) then G 7 7 (some (.ref 8) :: some (vI l1) :: some (vI l2) :: some (vI l5) :: some (vI (l4 + 1)) :: some (vI l5) :: some (vI (s0 - r)) :: t.tail) [] (toM ρ τ) Q else (if (s0 - r) = 0 then (if l5 ≤ l3 then G 7 7 (some (.ref 8) :: some (vI l1) :: some (vI l2) :: some (vI l3) :: some (vI (l4 + 1)) :: some (vI l5) :: some (vI (s0 - r)) :: t.tail) [] (toM ρ τ) Q else G 7 7 (some (.ref 8) :: some (vI l1) :: some (vI l2) :: some (vI l5) :: some (vI (l4 + 1)) :: some (vI l5) :: some (vI (s0 - r)) :: t.tail) [] (toM ρ τ) Q) else G 7 7 (some (.ref 8) :: some (vI l1) :: some (vI l2) :: some (vI l3) :: some (vI (l4 + 1)) :: some (vI l5) :: some (vI (s0 - r)) :: t.tail) [] (toM ρ τ) Q)) := by
  refine (j_isub d7_54).trans ?_
  refine (g_istore d7_55 (by decide) rfl rfl).trans ?_
  refine (g_iload d7_57 rfl).trans ?_
  refine j_if_gt (tgt := 73) d7_59 (by decide) (by omega) (fun q1 => ?_) (fun q1 => ?_)
  ·
    refine (g_iload d7_73 rfl).trans ?_
    refine (g_istore_n d7_75 (by decide) rfl rfl).trans ?_
    refine (j_iinc d7_76 rfl (by decide) rfl rfl).trans ?_
    refine (g_goto (tgt := 7) d7_79 (by decide)).trans ?_
    rfl
  ·
    refine (g_iload d7_62 rfl).trans ?_
    refine j_if_ne (tgt := 76) d7_64 (by decide) (by omega) (fun q2 => ?_) (fun q2 => ?_)
    ·
      refine (g_iload d7_67 rfl).trans ?_
      refine (g_iload_n d7_69 rfl).trans ?_
      refine j_icmp_le (tgt := 76) d7_70 (by decide) (by omega) (by omega) (fun q3 => ?_) (fun q3 => ?_)
      ·
        refine (j_iinc d7_76 rfl (by decide) rfl rfl).trans ?_
        refine (g_goto (tgt := 7) d7_79 (by decide)).trans ?_
        rfl
      ·
        refine (g_iload d7_73 rfl).trans ?_
        refine (g_istore_n d7_75 (by decide) rfl rfl).trans ?_
        refine (j_iinc d7_76 rfl (by decide) rfl rfl).trans ?_
        refine (g_goto (tgt := 7) d7_79 (by decide)).trans ?_
        rfl
    ·
      refine (j_iinc d7_76 rfl (by decide) rfl rfl).trans ?_
      refine (g_goto (tgt := 7) d7_79 (by decide)).trans ?_
      rfl
theorem d8_0 : ins 8 0 = some (.iconst 0) := by decide +kernel
theorem d8_1 : ins 8 1 = some (.istore_n 2) := by decide +kernel
theorem d8_2 : ins 8 2 = some (.iconst 0) := by decide +kernel
theorem d8_3 : ins 8 3 = some (.istore_n 3) := by decide +kernel
theorem d8_4 : ins 8 4 = some (.iload_n 3) := by decide +kernel
theorem d8_5 : ins 8 5 = some (.aload_n 0) := by decide +kernel
theorem d8_6 : ins 8 6 = some (.getfield 27) := by decide +kernel
theorem d8_9 : ins 8 9 = some (.getfield 49) := by decide +kernel
theorem d8_12 : ins 8 12 = some (.if_icmp .ge 45) := by decide +kernel
theorem d8_15 : ins 8 15 = some (.aload_n 0) := by decide +kernel
theorem d8_16 : ins 8 16 = some (.getfield 21) := by decide +kernel
theorem d8_19 : ins 8 19 = some (.iload_n 3) := by decide +kernel
theorem d8_20 : ins 8 20 = some (.iaload) := by decide +kernel
theorem d8_21 : ins 8 21 = some (.aload_n 0) := by decide +kernel
theorem d8_22 : ins 8 22 = some (.getfield 21) := by decide +kernel
theorem d8_25 : ins 8 25 = some (.iload_n 1) := by decide +kernel
theorem d8_26 : ins 8 26 = some (.iaload) := by decide +kernel
theorem d8_27 : ins 8 27 = some (.if_icmp .ne 24) := by decide +kernel
theorem d8_30 : ins 8 30 = some (.aload_n 0) := by decide +kernel
theorem d8_31 : ins 8 31 = some (.getfield 24) := by decide +kernel
theorem d8_34 : ins 8 34 = some (.iload_n 3) := by decide +kernel
theorem d8_35 : ins 8 35 = some (.iaload) := by decide +kernel
theorem d8_36 : ins 8 36 = some (.aload_n 0) := by decide +kernel
theorem d8_37 : ins 8 37 = some (.getfield 24) := by decide +kernel
theorem d8_40 : ins 8 40 = some (.iload_n 1) := by decide +kernel
theorem d8_41 : ins 8 41 = some (.iaload) := by decide +kernel
theorem d8_42 : ins 8 42 = some (.if_icmp .ne 9) := by decide +kernel
theorem d8_45 : ins 8 45 = some (.iload_n 2) := by decide +kernel
theorem d8_46 : ins 8 46 = some (.iconst 1) := by decide +kernel
theorem d8_47 : ins 8 47 = some (.iload_n 3) := by decide +kernel
theorem d8_48 : ins 8 48 = some (.ishl) := by decide +kernel
theorem d8_49 : ins 8 49 = some (.ior) := by decide +kernel
theorem d8_50 : ins 8 50 = some (.istore_n 2) := by decide +kernel
theorem d8_51 : ins 8 51 = some (.iinc 3 1) := by decide +kernel
theorem d8_54 : ins 8 54 = some (.goto (-50)) := by decide +kernel
theorem d8_57 : ins 8 57 = some (.iload_n 2) := by decide +kernel
theorem d8_58 : ins 8 58 = some (.ireturn) := by decide +kernel
set_option maxRecDepth 10000 in
theorem b8_0 {Q : Option Value → mm → Prop} (ρ : rm) (τ : Int64) (a1 : Int) (hB : BM ρ) (h_a1 : SM a1) : G 8 0 (some (.ref 8) :: some (vI a1) :: []) [] (toM ρ τ) Q = G 8 4 (some (.ref 8) :: some (vI a1) :: some (vI 0) :: some (vI 0) :: []) [] (toM ρ τ) Q := by
  refine (j_iconst d8_0).trans ?_
  refine (g_istore_n d8_1 (by decide) rfl rfl).trans ?_
  refine (j_iconst d8_2).trans ?_
  refine (g_istore_n d8_3 (by decide) rfl rfl).trans ?_
  rfl
set_option maxRecDepth 10000 in
theorem b8_4 {Q : Option Value → mm → Prop} (ρ : rm) (τ : Int64) (l1 : Int) (l2 : Int) (l3 : Int) (t : List (Option Value)) (hB : BM ρ) (h_l1 : SM l1) (h_l2 : SM l2) (h_l3 : SM l3) : G 8 4 (some (.ref 8) :: some (vI l1) :: some (vI l2) :: some (vI l3) :: t) [] (toM ρ τ) Q = (if (ρ 1 1) ≤ l3 then Q (some (vI l2)) (toM ρ τ) else (if 0 ≤ l3 ∧ l3 < 10 then (if 0 ≤ l1 ∧ l1 < 10 then (if (ρ 46 l3) = (ρ 46 l1) then (if 0 ≤ l3 ∧ l3 < 10 then (if 0 ≤ l1 ∧ l1 < 10 then (if (ρ 47 l3) = (ρ 47 l1) then G 8 4 (some (.ref 8) :: some (vI l1) :: some (vI ((iI l2 ||| iI ((iI 1 <<< (iI l3 &&& 31)).toInt)).toInt)) :: some (vI (l3 + 1)) :: t) [] (toM ρ τ) Q else G 8 4 (some (.ref 8) :: some (vI l1) :: some (vI l2) :: some (vI (l3 + 1)) :: t) [] (toM ρ τ) Q) else False) else False) else G 8 4 (some (.ref 8) :: some (vI l1) :: some (vI l2) :: some (vI (l3 + 1)) :: t) [] (toM ρ τ) Q) else False) else False)) := by
  refine (g_iload_n d8_4 rfl).trans ?_
  refine (g_aload_n d8_5 rfl rfl).trans ?_
  refine (g_getR (q := 1) d8_6 f0_27 sh_8 (by decide) rfl).trans ?_
  refine (j_getI (v := ρ 1 1) d8_9 f0_49 sh_1 (by decide) rfl rfl).trans ?_
  have q1 := hB 1 1 (by decide)
  refine j_icmp_ge (tgt := 57) d8_12 (by decide) (by omega) (by omega) (fun q2 => ?_) (fun q2 => ?_)
  ·
    refine (g_iload_n d8_57 rfl).trans ?_
    exact g_iret d8_58 rfl rfl
  ·
    refine (g_aload_n d8_15 rfl rfl).trans ?_
    refine (g_getR (q := 46) d8_16 f0_21 sh_8 (by decide) rfl).trans ?_
    refine (g_iload_n d8_19 rfl).trans ?_
    refine j_iaload (v := ρ 46 l3) d8_20 sh_46 (by omega) rfl (fun q3 => ?_)
    have q4 := hB 46 l3 (by omega)
    refine (g_aload_n d8_21 rfl rfl).trans ?_
    refine (g_getR (q := 46) d8_22 f0_21 sh_8 (by decide) rfl).trans ?_
    refine (g_iload_n d8_25 rfl).trans ?_
    refine j_iaload (v := ρ 46 l1) d8_26 sh_46 (by omega) rfl (fun q5 => ?_)
    have q6 := hB 46 l1 (by omega)
    refine j_icmp_ne (tgt := 51) d8_27 (by decide) (by omega) (by omega) (fun q7 => ?_) (fun q7 => ?_)
    ·
      refine (g_aload_n d8_30 rfl rfl).trans ?_
      refine (g_getR (q := 47) d8_31 f0_24 sh_8 (by decide) rfl).trans ?_
      refine (g_iload_n d8_34 rfl).trans ?_
      refine j_iaload (v := ρ 47 l3) d8_35 sh_47 (by omega) rfl (fun q8 => ?_)
      have q9 := hB 47 l3 (by omega)
      refine (g_aload_n d8_36 rfl rfl).trans ?_
      refine (g_getR (q := 47) d8_37 f0_24 sh_8 (by decide) rfl).trans ?_
      refine (g_iload_n d8_40 rfl).trans ?_
      refine j_iaload (v := ρ 47 l1) d8_41 sh_47 (by omega) rfl (fun q10 => ?_)
      have q11 := hB 47 l1 (by omega)
      refine j_icmp_ne (tgt := 51) d8_42 (by decide) (by omega) (by omega) (fun q12 => ?_) (fun q12 => ?_)
      ·
        refine (g_iload_n d8_45 rfl).trans ?_
        refine (j_iconst d8_46).trans ?_
        refine (g_iload_n d8_47 rfl).trans ?_
        refine (j_ishl d8_48).trans ?_
        have q13 := SB_of (iI 1 <<< (iI l3 &&& 31))
        refine (j_ior d8_49).trans ?_
        have q14 := SB_of (iI l2 ||| iI ((iI 1 <<< (iI l3 &&& 31)).toInt))
        refine (g_istore_n d8_50 (by decide) rfl rfl).trans ?_
        refine (j_iinc d8_51 rfl (by decide) rfl rfl).trans ?_
        refine (g_goto (tgt := 4) d8_54 (by decide)).trans ?_
        rfl
      ·
        refine (j_iinc d8_51 rfl (by decide) rfl rfl).trans ?_
        refine (g_goto (tgt := 4) d8_54 (by decide)).trans ?_
        rfl
    ·
      refine (j_iinc d8_51 rfl (by decide) rfl rfl).trans ?_
      refine (g_goto (tgt := 4) d8_54 (by decide)).trans ?_
      rfl
