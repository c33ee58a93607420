/-! blocks of the small machine (wip/gen/gen_blocks.py) -/
theorem d81_0 : ins 81 0 = some (.iload_n 3) := by decide +kernel
theorem d81_1 : ins 81 1 = some (.iconst 1) := by decide +kernel
theorem d81_2 : ins 81 2 = some (.if_icmp .lt 9) := by decide +kernel
theorem d81_5 : ins 81 5 = some (.iload_n 3) := by decide +kernel
theorem d81_6 : ins 81 6 = some (.bipush 8) := by decide +kernel
theorem d81_8 : ins 81 8 = some (.if_icmp .le 6) := by decide +kernel
theorem d81_11 : ins 81 11 = some (.bipush (-3)) := by decide +kernel
theorem d81_13 : ins 81 13 = some (.ireturn) := by decide +kernel
theorem d81_14 : ins 81 14 = some (.aload_n 0) := by decide +kernel
theorem d81_15 : ins 81 15 = some (.getfield 35) := by decide +kernel
theorem d81_18 : ins 81 18 = some (.lload_n 1) := by decide +kernel
theorem d81_19 : ins 81 19 = some (.iload_n 3) := by decide +kernel
theorem d81_20 : ins 81 20 = some (.invokevirtual 76) := by decide +kernel
theorem d81_23 : ins 81 23 = some (.ireturn) := by decide +kernel
set_option maxRecDepth 10000 in
theorem b81_0 {Q : Option Value → mm → Prop} (ρ : rm) (τ : Int64) (a1 : Int64) (a2 : Int) (hB : BM ρ) (h_a2 : SB a2) : G 81 0 (some (.ref 0) :: some (.long a1) :: none :: some (vI a2) :: []) [] (toM ρ τ) Q = (if a2 < 1 then Q (some (vI (-3))) (toM ρ τ) else (if a2 ≤ 8 then G 69 0 [some (.ref 4), some (.long a1), none, some (vI a2)] [] (toM ρ τ) (fun v μ2 => G 81 23 (some (.ref 0) :: some (.long a1) :: none :: some (vI a2) :: []) (v.toList ++ []) μ2 Q) else Q (some (vI (-3))) (toM ρ τ))) := by
  refine (g_iload_n d81_0 rfl).trans ?_
  refine (j_iconst d81_1).trans ?_
  refine j_icmp_lt (tgt := 11) d81_2 (by decide) (by omega) (by omega) (fun q1 => ?_) (fun q1 => ?_)
  ·
    refine (j_bipush d81_11 (by decide)).trans ?_
    exact g_iret d81_13 rfl rfl
  ·
    refine (g_iload_n d81_5 rfl).trans ?_
    refine (j_bipush d81_6 (by decide)).trans ?_
    refine j_icmp_le (tgt := 14) d81_8 (by decide) (by omega) (by omega) (fun q2 => ?_) (fun q2 => ?_)
    ·
      refine (g_aload_n d81_14 rfl rfl).trans ?_
      refine (g_getR (q := 4) d81_15 f9_35 sh_0 (by decide) rfl).trans ?_
      refine (g_lload_n d81_18 rfl).trans ?_
      refine (g_iload_n d81_19 rfl).trans ?_
      exact g_cV d81_20 k9_76 rfl rfl rfl
    ·
      refine (j_bipush d81_11 (by decide)).trans ?_
      exact g_iret d81_13 rfl rfl
set_option maxRecDepth 10000 in
theorem b81_23 {Q : Option Value → mm → Prop} (ρ : rm) (τ : Int64) (l1 : Int64) (l3 : Int) (t : List (Option Value)) (r : Int) (hB : BM ρ) (h_l3 : SB l3) (h_r : SM r) : G 81 23 (some (.ref 0) :: some (.long l1) :: none :: some (vI l3) :: t) ((some (vI r)).toList ++ []) (toM ρ τ) Q = Q (some (vI r)) (toM ρ τ) := by
  exact g_iret d81_23 rfl rfl
theorem d82_0 : ins 82 0 = some (.aload_n 0) := by decide +kernel
theorem d82_1 : ins 82 1 = some (.getfield 35) := by decide +kernel
theorem d82_4 : ins 82 4 = some (.invokevirtual 80) := by decide +kernel
theorem d82_7 : ins 82 7 = some (.ireturn) := by decide +kernel
set_option maxRecDepth 10000 in
theorem b82_0 {Q : Option Value → mm → Prop} (ρ : rm) (τ : Int64)  (hB : BM ρ)  : G 82 0 (some (.ref 0) :: []) [] (toM ρ τ) Q = G 70 0 [some (.ref 4)] [] (toM ρ τ) (fun v μ2 => G 82 7 (some (.ref 0) :: []) (v.toList ++ []) μ2 Q) := by
  refine (g_aload_n d82_0 rfl rfl).trans ?_
  refine (g_getR (q := 4) d82_1 f9_35 sh_0 (by decide) rfl).trans ?_
  exact g_cV d82_4 k9_80 rfl rfl rfl
set_option maxRecDepth 10000 in
theorem b82_7 {Q : Option Value → mm → Prop} (ρ : rm) (τ : Int64) (t : List (Option Value)) (r : Int) (hB : BM ρ) (h_r : SM r) : G 82 7 (some (.ref 0) :: t) ((some (vI r)).toList ++ []) (toM ρ τ) Q = Q (some (vI r)) (toM ρ τ) := by
  exact g_iret d82_7 rfl rfl
theorem d83_0 : ins 83 0 = some (.aload_n 0) := by decide +kernel
theorem d83_1 : ins 83 1 = some (.getfield 44) := by decide +kernel
theorem d83_4 : ins 83 4 = some (.aload_n 0) := by decide +kernel
theorem d83_5 : ins 83 5 = some (.getfield 10) := by decide +kernel
theorem d83_8 : ins 83 8 = some (.getfield 84) := by decide +kernel
theorem d83_11 : ins 83 11 = some (.aload_n 0) := by decide +kernel
theorem d83_12 : ins 83 12 = some (.getfield 10) := by decide +kernel
theorem d83_15 : ins 83 15 = some (.getfield 88) := by decide +kernel
theorem d83_18 : ins 83 18 = some (.aload_n 0) := by decide +kernel
theorem d83_19 : ins 83 19 = some (.getfield 21) := by decide +kernel
theorem d83_22 : ins 83 22 = some (.getfield 91) := by decide +kernel
theorem d83_25 : ins 83 25 = some (.aload_n 0) := by decide +kernel
theorem d83_26 : ins 83 26 = some (.getfield 28) := by decide +kernel
theorem d83_29 : ins 83 29 = some (.getfield 92) := by decide +kernel
theorem d83_32 : ins 83 32 = some (.invokevirtual 93) := by decide +kernel
theorem d83_35 : ins 83 35 = some (.ireturn) := by decide +kernel
set_option maxRecDepth 10000 in
theorem b83_0 {Q : Option Value → mm → Prop} (ρ : rm) (τ : Int64)  (hB : BM ρ)  : G 83 0 (some (.ref 0) :: []) [] (toM ρ τ) Q = G 43 0 [some (.ref 5), some (vI (ρ 1 1)), some (vI (ρ 1 2)), some (vI (ρ 2 4)), some (vI (ρ 3 0))] [] (toM ρ τ) (fun v μ2 => G 83 35 (some (.ref 0) :: []) (v.toList ++ []) μ2 Q) := by
  refine (g_aload_n d83_0 rfl rfl).trans ?_
  refine (g_getR (q := 5) d83_1 f9_44 sh_0 (by decide) rfl).trans ?_
  refine (g_aload_n d83_4 rfl rfl).trans ?_
  refine (g_getR (q := 1) d83_5 f9_10 sh_0 (by decide) rfl).trans ?_
  refine (j_getI (v := ρ 1 1) d83_8 f9_84 sh_1 (by decide) rfl rfl).trans ?_
  have q1 := hB 1 1 (by decide)
  refine (g_aload_n d83_11 rfl rfl).trans ?_
  refine (g_getR (q := 1) d83_12 f9_10 sh_0 (by decide) rfl).trans ?_
  refine (j_getI (v := ρ 1 2) d83_15 f9_88 sh_1 (by decide) rfl rfl).trans ?_
  have q2 := hB 1 2 (by decide)
  refine (g_aload_n d83_18 rfl rfl).trans ?_
  refine (g_getR (q := 2) d83_19 f9_21 sh_0 (by decide) rfl).trans ?_
  refine (j_getI (v := ρ 2 4) d83_22 f9_91 sh_2 (by decide) rfl rfl).trans ?_
  have q3 := hB 2 4 (by decide)
  refine (g_aload_n d83_25 rfl rfl).trans ?_
  refine (g_getR (q := 3) d83_26 f9_28 sh_0 (by decide) rfl).trans ?_
  refine (j_getI (v := ρ 3 0) d83_29 f9_92 sh_3 (by decide) rfl rfl).trans ?_
  have q4 := hB 3 0 (by decide)
  exact g_cV d83_32 k9_93 rfl rfl rfl
set_option maxRecDepth 10000 in
theorem b83_35 {Q : Option Value → mm → Prop} (ρ : rm) (τ : Int64) (t : List (Option Value)) (r : Int) (hB : BM ρ) (h_r : SM r) : G 83 35 (some (.ref 0) :: t) ((some (vI r)).toList ++ []) (toM ρ τ) Q = Q (some (vI r)) (toM ρ τ) := by
  exact g_iret d83_35 rfl rfl
theorem d84_0 : ins 84 0 = some (.aload_n 0) := by decide +kernel
theorem d84_1 : ins 84 1 = some (.getfield 44) := by decide +kernel
theorem d84_4 : ins 84 4 = some (.aload_n 0) := by decide +kernel
theorem d84_5 : ins 84 5 = some (.getfield 10) := by decide +kernel
theorem d84_8 : ins 84 8 = some (.getfield 84) := by decide +kernel
theorem d84_11 : ins 84 11 = some (.aload_n 0) := by decide +kernel
theorem d84_12 : ins 84 12 = some (.getfield 10) := by decide +kernel
theorem d84_15 : ins 84 15 = some (.getfield 88) := by decide +kernel
theorem d84_18 : ins 84 18 = some (.aload_n 0) := by decide +kernel
theorem d84_19 : ins 84 19 = some (.getfield 21) := by decide +kernel
theorem d84_22 : ins 84 22 = some (.getfield 91) := by decide +kernel
theorem d84_25 : ins 84 25 = some (.aload_n 0) := by decide +kernel
theorem d84_26 : ins 84 26 = some (.getfield 28) := by decide +kernel
theorem d84_29 : ins 84 29 = some (.getfield 92) := by decide +kernel
theorem d84_32 : ins 84 32 = some (.invokevirtual 93) := by decide +kernel
theorem d84_35 : ins 84 35 = some (.iconst (-1)) := by decide +kernel
theorem d84_36 : ins 84 36 = some (.if_icmp .eq 6) := by decide +kernel
theorem d84_39 : ins 84 39 = some (.bipush (-4)) := by decide +kernel
theorem d84_41 : ins 84 41 = some (.ireturn) := by decide +kernel
theorem d84_42 : ins 84 42 = some (.iconst 0) := by decide +kernel
theorem d84_43 : ins 84 43 = some (.istore_n 1) := by decide +kernel
theorem d84_44 : ins 84 44 = some (.iload_n 1) := by decide +kernel
theorem d84_45 : ins 84 45 = some (.aload_n 0) := by decide +kernel
theorem d84_46 : ins 84 46 = some (.getfield 44) := by decide +kernel
theorem d84_49 : ins 84 49 = some (.getfield 97) := by decide +kernel
theorem d84_52 : ins 84 52 = some (.if_icmp .ge 14) := by decide +kernel
theorem d84_55 : ins 84 55 = some (.aload_n 0) := by decide +kernel
theorem d84_56 : ins 84 56 = some (.iload_n 1) := by decide +kernel
theorem d84_57 : ins 84 57 = some (.invokevirtual 100) := by decide +kernel
theorem d84_60 : ins 84 60 = some (.iinc 1 1) := by decide +kernel
theorem d84_63 : ins 84 63 = some (.goto (-19)) := by decide +kernel
theorem d84_66 : ins 84 66 = some (.aload_n 0) := by decide +kernel
theorem d84_67 : ins 84 67 = some (.getfield 10) := by decide +kernel
theorem d84_70 : ins 84 70 = some (.invokevirtual 104) := by decide +kernel
theorem d84_73 : ins 84 73 = some (.aload_n 0) := by decide +kernel
theorem d84_74 : ins 84 74 = some (.getfield 21) := by decide +kernel
theorem d84_77 : ins 84 77 = some (.invokevirtual 107) := by decide +kernel
theorem d84_80 : ins 84 80 = some (.aload_n 0) := by decide +kernel
theorem d84_81 : ins 84 81 = some (.getfield 35) := by decide +kernel
theorem d84_84 : ins 84 84 = some (.invokevirtual 80) := by decide +kernel
theorem d84_87 : ins 84 87 = some (.pop) := by decide +kernel
theorem d84_88 : ins 84 88 = some (.aload_n 0) := by decide +kernel
theorem d84_89 : ins 84 89 = some (.getfield 51) := by decide +kernel
theorem d84_92 : ins 84 92 = some (.invokevirtual 108) := by decide +kernel
theorem d84_95 : ins 84 95 = some (.aload_n 0) := by decide +kernel
theorem d84_96 : ins 84 96 = some (.getfield 58) := by decide +kernel
theorem d84_99 : ins 84 99 = some (.invokevirtual 111) := by decide +kernel
theorem d84_102 : ins 84 102 = some (.pop) := by decide +kernel
theorem d84_103 : ins 84 103 = some (.aload_n 0) := by decide +kernel
theorem d84_104 : ins 84 104 = some (.getfield 65) := by decide +kernel
theorem d84_107 : ins 84 107 = some (.invokevirtual 112) := by decide +kernel
theorem d84_110 : ins 84 110 = some (.pop) := by decide +kernel
theorem d84_111 : ins 84 111 = some (.aload_n 0) := by decide +kernel
theorem d84_112 : ins 84 112 = some (.getfield 72) := by decide +kernel
theorem d84_115 : ins 84 115 = some (.invokevirtual 113) := by decide +kernel
theorem d84_118 : ins 84 118 = some (.pop) := by decide +kernel
theorem d84_119 : ins 84 119 = some (.aload_n 0) := by decide +kernel
theorem d84_120 : ins 84 120 = some (.getfield 44) := by decide +kernel
theorem d84_123 : ins 84 123 = some (.getfield 97) := by decide +kernel
theorem d84_126 : ins 84 126 = some (.ireturn) := by decide +kernel
set_option maxRecDepth 10000 in
theorem b84_0 {Q : Option Value → mm → Prop} (ρ : rm) (τ : Int64)  (hB : BM ρ)  : G 84 0 (some (.ref 0) :: []) [] (toM ρ τ) Q = G 43 0 [some (.ref 5), some (vI (ρ 1 1)), some (vI (ρ 1 2)), some (vI (ρ 2 4)), some (vI (ρ 3 0))] [] (toM ρ τ) (fun v μ2 => G 84 35 (some (.ref 0) :: []) (v.toList ++ []) μ2 Q) := by
  refine (g_aload_n d84_0 rfl rfl).trans ?_
  refine (g_getR (q := 5) d84_1 f9_44 sh_0 (by decide) rfl).trans ?_
  refine (g_aload_n d84_4 rfl rfl).trans ?_
  refine (g_getR (q := 1) d84_5 f9_10 sh_0 (by decide) rfl).trans ?_
  refine (j_getI (v := ρ 1 1) d84_8 f9_84 sh_1 (by decide) rfl rfl).trans ?_
  have q1 := hB 1 1 (by decide)
  refine (g_aload_n d84_11 rfl rfl).trans ?_
  refine (g_getR (q := 1) d84_12 f9_10 sh_0 (by decide) rfl).trans ?_
  refine (j_getI (v := ρ 1 2) d84_15 f9_88 sh_1 (by decide) rfl rfl).trans ?_
  have q2 := hB 1 2 (by decide)
  refine (g_aload_n d84_18 rfl rfl).trans ?_
  refine (g_getR (q := 2) d84_19 f9_21 sh_0 (by decide) rfl).trans ?_
  refine (j_getI (v := ρ 2 4) d84_22 f9_91 sh_2 (by decide) rfl rfl).trans ?_
  have q3 := hB 2 4 (by decide)
  refine (g_aload_n d84_25 rfl rfl).trans ?_
  refine (g_getR (q := 3) d84_26 f9_28 sh_0 (by decide) rfl).trans ?_
  refine (j_getI (v := ρ 3 0) d84_29 f9_92 sh_3 (by decide) rfl rfl).trans ?_
  have q4 := hB 3 0 (by decide)
  exact g_cV d84_32 k9_93 rfl rfl rfl
set_option maxRecDepth 10000 in
theorem b84_35 {Q : Option Value → mm → Prop} (ρ : rm) (τ : Int64) (t : List (Option Value)) (r : Int) (hB : BM ρ) (h_r : SM r) : G 84 35 (some (.ref 0) :: t) ((some (vI r)).toList ++ []) (toM ρ τ) Q = (if r = (-1) then G 84 44 (some (.ref 0) :: some (vI 0) :: t.tail) [] (toM ρ τ) Q else Q (some (vI (-4))) (toM ρ τ)) := by
  refine (j_iconst d84_35).trans ?_
  refine j_icmp_eq (tgt := 42) d84_36 (by decide) (by omega) (by omega) (fun q1 => ?_) (fun q1 => ?_)
  ·
    refine (j_iconst d84_42).trans ?_
    refine (g_istore_n d84_43 (by decide) rfl rfl).trans ?_
    rfl
  ·
    refine (j_bipush d84_39 (by decide)).trans ?_
    exact g_iret d84_41 rfl rfl
set_option maxRecDepth 10000 in
theorem b84_44 {Q : Option Value → mm → Prop} (ρ : rm) (τ : Int64) (l1 : Int) (t : List (Option Value)) (hB : BM ρ) (h_l1 : SM l1) : G 84 44 (some (.ref 0) :: some (vI l1) :: t) [] (toM ρ τ) Q = (if (ρ 5 0) ≤ l1 then G 28 0 [some (.ref 1)] [] (toM ρ τ) (fun v μ2 => G 84 73 (some (.ref 0) :: some (vI l1) :: t) (v.toList ++ []) μ2 Q) else G 113 0 [some (.ref 0), some (vI l1)] [] (toM ρ τ) (fun v μ2 => G 84 60 (some (.ref 0) :: some (vI l1) :: t) (v.toList ++ []) μ2 Q)) := by
  refine (g_iload_n d84_44 rfl).trans ?_
  refine (g_aload_n d84_45 rfl rfl).trans ?_
  refine (g_getR (q := 5) d84_46 f9_44 sh_0 (by decide) rfl).trans ?_
  refine (j_getI (v := ρ 5 0) d84_49 f9_97 sh_5 (by decide) rfl rfl).trans ?_
  have q1 := hB 5 0 (by decide)
  refine j_icmp_ge (tgt := 66) d84_52 (by decide) (by omega) (by omega) (fun q2 => ?_) (fun q2 => ?_)
  ·
    refine (g_aload_n d84_66 rfl rfl).trans ?_
    refine (g_getR (q := 1) d84_67 f9_10 sh_0 (by decide) rfl).trans ?_
    exact g_cV d84_70 k9_104 rfl rfl rfl
  ·
    refine (g_aload_n d84_55 rfl rfl).trans ?_
    refine (g_iload_n d84_56 rfl).trans ?_
    exact g_cV d84_57 k9_100 rfl rfl rfl
set_option maxRecDepth 10000 in
theorem b84_73 {Q : Option Value → mm → Prop} (ρ : rm) (τ : Int64) (l1 : Int) (t : List (Option Value)) (hB : BM ρ) (h_l1 : SM l1) : G 84 73 (some (.ref 0) :: some (vI l1) :: t) ((none : Option Value).toList ++ []) (toM ρ τ) Q = G 13 0 [some (.ref 2)] [] (toM ρ τ) (fun v μ2 => G 84 80 (some (.ref 0) :: some (vI l1) :: t) (v.toList ++ []) μ2 Q) := by
  refine (g_aload_n d84_73 rfl rfl).trans ?_
  refine (g_getR (q := 2) d84_74 f9_21 sh_0 (by decide) rfl).trans ?_
  exact g_cV d84_77 k9_107 rfl rfl rfl
set_option maxRecDepth 10000 in
theorem b84_60 {Q : Option Value → mm → Prop} (ρ : rm) (τ : Int64) (l1 : Int) (t : List (Option Value)) (hB : BM ρ) (h_l1 : SM l1) : G 84 60 (some (.ref 0) :: some (vI l1) :: t) ((none : Option Value).toList ++ []) (toM ρ τ) Q = G 84 44 (some (.ref 0) :: some (vI (l1 + 1)) :: t) [] (toM ρ τ) Q := by
  refine (j_iinc d84_60 rfl (by decide) rfl rfl).trans ?_
  refine (g_goto (tgt := 44) d84_63 (by decide)).trans ?_
  rfl
set_option maxRecDepth 10000 in
theorem b84_80 {Q : Option Value → mm → Prop} (ρ : rm) (τ : Int64) (l1 : Int) (t : List (Option Value)) (hB : BM ρ) (h_l1 : SM l1) : G 84 80 (some (.ref 0) :: some (vI l1) :: t) ((none : Option Value).toList ++ []) (toM ρ τ) Q = G 70 0 [some (.ref 4)] [] (toM ρ τ) (fun v μ2 => G 84 87 (some (.ref 0) :: some (vI l1) :: t) (v.toList ++ []) μ2 Q) := by
  refine (g_aload_n d84_80 rfl rfl).trans ?_
  refine (g_getR (q := 4) d84_81 f9_35 sh_0 (by decide) rfl).trans ?_
  exact g_cV d84_84 k9_80 rfl rfl rfl
set_option maxRecDepth 10000 in
theorem b84_87 {Q : Option Value → mm → Prop} (ρ : rm) (τ : Int64) (l1 : Int) (t : List (Option Value)) (r : Int) (hB : BM ρ) (h_l1 : SM l1) (h_r : SM r) : G 84 87 (some (.ref 0) :: some (vI l1) :: t) ((some (vI r)).toList ++ []) (toM ρ τ) Q = G 76 0 [some (.ref 6)] [] (toM ρ τ) (fun v μ2 => G 84 95 (some (.ref 0) :: some (vI l1) :: t) (v.toList ++ []) μ2 Q) := by
  refine (g_pop d84_87).trans ?_
  refine (g_aload_n d84_88 rfl rfl).trans ?_
  refine (g_getR (q := 6) d84_89 f9_51 sh_0 (by decide) rfl).trans ?_
  exact g_cV d84_92 k9_108 rfl rfl rfl
set_option maxRecDepth 10000 in
theorem b84_95 {Q : Option Value → mm → Prop} (ρ : rm) (τ : Int64) (l1 : Int) (t : List (Option Value)) (hB : BM ρ) (h_l1 : SM l1) : G 84 95 (some (.ref 0) :: some (vI l1) :: t) ((none : Option Value).toList ++ []) (toM ρ τ) Q = G 73 0 [some (.ref 7)] [] (toM ρ τ) (fun v μ2 => G 84 102 (some (.ref 0) :: some (vI l1) :: t) (v.toList ++ []) μ2 Q) := by
  refine (g_aload_n d84_95 rfl rfl).trans ?_
  refine (g_getR (q := 7) d84_96 f9_58 sh_0 (by decide) rfl).trans ?_
  exact g_cV d84_99 k9_111 rfl rfl rfl
set_option maxRecDepth 10000 in
theorem b84_102 {Q : Option Value → mm → Prop} (ρ : rm) (τ : Int64) (l1 : Int) (t : List (Option Value)) (r : Int) (hB : BM ρ) (h_l1 : SM l1) (h_r : SM r) : G 84 102 (some (.ref 0) :: some (vI l1) :: t) ((some (vI r)).toList ++ []) (toM ρ τ) Q = G 2 0 [some (.ref 8)] [] (toM ρ τ) (fun v μ2 => G 84 110 (some (.ref 0) :: some (vI l1) :: t) (v.toList ++ []) μ2 Q) := by
  refine (g_pop d84_102).trans ?_
  refine (g_aload_n d84_103 rfl rfl).trans ?_
  refine (g_getR (q := 8) d84_104 f9_65 sh_0 (by decide) rfl).trans ?_
  exact g_cV d84_107 k9_112 rfl rfl rfl
set_option maxRecDepth 10000 in
theorem b84_110 {Q : Option Value → mm → Prop} (ρ : rm) (τ : Int64) (l1 : Int) (t : List (Option Value)) (r : Int) (hB : BM ρ) (h_l1 : SM l1) (h_r : SM r) : G 84 110 (some (.ref 0) :: some (vI l1) :: t) ((some (vI r)).toList ++ []) (toM ρ τ) Q = G 64 0 [some (.ref 9)] [] (toM ρ τ) (fun v μ2 => G 84 118 (some (.ref 0) :: some (vI l1) :: t) (v.toList ++ []) μ2 Q) := by
  refine (g_pop d84_110).trans ?_
  refine (g_aload_n d84_111 rfl rfl).trans ?_
  refine (g_getR (q := 9) d84_112 f9_72 sh_0 (by decide) rfl).trans ?_
  exact g_cV d84_115 k9_113 rfl rfl rfl
set_option maxRecDepth 10000 in
theorem b84_118 {Q : Option Value → mm → Prop} (ρ : rm) (τ : Int64) (l1 : Int) (t : List (Option Value)) (r : Int) (hB : BM ρ) (h_l1 : SM l1) (h_r : SM r) : G 84 118 (some (.ref 0) :: some (vI l1) :: t) ((some (vI r)).toList ++ []) (toM ρ τ) Q = Q (some (vI (ρ 5 0))) (toM ρ τ) := by
  refine (g_pop d84_118).trans ?_
  refine (g_aload_n d84_119 rfl rfl).trans ?_
  refine (g_getR (q := 5) d84_120 f9_44 sh_0 (by decide) rfl).trans ?_
  refine (j_getI (v := ρ 5 0) d84_123 f9_97 sh_5 (by decide) rfl rfl).trans ?_
  have q1 := hB 5 0 (by decide)
  exact g_iret d84_126 rfl rfl
theorem d85_0 : ins 85 0 = some (.aload_n 0) := by decide +kernel
theorem d85_1 : ins 85 1 = some (.getfield 10) := by decide +kernel
theorem d85_4 : ins 85 4 = some (.iload_n 1) := by decide +kernel
theorem d85_5 : ins 85 5 = some (.invokevirtual 114) := by decide +kernel
theorem d85_8 : ins 85 8 = some (.ifCond .eq 15) := by decide +kernel
theorem d85_11 : ins 85 11 = some (.aload_n 0) := by decide +kernel
theorem d85_12 : ins 85 12 = some (.getfield 10) := by decide +kernel
theorem d85_15 : ins 85 15 = some (.getfield 118) := by decide +kernel
theorem d85_18 : ins 85 18 = some (.iload_n 1) := by decide +kernel
theorem d85_19 : ins 85 19 = some (.iaload) := by decide +kernel
theorem d85_20 : ins 85 20 = some (.goto 5) := by decide +kernel
theorem d85_23 : ins 85 23 = some (.bipush (-2)) := by decide +kernel
theorem d85_25 : ins 85 25 = some (.ireturn) := by decide +kernel
set_option maxRecDepth 10000 in
theorem b85_0 {Q : Option Value → mm → Prop} (ρ : rm) (τ : Int64) (a1 : Int) (hB : BM ρ) (h_a1 : SB a1) : G 85 0 (some (.ref 0) :: some (vI a1) :: []) [] (toM ρ τ) Q = G 32 0 [some (.ref 1), some (vI a1)] [] (toM ρ τ) (fun v μ2 => G 85 8 (some (.ref 0) :: some (vI a1) :: []) (v.toList ++ []) μ2 Q) := by
  refine (g_aload_n d85_0 rfl rfl).trans ?_
  refine (g_getR (q := 1) d85_1 f9_10 sh_0 (by decide) rfl).trans ?_
  refine (g_iload_n d85_4 rfl).trans ?_
  exact g_cV d85_5 k9_114 rfl rfl rfl
set_option maxRecDepth 10000 in
theorem b85_8 {Q : Option Value → mm → Prop} (ρ : rm) (τ : Int64) (l1 : Int) (t : List (Option Value)) (r : Int) (hB : BM ρ) (h_l1 : SB l1) (h_r : SM r) : G 85 8 (some (.ref 0) :: some (vI l1) :: t) ((some (vI r)).toList ++ []) (toM ρ τ) Q = (if r = 0 then Q (some (vI (-2))) (toM ρ τ) else (if 0 ≤ l1 ∧ l1 < 10 then Q (some (vI (ρ 10 l1))) (toM ρ τ) else False)) := by
  refine j_if_eq (tgt := 23) d85_8 (by decide) (by omega) (fun q1 => ?_) (fun q1 => ?_)
  ·
    refine (j_bipush d85_23 (by decide)).trans ?_
    exact g_iret d85_25 rfl rfl
  ·
    refine (g_aload_n d85_11 rfl rfl).trans ?_
    refine (g_getR (q := 1) d85_12 f9_10 sh_0 (by decide) rfl).trans ?_
    refine (g_getR (q := 10) d85_15 f9_118 sh_1 (by decide) rfl).trans ?_
    refine (g_iload_n d85_18 rfl).trans ?_
    refine j_iaload (v := ρ 10 l1) d85_19 sh_10 (by omega) rfl (fun q2 => ?_)
    have q3 := hB 10 l1 (by omega)
    refine (g_goto (tgt := 25) d85_20 (by decide)).trans ?_
    exact g_iret d85_25 rfl rfl
theorem d86_0 : ins 86 0 = some (.aload_n 0) := by decide +kernel
theorem d86_1 : ins 86 1 = some (.getfield 10) := by decide +kernel
theorem d86_4 : ins 86 4 = some (.iload_n 1) := by decide +kernel
theorem d86_5 : ins 86 5 = some (.invokevirtual 114) := by decide +kernel
theorem d86_8 : ins 86 8 = some (.ifCond .eq 26) := by decide +kernel
theorem d86_11 : ins 86 11 = some (.aload_n 0) := by decide +kernel
theorem d86_12 : ins 86 12 = some (.getfield 10) := by decide +kernel
theorem d86_15 : ins 86 15 = some (.iload_n 2) := by decide +kernel
theorem d86_16 : ins 86 16 = some (.invokevirtual 114) := by decide +kernel
theorem d86_19 : ins 86 19 = some (.ifCond .eq 15) := by decide +kernel
theorem d86_22 : ins 86 22 = some (.aload_n 0) := by decide +kernel
theorem d86_23 : ins 86 23 = some (.getfield 10) := by decide +kernel
theorem d86_26 : ins 86 26 = some (.iload_n 1) := by decide +kernel
theorem d86_27 : ins 86 27 = some (.iload_n 2) := by decide +kernel
theorem d86_28 : ins 86 28 = some (.invokevirtual 122) := by decide +kernel
theorem d86_31 : ins 86 31 = some (.goto 5) := by decide +kernel
theorem d86_34 : ins 86 34 = some (.bipush (-2)) := by decide +kernel
theorem d86_36 : ins 86 36 = some (.ireturn) := by decide +kernel
set_option maxRecDepth 10000 in
theorem b86_0 {Q : Option Value → mm → Prop} (ρ : rm) (τ : Int64) (a1 : Int) (a2 : Int) (hB : BM ρ) (h_a1 : SB a1) (h_a2 : SB a2) : G 86 0 (some (.ref 0) :: some (vI a1) :: some (vI a2) :: []) [] (toM ρ τ) Q = G 32 0 [some (.ref 1), some (vI a1)] [] (toM ρ τ) (fun v μ2 => G 86 8 (some (.ref 0) :: some (vI a1) :: some (vI a2) :: []) (v.toList ++ []) μ2 Q) := by
  refine (g_aload_n d86_0 rfl rfl).trans ?_
  refine (g_getR (q := 1) d86_1 f9_10 sh_0 (by decide) rfl).trans ?_
  refine (g_iload_n d86_4 rfl).trans ?_
  exact g_cV d86_5 k9_114 rfl rfl rfl
set_option maxRecDepth 10000 in
theorem b86_8 {Q : Option Value → mm → Prop} (ρ : rm) (τ : Int64) (l1 : Int) (l2 : Int) (t : List (Option Value)) (r : Int) (hB : BM ρ) (h_l1 : SB l1) (h_l2 : SB l2) (h_r : SM r) : G 86 8 (some (.ref 0) :: some (vI l1) :: some (vI l2) :: t) ((some (vI r)).toList ++ []) (toM ρ τ) Q = (if r = 0 then Q (some (vI (-2))) (toM ρ τ) else G 32 0 [some (.ref 1), some (vI l2)] [] (toM ρ τ) (fun v μ2 => G 86 19 (some (.ref 0) :: some (vI l1) :: some (vI l2) :: t) (v.toList ++ []) μ2 Q)) := by
  refine j_if_eq (tgt := 34) d86_8 (by decide) (by omega) (fun q1 => ?_) (fun q1 => ?_)
  ·
    refine (j_bipush d86_34 (by decide)).trans ?_
    exact g_iret d86_36 rfl rfl
  ·
    refine (g_aload_n d86_11 rfl rfl).trans ?_
    refine (g_getR (q := 1) d86_12 f9_10 sh_0 (by decide) rfl).trans ?_
    refine (g_iload_n d86_15 rfl).trans ?_
    exact g_cV d86_16 k9_114 rfl rfl rfl
set_option maxRecDepth 10000 in
theorem b86_19 {Q : Option Value → mm → Prop} (ρ : rm) (τ : Int64) (l1 : Int) (l2 : Int) (t : List (Option Value)) (r : Int) (hB : BM ρ) (h_l1 : SB l1) (h_l2 : SB l2) (h_r : SM r) : G 86 19 (some (.ref 0) :: some (vI l1) :: some (vI l2) :: t) ((some (vI r)).toList ++ []) (toM ρ τ) Q = (if r = 0 then Q (some (vI (-2))) (toM ρ τ) else G 33 0 [some (.ref 1), some (vI l1), some (vI l2)] [] (toM ρ τ) (fun v μ2 => G 86 31 (some (.ref 0) :: some (vI l1) :: some (vI l2) :: t) (v.toList ++ []) μ2 Q)) := by
  refine j_if_eq (tgt := 34) d86_19 (by decide) (by omega) (fun q1 => ?_) (fun q1 => ?_)
  ·
    refine (j_bipush d86_34 (by decide)).trans ?_
    exact g_iret d86_36 rfl rfl
  ·
    refine (g_aload_n d86_22 rfl rfl).trans ?_
    refine (g_getR (q := 1) d86_23 f9_10 sh_0 (by decide) rfl).trans ?_
    refine (g_iload_n d86_26 rfl).trans ?_
    refine (g_iload_n d86_27 rfl).trans ?_
    exact g_cV d86_28 k9_122 rfl rfl rfl
set_option maxRecDepth 10000 in
theorem b86_31 {Q : Option Value → mm → Prop} (ρ : rm) (τ : Int64) (l1 : Int) (l2 : Int) (t : List (Option Value)) (r : Int) (hB : BM ρ) (h_l1 : SB l1) (h_l2 : SB l2) (h_r : SM r) : G 86 31 (some (.ref 0) :: some (vI l1) :: some (vI l2) :: t) ((some (vI r)).toList ++ []) (toM ρ τ) Q = Q (some (vI r)) (toM ρ τ) := by
  refine (g_goto (tgt := 36) d86_31 (by decide)).trans ?_
  exact g_iret d86_36 rfl rfl
theorem d87_0 : ins 87 0 = some (.aload_n 0) := by decide +kernel
theorem d87_1 : ins 87 1 = some (.getfield 10) := by decide +kernel
theorem d87_4 : ins 87 4 = some (.iload_n 1) := by decide +kernel
theorem d87_5 : ins 87 5 = some (.invokevirtual 114) := by decide +kernel
theorem d87_8 : ins 87 8 = some (.ifCond .ne 6) := by decide +kernel
theorem d87_11 : ins 87 11 = some (.bipush (-2)) := by decide +kernel
theorem d87_13 : ins 87 13 = some (.ireturn) := by decide +kernel
theorem d87_14 : ins 87 14 = some (.iload_n 2) := by decide +kernel
theorem d87_15 : ins 87 15 = some (.ifCond .lt 18) := by decide +kernel
theorem d87_18 : ins 87 18 = some (.iload_n 2) := by decide +kernel
theorem d87_19 : ins 87 19 = some (.ldc 126) := by decide +kernel
theorem d87_21 : ins 87 21 = some (.if_icmp .gt 12) := by decide +kernel
theorem d87_24 : ins 87 24 = some (.iload_n 3) := by decide +kernel
theorem d87_25 : ins 87 25 = some (.ifCond .lt 8) := by decide +kernel
theorem d87_28 : ins 87 28 = some (.iload_n 3) := by decide +kernel
theorem d87_29 : ins 87 29 = some (.iconst 1) := by decide +kernel
theorem d87_30 : ins 87 30 = some (.if_icmp .le 6) := by decide +kernel
theorem d87_33 : ins 87 33 = some (.bipush (-3)) := by decide +kernel
theorem d87_35 : ins 87 35 = some (.ireturn) := by decide +kernel
theorem d87_36 : ins 87 36 = some (.iload_n 3) := by decide +kernel
theorem d87_37 : ins 87 37 = some (.ifCond .ne 15) := by decide +kernel
theorem d87_40 : ins 87 40 = some (.aload_n 0) := by decide +kernel
theorem d87_41 : ins 87 41 = some (.getfield 10) := by decide +kernel
theorem d87_44 : ins 87 44 = some (.iload_n 1) := by decide +kernel
theorem d87_45 : ins 87 45 = some (.iload_n 2) := by decide +kernel
theorem d87_46 : ins 87 46 = some (.invokevirtual 127) := by decide +kernel
theorem d87_49 : ins 87 49 = some (.goto 15) := by decide +kernel
theorem d87_52 : ins 87 52 = some (.aload_n 0) := by decide +kernel
theorem d87_53 : ins 87 53 = some (.getfield 10) := by decide +kernel
theorem d87_56 : ins 87 56 = some (.iload_n 1) := by decide +kernel
theorem d87_57 : ins 87 57 = some (.iload_n 2) := by decide +kernel
theorem d87_58 : ins 87 58 = some (.invokevirtual 130) := by decide +kernel
theorem d87_61 : ins 87 61 = some (.bipush 100) := by decide +kernel
theorem d87_63 : ins 87 63 = some (.iadd) := by decide +kernel
theorem d87_64 : ins 87 64 = some (.ireturn) := by decide +kernel
set_option maxRecDepth 10000 in
theorem b87_0 {Q : Option Value → mm → Prop} (ρ : rm) (τ : Int64) (a1 : Int) (a2 : Int) (a3 : Int) (hB : BM ρ) (h_a1 : SB a1) (h_a2 : SB a2) (h_a3 : SB a3) : G 87 0 (some (.ref 0) :: some (vI a1) :: some (vI a2) :: some (vI a3) :: []) [] (toM ρ τ) Q = G 32 0 [some (.ref 1), some (vI a1)] [] (toM ρ τ) (fun v μ2 => G 87 8 (some (.ref 0) :: some (vI a1) :: some (vI a2) :: some (vI a3) :: []) (v.toList ++ []) μ2 Q) := by
  refine (g_aload_n d87_0 rfl rfl).trans ?_
  refine (g_getR (q := 1) d87_1 f9_10 sh_0 (by decide) rfl).trans ?_
  refine (g_iload_n d87_4 rfl).trans ?_
  exact g_cV d87_5 k9_114 rfl rfl rfl
set_option maxRecDepth 10000 in
theorem b87_8 {Q : Option Value → mm → Prop} (ρ : rm) (τ : Int64) (l1 : Int) (l2 : Int) (l3 : Int) (t : List (Option Value)) (r : Int) (hB : BM ρ) (h_l1 : SB l1) (h_l2 : SB l2) (h_l3 : SB l3) (h_r : SM r) : G 87 8 (some (.ref 0) :: some (vI l1) :: some (vI l2) :: some (vI l3) :: t) ((some (vI r)).toList ++ []) (toM ρ τ) Q = (if r = 0 then Q (some (vI (-2))) (toM ρ τ) else (if l2 < 0 then Q (some (vI (-3))) (toM ρ τ) else (if 99999 < l2 then Q (some (vI (-3))) (toM ρ τ) else (if l3 < 0 then Q (some (vI (-3))) (toM ρ τ) else (if l3 ≤ 1 then (if l3 = 0 then G 34 0 [some (.ref 1), some (vI l1), some (vI l2)] [] (toM ρ τ) (fun v μ2 => G 87 49 (some (.ref 0) :: some (vI l1) :: some (vI l2) :: some (vI l3) :: t) (v.toList ++ []) μ2 Q) else G 35 0 [some (.ref 1), some (vI l1), some (vI l2)] [] (toM ρ τ) (fun v μ2 => G 87 61 (some (.ref 0) :: some (vI l1) :: some (vI l2) :: some (vI l3) :: t) (v.toList ++ []) μ2 Q)) else Q (some (vI (-3))) (toM ρ τ)))))) := by
  refine j_if_ne (tgt := 14) d87_8 (by decide) (by omega) (fun q1 => ?_) (fun q1 => ?_)
  ·
    refine (j_bipush d87_11 (by decide)).trans ?_
    exact g_iret d87_13 rfl rfl
  ·
    refine (g_iload_n d87_14 rfl).trans ?_
    refine j_if_lt (tgt := 33) d87_15 (by decide) (by omega) (fun q2 => ?_) (fun q2 => ?_)
    ·
      refine (j_bipush d87_33 (by decide)).trans ?_
      exact g_iret d87_35 rfl rfl
    ·
      refine (g_iload_n d87_18 rfl).trans ?_
      refine (j_ldc (n := 99999) d87_19 cs9_126 (by decide)).trans ?_
      refine j_icmp_gt (tgt := 33) d87_21 (by decide) (by omega) (by omega) (fun q3 => ?_) (fun q3 => ?_)
      ·
        refine (j_bipush d87_33 (by decide)).trans ?_
        exact g_iret d87_35 rfl rfl
      ·
        refine (g_iload_n d87_24 rfl).trans ?_
        refine j_if_lt (tgt := 33) d87_25 (by decide) (by omega) (fun q4 => ?_) (fun q4 => ?_)
        ·
          refine (j_bipush d87_33 (by decide)).trans ?_
          exact g_iret d87_35 rfl rfl
        ·
          refine (g_iload_n d87_28 rfl).trans ?_
          refine (j_iconst d87_29).trans ?_
          refine j_icmp_le (tgt := 36) d87_30 (by decide) (by omega) (by omega) (fun q5 => ?_) (fun q5 => ?_)
          ·
            refine (g_iload_n d87_36 rfl).trans ?_
            refine j_if_ne (tgt := 52) d87_37 (by decide) (by omega) (fun q6 => ?_) (fun q6 => ?_)
            ·
              refine (g_aload_n d87_40 rfl rfl).trans ?_
              refine (g_getR (q := 1) d87_41 f9_10 sh_0 (by decide) rfl).trans ?_
              refine (g_iload_n d87_44 rfl).trans ?_
              refine (g_iload_n d87_45 rfl).trans ?_
              exact g_cV d87_46 k9_127 rfl rfl rfl
            ·
              refine (g_aload_n d87_52 rfl rfl).trans ?_
              refine (g_getR (q := 1) d87_53 f9_10 sh_0 (by decide) rfl).trans ?_
              refine (g_iload_n d87_56 rfl).trans ?_
              refine (g_iload_n d87_57 rfl).trans ?_
              exact g_cV d87_58 k9_130 rfl rfl rfl
          ·
            refine (j_bipush d87_33 (by decide)).trans ?_
            exact g_iret d87_35 rfl rfl
set_option maxRecDepth 10000 in
theorem b87_49 {Q : Option Value → mm → Prop} (ρ : rm) (τ : Int64) (l1 : Int) (l2 : Int) (l3 : Int) (t : List (Option Value)) (r : Int) (hB : BM ρ) (h_l1 : SB l1) (h_l2 : SB l2) (h_l3 : SB l3) (h_r : SM r) : G 87 49 (some (.ref 0) :: some (vI l1) :: some (vI l2) :: some (vI l3) :: t) ((some (vI r)).toList ++ []) (toM ρ τ) Q = Q (some (vI r)) (toM ρ τ) := by
  refine (g_goto (tgt := 64) d87_49 (by decide)).trans ?_
  exact g_iret d87_64 rfl rfl
set_option maxRecDepth 10000 in
theorem b87_61 {Q : Option Value → mm → Prop} (ρ : rm) (τ : Int64) (l1 : Int) (l2 : Int) (l3 : Int) (t : List (Option Value)) (r : Int) (hB : BM ρ) (h_l1 : SB l1) (h_l2 : SB l2) (h_l3 : SB l3) (h_r : SM r) : G 87 61 (some (.ref 0) :: some (vI l1) :: some (vI l2) :: some (vI l3) :: t) ((some (vI r)).toList ++ []) (toM ρ τ) Q = Q (some (vI (r + 100))) (toM ρ τ) := by
  refine (j_bipush d87_61 (by decide)).trans ?_
  refine (j_iadd d87_63).trans ?_
  exact g_iret d87_64 rfl rfl
theorem d88_0 : ins 88 0 = some (.aload_n 0) := by decide +kernel
theorem d88_1 : ins 88 1 = some (.getfield 10) := by decide +kernel
theorem d88_4 : ins 88 4 = some (.iload_n 1) := by decide +kernel
theorem d88_5 : ins 88 5 = some (.invokevirtual 114) := by decide +kernel
theorem d88_8 : ins 88 8 = some (.ifCond .eq 29) := by decide +kernel
theorem d88_11 : ins 88 11 = some (.aload_n 0) := by decide +kernel
theorem d88_12 : ins 88 12 = some (.getfield 10) := by decide +kernel
theorem d88_15 : ins 88 15 = some (.iload_n 2) := by decide +kernel
theorem d88_16 : ins 88 16 = some (.invokevirtual 114) := by decide +kernel
theorem d88_19 : ins 88 19 = some (.ifCond .eq 18) := by decide +kernel
theorem d88_22 : ins 88 22 = some (.aload_n 0) := by decide +kernel
theorem d88_23 : ins 88 23 = some (.getfield 10) := by decide +kernel
theorem d88_26 : ins 88 26 = some (.iload_n 1) := by decide +kernel
theorem d88_27 : ins 88 27 = some (.iload_n 2) := by decide +kernel
theorem d88_28 : ins 88 28 = some (.invokevirtual 133) := by decide +kernel
theorem d88_31 : ins 88 31 = some (.ldc 136) := by decide +kernel
theorem d88_33 : ins 88 33 = some (.iadd) := by decide +kernel
theorem d88_34 : ins 88 34 = some (.goto 5) := by decide +kernel
theorem d88_37 : ins 88 37 = some (.bipush (-2)) := by decide +kernel
theorem d88_39 : ins 88 39 = some (.ireturn) := by decide +kernel
set_option maxRecDepth 10000 in
theorem b88_0 {Q : Option Value → mm → Prop} (ρ : rm) (τ : Int64) (a1 : Int) (a2 : Int) (hB : BM ρ) (h_a1 : SB a1) (h_a2 : SB a2) : G 88 0 (some (.ref 0) :: some (vI a1) :: some (vI a2) :: []) [] (toM ρ τ) Q = G 32 0 [some (.ref 1), some (vI a1)] [] (toM ρ τ) (fun v μ2 => G 88 8 (some (.ref 0) :: some (vI a1) :: some (vI a2) :: []) (v.toList ++ []) μ2 Q) := by
  refine (g_aload_n d88_0 rfl rfl).trans ?_
  refine (g_getR (q := 1) d88_1 f9_10 sh_0 (by decide) rfl).trans ?_
  refine (g_iload_n d88_4 rfl).trans ?_
  exact g_cV d88_5 k9_114 rfl rfl rfl
set_option maxRecDepth 10000 in
theorem b88_8 {Q : Option Value → mm → Prop} (ρ : rm) (τ : Int64) (l1 : Int) (l2 : Int) (t : List (Option Value)) (r : Int) (hB : BM ρ) (h_l1 : SB l1) (h_l2 : SB l2) (h_r : SM r) : G 88 8 (some (.ref 0) :: some (vI l1) :: some (vI l2) :: t) ((some (vI r)).toList ++ []) (toM ρ τ) Q = (if r = 0 then Q (some (vI (-2))) (toM ρ τ) else G 32 0 [some (.ref 1), some (vI l2)] [] (toM ρ τ) (fun v μ2 => G 88 19 (some (.ref 0) :: some (vI l1) :: some (vI l2) :: t) (v.toList ++ []) μ2 Q)) := by
  refine j_if_eq (tgt := 37) d88_8 (by decide) (by omega) (fun q1 => ?_) (fun q1 => ?_)
  ·
    refine (j_bipush d88_37 (by decide)).trans ?_
    exact g_iret d88_39 rfl rfl
  ·
    refine (g_aload_n d88_11 rfl rfl).trans ?_
    refine (g_getR (q := 1) d88_12 f9_10 sh_0 (by decide) rfl).trans ?_
    refine (g_iload_n d88_15 rfl).trans ?_
    exact g_cV d88_16 k9_114 rfl rfl rfl
set_option maxRecDepth 10000 in
theorem b88_19 {Q : Option Value → mm → Prop} (ρ : rm) (τ : Int64) (l1 : Int) (l2 : Int) (t : List (Option Value)) (r : Int) (hB : BM ρ) (h_l1 : SB l1) (h_l2 : SB l2) (h_r : SM r) : G 88 19 (some (.ref 0) :: some (vI l1) :: some (vI l2) :: t) ((some (vI r)).toList ++ []) (toM ρ τ) Q = (if r = 0 then Q (some (vI (-2))) (toM ρ τ) else G 37 0 [some (.ref 1), some (vI l1), some (vI l2)] [] (toM ρ τ) (fun v μ2 => G 88 31 (some (.ref 0) :: some (vI l1) :: some (vI l2) :: t) (v.toList ++ []) μ2 Q)) := by
  refine j_if_eq (tgt := 37) d88_19 (by decide) (by omega) (fun q1 => ?_) (fun q1 => ?_)
  ·
    refine (j_bipush d88_37 (by decide)).trans ?_
    exact g_iret d88_39 rfl rfl
  ·
    refine (g_aload_n d88_22 rfl rfl).trans ?_
    refine (g_getR (q := 1) d88_23 f9_10 sh_0 (by decide) rfl).trans ?_
    refine (g_iload_n d88_26 rfl).trans ?_
    refine (g_iload_n d88_27 rfl).trans ?_
    exact g_cV d88_28 k9_133 rfl rfl rfl
set_option maxRecDepth 10000 in
theorem b88_31 {Q : Option Value → mm → Prop} (ρ : rm) (τ : Int64) (l1 : Int) (l2 : Int) (t : List (Option Value)) (r : Int) (hB : BM ρ) (h_l1 : SB l1) (h_l2 : SB l2) (h_r : SM r) : G 88 31 (some (.ref 0) :: some (vI l1) :: some (vI l2) :: t) ((some (vI r)).toList ++ []) (toM ρ τ) Q = Q (some (vI (r + 100000))) (toM ρ τ) := by
  refine (j_ldc (n := 100000) d88_31 cs9_136 (by decide)).trans ?_
  refine (j_iadd d88_33).trans ?_
  refine (g_goto (tgt := 39) d88_34 (by decide)).trans ?_
  exact g_iret d88_39 rfl rfl
theorem d89_0 : ins 89 0 = some (.iload_n 1) := by decide +kernel
theorem d89_1 : ins 89 1 = some (.ifCond .lt 8) := by decide +kernel
theorem d89_4 : ins 89 4 = some (.iload_n 1) := by decide +kernel
theorem d89_5 : ins 89 5 = some (.iconst 1) := by decide +kernel
theorem d89_6 : ins 89 6 = some (.if_icmp .le 6) := by decide +kernel
theorem d89_9 : ins 89 9 = some (.bipush (-3)) := by decide +kernel
theorem d89_11 : ins 89 11 = some (.ireturn) := by decide +kernel
theorem d89_12 : ins 89 12 = some (.iload_n 1) := by decide +kernel
theorem d89_13 : ins 89 13 = some (.ifCond .ne 13) := by decide +kernel
theorem d89_16 : ins 89 16 = some (.aload_n 0) := by decide +kernel
theorem d89_17 : ins 89 17 = some (.getfield 10) := by decide +kernel
theorem d89_20 : ins 89 20 = some (.invokevirtual 137) := by decide +kernel
theorem d89_23 : ins 89 23 = some (.goto 10) := by decide +kernel
theorem d89_26 : ins 89 26 = some (.aload_n 0) := by decide +kernel
theorem d89_27 : ins 89 27 = some (.getfield 10) := by decide +kernel
theorem d89_30 : ins 89 30 = some (.invokevirtual 140) := by decide +kernel
theorem d89_33 : ins 89 33 = some (.ireturn) := by decide +kernel
set_option maxRecDepth 10000 in
theorem b89_0 {Q : Option Value → mm → Prop} (ρ : rm) (τ : Int64) (a1 : Int) (hB : BM ρ) (h_a1 : SB a1) : G 89 0 (some (.ref 0) :: some (vI a1) :: []) [] (toM ρ τ) Q = (if a1 < 0 then Q (some (vI (-3))) (toM ρ τ) else (if a1 ≤ 1 then (if a1 = 0 then G 38 0 [some (.ref 1)] [] (toM ρ τ) (fun v μ2 => G 89 23 (some (.ref 0) :: some (vI a1) :: []) (v.toList ++ []) μ2 Q) else G 39 0 [some (.ref 1)] [] (toM ρ τ) (fun v μ2 => G 89 33 (some (.ref 0) :: some (vI a1) :: []) (v.toList ++ []) μ2 Q)) else Q (some (vI (-3))) (toM ρ τ))) := by
  refine (g_iload_n d89_0 rfl).trans ?_
  refine j_if_lt (tgt := 9) d89_1 (by decide) (by omega) (fun q1 => ?_) (fun q1 => ?_)
  ·
    refine (j_bipush d89_9 (by decide)).trans ?_
    exact g_iret d89_11 rfl rfl
  ·
    refine (g_iload_n d89_4 rfl).trans ?_
    refine (j_iconst d89_5).trans ?_
    refine j_icmp_le (tgt := 12) d89_6 (by decide) (by omega) (by omega) (fun q2 => ?_) (fun q2 => ?_)
    ·
      refine (g_iload_n d89_12 rfl).trans ?_
      refine j_if_ne (tgt := 26) d89_13 (by decide) (by omega) (fun q3 => ?_) (fun q3 => ?_)
      ·
        refine (g_aload_n d89_16 rfl rfl).trans ?_
        refine (g_getR (q := 1) d89_17 f9_10 sh_0 (by decide) rfl).trans ?_
        exact g_cV d89_20 k9_137 rfl rfl rfl
      ·
        refine (g_aload_n d89_26 rfl rfl).trans ?_
        refine (g_getR (q := 1) d89_27 f9_10 sh_0 (by decide) rfl).trans ?_
        exact g_cV d89_30 k9_140 rfl rfl rfl
    ·
      refine (j_bipush d89_9 (by decide)).trans ?_
      exact g_iret d89_11 rfl rfl
set_option maxRecDepth 10000 in
theorem b89_23 {Q : Option Value → mm → Prop} (ρ : rm) (τ : Int64) (l1 : Int) (t : List (Option Value)) (r : Int) (hB : BM ρ) (h_l1 : SB l1) (h_r : SM r) : G 89 23 (some (.ref 0) :: some (vI l1) :: t) ((some (vI r)).toList ++ []) (toM ρ τ) Q = Q (some (vI r)) (toM ρ τ) := by
  refine (g_goto (tgt := 33) d89_23 (by decide)).trans ?_
  exact g_iret d89_33 rfl rfl
set_option maxRecDepth 10000 in
theorem b89_33 {Q : Option Value → mm → Prop} (ρ : rm) (τ : Int64) (l1 : Int) (t : List (Option Value)) (r : Int) (hB : BM ρ) (h_l1 : SB l1) (h_r : SM r) : G 89 33 (some (.ref 0) :: some (vI l1) :: t) ((some (vI r)).toList ++ []) (toM ρ τ) Q = Q (some (vI r)) (toM ρ τ) := by
  exact g_iret d89_33 rfl rfl
theorem d90_0 : ins 90 0 = some (.aload_n 0) := by decide +kernel
theorem d90_1 : ins 90 1 = some (.getfield 21) := by decide +kernel
theorem d90_4 : ins 90 4 = some (.iload_n 1) := by decide +kernel
theorem d90_5 : ins 90 5 = some (.invokevirtual 143) := by decide +kernel
theorem d90_8 : ins 90 8 = some (.ifCond .ne 6) := by decide +kernel
theorem d90_11 : ins 90 11 = some (.bipush (-2)) := by decide +kernel
theorem d90_13 : ins 90 13 = some (.ireturn) := by decide +kernel
theorem d90_14 : ins 90 14 = some (.iload_n 2) := by decide +kernel
theorem d90_15 : ins 90 15 = some (.tableswitch 68 0 3 #[29, 39, 49, 59]) := by decide +kernel
theorem d90_44 : ins 90 44 = some (.aload_n 0) := by decide +kernel
theorem d90_45 : ins 90 45 = some (.getfield 21) := by decide +kernel
theorem d90_48 : ins 90 48 = some (.getfield 144) := by decide +kernel
theorem d90_51 : ins 90 51 = some (.iload_n 1) := by decide +kernel
theorem d90_52 : ins 90 52 = some (.iaload) := by decide +kernel
theorem d90_53 : ins 90 53 = some (.ireturn) := by decide +kernel
theorem d90_54 : ins 90 54 = some (.aload_n 0) := by decide +kernel
theorem d90_55 : ins 90 55 = some (.getfield 21) := by decide +kernel
theorem d90_58 : ins 90 58 = some (.getfield 147) := by decide +kernel
theorem d90_61 : ins 90 61 = some (.iload_n 1) := by decide +kernel
theorem d90_62 : ins 90 62 = some (.iaload) := by decide +kernel
theorem d90_63 : ins 90 63 = some (.ireturn) := by decide +kernel
theorem d90_64 : ins 90 64 = some (.aload_n 0) := by decide +kernel
theorem d90_65 : ins 90 65 = some (.getfield 21) := by decide +kernel
theorem d90_68 : ins 90 68 = some (.getfield 150) := by decide +kernel
theorem d90_71 : ins 90 71 = some (.iload_n 1) := by decide +kernel
theorem d90_72 : ins 90 72 = some (.iaload) := by decide +kernel
theorem d90_73 : ins 90 73 = some (.ireturn) := by decide +kernel
theorem d90_74 : ins 90 74 = some (.aload_n 0) := by decide +kernel
theorem d90_75 : ins 90 75 = some (.getfield 21) := by decide +kernel
theorem d90_78 : ins 90 78 = some (.iload_n 1) := by decide +kernel
theorem d90_79 : ins 90 79 = some (.invokevirtual 153) := by decide +kernel
theorem d90_82 : ins 90 82 = some (.ireturn) := by decide +kernel
theorem d90_83 : ins 90 83 = some (.bipush (-3)) := by decide +kernel
theorem d90_85 : ins 90 85 = some (.ireturn) := by decide +kernel
set_option maxRecDepth 10000 in
theorem b90_0 {Q : Option Value → mm → Prop} (ρ : rm) (τ : Int64) (a1 : Int) (a2 : Int) (hB : BM ρ) (h_a1 : SB a1) (h_a2 : SB a2) : G 90 0 (some (.ref 0) :: some (vI a1) :: some (vI a2) :: []) [] (toM ρ τ) Q = G 11 0 [some (.ref 2), some (vI a1)] [] (toM ρ τ) (fun v μ2 => G 90 8 (some (.ref 0) :: some (vI a1) :: some (vI a2) :: []) (v.toList ++ []) μ2 Q) := by
  refine (g_aload_n d90_0 rfl rfl).trans ?_
  refine (g_getR (q := 2) d90_1 f9_21 sh_0 (by decide) rfl).trans ?_
  refine (g_iload_n d90_4 rfl).trans ?_
  exact g_cV d90_5 k9_143 rfl rfl rfl
set_option maxRecDepth 10000 in
theorem b90_8 {Q : Option Value → mm → Prop} (ρ : rm) (τ : Int64) (l1 : Int) (l2 : Int) (t : List (Option Value)) (r : Int) (hB : BM ρ) (h_l1 : SB l1) (h_l2 : SB l2) (h_r : SM r) : G 90 8 (some (.ref 0) :: some (vI l1) :: some (vI l2) :: t) ((some (vI r)).toList ++ []) (toM ρ τ) Q = (if r = 0 then Q (some (vI (-2))) (toM ρ τ) else (if l2 = 0 then (if 0 ≤ l1 ∧ l1 < 10 then Q (some (vI (ρ 27 l1))) (toM ρ τ) else False) else (if l2 = 1 then (if 0 ≤ l1 ∧ l1 < 10 then Q (some (vI (ρ 28 l1))) (toM ρ τ) else False) else (if l2 = 2 then (if 0 ≤ l1 ∧ l1 < 10 then Q (some (vI (ρ 29 l1))) (toM ρ τ) else False) else (if l2 = 3 then G 12 0 [some (.ref 2), some (vI l1)] [] (toM ρ τ) (fun v μ2 => G 90 82 (some (.ref 0) :: some (vI l1) :: some (vI l2) :: t) (v.toList ++ []) μ2 Q) else Q (some (vI (-3))) (toM ρ τ)))))) := by
  refine j_if_ne (tgt := 14) d90_8 (by decide) (by omega) (fun q1 => ?_) (fun q1 => ?_)
  ·
    refine (j_bipush d90_11 (by decide)).trans ?_
    exact g_iret d90_13 rfl rfl
  ·
    refine (g_iload_n d90_14 rfl).trans ?_
    refine sw_case (c := 0) (fun q2 => ?_) (fun q2 => ?_)
    ·
      refine (g_tableIn (off := 29) (tgt := 44) d90_15 (by rw [iI_toInt (by omega)]; omega) (by rw [iI_toInt (by omega), q2]; rfl) (by decide)).trans ?_
      refine (g_aload_n d90_44 rfl rfl).trans ?_
      refine (g_getR (q := 2) d90_45 f9_21 sh_0 (by decide) rfl).trans ?_
      refine (g_getR (q := 27) d90_48 f9_144 sh_2 (by decide) rfl).trans ?_
      refine (g_iload_n d90_51 rfl).trans ?_
      refine j_iaload (v := ρ 27 l1) d90_52 sh_27 (by omega) rfl (fun q3 => ?_)
      have q4 := hB 27 l1 (by omega)
      exact g_iret d90_53 rfl rfl
    ·
      refine sw_case (c := 1) (fun q5 => ?_) (fun q5 => ?_)
      ·
        refine (g_tableIn (off := 39) (tgt := 54) d90_15 (by rw [iI_toInt (by omega)]; omega) (by rw [iI_toInt (by omega), q5]; rfl) (by decide)).trans ?_
        refine (g_aload_n d90_54 rfl rfl).trans ?_
        refine (g_getR (q := 2) d90_55 f9_21 sh_0 (by decide) rfl).trans ?_
        refine (g_getR (q := 28) d90_58 f9_147 sh_2 (by decide) rfl).trans ?_
        refine (g_iload_n d90_61 rfl).trans ?_
        refine j_iaload (v := ρ 28 l1) d90_62 sh_28 (by omega) rfl (fun q6 => ?_)
        have q7 := hB 28 l1 (by omega)
        exact g_iret d90_63 rfl rfl
      ·
        refine sw_case (c := 2) (fun q8 => ?_) (fun q8 => ?_)
        ·
          refine (g_tableIn (off := 49) (tgt := 64) d90_15 (by rw [iI_toInt (by omega)]; omega) (by rw [iI_toInt (by omega), q8]; rfl) (by decide)).trans ?_
          refine (g_aload_n d90_64 rfl rfl).trans ?_
          refine (g_getR (q := 2) d90_65 f9_21 sh_0 (by decide) rfl).trans ?_
          refine (g_getR (q := 29) d90_68 f9_150 sh_2 (by decide) rfl).trans ?_
          refine (g_iload_n d90_71 rfl).trans ?_
          refine j_iaload (v := ρ 29 l1) d90_72 sh_29 (by omega) rfl (fun q9 => ?_)
          have q10 := hB 29 l1 (by omega)
          exact g_iret d90_73 rfl rfl
        ·
          refine sw_case (c := 3) (fun q11 => ?_) (fun q11 => ?_)
          ·
            refine (g_tableIn (off := 59) (tgt := 74) d90_15 (by rw [iI_toInt (by omega)]; omega) (by rw [iI_toInt (by omega), q11]; rfl) (by decide)).trans ?_
            refine (g_aload_n d90_74 rfl rfl).trans ?_
            refine (g_getR (q := 2) d90_75 f9_21 sh_0 (by decide) rfl).trans ?_
            refine (g_iload_n d90_78 rfl).trans ?_
            exact g_cV d90_79 k9_153 rfl rfl rfl
          ·
            refine (g_tableOut (tgt := 83) d90_15 (by rw [iI_toInt (by omega)]; omega) (by decide)).trans ?_
            refine (j_bipush d90_83 (by decide)).trans ?_
            exact g_iret d90_85 rfl rfl
set_option maxRecDepth 10000 in
theorem b90_82 {Q : Option Value → mm → Prop} (ρ : rm) (τ : Int64) (l1 : Int) (l2 : Int) (t : List (Option Value)) (r : Int) (hB : BM ρ) (h_l1 : SB l1) (h_l2 : SB l2) (h_r : SM r) : G 90 82 (some (.ref 0) :: some (vI l1) :: some (vI l2) :: t) ((some (vI r)).toList ++ []) (toM ρ τ) Q = Q (some (vI r)) (toM ρ τ) := by
  exact g_iret d90_82 rfl rfl
theorem d91_0 : ins 91 0 = some (.aload_n 0) := by decide +kernel
theorem d91_1 : ins 91 1 = some (.getfield 10) := by decide +kernel
theorem d91_4 : ins 91 4 = some (.iload_n 1) := by decide +kernel
theorem d91_5 : ins 91 5 = some (.invokevirtual 114) := by decide +kernel
theorem d91_8 : ins 91 8 = some (.ifCond .ne 6) := by decide +kernel
theorem d91_11 : ins 91 11 = some (.bipush (-2)) := by decide +kernel
theorem d91_13 : ins 91 13 = some (.ireturn) := by decide +kernel
theorem d91_14 : ins 91 14 = some (.iload_n 1) := by decide +kernel
theorem d91_15 : ins 91 15 = some (.aload_n 0) := by decide +kernel
theorem d91_16 : ins 91 16 = some (.getfield 51) := by decide +kernel
theorem d91_19 : ins 91 19 = some (.getfield 157) := by decide +kernel
theorem d91_22 : ins 91 22 = some (.if_icmp .ne 6) := by decide +kernel
theorem d91_25 : ins 91 25 = some (.bipush (-4)) := by decide +kernel
theorem d91_27 : ins 91 27 = some (.ireturn) := by decide +kernel
theorem d91_28 : ins 91 28 = some (.aload_n 0) := by decide +kernel
theorem d91_29 : ins 91 29 = some (.getfield 51) := by decide +kernel
theorem d91_32 : ins 91 32 = some (.aload_n 0) := by decide +kernel
theorem d91_33 : ins 91 33 = some (.getfield 10) := by decide +kernel
theorem d91_36 : ins 91 36 = some (.aload_n 0) := by decide +kernel
theorem d91_37 : ins 91 37 = some (.getfield 51) := by decide +kernel
theorem d91_40 : ins 91 40 = some (.getfield 157) := by decide +kernel
theorem d91_43 : ins 91 43 = some (.iload_n 1) := by decide +kernel
theorem d91_44 : ins 91 44 = some (.invokevirtual 122) := by decide +kernel
theorem d91_47 : ins 91 47 = some (.iload_n 1) := by decide +kernel
theorem d91_48 : ins 91 48 = some (.invokevirtual 159) := by decide +kernel
theorem d91_51 : ins 91 51 = some (.ireturn) := by decide +kernel
set_option maxRecDepth 10000 in
theorem b91_0 {Q : Option Value → mm → Prop} (ρ : rm) (τ : Int64) (a1 : Int) (hB : BM ρ) (h_a1 : SB a1) : G 91 0 (some (.ref 0) :: some (vI a1) :: []) [] (toM ρ τ) Q = G 32 0 [some (.ref 1), some (vI a1)] [] (toM ρ τ) (fun v μ2 => G 91 8 (some (.ref 0) :: some (vI a1) :: []) (v.toList ++ []) μ2 Q) := by
  refine (g_aload_n d91_0 rfl rfl).trans ?_
  refine (g_getR (q := 1) d91_1 f9_10 sh_0 (by decide) rfl).trans ?_
  refine (g_iload_n d91_4 rfl).trans ?_
  exact g_cV d91_5 k9_114 rfl rfl rfl
set_option maxRecDepth 10000 in
theorem b91_8 {Q : Option Value → mm → Prop} (ρ : rm) (τ : Int64) (l1 : Int) (t : List (Option Value)) (r : Int) (hB : BM ρ) (h_l1 : SB l1) (h_r : SM r) : G 91 8 (some (.ref 0) :: some (vI l1) :: t) ((some (vI r)).toList ++ []) (toM ρ τ) Q = (if r = 0 then Q (some (vI (-2))) (toM ρ τ) else (if l1 = (ρ 6 0) then Q (some (vI (-4))) (toM ρ τ) else G 33 0 [some (.ref 1), some (vI (ρ 6 0)), some (vI l1)] [] (toM ρ τ) (fun v μ2 => G 91 47 (some (.ref 0) :: some (vI l1) :: t) (v.toList ++ [.ref 6]) μ2 Q))) := by
  refine j_if_ne (tgt := 14) d91_8 (by decide) (by omega) (fun q1 => ?_) (fun q1 => ?_)
  ·
    refine (j_bipush d91_11 (by decide)).trans ?_
    exact g_iret d91_13 rfl rfl
  ·
    refine (g_iload_n d91_14 rfl).trans ?_
    refine (g_aload_n d91_15 rfl rfl).trans ?_
    refine (g_getR (q := 6) d91_16 f9_51 sh_0 (by decide) rfl).trans ?_
    refine (j_getI (v := ρ 6 0) d91_19 f9_157 sh_6 (by decide) rfl rfl).trans ?_
    have q2 := hB 6 0 (by decide)
    refine j_icmp_ne (tgt := 28) d91_22 (by decide) (by omega) (by omega) (fun q3 => ?_) (fun q3 => ?_)
    ·
      refine (j_bipush d91_25 (by decide)).trans ?_
      exact g_iret d91_27 rfl rfl
    ·
      refine (g_aload_n d91_28 rfl rfl).trans ?_
      refine (g_getR (q := 6) d91_29 f9_51 sh_0 (by decide) rfl).trans ?_
      refine (g_aload_n d91_32 rfl rfl).trans ?_
      refine (g_getR (q := 1) d91_33 f9_10 sh_0 (by decide) rfl).trans ?_
      refine (g_aload_n d91_36 rfl rfl).trans ?_
      refine (g_getR (q := 6) d91_37 f9_51 sh_0 (by decide) rfl).trans ?_
      refine (j_getI (v := ρ 6 0) d91_40 f9_157 sh_6 (by decide) rfl rfl).trans ?_
      refine (g_iload_n d91_43 rfl).trans ?_
      exact g_cV d91_44 k9_122 rfl rfl rfl
set_option maxRecDepth 10000 in
theorem b91_47 {Q : Option Value → mm → Prop} (ρ : rm) (τ : Int64) (l1 : Int) (t : List (Option Value)) (r : Int) (hB : BM ρ) (h_l1 : SB l1) (h_r : SM r) : G 91 47 (some (.ref 0) :: some (vI l1) :: t) ((some (vI r)).toList ++ [.ref 6]) (toM ρ τ) Q = G 77 0 [some (.ref 6), some (vI r), some (vI l1)] [] (toM ρ τ) (fun v μ2 => G 91 51 (some (.ref 0) :: some (vI l1) :: t) (v.toList ++ []) μ2 Q) := by
  refine (g_iload_n d91_47 rfl).trans ?_
  exact g_cV d91_48 k9_159 rfl rfl rfl
set_option maxRecDepth 10000 in
theorem b91_51 {Q : Option Value → mm → Prop} (ρ : rm) (τ : Int64) (l1 : Int) (t : List (Option Value)) (r : Int) (hB : BM ρ) (h_l1 : SB l1) (h_r : SM r) : G 91 51 (some (.ref 0) :: some (vI l1) :: t) ((some (vI r)).toList ++ []) (toM ρ τ) Q = Q (some (vI r)) (toM ρ τ) := by
  exact g_iret d91_51 rfl rfl
theorem d92_0 : ins 92 0 = some (.iload_n 1) := by decide +kernel
theorem d92_1 : ins 92 1 = some (.iconst 1) := by decide +kernel
theorem d92_2 : ins 92 2 = some (.if_icmp .lt 10) := by decide +kernel
theorem d92_5 : ins 92 5 = some (.iload_n 1) := by decide +kernel
theorem d92_6 : ins 92 6 = some (.sipush 9999) := by decide +kernel
theorem d92_9 : ins 92 9 = some (.if_icmp .le 6) := by decide +kernel
theorem d92_12 : ins 92 12 = some (.bipush (-3)) := by decide +kernel
theorem d92_14 : ins 92 14 = some (.ireturn) := by decide +kernel
theorem d92_15 : ins 92 15 = some (.aload_n 0) := by decide +kernel
theorem d92_16 : ins 92 16 = some (.getfield 51) := by decide +kernel
theorem d92_19 : ins 92 19 = some (.iload_n 1) := by decide +kernel
theorem d92_20 : ins 92 20 = some (.aload_n 0) := by decide +kernel
theorem d92_21 : ins 92 21 = some (.getfield 51) := by decide +kernel
theorem d92_24 : ins 92 24 = some (.getfield 157) := by decide +kernel
theorem d92_27 : ins 92 27 = some (.invokevirtual 159) := by decide +kernel
theorem d92_30 : ins 92 30 = some (.ireturn) := by decide +kernel
set_option maxRecDepth 10000 in
theorem b92_0 {Q : Option Value → mm → Prop} (ρ : rm) (τ : Int64) (a1 : Int) (hB : BM ρ) (h_a1 : SB a1) : G 92 0 (some (.ref 0) :: some (vI a1) :: []) [] (toM ρ τ) Q = (if a1 < 1 then Q (some (vI (-3))) (toM ρ τ) else (if a1 ≤ 9999 then G 77 0 [some (.ref 6), some (vI a1), some (vI (ρ 6 0))] [] (toM ρ τ) (fun v μ2 => G 92 30 (some (.ref 0) :: some (vI a1) :: []) (v.toList ++ []) μ2 Q) else Q (some (vI (-3))) (toM ρ τ))) := by
  refine (g_iload_n d92_0 rfl).trans ?_
  refine (j_iconst d92_1).trans ?_
  refine j_icmp_lt (tgt := 12) d92_2 (by decide) (by omega) (by omega) (fun q1 => ?_) (fun q1 => ?_)
  ·
    refine (j_bipush d92_12 (by decide)).trans ?_
    exact g_iret d92_14 rfl rfl
  ·
    refine (g_iload_n d92_5 rfl).trans ?_
    refine (j_sipush d92_6 (by decide)).trans ?_
    refine j_icmp_le (tgt := 15) d92_9 (by decide) (by omega) (by omega) (fun q2 => ?_) (fun q2 => ?_)
    ·
      refine (g_aload_n d92_15 rfl rfl).trans ?_
      refine (g_getR (q := 6) d92_16 f9_51 sh_0 (by decide) rfl).trans ?_
      refine (g_iload_n d92_19 rfl).trans ?_
      refine (g_aload_n d92_20 rfl rfl).trans ?_
      refine (g_getR (q := 6) d92_21 f9_51 sh_0 (by decide) rfl).trans ?_
      refine (j_getI (v := ρ 6 0) d92_24 f9_157 sh_6 (by decide) rfl rfl).trans ?_
      have q3 := hB 6 0 (by decide)
      exact g_cV d92_27 k9_159 rfl rfl rfl
    ·
      refine (j_bipush d92_12 (by decide)).trans ?_
      exact g_iret d92_14 rfl rfl
set_option maxRecDepth 10000 in
theorem b92_30 {Q : Option Value → mm → Prop} (ρ : rm) (τ : Int64) (l1 : Int) (t : List (Option Value)) (r : Int) (hB : BM ρ) (h_l1 : SB l1) (h_r : SM r) : G 92 30 (some (.ref 0) :: some (vI l1) :: t) ((some (vI r)).toList ++ []) (toM ρ τ) Q = Q (some (vI r)) (toM ρ τ) := by
  exact g_iret d92_30 rfl rfl
theorem d93_0 : ins 93 0 = some (.iload_n 1) := by decide +kernel
theorem d93_1 : ins 93 1 = some (.tableswitch 94 0 3 #[31, 39, 47, 69]) := by decide +kernel
theorem d93_32 : ins 93 32 = some (.aload_n 0) := by decide +kernel
theorem d93_33 : ins 93 33 = some (.getfield 51) := by decide +kernel
theorem d93_36 : ins 93 36 = some (.getfield 157) := by decide +kernel
theorem d93_39 : ins 93 39 = some (.ireturn) := by decide +kernel
theorem d93_40 : ins 93 40 = some (.aload_n 0) := by decide +kernel
theorem d93_41 : ins 93 41 = some (.getfield 51) := by decide +kernel
theorem d93_44 : ins 93 44 = some (.getfield 162) := by decide +kernel
theorem d93_47 : ins 93 47 = some (.ireturn) := by decide +kernel
theorem d93_48 : ins 93 48 = some (.aload_n 0) := by decide +kernel
theorem d93_49 : ins 93 49 = some (.getfield 10) := by decide +kernel
theorem d93_52 : ins 93 52 = some (.aload_n 0) := by decide +kernel
theorem d93_53 : ins 93 53 = some (.getfield 51) := by decide +kernel
theorem d93_56 : ins 93 56 = some (.getfield 157) := by decide +kernel
theorem d93_59 : ins 93 59 = some (.aload_n 0) := by decide +kernel
theorem d93_60 : ins 93 60 = some (.getfield 51) := by decide +kernel
theorem d93_63 : ins 93 63 = some (.getfield 162) := by decide +kernel
theorem d93_66 : ins 93 66 = some (.invokevirtual 127) := by decide +kernel
theorem d93_69 : ins 93 69 = some (.ireturn) := by decide +kernel
theorem d93_70 : ins 93 70 = some (.aload_n 0) := by decide +kernel
theorem d93_71 : ins 93 71 = some (.getfield 10) := by decide +kernel
theorem d93_74 : ins 93 74 = some (.aload_n 0) := by decide +kernel
theorem d93_75 : ins 93 75 = some (.getfield 51) := by decide +kernel
theorem d93_78 : ins 93 78 = some (.getfield 157) := by decide +kernel
theorem d93_81 : ins 93 81 = some (.aload_n 0) := by decide +kernel
theorem d93_82 : ins 93 82 = some (.getfield 51) := by decide +kernel
theorem d93_85 : ins 93 85 = some (.getfield 162) := by decide +kernel
theorem d93_88 : ins 93 88 = some (.invokevirtual 130) := by decide +kernel
theorem d93_91 : ins 93 91 = some (.bipush 100) := by decide +kernel
theorem d93_93 : ins 93 93 = some (.iadd) := by decide +kernel
theorem d93_94 : ins 93 94 = some (.ireturn) := by decide +kernel
theorem d93_95 : ins 93 95 = some (.bipush (-3)) := by decide +kernel
theorem d93_97 : ins 93 97 = some (.ireturn) := by decide +kernel
set_option maxRecDepth 10000 in
theorem b93_0 {Q : Option Value → mm → Prop} (ρ : rm) (τ : Int64) (a1 : Int) (hB : BM ρ) (h_a1 : SB a1) : G 93 0 (some (.ref 0) :: some (vI a1) :: []) [] (toM ρ τ) Q = (if a1 = 0 then Q (some (vI (ρ 6 0))) (toM ρ τ) else (if a1 = 1 then Q (some (vI (ρ 6 1))) (toM ρ τ) else (if a1 = 2 then G 34 0 [some (.ref 1), some (vI (ρ 6 0)), some (vI (ρ 6 1))] [] (toM ρ τ) (fun v μ2 => G 93 69 (some (.ref 0) :: some (vI a1) :: []) (v.toList ++ []) μ2 Q) else (if a1 = 3 then G 35 0 [some (.ref 1), some (vI (ρ 6 0)), some (vI (ρ 6 1))] [] (toM ρ τ) (fun v μ2 => G 93 91 (some (.ref 0) :: some (vI a1) :: []) (v.toList ++ []) μ2 Q) else Q (some (vI (-3))) (toM ρ τ))))) := by
  refine (g_iload_n d93_0 rfl).trans ?_
  refine sw_case (c := 0) (fun q1 => ?_) (fun q1 => ?_)
  ·
    refine (g_tableIn (off := 31) (tgt := 32) d93_1 (by rw [iI_toInt (by omega)]; omega) (by rw [iI_toInt (by omega), q1]; rfl) (by decide)).trans ?_
    refine (g_aload_n d93_32 rfl rfl).trans ?_
    refine (g_getR (q := 6) d93_33 f9_51 sh_0 (by decide) rfl).trans ?_
    refine (j_getI (v := ρ 6 0) d93_36 f9_157 sh_6 (by decide) rfl rfl).trans ?_
    have q2 := hB 6 0 (by decide)
    exact g_iret d93_39 rfl rfl
  ·
    refine sw_case (c := 1) (fun q3 => ?_) (fun q3 => ?_)
    ·
      refine (g_tableIn (off := 39) (tgt := 40) d93_1 (by rw [iI_toInt (by omega)]; omega) (by rw [iI_toInt (by omega), q3]; rfl) (by decide)).trans ?_
      refine (g_aload_n d93_40 rfl rfl).trans ?_
      refine (g_getR (q := 6) d93_41 f9_51 sh_0 (by decide) rfl).trans ?_
      refine (j_getI (v := ρ 6 1) d93_44 f9_162 sh_6 (by decide) rfl rfl).trans ?_
      have q4 := hB 6 1 (by decide)
      exact g_iret d93_47 rfl rfl
    ·
      refine sw_case (c := 2) (fun q5 => ?_) (fun q5 => ?_)
      ·
        refine (g_tableIn (off := 47) (tgt := 48) d93_1 (by rw [iI_toInt (by omega)]; omega) (by rw [iI_toInt (by omega), q5]; rfl) (by decide)).trans ?_
        refine (g_aload_n d93_48 rfl rfl).trans ?_
        refine (g_getR (q := 1) d93_49 f9_10 sh_0 (by decide) rfl).trans ?_
        refine (g_aload_n d93_52 rfl rfl).trans ?_
        refine (g_getR (q := 6) d93_53 f9_51 sh_0 (by decide) rfl).trans ?_
        refine (j_getI (v := ρ 6 0) d93_56 f9_157 sh_6 (by decide) rfl rfl).trans ?_
        have q6 := hB 6 0 (by decide)
        refine (g_aload_n d93_59 rfl rfl).trans ?_
        refine (g_getR (q := 6) d93_60 f9_51 sh_0 (by decide) rfl).trans ?_
        refine (j_getI (v := ρ 6 1) d93_63 f9_162 sh_6 (by decide) rfl rfl).trans ?_
        have q7 := hB 6 1 (by decide)
        exact g_cV d93_66 k9_127 rfl rfl rfl
      ·
        refine sw_case (c := 3) (fun q8 => ?_) (fun q8 => ?_)
        ·
          refine (g_tableIn (off := 69) (tgt := 70) d93_1 (by rw [iI_toInt (by omega)]; omega) (by rw [iI_toInt (by omega), q8]; rfl) (by decide)).trans ?_
          refine (g_aload_n d93_70 rfl rfl).trans ?_
          refine (g_getR (q := 1) d93_71 f9_10 sh_0 (by decide) rfl).trans ?_
          refine (g_aload_n d93_74 rfl rfl).trans ?_
          refine (g_getR (q := 6) d93_75 f9_51 sh_0 (by decide) rfl).trans ?_
          refine (j_getI (v := ρ 6 0) d93_78 f9_157 sh_6 (by decide) rfl rfl).trans ?_
          have q9 := hB 6 0 (by decide)
          refine (g_aload_n d93_81 rfl rfl).trans ?_
          refine (g_getR (q := 6) d93_82 f9_51 sh_0 (by decide) rfl).trans ?_
          refine (j_getI (v := ρ 6 1) d93_85 f9_162 sh_6 (by decide) rfl rfl).trans ?_
          have q10 := hB 6 1 (by decide)
          exact g_cV d93_88 k9_130 rfl rfl rfl
        ·
          refine (g_tableOut (tgt := 95) d93_1 (by rw [iI_toInt (by omega)]; omega) (by decide)).trans ?_
          refine (j_bipush d93_95 (by decide)).trans ?_
          exact g_iret d93_97 rfl rfl
set_option maxRecDepth 10000 in
theorem b93_69 {Q : Option Value → mm → Prop} (ρ : rm) (τ : Int64) (l1 : Int) (t : List (Option Value)) (r : Int) (hB : BM ρ) (h_l1 : SB l1) (h_r : SM r) : G 93 69 (some (.ref 0) :: some (vI l1) :: t) ((some (vI r)).toList ++ []) (toM ρ τ) Q = Q (some (vI r)) (toM ρ τ) := by
  exact g_iret d93_69 rfl rfl
set_option maxRecDepth 10000 in
theorem b93_91 {Q : Option Value → mm → Prop} (ρ : rm) (τ : Int64) (l1 : Int) (t : List (Option Value)) (r : Int) (hB : BM ρ) (h_l1 : SB l1) (h_r : SM r) : G 93 91 (some (.ref 0) :: some (vI l1) :: t) ((some (vI r)).toList ++ []) (toM ρ τ) Q = Q (some (vI (r + 100))) (toM ρ τ) := by
  refine (j_bipush d93_91 (by decide)).trans ?_
  refine (j_iadd d93_93).trans ?_
  exact g_iret d93_94 rfl rfl
theorem d94_0 : ins 94 0 = some (.iload_n 1) := by decide +kernel
theorem d94_1 : ins 94 1 = some (.ifCond .lt 19) := by decide +kernel
theorem d94_4 : ins 94 4 = some (.iload_n 1) := by decide +kernel
theorem d94_5 : ins 94 5 = some (.iconst 2) := by decide +kernel
theorem d94_6 : ins 94 6 = some (.if_icmp .ge 14) := by decide +kernel
theorem d94_9 : ins 94 9 = some (.aload_n 0) := by decide +kernel
theorem d94_10 : ins 94 10 = some (.getfield 51) := by decide +kernel
theorem d94_13 : ins 94 13 = some (.iload_n 1) := by decide +kernel
theorem d94_14 : ins 94 14 = some (.invokevirtual 165) := by decide +kernel
theorem d94_17 : ins 94 17 = some (.goto 5) := by decide +kernel
theorem d94_20 : ins 94 20 = some (.bipush (-2)) := by decide +kernel
theorem d94_22 : ins 94 22 = some (.ireturn) := by decide +kernel
set_option maxRecDepth 10000 in
theorem b94_0 {Q : Option Value → mm → Prop} (ρ : rm) (τ : Int64) (a1 : Int) (hB : BM ρ) (h_a1 : SB a1) : G 94 0 (some (.ref 0) :: some (vI a1) :: []) [] (toM ρ τ) Q = (if a1 < 0 then Q (some (vI (-2))) (toM ρ τ) else (if 2 ≤ a1 then Q (some (vI (-2))) (toM ρ τ) else G 78 0 [some (.ref 6), some (vI a1)] [] (toM ρ τ) (fun v μ2 => G 94 17 (some (.ref 0) :: some (vI a1) :: []) (v.toList ++ []) μ2 Q))) := by
  refine (g_iload_n d94_0 rfl).trans ?_
  refine j_if_lt (tgt := 20) d94_1 (by decide) (by omega) (fun q1 => ?_) (fun q1 => ?_)
  ·
    refine (j_bipush d94_20 (by decide)).trans ?_
    exact g_iret d94_22 rfl rfl
  ·
    refine (g_iload_n d94_4 rfl).trans ?_
    refine (j_iconst d94_5).trans ?_
    refine j_icmp_ge (tgt := 20) d94_6 (by decide) (by omega) (by omega) (fun q2 => ?_) (fun q2 => ?_)
    ·
      refine (j_bipush d94_20 (by decide)).trans ?_
      exact g_iret d94_22 rfl rfl
    ·
      refine (g_aload_n d94_9 rfl rfl).trans ?_
      refine (g_getR (q := 6) d94_10 f9_51 sh_0 (by decide) rfl).trans ?_
      refine (g_iload_n d94_13 rfl).trans ?_
      exact g_cV d94_14 k9_165 rfl rfl rfl
set_option maxRecDepth 10000 in
theorem b94_17 {Q : Option Value → mm → Prop} (ρ : rm) (τ : Int64) (l1 : Int) (t : List (Option Value)) (r : Int) (hB : BM ρ) (h_l1 : SB l1) (h_r : SM r) : G 94 17 (some (.ref 0) :: some (vI l1) :: t) ((some (vI r)).toList ++ []) (toM ρ τ) Q = Q (some (vI r)) (toM ρ τ) := by
  refine (g_goto (tgt := 22) d94_17 (by decide)).trans ?_
  exact g_iret d94_22 rfl rfl
theorem d95_0 : ins 95 0 = some (.iload_n 1) := by decide +kernel
theorem d95_1 : ins 95 1 = some (.ifCond .lt 19) := by decide +kernel
theorem d95_4 : ins 95 4 = some (.iload_n 1) := by decide +kernel
theorem d95_5 : ins 95 5 = some (.iconst 2) := by decide +kernel
theorem d95_6 : ins 95 6 = some (.if_icmp .ge 14) := by decide +kernel
theorem d95_9 : ins 95 9 = some (.aload_n 0) := by decide +kernel
theorem d95_10 : ins 95 10 = some (.getfield 51) := by decide +kernel
theorem d95_13 : ins 95 13 = some (.iload_n 1) := by decide +kernel
theorem d95_14 : ins 95 14 = some (.invokevirtual 168) := by decide +kernel
theorem d95_17 : ins 95 17 = some (.goto 5) := by decide +kernel
theorem d95_20 : ins 95 20 = some (.bipush (-2)) := by decide +kernel
theorem d95_22 : ins 95 22 = some (.ireturn) := by decide +kernel
set_option maxRecDepth 10000 in
theorem b95_0 {Q : Option Value → mm → Prop} (ρ : rm) (τ : Int64) (a1 : Int) (hB : BM ρ) (h_a1 : SB a1) : G 95 0 (some (.ref 0) :: some (vI a1) :: []) [] (toM ρ τ) Q = (if a1 < 0 then Q (some (vI (-2))) (toM ρ τ) else (if 2 ≤ a1 then Q (some (vI (-2))) (toM ρ τ) else G 79 0 [some (.ref 6), some (vI a1)] [] (toM ρ τ) (fun v μ2 => G 95 17 (some (.ref 0) :: some (vI a1) :: []) (v.toList ++ []) μ2 Q))) := by
  refine (g_iload_n d95_0 rfl).trans ?_
  refine j_if_lt (tgt := 20) d95_1 (by decide) (by omega) (fun q1 => ?_) (fun q1 => ?_)
  ·
    refine (j_bipush d95_20 (by decide)).trans ?_
    exact g_iret d95_22 rfl rfl
  ·
    refine (g_iload_n d95_4 rfl).trans ?_
    refine (j_iconst d95_5).trans ?_
    refine j_icmp_ge (tgt := 20) d95_6 (by decide) (by omega) (by omega) (fun q2 => ?_) (fun q2 => ?_)
    ·
      refine (j_bipush d95_20 (by decide)).trans ?_
      exact g_iret d95_22 rfl rfl
    ·
      refine (g_aload_n d95_9 rfl rfl).trans ?_
      refine (g_getR (q := 6) d95_10 f9_51 sh_0 (by decide) rfl).trans ?_
      refine (g_iload_n d95_13 rfl).trans ?_
      exact g_cV d95_14 k9_168 rfl rfl rfl
set_option maxRecDepth 10000 in
theorem b95_17 {Q : Option Value → mm → Prop} (ρ : rm) (τ : Int64) (l1 : Int) (t : List (Option Value)) (r : Int) (hB : BM ρ) (h_l1 : SB l1) (h_r : SM r) : G 95 17 (some (.ref 0) :: some (vI l1) :: t) ((some (vI r)).toList ++ []) (toM ρ τ) Q = Q (some (vI r)) (toM ρ τ) := by
  refine (g_goto (tgt := 22) d95_17 (by decide)).trans ?_
  exact g_iret d95_22 rfl rfl
theorem d96_0 : ins 96 0 = some (.iload_n 1) := by decide +kernel
theorem d96_1 : ins 96 1 = some (.ifCond .ge 6) := by decide +kernel
theorem d96_4 : ins 96 4 = some (.bipush (-3)) := by decide +kernel
theorem d96_6 : ins 96 6 = some (.ireturn) := by decide +kernel
theorem d96_7 : ins 96 7 = some (.iload_n 1) := by decide +kernel
theorem d96_8 : ins 96 8 = some (.aload_n 0) := by decide +kernel
theorem d96_9 : ins 96 9 = some (.getfield 21) := by decide +kernel
theorem d96_12 : ins 96 12 = some (.getfield 91) := by decide +kernel
theorem d96_15 : ins 96 15 = some (.if_icmp .ge 15) := by decide +kernel
theorem d96_18 : ins 96 18 = some (.aload_n 0) := by decide +kernel
theorem d96_19 : ins 96 19 = some (.getfield 21) := by decide +kernel
theorem d96_22 : ins 96 22 = some (.getfield 171) := by decide +kernel
theorem d96_25 : ins 96 25 = some (.iload_n 1) := by decide +kernel
theorem d96_26 : ins 96 26 = some (.iaload) := by decide +kernel
theorem d96_27 : ins 96 27 = some (.goto 4) := by decide +kernel
theorem d96_30 : ins 96 30 = some (.iconst (-1)) := by decide +kernel
theorem d96_31 : ins 96 31 = some (.ireturn) := by decide +kernel
set_option maxRecDepth 10000 in
theorem b96_0 {Q : Option Value → mm → Prop} (ρ : rm) (τ : Int64) (a1 : Int) (hB : BM ρ) (h_a1 : SB a1) : G 96 0 (some (.ref 0) :: some (vI a1) :: []) [] (toM ρ τ) Q = (if 0 ≤ a1 then (if (ρ 2 4) ≤ a1 then Q (some (vI (-1))) (toM ρ τ) else (if 0 ≤ a1 ∧ a1 < 10 then Q (some (vI (ρ 30 a1))) (toM ρ τ) else False)) else Q (some (vI (-3))) (toM ρ τ)) := by
  refine (g_iload_n d96_0 rfl).trans ?_
  refine j_if_ge (tgt := 7) d96_1 (by decide) (by omega) (fun q1 => ?_) (fun q1 => ?_)
  ·
    refine (g_iload_n d96_7 rfl).trans ?_
    refine (g_aload_n d96_8 rfl rfl).trans ?_
    refine (g_getR (q := 2) d96_9 f9_21 sh_0 (by decide) rfl).trans ?_
    refine (j_getI (v := ρ 2 4) d96_12 f9_91 sh_2 (by decide) rfl rfl).trans ?_
    have q2 := hB 2 4 (by decide)
    refine j_icmp_ge (tgt := 30) d96_15 (by decide) (by omega) (by omega) (fun q3 => ?_) (fun q3 => ?_)
    ·
      refine (j_iconst d96_30).trans ?_
      exact g_iret d96_31 rfl rfl
    ·
      refine (g_aload_n d96_18 rfl rfl).trans ?_
      refine (g_getR (q := 2) d96_19 f9_21 sh_0 (by decide) rfl).trans ?_
      refine (g_getR (q := 30) d96_22 f9_171 sh_2 (by decide) rfl).trans ?_
      refine (g_iload_n d96_25 rfl).trans ?_
      refine j_iaload (v := ρ 30 a1) d96_26 sh_30 (by omega) rfl (fun q4 => ?_)
      have q5 := hB 30 a1 (by omega)
      refine (g_goto (tgt := 31) d96_27 (by decide)).trans ?_
      exact g_iret d96_31 rfl rfl
  ·
    refine (j_bipush d96_4 (by decide)).trans ?_
    exact g_iret d96_6 rfl rfl
theorem d97_0 : ins 97 0 = some (.aload_n 0) := by decide +kernel
theorem d97_1 : ins 97 1 = some (.getfield 21) := by decide +kernel
theorem d97_4 : ins 97 4 = some (.iload_n 1) := by decide +kernel
theorem d97_5 : ins 97 5 = some (.invokevirtual 143) := by decide +kernel
theorem d97_8 : ins 97 8 = some (.ifCond .eq 14) := by decide +kernel
theorem d97_11 : ins 97 11 = some (.aload_n 0) := by decide +kernel
theorem d97_12 : ins 97 12 = some (.getfield 21) := by decide +kernel
theorem d97_15 : ins 97 15 = some (.iload_n 2) := by decide +kernel
theorem d97_16 : ins 97 16 = some (.invokevirtual 143) := by decide +kernel
theorem d97_19 : ins 97 19 = some (.ifCond .ne 6) := by decide +kernel
theorem d97_22 : ins 97 22 = some (.bipush (-2)) := by decide +kernel
theorem d97_24 : ins 97 24 = some (.ireturn) := by decide +kernel
theorem d97_25 : ins 97 25 = some (.aload_n 0) := by decide +kernel
theorem d97_26 : ins 97 26 = some (.getfield 21) := by decide +kernel
theorem d97_29 : ins 97 29 = some (.iload_n 1) := by decide +kernel
theorem d97_30 : ins 97 30 = some (.iload_n 2) := by decide +kernel
theorem d97_31 : ins 97 31 = some (.invokevirtual 174) := by decide +kernel
theorem d97_34 : ins 97 34 = some (.ifCond .eq 18) := by decide +kernel
theorem d97_37 : ins 97 37 = some (.aload_n 0) := by decide +kernel
theorem d97_38 : ins 97 38 = some (.getfield 21) := by decide +kernel
theorem d97_41 : ins 97 41 = some (.iload_n 1) := by decide +kernel
theorem d97_42 : ins 97 42 = some (.iload_n 2) := by decide +kernel
theorem d97_43 : ins 97 43 = some (.invokevirtual 178) := by decide +kernel
theorem d97_46 : ins 97 46 = some (.ldc 136) := by decide +kernel
theorem d97_48 : ins 97 48 = some (.iadd) := by decide +kernel
theorem d97_49 : ins 97 49 = some (.goto 4) := by decide +kernel
theorem d97_52 : ins 97 52 = some (.iconst (-1)) := by decide +kernel
theorem d97_53 : ins 97 53 = some (.ireturn) := by decide +kernel
set_option maxRecDepth 10000 in
theorem b97_0 {Q : Option Value → mm → Prop} (ρ : rm) (τ : Int64) (a1 : Int) (a2 : Int) (hB : BM ρ) (h_a1 : SB a1) (h_a2 : SB a2) : G 97 0 (some (.ref 0) :: some (vI a1) :: some (vI a2) :: []) [] (toM ρ τ) Q = G 11 0 [some (.ref 2), some (vI a1)] [] (toM ρ τ) (fun v μ2 => G 97 8 (some (.ref 0) :: some (vI a1) :: some (vI a2) :: []) (v.toList ++ []) μ2 Q) := by
  refine (g_aload_n d97_0 rfl rfl).trans ?_
  refine (g_getR (q := 2) d97_1 f9_21 sh_0 (by decide) rfl).trans ?_
  refine (g_iload_n d97_4 rfl).trans ?_
  exact g_cV d97_5 k9_143 rfl rfl rfl
set_option maxRecDepth 10000 in
theorem b97_8 {Q : Option Value → mm → Prop} (ρ : rm) (τ : Int64) (l1 : Int) (l2 : Int) (t : List (Option Value)) (r : Int) (hB : BM ρ) (h_l1 : SB l1) (h_l2 : SB l2) (h_r : SM r) : G 97 8 (some (.ref 0) :: some (vI l1) :: some (vI l2) :: t) ((some (vI r)).toList ++ []) (toM ρ τ) Q = (if r = 0 then Q (some (vI (-2))) (toM ρ τ) else G 11 0 [some (.ref 2), some (vI l2)] [] (toM ρ τ) (fun v μ2 => G 97 19 (some (.ref 0) :: some (vI l1) :: some (vI l2) :: t) (v.toList ++ []) μ2 Q)) := by
  refine j_if_eq (tgt := 22) d97_8 (by decide) (by omega) (fun q1 => ?_) (fun q1 => ?_)
  ·
    refine (j_bipush d97_22 (by decide)).trans ?_
    exact g_iret d97_24 rfl rfl
  ·
    refine (g_aload_n d97_11 rfl rfl).trans ?_
    refine (g_getR (q := 2) d97_12 f9_21 sh_0 (by decide) rfl).trans ?_
    refine (g_iload_n d97_15 rfl).trans ?_
    exact g_cV d97_16 k9_143 rfl rfl rfl
set_option maxRecDepth 10000 in
theorem b97_19 {Q : Option Value → mm → Prop} (ρ : rm) (τ : Int64) (l1 : Int) (l2 : Int) (t : List (Option Value)) (r : Int) (hB : BM ρ) (h_l1 : SB l1) (h_l2 : SB l2) (h_r : SM r) : G 97 19 (some (.ref 0) :: some (vI l1) :: some (vI l2) :: t) ((some (vI r)).toList ++ []) (toM ρ τ) Q = (if r = 0 then Q (some (vI (-2))) (toM ρ τ) else G 16 0 [some (.ref 2), some (vI l1), some (vI l2)] [] (toM ρ τ) (fun v μ2 => G 97 34 (some (.ref 0) :: some (vI l1) :: some (vI l2) :: t) (v.toList ++ []) μ2 Q)) := by
  refine j_if_ne (tgt := 25) d97_19 (by decide) (by omega) (fun q1 => ?_) (fun q1 => ?_)
  ·
    refine (j_bipush d97_22 (by decide)).trans ?_
    exact g_iret d97_24 rfl rfl
  ·
    refine (g_aload_n d97_25 rfl rfl).trans ?_
    refine (g_getR (q := 2) d97_26 f9_21 sh_0 (by decide) rfl).trans ?_
    refine (g_iload_n d97_29 rfl).trans ?_
    refine (g_iload_n d97_30 rfl).trans ?_
    exact g_cV d97_31 k9_174 rfl rfl rfl
set_option maxRecDepth 10000 in
theorem b97_34 {Q : Option Value → mm → Prop} (ρ : rm) (τ : Int64) (l1 : Int) (l2 : Int) (t : List (Option Value)) (r : Int) (hB : BM ρ) (h_l1 : SB l1) (h_l2 : SB l2) (h_r : SM r) : G 97 34 (some (.ref 0) :: some (vI l1) :: some (vI l2) :: t) ((some (vI r)).toList ++ []) (toM ρ τ) Q = (if r = 0 then Q (some (vI (-1))) (toM ρ τ) else G 15 0 [some (.ref 2), some (vI l1), some (vI l2)] [] (toM ρ τ) (fun v μ2 => G 97 46 (some (.ref 0) :: some (vI l1) :: some (vI l2) :: t) (v.toList ++ []) μ2 Q)) := by
  refine j_if_eq (tgt := 52) d97_34 (by decide) (by omega) (fun q1 => ?_) (fun q1 => ?_)
  ·
    refine (j_iconst d97_52).trans ?_
    exact g_iret d97_53 rfl rfl
  ·
    refine (g_aload_n d97_37 rfl rfl).trans ?_
    refine (g_getR (q := 2) d97_38 f9_21 sh_0 (by decide) rfl).trans ?_
    refine (g_iload_n d97_41 rfl).trans ?_
    refine (g_iload_n d97_42 rfl).trans ?_
    exact g_cV d97_43 k9_178 rfl rfl rfl
set_option maxRecDepth 10000 in
theorem b97_46 {Q : Option Value → mm → Prop} (ρ : rm) (τ : Int64) (l1 : Int) (l2 : Int) (t : List (Option Value)) (r : Int) (hB : BM ρ) (h_l1 : SB l1) (h_l2 : SB l2) (h_r : SM r) : G 97 46 (some (.ref 0) :: some (vI l1) :: some (vI l2) :: t) ((some (vI r)).toList ++ []) (toM ρ τ) Q = Q (some (vI (r + 100000))) (toM ρ τ) := by
  refine (j_ldc (n := 100000) d97_46 cs9_136 (by decide)).trans ?_
  refine (j_iadd d97_48).trans ?_
  refine (g_goto (tgt := 53) d97_49 (by decide)).trans ?_
  exact g_iret d97_53 rfl rfl
theorem d98_0 : ins 98 0 = some (.iload_n 1) := by decide +kernel
theorem d98_1 : ins 98 1 = some (.iconst (-1)) := by decide +kernel
theorem d98_2 : ins 98 2 = some (.if_icmp .eq 17) := by decide +kernel
theorem d98_5 : ins 98 5 = some (.aload_n 0) := by decide +kernel
theorem d98_6 : ins 98 6 = some (.getfield 21) := by decide +kernel
theorem d98_9 : ins 98 9 = some (.iload_n 1) := by decide +kernel
theorem d98_10 : ins 98 10 = some (.invokevirtual 143) := by decide +kernel
theorem d98_13 : ins 98 13 = some (.ifCond .ne 6) := by decide +kernel
theorem d98_16 : ins 98 16 = some (.bipush (-2)) := by decide +kernel
theorem d98_18 : ins 98 18 = some (.ireturn) := by decide +kernel
theorem d98_19 : ins 98 19 = some (.iload_n 2) := by decide +kernel
theorem d98_20 : ins 98 20 = some (.iconst (-1)) := by decide +kernel
theorem d98_21 : ins 98 21 = some (.if_icmp .ge 6) := by decide +kernel
theorem d98_24 : ins 98 24 = some (.bipush (-3)) := by decide +kernel
theorem d98_26 : ins 98 26 = some (.ireturn) := by decide +kernel
theorem d98_27 : ins 98 27 = some (.aload_n 0) := by decide +kernel
theorem d98_28 : ins 98 28 = some (.getfield 21) := by decide +kernel
theorem d98_31 : ins 98 31 = some (.iload_n 1) := by decide +kernel
theorem d98_32 : ins 98 32 = some (.invokevirtual 181) := by decide +kernel
theorem d98_35 : ins 98 35 = some (.iload_n 2) := by decide +kernel
theorem d98_36 : ins 98 36 = some (.iconst (-1)) := by decide +kernel
theorem d98_37 : ins 98 37 = some (.if_icmp .ne 13) := by decide +kernel
theorem d98_40 : ins 98 40 = some (.aload_n 0) := by decide +kernel
theorem d98_41 : ins 98 41 = some (.getfield 21) := by decide +kernel
theorem d98_44 : ins 98 44 = some (.invokevirtual 184) := by decide +kernel
theorem d98_47 : ins 98 47 = some (.goto 11) := by decide +kernel
theorem d98_50 : ins 98 50 = some (.aload_n 0) := by decide +kernel
theorem d98_51 : ins 98 51 = some (.getfield 21) := by decide +kernel
theorem d98_54 : ins 98 54 = some (.iload_n 2) := by decide +kernel
theorem d98_55 : ins 98 55 = some (.invokevirtual 187) := by decide +kernel
theorem d98_58 : ins 98 58 = some (.ireturn) := by decide +kernel
set_option maxRecDepth 10000 in
theorem b98_0 {Q : Option Value → mm → Prop} (ρ : rm) (τ : Int64) (a1 : Int) (a2 : Int) (hB : BM ρ) (h_a1 : SB a1) (h_a2 : SB a2) : G 98 0 (some (.ref 0) :: some (vI a1) :: some (vI a2) :: []) [] (toM ρ τ) Q = (if a1 = (-1) then (if (-1) ≤ a2 then G 17 0 [some (.ref 2), some (vI a1)] [] (toM ρ τ) (fun v μ2 => G 98 35 (some (.ref 0) :: some (vI a1) :: some (vI a2) :: []) (v.toList ++ []) μ2 Q) else Q (some (vI (-3))) (toM ρ τ)) else G 11 0 [some (.ref 2), some (vI a1)] [] (toM ρ τ) (fun v μ2 => G 98 13 (some (.ref 0) :: some (vI a1) :: some (vI a2) :: []) (v.toList ++ []) μ2 Q)) := by
  refine (g_iload_n d98_0 rfl).trans ?_
  refine (j_iconst d98_1).trans ?_
  refine j_icmp_eq (tgt := 19) d98_2 (by decide) (by omega) (by omega) (fun q1 => ?_) (fun q1 => ?_)
  ·
    refine (g_iload_n d98_19 rfl).trans ?_
    refine (j_iconst d98_20).trans ?_
    refine j_icmp_ge (tgt := 27) d98_21 (by decide) (by omega) (by omega) (fun q2 => ?_) (fun q2 => ?_)
    ·
      refine (g_aload_n d98_27 rfl rfl).trans ?_
      refine (g_getR (q := 2) d98_28 f9_21 sh_0 (by decide) rfl).trans ?_
      refine (g_iload_n d98_31 rfl).trans ?_
      exact g_cV d98_32 k9_181 rfl rfl rfl
    ·
      refine (j_bipush d98_24 (by decide)).trans ?_
      exact g_iret d98_26 rfl rfl
  ·
    refine (g_aload_n d98_5 rfl rfl).trans ?_
    refine (g_getR (q := 2) d98_6 f9_21 sh_0 (by decide) rfl).trans ?_
    refine (g_iload_n d98_9 rfl).trans ?_
    exact g_cV d98_10 k9_143 rfl rfl rfl
set_option maxRecDepth 10000 in
theorem b98_35 {Q : Option Value → mm → Prop} (ρ : rm) (τ : Int64) (l1 : Int) (l2 : Int) (t : List (Option Value)) (hB : BM ρ) (h_l1 : SB l1) (h_l2 : SB l2) : G 98 35 (some (.ref 0) :: some (vI l1) :: some (vI l2) :: t) ((none : Option Value).toList ++ []) (toM ρ τ) Q = (if l2 = (-1) then G 18 0 [some (.ref 2)] [] (toM ρ τ) (fun v μ2 => G 98 47 (some (.ref 0) :: some (vI l1) :: some (vI l2) :: t) (v.toList ++ []) μ2 Q) else G 19 0 [some (.ref 2), some (vI l2)] [] (toM ρ τ) (fun v μ2 => G 98 58 (some (.ref 0) :: some (vI l1) :: some (vI l2) :: t) (v.toList ++ []) μ2 Q)) := by
  refine (g_iload_n d98_35 rfl).trans ?_
  refine (j_iconst d98_36).trans ?_
  refine j_icmp_ne (tgt := 50) d98_37 (by decide) (by omega) (by omega) (fun q1 => ?_) (fun q1 => ?_)
  ·
    refine (g_aload_n d98_40 rfl rfl).trans ?_
    refine (g_getR (q := 2) d98_41 f9_21 sh_0 (by decide) rfl).trans ?_
    exact g_cV d98_44 k9_184 rfl rfl rfl
  ·
    refine (g_aload_n d98_50 rfl rfl).trans ?_
    refine (g_getR (q := 2) d98_51 f9_21 sh_0 (by decide) rfl).trans ?_
    refine (g_iload_n d98_54 rfl).trans ?_
    exact g_cV d98_55 k9_187 rfl rfl rfl
set_option maxRecDepth 10000 in
theorem b98_13 {Q : Option Value → mm → Prop} (ρ : rm) (τ : Int64) (l1 : Int) (l2 : Int) (t : List (Option Value)) (r : Int) (hB : BM ρ) (h_l1 : SB l1) (h_l2 : SB l2) (h_r : SM r) : G 98 13 (some (.ref 0) :: some (vI l1) :: some (vI l2) :: t) ((some (vI r)).toList ++ []) (toM ρ τ) Q = (if r = 0 then Q (some (vI (-2))) (toM ρ τ) else (if (-1) ≤ l2 then G 17 0 [some (.ref 2), some (vI l1)] [] (toM ρ τ) (fun v μ2 => G 98 35 (some (.ref 0) :: some (vI l1) :: some (vI l2) :: t) (v.toList ++ []) μ2 Q) else Q (some (vI (-3))) (toM ρ τ))) := by
  refine j_if_ne (tgt := 19) d98_13 (by decide) (by omega) (fun q1 => ?_) (fun q1 => ?_)
  ·
    refine (j_bipush d98_16 (by decide)).trans ?_
    exact g_iret d98_18 rfl rfl
  ·
    refine (g_iload_n d98_19 rfl).trans ?_
    refine (j_iconst d98_20).trans ?_
    refine j_icmp_ge (tgt := 27) d98_21 (by decide) (by omega) (by omega) (fun q2 => ?_) (fun q2 => ?_)
    ·
      refine (g_aload_n d98_27 rfl rfl).trans ?_
      refine (g_getR (q := 2) d98_28 f9_21 sh_0 (by decide) rfl).trans ?_
      refine (g_iload_n d98_31 rfl).trans ?_
      exact g_cV d98_32 k9_181 rfl rfl rfl
    ·
      refine (j_bipush d98_24 (by decide)).trans ?_
      exact g_iret d98_26 rfl rfl
set_option maxRecDepth 10000 in
theorem b98_47 {Q : Option Value → mm → Prop} (ρ : rm) (τ : Int64) (l1 : Int) (l2 : Int) (t : List (Option Value)) (r : Int) (hB : BM ρ) (h_l1 : SB l1) (h_l2 : SB l2) (h_r : SM r) : G 98 47 (some (.ref 0) :: some (vI l1) :: some (vI l2) :: t) ((some (vI r)).toList ++ []) (toM ρ τ) Q = Q (some (vI r)) (toM ρ τ) := by
  refine (g_goto (tgt := 58) d98_47 (by decide)).trans ?_
  exact g_iret d98_58 rfl rfl
set_option maxRecDepth 10000 in
theorem b98_58 {Q : Option Value → mm → Prop} (ρ : rm) (τ : Int64) (l1 : Int) (l2 : Int) (t : List (Option Value)) (r : Int) (hB : BM ρ) (h_l1 : SB l1) (h_l2 : SB l2) (h_r : SM r) : G 98 58 (some (.ref 0) :: some (vI l1) :: some (vI l2) :: t) ((some (vI r)).toList ++ []) (toM ρ τ) Q = Q (some (vI r)) (toM ρ τ) := by
  exact g_iret d98_58 rfl rfl
theorem d99_0 : ins 99 0 = some (.aload_n 0) := by decide +kernel
theorem d99_1 : ins 99 1 = some (.getfield 10) := by decide +kernel
theorem d99_4 : ins 99 4 = some (.iload_n 1) := by decide +kernel
theorem d99_5 : ins 99 5 = some (.invokevirtual 114) := by decide +kernel
theorem d99_8 : ins 99 8 = some (.ifCond .eq 14) := by decide +kernel
theorem d99_11 : ins 99 11 = some (.aload_n 0) := by decide +kernel
theorem d99_12 : ins 99 12 = some (.getfield 58) := by decide +kernel
theorem d99_15 : ins 99 15 = some (.iload_n 1) := by decide +kernel
theorem d99_16 : ins 99 16 = some (.invokevirtual 190) := by decide +kernel
theorem d99_19 : ins 99 19 = some (.goto 5) := by decide +kernel
theorem d99_22 : ins 99 22 = some (.bipush (-2)) := by decide +kernel
theorem d99_24 : ins 99 24 = some (.ireturn) := by decide +kernel
set_option maxRecDepth 10000 in
theorem b99_0 {Q : Option Value → mm → Prop} (ρ : rm) (τ : Int64) (a1 : Int) (hB : BM ρ) (h_a1 : SB a1) : G 99 0 (some (.ref 0) :: some (vI a1) :: []) [] (toM ρ τ) Q = G 32 0 [some (.ref 1), some (vI a1)] [] (toM ρ τ) (fun v μ2 => G 99 8 (some (.ref 0) :: some (vI a1) :: []) (v.toList ++ []) μ2 Q) := by
  refine (g_aload_n d99_0 rfl rfl).trans ?_
  refine (g_getR (q := 1) d99_1 f9_10 sh_0 (by decide) rfl).trans ?_
  refine (g_iload_n d99_4 rfl).trans ?_
  exact g_cV d99_5 k9_114 rfl rfl rfl
set_option maxRecDepth 10000 in
theorem b99_8 {Q : Option Value → mm → Prop} (ρ : rm) (τ : Int64) (l1 : Int) (t : List (Option Value)) (r : Int) (hB : BM ρ) (h_l1 : SB l1) (h_r : SM r) : G 99 8 (some (.ref 0) :: some (vI l1) :: t) ((some (vI r)).toList ++ []) (toM ρ τ) Q = (if r = 0 then Q (some (vI (-2))) (toM ρ τ) else G 72 0 [some (.ref 7), some (vI l1)] [] (toM ρ τ) (fun v μ2 => G 99 19 (some (.ref 0) :: some (vI l1) :: t) (v.toList ++ []) μ2 Q)) := by
  refine j_if_eq (tgt := 22) d99_8 (by decide) (by omega) (fun q1 => ?_) (fun q1 => ?_)
  ·
    refine (j_bipush d99_22 (by decide)).trans ?_
    exact g_iret d99_24 rfl rfl
  ·
    refine (g_aload_n d99_11 rfl rfl).trans ?_
    refine (g_getR (q := 7) d99_12 f9_58 sh_0 (by decide) rfl).trans ?_
    refine (g_iload_n d99_15 rfl).trans ?_
    exact g_cV d99_16 k9_190 rfl rfl rfl
set_option maxRecDepth 10000 in
theorem b99_19 {Q : Option Value → mm → Prop} (ρ : rm) (τ : Int64) (l1 : Int) (t : List (Option Value)) (r : Int) (hB : BM ρ) (h_l1 : SB l1) (h_r : SM r) : G 99 19 (some (.ref 0) :: some (vI l1) :: t) ((some (vI r)).toList ++ []) (toM ρ τ) Q = Q (some (vI r)) (toM ρ τ) := by
  refine (g_goto (tgt := 24) d99_19 (by decide)).trans ?_
  exact g_iret d99_24 rfl rfl
theorem d100_0 : ins 100 0 = some (.aload_n 0) := by decide +kernel
theorem d100_1 : ins 100 1 = some (.getfield 58) := by decide +kernel
theorem d100_4 : ins 100 4 = some (.invokevirtual 111) := by decide +kernel
theorem d100_7 : ins 100 7 = some (.ireturn) := by decide +kernel
set_option maxRecDepth 10000 in
theorem b100_0 {Q : Option Value → mm → Prop} (ρ : rm) (τ : Int64)  (hB : BM ρ)  : G 100 0 (some (.ref 0) :: []) [] (toM ρ τ) Q = G 73 0 [some (.ref 7)] [] (toM ρ τ) (fun v μ2 => G 100 7 (some (.ref 0) :: []) (v.toList ++ []) μ2 Q) := by
  refine (g_aload_n d100_0 rfl rfl).trans ?_
  refine (g_getR (q := 7) d100_1 f9_58 sh_0 (by decide) rfl).trans ?_
  exact g_cV d100_4 k9_111 rfl rfl rfl
set_option maxRecDepth 10000 in
theorem b100_7 {Q : Option Value → mm → Prop} (ρ : rm) (τ : Int64) (t : List (Option Value)) (r : Int) (hB : BM ρ) (h_r : SM r) : G 100 7 (some (.ref 0) :: t) ((some (vI r)).toList ++ []) (toM ρ τ) Q = Q (some (vI r)) (toM ρ τ) := by
  exact g_iret d100_7 rfl rfl
theorem d101_0 : ins 101 0 = some (.iload_n 1) := by decide +kernel
theorem d101_1 : ins 101 1 = some (.ifCond .lt 19) := by decide +kernel
theorem d101_4 : ins 101 4 = some (.iload_n 1) := by decide +kernel
theorem d101_5 : ins 101 5 = some (.sipush 9999) := by decide +kernel
theorem d101_8 : ins 101 8 = some (.if_icmp .gt 12) := by decide +kernel
theorem d101_11 : ins 101 11 = some (.iload_n 2) := by decide +kernel
theorem d101_12 : ins 101 12 = some (.ifCond .lt 8) := by decide +kernel
theorem d101_15 : ins 101 15 = some (.iload_n 2) := by decide +kernel
theorem d101_16 : ins 101 16 = some (.iconst 2) := by decide +kernel
theorem d101_17 : ins 101 17 = some (.if_icmp .le 6) := by decide +kernel
theorem d101_20 : ins 101 20 = some (.bipush (-3)) := by decide +kernel
theorem d101_22 : ins 101 22 = some (.ireturn) := by decide +kernel
theorem d101_23 : ins 101 23 = some (.aload_n 0) := by decide +kernel
theorem d101_24 : ins 101 24 = some (.getfield 58) := by decide +kernel
theorem d101_27 : ins 101 27 = some (.getfield 193) := by decide +kernel
theorem d101_30 : ins 101 30 = some (.ifCond .ne 6) := by decide +kernel
theorem d101_33 : ins 101 33 = some (.bipush (-4)) := by decide +kernel
theorem d101_35 : ins 101 35 = some (.ireturn) := by decide +kernel
theorem d101_36 : ins 101 36 = some (.aload_n 0) := by decide +kernel
theorem d101_37 : ins 101 37 = some (.getfield 58) := by decide +kernel
theorem d101_40 : ins 101 40 = some (.iload_n 1) := by decide +kernel
theorem d101_41 : ins 101 41 = some (.invokevirtual 194) := by decide +kernel
theorem d101_44 : ins 101 44 = some (.iload_n 2) := by decide +kernel
theorem d101_45 : ins 101 45 = some (.lookupswitch 43 #[(0, 27), (1, 35)]) := by decide +kernel
theorem d101_72 : ins 101 72 = some (.aload_n 0) := by decide +kernel
theorem d101_73 : ins 101 73 = some (.getfield 58) := by decide +kernel
theorem d101_76 : ins 101 76 = some (.getfield 197) := by decide +kernel
theorem d101_79 : ins 101 79 = some (.ireturn) := by decide +kernel
theorem d101_80 : ins 101 80 = some (.aload_n 0) := by decide +kernel
theorem d101_81 : ins 101 81 = some (.getfield 58) := by decide +kernel
theorem d101_84 : ins 101 84 = some (.getfield 200) := by decide +kernel
theorem d101_87 : ins 101 87 = some (.ireturn) := by decide +kernel
theorem d101_88 : ins 101 88 = some (.aload_n 0) := by decide +kernel
theorem d101_89 : ins 101 89 = some (.getfield 58) := by decide +kernel
theorem d101_92 : ins 101 92 = some (.getfield 203) := by decide +kernel
theorem d101_95 : ins 101 95 = some (.ireturn) := by decide +kernel
set_option maxRecDepth 10000 in
theorem b101_0 {Q : Option Value → mm → Prop} (ρ : rm) (τ : Int64) (a1 : Int) (a2 : Int) (hB : BM ρ) (h_a1 : SB a1) (h_a2 : SB a2) : G 101 0 (some (.ref 0) :: some (vI a1) :: some (vI a2) :: []) [] (toM ρ τ) Q = (if a1 < 0 then Q (some (vI (-3))) (toM ρ τ) else (if 9999 < a1 then Q (some (vI (-3))) (toM ρ τ) else (if a2 < 0 then Q (some (vI (-3))) (toM ρ τ) else (if a2 ≤ 2 then (if (ρ 7 0) = 0 then Q (some (vI (-4))) (toM ρ τ) else G 74 0 [some (.ref 7), some (vI a1)] [] (toM ρ τ) (fun v μ2 => G 101 44 (some (.ref 0) :: some (vI a1) :: some (vI a2) :: []) (v.toList ++ []) μ2 Q)) else Q (some (vI (-3))) (toM ρ τ))))) := by
  refine (g_iload_n d101_0 rfl).trans ?_
  refine j_if_lt (tgt := 20) d101_1 (by decide) (by omega) (fun q1 => ?_) (fun q1 => ?_)
  ·
    refine (j_bipush d101_20 (by decide)).trans ?_
    exact g_iret d101_22 rfl rfl
  ·
    refine (g_iload_n d101_4 rfl).trans ?_
    refine (j_sipush d101_5 (by decide)).trans ?_
    refine j_icmp_gt (tgt := 20) d101_8 (by decide) (by omega) (by omega) (fun q2 => ?_) (fun q2 => ?_)
    ·
      refine (j_bipush d101_20 (by decide)).trans ?_
      exact g_iret d101_22 rfl rfl
    ·
      refine (g_iload_n d101_11 rfl).trans ?_
      refine j_if_lt (tgt := 20) d101_12 (by decide) (by omega) (fun q3 => ?_) (fun q3 => ?_)
      ·
        refine (j_bipush d101_20 (by decide)).trans ?_
        exact g_iret d101_22 rfl rfl
      ·
        refine (g_iload_n d101_15 rfl).trans ?_
        refine (j_iconst d101_16).trans ?_
        refine j_icmp_le (tgt := 23) d101_17 (by decide) (by omega) (by omega) (fun q4 => ?_) (fun q4 => ?_)
        ·
          refine (g_aload_n d101_23 rfl rfl).trans ?_
          refine (g_getR (q := 7) d101_24 f9_58 sh_0 (by decide) rfl).trans ?_
          refine (j_getI (v := ρ 7 0) d101_27 f9_193 sh_7 (by decide) rfl rfl).trans ?_
          have q5 := hB 7 0 (by decide)
          refine j_if_ne (tgt := 36) d101_30 (by decide) (by omega) (fun q6 => ?_) (fun q6 => ?_)
          ·
            refine (j_bipush d101_33 (by decide)).trans ?_
            exact g_iret d101_35 rfl rfl
          ·
            refine (g_aload_n d101_36 rfl rfl).trans ?_
            refine (g_getR (q := 7) d101_37 f9_58 sh_0 (by decide) rfl).trans ?_
            refine (g_iload_n d101_40 rfl).trans ?_
            exact g_cV d101_41 k9_194 rfl rfl rfl
        ·
          refine (j_bipush d101_20 (by decide)).trans ?_
          exact g_iret d101_22 rfl rfl
set_option maxRecDepth 10000 in
theorem b101_44 {Q : Option Value → mm → Prop} (ρ : rm) (τ : Int64) (l1 : Int) (l2 : Int) (t : List (Option Value)) (hB : BM ρ) (h_l1 : SB l1) (h_l2 : SB l2) : G 101 44 (some (.ref 0) :: some (vI l1) :: some (vI l2) :: t) ((none : Option Value).toList ++ []) (toM ρ τ) Q = (if l2 = 0 then Q (some (vI (ρ 7 1))) (toM ρ τ) else (if l2 = 1 then Q (some (vI (ρ 7 2))) (toM ρ τ) else Q (some (vI (ρ 7 3))) (toM ρ τ))) := by
  refine (g_iload_n d101_44 rfl).trans ?_
  refine sw_case (c := 0) (fun q1 => ?_) (fun q1 => ?_)
  ·
    refine (g_lookup (off := 27) (tgt := 72) d101_45 (by decide) (by rw [iI_toInt (by omega), q1]; rfl) (by decide)).trans ?_
    refine (g_aload_n d101_72 rfl rfl).trans ?_
    refine (g_getR (q := 7) d101_73 f9_58 sh_0 (by decide) rfl).trans ?_
    refine (j_getI (v := ρ 7 1) d101_76 f9_197 sh_7 (by decide) rfl rfl).trans ?_
    have q2 := hB 7 1 (by decide)
    exact g_iret d101_79 rfl rfl
  ·
    refine sw_case (c := 1) (fun q3 => ?_) (fun q3 => ?_)
    ·
      refine (g_lookup (off := 35) (tgt := 80) d101_45 (by decide) (by rw [iI_toInt (by omega), q3]; rfl) (by decide)).trans ?_
      refine (g_aload_n d101_80 rfl rfl).trans ?_
      refine (g_getR (q := 7) d101_81 f9_58 sh_0 (by decide) rfl).trans ?_
      refine (j_getI (v := ρ 7 2) d101_84 f9_200 sh_7 (by decide) rfl rfl).trans ?_
      have q4 := hB 7 2 (by decide)
      exact g_iret d101_87 rfl rfl
    ·
      refine (g_lookup (off := 43) (tgt := 88) d101_45 (by decide) (by rw [iI_toInt (by omega)]; simp [Op.lookupswitch.offset, Ne.symm q1, Ne.symm q3]) (by decide)).trans ?_
      refine (g_aload_n d101_88 rfl rfl).trans ?_
      refine (g_getR (q := 7) d101_89 f9_58 sh_0 (by decide) rfl).trans ?_
      refine (j_getI (v := ρ 7 3) d101_92 f9_203 sh_7 (by decide) rfl rfl).trans ?_
      have q5 := hB 7 3 (by decide)
      exact g_iret d101_95 rfl rfl
theorem d102_0 : ins 102 0 = some (.aload_n 0) := by decide +kernel
theorem d102_1 : ins 102 1 = some (.getfield 10) := by decide +kernel
theorem d102_4 : ins 102 4 = some (.iload_n 1) := by decide +kernel
theorem d102_5 : ins 102 5 = some (.invokevirtual 114) := by decide +kernel
theorem d102_8 : ins 102 8 = some (.ifCond .ne 6) := by decide +kernel
theorem d102_11 : ins 102 11 = some (.bipush (-2)) := by decide +kernel
theorem d102_13 : ins 102 13 = some (.ireturn) := by decide +kernel
theorem d102_14 : ins 102 14 = some (.iload_n 2) := by decide +kernel
theorem d102_15 : ins 102 15 = some (.ifCond .lt 19) := by decide +kernel
theorem d102_18 : ins 102 18 = some (.iload_n 2) := by decide +kernel
theorem d102_19 : ins 102 19 = some (.sipush 9999) := by decide +kernel
theorem d102_22 : ins 102 22 = some (.if_icmp .gt 12) := by decide +kernel
theorem d102_25 : ins 102 25 = some (.iload_n 3) := by decide +kernel
theorem d102_26 : ins 102 26 = some (.ifCond .lt 8) := by decide +kernel
theorem d102_29 : ins 102 29 = some (.iload_n 3) := by decide +kernel
theorem d102_30 : ins 102 30 = some (.iconst 3) := by decide +kernel
theorem d102_31 : ins 102 31 = some (.if_icmp .le 6) := by decide +kernel
theorem d102_34 : ins 102 34 = some (.bipush (-3)) := by decide +kernel
theorem d102_36 : ins 102 36 = some (.ireturn) := by decide +kernel
theorem d102_37 : ins 102 37 = some (.aload_n 0) := by decide +kernel
theorem d102_38 : ins 102 38 = some (.getfield 28) := by decide +kernel
theorem d102_41 : ins 102 41 = some (.iload_n 1) := by decide +kernel
theorem d102_42 : ins 102 42 = some (.iload_n 2) := by decide +kernel
theorem d102_43 : ins 102 43 = some (.invokevirtual 206) := by decide +kernel
theorem d102_46 : ins 102 46 = some (.aload_n 0) := by decide +kernel
theorem d102_47 : ins 102 47 = some (.getfield 28) := by decide +kernel
theorem d102_50 : ins 102 50 = some (.getfield 210) := by decide +kernel
theorem d102_53 : ins 102 53 = some (.ifCond .ne 5) := by decide +kernel
theorem d102_56 : ins 102 56 = some (.iconst (-1)) := by decide +kernel
theorem d102_57 : ins 102 57 = some (.ireturn) := by decide +kernel
theorem d102_58 : ins 102 58 = some (.iload_n 3) := by decide +kernel
theorem d102_59 : ins 102 59 = some (.tableswitch 49 0 2 #[25, 33, 41]) := by decide +kernel
theorem d102_84 : ins 102 84 = some (.aload_n 0) := by decide +kernel
theorem d102_85 : ins 102 85 = some (.getfield 28) := by decide +kernel
theorem d102_88 : ins 102 88 = some (.getfield 210) := by decide +kernel
theorem d102_91 : ins 102 91 = some (.ireturn) := by decide +kernel
theorem d102_92 : ins 102 92 = some (.aload_n 0) := by decide +kernel
theorem d102_93 : ins 102 93 = some (.getfield 28) := by decide +kernel
theorem d102_96 : ins 102 96 = some (.getfield 213) := by decide +kernel
theorem d102_99 : ins 102 99 = some (.ireturn) := by decide +kernel
theorem d102_100 : ins 102 100 = some (.aload_n 0) := by decide +kernel
theorem d102_101 : ins 102 101 = some (.getfield 28) := by decide +kernel
theorem d102_104 : ins 102 104 = some (.getfield 216) := by decide +kernel
theorem d102_107 : ins 102 107 = some (.ireturn) := by decide +kernel
theorem d102_108 : ins 102 108 = some (.aload_n 0) := by decide +kernel
theorem d102_109 : ins 102 109 = some (.getfield 28) := by decide +kernel
theorem d102_112 : ins 102 112 = some (.getfield 219) := by decide +kernel
theorem d102_115 : ins 102 115 = some (.ireturn) := by decide +kernel
set_option maxRecDepth 10000 in
theorem b102_0 {Q : Option Value → mm → Prop} (ρ : rm) (τ : Int64) (a1 : Int) (a2 : Int) (a3 : Int) (hB : BM ρ) (h_a1 : SB a1) (h_a2 : SB a2) (h_a3 : SB a3) : G 102 0 (some (.ref 0) :: some (vI a1) :: some (vI a2) :: some (vI a3) :: []) [] (toM ρ τ) Q = G 32 0 [some (.ref 1), some (vI a1)] [] (toM ρ τ) (fun v μ2 => G 102 8 (some (.ref 0) :: some (vI a1) :: some (vI a2) :: some (vI a3) :: []) (v.toList ++ []) μ2 Q) := by
  refine (g_aload_n d102_0 rfl rfl).trans ?_
  refine (g_getR (q := 1) d102_1 f9_10 sh_0 (by decide) rfl).trans ?_
  refine (g_iload_n d102_4 rfl).trans ?_
  exact g_cV d102_5 k9_114 rfl rfl rfl
set_option maxRecDepth 10000 in
theorem b102_8 {Q : Option Value → mm → Prop} (ρ : rm) (τ : Int64) (l1 : Int) (l2 : Int) (l3 : Int) (t : List (Option Value)) (r : Int) (hB : BM ρ) (h_l1 : SB l1) (h_l2 : SB l2) (h_l3 : SB l3) (h_r : SM r) : G 102 8 (some (.ref 0) :: some (vI l1) :: some (vI l2) :: some (vI l3) :: t) ((some (vI r)).toList ++ []) (toM ρ τ) Q = (if r = 0 then Q (some (vI (-2))) (toM ρ τ) else (if l2 < 0 then Q (some (vI (-3))) (toM ρ τ) else (if 9999 < l2 then Q (some (vI (-3))) (toM ρ τ) else (if l3 < 0 then Q (some (vI (-3))) (toM ρ τ) else (if l3 ≤ 3 then G 61 0 [some (.ref 3), some (vI l1), some (vI l2)] [] (toM ρ τ) (fun v μ2 => G 102 46 (some (.ref 0) :: some (vI l1) :: some (vI l2) :: some (vI l3) :: t) (v.toList ++ []) μ2 Q) else Q (some (vI (-3))) (toM ρ τ)))))) := by
  refine j_if_ne (tgt := 14) d102_8 (by decide) (by omega) (fun q1 => ?_) (fun q1 => ?_)
  ·
    refine (j_bipush d102_11 (by decide)).trans ?_
    exact g_iret d102_13 rfl rfl
  ·
    refine (g_iload_n d102_14 rfl).trans ?_
    refine j_if_lt (tgt := 34) d102_15 (by decide) (by omega) (fun q2 => ?_) (fun q2 => ?_)
    ·
      refine (j_bipush d102_34 (by decide)).trans ?_
      exact g_iret d102_36 rfl rfl
    ·
      refine (g_iload_n d102_18 rfl).trans ?_
      refine (j_sipush d102_19 (by decide)).trans ?_
      refine j_icmp_gt (tgt := 34) d102_22 (by decide) (by omega) (by omega) (fun q3 => ?_) (fun q3 => ?_)
      ·
        refine (j_bipush d102_34 (by decide)).trans ?_
        exact g_iret d102_36 rfl rfl
      ·
        refine (g_iload_n d102_25 rfl).trans ?_
        refine j_if_lt (tgt := 34) d102_26 (by decide) (by omega) (fun q4 => ?_) (fun q4 => ?_)
        ·
          refine (j_bipush d102_34 (by decide)).trans ?_
          exact g_iret d102_36 rfl rfl
        ·
          refine (g_iload_n d102_29 rfl).trans ?_
          refine (j_iconst d102_30).trans ?_
          refine j_icmp_le (tgt := 37) d102_31 (by decide) (by omega) (by omega) (fun q5 => ?_) (fun q5 => ?_)
          ·
            refine (g_aload_n d102_37 rfl rfl).trans ?_
            refine (g_getR (q := 3) d102_38 f9_28 sh_0 (by decide) rfl).trans ?_
            refine (g_iload_n d102_41 rfl).trans ?_
            refine (g_iload_n d102_42 rfl).trans ?_
            exact g_cV d102_43 k9_206 rfl rfl rfl
          ·
            refine (j_bipush d102_34 (by decide)).trans ?_
            exact g_iret d102_36 rfl rfl
set_option maxRecDepth 10000 in
theorem b102_46 {Q : Option Value → mm → Prop} (ρ : rm) (τ : Int64) (l1 : Int) (l2 : Int) (l3 : Int) (t : List (Option Value)) (hB : BM ρ) (h_l1 : SB l1) (h_l2 : SB l2) (h_l3 : SB l3) : G 102 46 (some (.ref 0) :: some (vI l1) :: some (vI l2) :: some (vI l3) :: t) ((none : Option Value).toList ++ []) (toM ρ τ) Q = (if (ρ 3 1) = 0 then Q (some (vI (-1))) (toM ρ τ) else (if l3 = 0 then Q (some (vI (ρ 3 1))) (toM ρ τ) else (if l3 = 1 then Q (some (vI (ρ 3 2))) (toM ρ τ) else (if l3 = 2 then Q (some (vI (ρ 3 3))) (toM ρ τ) else Q (some (vI (ρ 3 4))) (toM ρ τ))))) := by
  refine (g_aload_n d102_46 rfl rfl).trans ?_
  refine (g_getR (q := 3) d102_47 f9_28 sh_0 (by decide) rfl).trans ?_
  refine (j_getI (v := ρ 3 1) d102_50 f9_210 sh_3 (by decide) rfl rfl).trans ?_
  have q1 := hB 3 1 (by decide)
  refine j_if_ne (tgt := 58) d102_53 (by decide) (by omega) (fun q2 => ?_) (fun q2 => ?_)
  ·
    refine (j_iconst d102_56).trans ?_
    exact g_iret d102_57 rfl rfl
  ·
    refine (g_iload_n d102_58 rfl).trans ?_
    refine sw_case (c := 0) (fun q3 => ?_) (fun q3 => ?_)
    ·
      refine (g_tableIn (off := 25) (tgt := 84) d102_59 (by rw [iI_toInt (by omega)]; omega) (by rw [iI_toInt (by omega), q3]; rfl) (by decide)).trans ?_
      refine (g_aload_n d102_84 rfl rfl).trans ?_
      refine (g_getR (q := 3) d102_85 f9_28 sh_0 (by decide) rfl).trans ?_
      refine (j_getI (v := ρ 3 1) d102_88 f9_210 sh_3 (by decide) rfl rfl).trans ?_
      exact g_iret d102_91 rfl rfl
    ·
      refine sw_case (c := 1) (fun q4 => ?_) (fun q4 => ?_)
      ·
        refine (g_tableIn (off := 33) (tgt := 92) d102_59 (by rw [iI_toInt (by omega)]; omega) (by rw [iI_toInt (by omega), q4]; rfl) (by decide)).trans ?_
        refine (g_aload_n d102_92 rfl rfl).trans ?_
        refine (g_getR (q := 3) d102_93 f9_28 sh_0 (by decide) rfl).trans ?_
        refine (j_getI (v := ρ 3 2) d102_96 f9_213 sh_3 (by decide) rfl rfl).trans ?_
        have q5 := hB 3 2 (by decide)
        exact g_iret d102_99 rfl rfl
      ·
        refine sw_case (c := 2) (fun q6 => ?_) (fun q6 => ?_)
        ·
          refine (g_tableIn (off := 41) (tgt := 100) d102_59 (by rw [iI_toInt (by omega)]; omega) (by rw [iI_toInt (by omega), q6]; rfl) (by decide)).trans ?_
          refine (g_aload_n d102_100 rfl rfl).trans ?_
          refine (g_getR (q := 3) d102_101 f9_28 sh_0 (by decide) rfl).trans ?_
          refine (j_getI (v := ρ 3 3) d102_104 f9_216 sh_3 (by decide) rfl rfl).trans ?_
          have q7 := hB 3 3 (by decide)
          exact g_iret d102_107 rfl rfl
        ·
          refine (g_tableOut (tgt := 108) d102_59 (by rw [iI_toInt (by omega)]; omega) (by decide)).trans ?_
          refine (g_aload_n d102_108 rfl rfl).trans ?_
          refine (g_getR (q := 3) d102_109 f9_28 sh_0 (by decide) rfl).trans ?_
          refine (j_getI (v := ρ 3 4) d102_112 f9_219 sh_3 (by decide) rfl rfl).trans ?_
          have q8 := hB 3 4 (by decide)
          exact g_iret d102_115 rfl rfl
theorem d103_0 : ins 103 0 = some (.aload_n 0) := by decide +kernel
theorem d103_1 : ins 103 1 = some (.getfield 10) := by decide +kernel
theorem d103_4 : ins 103 4 = some (.iload_n 1) := by decide +kernel
theorem d103_5 : ins 103 5 = some (.invokevirtual 114) := by decide +kernel
theorem d103_8 : ins 103 8 = some (.ifCond .eq 14) := by decide +kernel
theorem d103_11 : ins 103 11 = some (.aload_n 0) := by decide +kernel
theorem d103_12 : ins 103 12 = some (.getfield 10) := by decide +kernel
theorem d103_15 : ins 103 15 = some (.iload_n 3) := by decide +kernel
theorem d103_16 : ins 103 16 = some (.invokevirtual 114) := by decide +kernel
theorem d103_19 : ins 103 19 = some (.ifCond .ne 6) := by decide +kernel
theorem d103_22 : ins 103 22 = some (.bipush (-2)) := by decide +kernel
theorem d103_24 : ins 103 24 = some (.ireturn) := by decide +kernel
theorem d103_25 : ins 103 25 = some (.iload_n 2) := by decide +kernel
theorem d103_26 : ins 103 26 = some (.invokestatic 220) := by decide +kernel
theorem d103_29 : ins 103 29 = some (.ifCond .eq 16) := by decide +kernel
theorem d103_32 : ins 103 32 = some (.iload 4) := by decide +kernel
theorem d103_34 : ins 103 34 = some (.invokestatic 220) := by decide +kernel
theorem d103_37 : ins 103 37 = some (.ifCond .eq 8) := by decide +kernel
theorem d103_40 : ins 103 40 = some (.iload_n 1) := by decide +kernel
theorem d103_41 : ins 103 41 = some (.iload_n 3) := by decide +kernel
theorem d103_42 : ins 103 42 = some (.if_icmp .ne 6) := by decide +kernel
theorem d103_45 : ins 103 45 = some (.bipush (-3)) := by decide +kernel
theorem d103_47 : ins 103 47 = some (.ireturn) := by decide +kernel
theorem d103_48 : ins 103 48 = some (.aload_n 0) := by decide +kernel
theorem d103_49 : ins 103 49 = some (.getfield 65) := by decide +kernel
theorem d103_52 : ins 103 52 = some (.iload_n 1) := by decide +kernel
theorem d103_53 : ins 103 53 = some (.iload_n 2) := by decide +kernel
theorem d103_54 : ins 103 54 = some (.iload_n 3) := by decide +kernel
theorem d103_55 : ins 103 55 = some (.iload 4) := by decide +kernel
theorem d103_57 : ins 103 57 = some (.invokevirtual 223) := by decide +kernel
theorem d103_60 : ins 103 60 = some (.ireturn) := by decide +kernel
set_option maxRecDepth 10000 in
theorem b103_0 {Q : Option Value → mm → Prop} (ρ : rm) (τ : Int64) (a1 : Int) (a2 : Int) (a3 : Int) (a4 : Int) (hB : BM ρ) (h_a1 : SB a1) (h_a2 : SB a2) (h_a3 : SB a3) (h_a4 : SB a4) : G 103 0 (some (.ref 0) :: some (vI a1) :: some (vI a2) :: some (vI a3) :: some (vI a4) :: []) [] (toM ρ τ) Q = G 32 0 [some (.ref 1), some (vI a1)] [] (toM ρ τ) (fun v μ2 => G 103 8 (some (.ref 0) :: some (vI a1) :: some (vI a2) :: some (vI a3) :: some (vI a4) :: []) (v.toList ++ []) μ2 Q) := by
  refine (g_aload_n d103_0 rfl rfl).trans ?_
  refine (g_getR (q := 1) d103_1 f9_10 sh_0 (by decide) rfl).trans ?_
  refine (g_iload_n d103_4 rfl).trans ?_
  exact g_cV d103_5 k9_114 rfl rfl rfl
set_option maxRecDepth 10000 in
theorem b103_8 {Q : Option Value → mm → Prop} (ρ : rm) (τ : Int64) (l1 : Int) (l2 : Int) (l3 : Int) (l4 : Int) (t : List (Option Value)) (r : Int) (hB : BM ρ) (h_l1 : SB l1) (h_l2 : SB l2) (h_l3 : SB l3) (h_l4 : SB l4) (h_r : SM r) : G 103 8 (some (.ref 0) :: some (vI l1) :: some (vI l2) :: some (vI l3) :: some (vI l4) :: t) ((some (vI r)).toList ++ []) (toM ρ τ) Q = (if r = 0 then Q (some (vI (-2))) (toM ρ τ) else G 32 0 [some (.ref 1), some (vI l3)] [] (toM ρ τ) (fun v μ2 => G 103 19 (some (.ref 0) :: some (vI l1) :: some (vI l2) :: some (vI l3) :: some (vI l4) :: t) (v.toList ++ []) μ2 Q)) := by
  refine j_if_eq (tgt := 22) d103_8 (by decide) (by omega) (fun q1 => ?_) (fun q1 => ?_)
  ·
    refine (j_bipush d103_22 (by decide)).trans ?_
    exact g_iret d103_24 rfl rfl
  ·
    refine (g_aload_n d103_11 rfl rfl).trans ?_
    refine (g_getR (q := 1) d103_12 f9_10 sh_0 (by decide) rfl).trans ?_
    refine (g_iload_n d103_15 rfl).trans ?_
    exact g_cV d103_16 k9_114 rfl rfl rfl
set_option maxRecDepth 10000 in
theorem b103_19 {Q : Option Value → mm → Prop} (ρ : rm) (τ : Int64) (l1 : Int) (l2 : Int) (l3 : Int) (l4 : Int) (t : List (Option Value)) (r : Int) (hB : BM ρ) (h_l1 : SB l1) (h_l2 : SB l2) (h_l3 : SB l3) (h_l4 : SB l4) (h_r : SM r) : G 103 19 (some (.ref 0) :: some (vI l1) :: some (vI l2) :: some (vI l3) :: some (vI l4) :: t) ((some (vI r)).toList ++ []) (toM ρ τ) Q = (if r = 0 then Q (some (vI (-2))) (toM ρ τ) else G 114 0 [some (vI l2)] [] (toM ρ τ) (fun v μ2 => G 103 29 (some (.ref 0) :: some (vI l1) :: some (vI l2) :: some (vI l3) :: some (vI l4) :: t) (v.toList ++ []) μ2 Q)) := by
  refine j_if_ne (tgt := 25) d103_19 (by decide) (by omega) (fun q1 => ?_) (fun q1 => ?_)
  ·
    refine (j_bipush d103_22 (by decide)).trans ?_
    exact g_iret d103_24 rfl rfl
  ·
    refine (g_iload_n d103_25 rfl).trans ?_
    exact g_cS d103_26 k9_220 rfl rfl rfl
set_option maxRecDepth 10000 in
theorem b103_29 {Q : Option Value → mm → Prop} (ρ : rm) (τ : Int64) (l1 : Int) (l2 : Int) (l3 : Int) (l4 : Int) (t : List (Option Value)) (r : Int) (hB : BM ρ) (h_l1 : SB l1) (h_l2 : SB l2) (h_l3 : SB l3) (h_l4 : SB l4) (h_r : SM r) : G 103 29 (some (.ref 0) :: some (vI l1) :: some (vI l2) :: some (vI l3) :: some (vI l4) :: t) ((some (vI r)).toList ++ []) (toM ρ τ) Q = (if r = 0 then Q (some (vI (-3))) (toM ρ τ) else G 114 0 [some (vI l4)] [] (toM ρ τ) (fun v μ2 => G 103 37 (some (.ref 0) :: some (vI l1) :: some (vI l2) :: some (vI l3) :: some (vI l4) :: t) (v.toList ++ []) μ2 Q)) := by
  refine j_if_eq (tgt := 45) d103_29 (by decide) (by omega) (fun q1 => ?_) (fun q1 => ?_)
  ·
    refine (j_bipush d103_45 (by decide)).trans ?_
    exact g_iret d103_47 rfl rfl
  ·
    refine (g_iload d103_32 rfl).trans ?_
    exact g_cS d103_34 k9_220 rfl rfl rfl
set_option maxRecDepth 10000 in
theorem b103_37 {Q : Option Value → mm → Prop} (ρ : rm) (τ : Int64) (l1 : Int) (l2 : Int) (l3 : Int) (l4 : Int) (t : List (Option Value)) (r : Int) (hB : BM ρ) (h_l1 : SB l1) (h_l2 : SB l2) (h_l3 : SB l3) (h_l4 : SB l4) (h_r : SM r) : G 103 37 (some (.ref 0) :: some (vI l1) :: some (vI l2) :: some (vI l3) :: some (vI l4) :: t) ((some (vI r)).toList ++ []) (toM ρ τ) Q = (if r = 0 then Q (some (vI (-3))) (toM ρ τ) else (if l1 = l3 then Q (some (vI (-3))) (toM ρ τ) else G 1 0 [some (.ref 8), some (vI l1), some (vI l2), some (vI l3), some (vI l4)] [] (toM ρ τ) (fun v μ2 => G 103 60 (some (.ref 0) :: some (vI l1) :: some (vI l2) :: some (vI l3) :: some (vI l4) :: t) (v.toList ++ []) μ2 Q))) := by
  refine j_if_eq (tgt := 45) d103_37 (by decide) (by omega) (fun q1 => ?_) (fun q1 => ?_)
  ·
    refine (j_bipush d103_45 (by decide)).trans ?_
    exact g_iret d103_47 rfl rfl
  ·
    refine (g_iload_n d103_40 rfl).trans ?_
    refine (g_iload_n d103_41 rfl).trans ?_
    refine j_icmp_ne (tgt := 48) d103_42 (by decide) (by omega) (by omega) (fun q2 => ?_) (fun q2 => ?_)
    ·
      refine (j_bipush d103_45 (by decide)).trans ?_
      exact g_iret d103_47 rfl rfl
    ·
      refine (g_aload_n d103_48 rfl rfl).trans ?_
      refine (g_getR (q := 8) d103_49 f9_65 sh_0 (by decide) rfl).trans ?_
      refine (g_iload_n d103_52 rfl).trans ?_
      refine (g_iload_n d103_53 rfl).trans ?_
      refine (g_iload_n d103_54 rfl).trans ?_
      refine (g_iload d103_55 rfl).trans ?_
      exact g_cV d103_57 k9_223 rfl rfl rfl
set_option maxRecDepth 10000 in
theorem b103_60 {Q : Option Value → mm → Prop} (ρ : rm) (τ : Int64) (l1 : Int) (l2 : Int) (l3 : Int) (l4 : Int) (t : List (Option Value)) (r : Int) (hB : BM ρ) (h_l1 : SB l1) (h_l2 : SB l2) (h_l3 : SB l3) (h_l4 : SB l4) (h_r : SM r) : G 103 60 (some (.ref 0) :: some (vI l1) :: some (vI l2) :: some (vI l3) :: some (vI l4) :: t) ((some (vI r)).toList ++ []) (toM ρ τ) Q = Q (some (vI r)) (toM ρ τ) := by
  exact g_iret d103_60 rfl rfl
theorem d104_0 : ins 104 0 = some (.aload_n 0) := by decide +kernel
theorem d104_1 : ins 104 1 = some (.getfield 65) := by decide +kernel
theorem d104_4 : ins 104 4 = some (.invokevirtual 112) := by decide +kernel
theorem d104_7 : ins 104 7 = some (.ireturn) := by decide +kernel
set_option maxRecDepth 10000 in
theorem b104_0 {Q : Option Value → mm → Prop} (ρ : rm) (τ : Int64)  (hB : BM ρ)  : G 104 0 (some (.ref 0) :: []) [] (toM ρ τ) Q = G 2 0 [some (.ref 8)] [] (toM ρ τ) (fun v μ2 => G 104 7 (some (.ref 0) :: []) (v.toList ++ []) μ2 Q) := by
  refine (g_aload_n d104_0 rfl rfl).trans ?_
  refine (g_getR (q := 8) d104_1 f9_65 sh_0 (by decide) rfl).trans ?_
  exact g_cV d104_4 k9_112 rfl rfl rfl
set_option maxRecDepth 10000 in
theorem b104_7 {Q : Option Value → mm → Prop} (ρ : rm) (τ : Int64) (t : List (Option Value)) (r : Int) (hB : BM ρ) (h_r : SM r) : G 104 7 (some (.ref 0) :: t) ((some (vI r)).toList ++ []) (toM ρ τ) Q = Q (some (vI r)) (toM ρ τ) := by
  exact g_iret d104_7 rfl rfl
theorem d105_0 : ins 105 0 = some (.iload_n 1) := by decide +kernel
theorem d105_1 : ins 105 1 = some (.ifCond .lt 8) := by decide +kernel
theorem d105_4 : ins 105 4 = some (.iload_n 1) := by decide +kernel
theorem d105_5 : ins 105 5 = some (.iconst 1) := by decide +kernel
theorem d105_6 : ins 105 6 = some (.if_icmp .le 6) := by decide +kernel
theorem d105_9 : ins 105 9 = some (.bipush (-3)) := by decide +kernel
theorem d105_11 : ins 105 11 = some (.ireturn) := by decide +kernel
theorem d105_12 : ins 105 12 = some (.aload_n 0) := by decide +kernel
theorem d105_13 : ins 105 13 = some (.getfield 65) := by decide +kernel
theorem d105_16 : ins 105 16 = some (.invokevirtual 225) := by decide +kernel
theorem d105_19 : ins 105 19 = some (.istore_n 2) := by decide +kernel
theorem d105_20 : ins 105 20 = some (.iload_n 1) := by decide +kernel
theorem d105_21 : ins 105 21 = some (.ifCond .ne 15) := by decide +kernel
theorem d105_24 : ins 105 24 = some (.iload_n 2) := by decide +kernel
theorem d105_25 : ins 105 25 = some (.iconst (-1)) := by decide +kernel
theorem d105_26 : ins 105 26 = some (.if_icmp .eq 10) := by decide +kernel
theorem d105_29 : ins 105 29 = some (.iload_n 2) := by decide +kernel
theorem d105_30 : ins 105 30 = some (.invokestatic 228) := by decide +kernel
theorem d105_33 : ins 105 33 = some (.goto 4) := by decide +kernel
theorem d105_36 : ins 105 36 = some (.iload_n 2) := by decide +kernel
theorem d105_37 : ins 105 37 = some (.ireturn) := by decide +kernel
set_option maxRecDepth 10000 in
theorem b105_0 {Q : Option Value → mm → Prop} (ρ : rm) (τ : Int64) (a1 : Int) (hB : BM ρ) (h_a1 : SB a1) : G 105 0 (some (.ref 0) :: some (vI a1) :: []) [] (toM ρ τ) Q = (if a1 < 0 then Q (some (vI (-3))) (toM ρ τ) else (if a1 ≤ 1 then G 3 0 [some (.ref 8)] [] (toM ρ τ) (fun v μ2 => G 105 19 (some (.ref 0) :: some (vI a1) :: []) (v.toList ++ []) μ2 Q) else Q (some (vI (-3))) (toM ρ τ))) := by
  refine (g_iload_n d105_0 rfl).trans ?_
  refine j_if_lt (tgt := 9) d105_1 (by decide) (by omega) (fun q1 => ?_) (fun q1 => ?_)
  ·
    refine (j_bipush d105_9 (by decide)).trans ?_
    exact g_iret d105_11 rfl rfl
  ·
    refine (g_iload_n d105_4 rfl).trans ?_
    refine (j_iconst d105_5).trans ?_
    refine j_icmp_le (tgt := 12) d105_6 (by decide) (by omega) (by omega) (fun q2 => ?_) (fun q2 => ?_)
    ·
      refine (g_aload_n d105_12 rfl rfl).trans ?_
      refine (g_getR (q := 8) d105_13 f9_65 sh_0 (by decide) rfl).trans ?_
      exact g_cV d105_16 k9_225 rfl rfl rfl
    ·
      refine (j_bipush d105_9 (by decide)).trans ?_
      exact g_iret d105_11 rfl rfl
set_option maxRecDepth 10000 in
theorem b105_19 {Q : Option Value → mm → Prop} (ρ : rm) (τ : Int64) (l1 : Int) (t : List (Option Value)) (r : Int) (hB : BM ρ) (h_l1 : SB l1) (h_r : SM r) : G 105 19 (some (.ref 0) :: some (vI l1) :: t) ((some (vI r)).toList ++ []) (toM ρ τ) Q = (if l1 = 0 then (if r = (-1) then Q (some (vI r)) (toM ρ τ) else G 180 0 [some (vI r)] [] (toM ρ τ) (fun v μ2 => G 105 33 (some (.ref 0) :: some (vI l1) :: some (vI r) :: t.tail) (v.toList ++ []) μ2 Q)) else Q (some (vI r)) (toM ρ τ)) := by
  refine (g_istore_n d105_19 (by decide) rfl rfl).trans ?_
  refine (g_iload_n d105_20 rfl).trans ?_
  refine j_if_ne (tgt := 36) d105_21 (by decide) (by omega) (fun q1 => ?_) (fun q1 => ?_)
  ·
    refine (g_iload_n d105_24 rfl).trans ?_
    refine (j_iconst d105_25).trans ?_
    refine j_icmp_eq (tgt := 36) d105_26 (by decide) (by omega) (by omega) (fun q2 => ?_) (fun q2 => ?_)
    ·
      refine (g_iload_n d105_36 rfl).trans ?_
      exact g_iret d105_37 rfl rfl
    ·
      refine (g_iload_n d105_29 rfl).trans ?_
      exact g_cS d105_30 k9_228 rfl rfl rfl
  ·
    refine (g_iload_n d105_36 rfl).trans ?_
    exact g_iret d105_37 rfl rfl
set_option maxRecDepth 10000 in
theorem b105_33 {Q : Option Value → mm → Prop} (ρ : rm) (τ : Int64) (l1 : Int) (l2 : Int) (t : List (Option Value)) (r : Int) (hB : BM ρ) (h_l1 : SB l1) (h_l2 : SM l2) (h_r : SM r) : G 105 33 (some (.ref 0) :: some (vI l1) :: some (vI l2) :: t) ((some (vI r)).toList ++ []) (toM ρ τ) Q = Q (some (vI r)) (toM ρ τ) := by
  refine (g_goto (tgt := 37) d105_33 (by decide)).trans ?_
  exact g_iret d105_37 rfl rfl
theorem d106_0 : ins 106 0 = some (.iload_n 1) := by decide +kernel
theorem d106_1 : ins 106 1 = some (.ifCond .lt 20) := by decide +kernel
theorem d106_4 : ins 106 4 = some (.iload_n 1) := by decide +kernel
theorem d106_5 : ins 106 5 = some (.bipush 6) := by decide +kernel
theorem d106_7 : ins 106 7 = some (.if_icmp .ge 14) := by decide +kernel
theorem d106_10 : ins 106 10 = some (.aload_n 0) := by decide +kernel
theorem d106_11 : ins 106 11 = some (.getfield 10) := by decide +kernel
theorem d106_14 : ins 106 14 = some (.iload_n 2) := by decide +kernel
theorem d106_15 : ins 106 15 = some (.invokevirtual 114) := by decide +kernel
theorem d106_18 : ins 106 18 = some (.ifCond .ne 6) := by decide +kernel
theorem d106_21 : ins 106 21 = some (.bipush (-2)) := by decide +kernel
theorem d106_23 : ins 106 23 = some (.ireturn) := by decide +kernel
theorem d106_24 : ins 106 24 = some (.iload_n 3) := by decide +kernel
theorem d106_25 : ins 106 25 = some (.invokestatic 220) := by decide +kernel
theorem d106_28 : ins 106 28 = some (.ifCond .eq 16) := by decide +kernel
theorem d106_31 : ins 106 31 = some (.aload_n 0) := by decide +kernel
theorem d106_32 : ins 106 32 = some (.getfield 72) := by decide +kernel
theorem d106_35 : ins 106 35 = some (.iload_n 1) := by decide +kernel
theorem d106_36 : ins 106 36 = some (.iload_n 2) := by decide +kernel
theorem d106_37 : ins 106 37 = some (.iload_n 3) := by decide +kernel
theorem d106_38 : ins 106 38 = some (.invokevirtual 233) := by decide +kernel
theorem d106_41 : ins 106 41 = some (.goto 5) := by decide +kernel
theorem d106_44 : ins 106 44 = some (.bipush (-3)) := by decide +kernel
theorem d106_46 : ins 106 46 = some (.ireturn) := by decide +kernel
set_option maxRecDepth 10000 in
theorem b106_0 {Q : Option Value → mm → Prop} (ρ : rm) (τ : Int64) (a1 : Int) (a2 : Int) (a3 : Int) (hB : BM ρ) (h_a1 : SB a1) (h_a2 : SB a2) (h_a3 : SB a3) : G 106 0 (some (.ref 0) :: some (vI a1) :: some (vI a2) :: some (vI a3) :: []) [] (toM ρ τ) Q = (if a1 < 0 then Q (some (vI (-2))) (toM ρ τ) else (if 6 ≤ a1 then Q (some (vI (-2))) (toM ρ τ) else G 32 0 [some (.ref 1), some (vI a2)] [] (toM ρ τ) (fun v μ2 => G 106 18 (some (.ref 0) :: some (vI a1) :: some (vI a2) :: some (vI a3) :: []) (v.toList ++ []) μ2 Q))) := by
  refine (g_iload_n d106_0 rfl).trans ?_
  refine j_if_lt (tgt := 21) d106_1 (by decide) (by omega) (fun q1 => ?_) (fun q1 => ?_)
  ·
    refine (j_bipush d106_21 (by decide)).trans ?_
    exact g_iret d106_23 rfl rfl
  ·
    refine (g_iload_n d106_4 rfl).trans ?_
    refine (j_bipush d106_5 (by decide)).trans ?_
    refine j_icmp_ge (tgt := 21) d106_7 (by decide) (by omega) (by omega) (fun q2 => ?_) (fun q2 => ?_)
    ·
      refine (j_bipush d106_21 (by decide)).trans ?_
      exact g_iret d106_23 rfl rfl
    ·
      refine (g_aload_n d106_10 rfl rfl).trans ?_
      refine (g_getR (q := 1) d106_11 f9_10 sh_0 (by decide) rfl).trans ?_
      refine (g_iload_n d106_14 rfl).trans ?_
      exact g_cV d106_15 k9_114 rfl rfl rfl
set_option maxRecDepth 10000 in
theorem b106_18 {Q : Option Value → mm → Prop} (ρ : rm) (τ : Int64) (l1 : Int) (l2 : Int) (l3 : Int) (t : List (Option Value)) (r : Int) (hB : BM ρ) (h_l1 : SB l1) (h_l2 : SB l2) (h_l3 : SB l3) (h_r : SM r) : G 106 18 (some (.ref 0) :: some (vI l1) :: some (vI l2) :: some (vI l3) :: t) ((some (vI r)).toList ++ []) (toM ρ τ) Q = (if r = 0 then Q (some (vI (-2))) (toM ρ τ) else G 114 0 [some (vI l3)] [] (toM ρ τ) (fun v μ2 => G 106 28 (some (.ref 0) :: some (vI l1) :: some (vI l2) :: some (vI l3) :: t) (v.toList ++ []) μ2 Q)) := by
  refine j_if_ne (tgt := 24) d106_18 (by decide) (by omega) (fun q1 => ?_) (fun q1 => ?_)
  ·
    refine (j_bipush d106_21 (by decide)).trans ?_
    exact g_iret d106_23 rfl rfl
  ·
    refine (g_iload_n d106_24 rfl).trans ?_
    exact g_cS d106_25 k9_220 rfl rfl rfl
set_option maxRecDepth 10000 in
theorem b106_28 {Q : Option Value → mm → Prop} (ρ : rm) (τ : Int64) (l1 : Int) (l2 : Int) (l3 : Int) (t : List (Option Value)) (r : Int) (hB : BM ρ) (h_l1 : SB l1) (h_l2 : SB l2) (h_l3 : SB l3) (h_r : SM r) : G 106 28 (some (.ref 0) :: some (vI l1) :: some (vI l2) :: some (vI l3) :: t) ((some (vI r)).toList ++ []) (toM ρ τ) Q = (if r = 0 then Q (some (vI (-3))) (toM ρ τ) else G 63 0 [some (.ref 9), some (vI l1), some (vI l2), some (vI l3)] [] (toM ρ τ) (fun v μ2 => G 106 41 (some (.ref 0) :: some (vI l1) :: some (vI l2) :: some (vI l3) :: t) (v.toList ++ []) μ2 Q)) := by
  refine j_if_eq (tgt := 44) d106_28 (by decide) (by omega) (fun q1 => ?_) (fun q1 => ?_)
  ·
    refine (j_bipush d106_44 (by decide)).trans ?_
    exact g_iret d106_46 rfl rfl
  ·
    refine (g_aload_n d106_31 rfl rfl).trans ?_
    refine (g_getR (q := 9) d106_32 f9_72 sh_0 (by decide) rfl).trans ?_
    refine (g_iload_n d106_35 rfl).trans ?_
    refine (g_iload_n d106_36 rfl).trans ?_
    refine (g_iload_n d106_37 rfl).trans ?_
    exact g_cV d106_38 k9_233 rfl rfl rfl
set_option maxRecDepth 10000 in
theorem b106_41 {Q : Option Value → mm → Prop} (ρ : rm) (τ : Int64) (l1 : Int) (l2 : Int) (l3 : Int) (t : List (Option Value)) (r : Int) (hB : BM ρ) (h_l1 : SB l1) (h_l2 : SB l2) (h_l3 : SB l3) (h_r : SM r) : G 106 41 (some (.ref 0) :: some (vI l1) :: some (vI l2) :: some (vI l3) :: t) ((some (vI r)).toList ++ []) (toM ρ τ) Q = Q (some (vI r)) (toM ρ τ) := by
  refine (g_goto (tgt := 46) d106_41 (by decide)).trans ?_
  exact g_iret d106_46 rfl rfl
theorem d107_0 : ins 107 0 = some (.aload_n 0) := by decide +kernel
theorem d107_1 : ins 107 1 = some (.getfield 72) := by decide +kernel
theorem d107_4 : ins 107 4 = some (.invokevirtual 113) := by decide +kernel
theorem d107_7 : ins 107 7 = some (.ireturn) := by decide +kernel
set_option maxRecDepth 10000 in
theorem b107_0 {Q : Option Value → mm → Prop} (ρ : rm) (τ : Int64)  (hB : BM ρ)  : G 107 0 (some (.ref 0) :: []) [] (toM ρ τ) Q = G 64 0 [some (.ref 9)] [] (toM ρ τ) (fun v μ2 => G 107 7 (some (.ref 0) :: []) (v.toList ++ []) μ2 Q) := by
  refine (g_aload_n d107_0 rfl rfl).trans ?_
  refine (g_getR (q := 9) d107_1 f9_72 sh_0 (by decide) rfl).trans ?_
  exact g_cV d107_4 k9_113 rfl rfl rfl
set_option maxRecDepth 10000 in
theorem b107_7 {Q : Option Value → mm → Prop} (ρ : rm) (τ : Int64) (t : List (Option Value)) (r : Int) (hB : BM ρ) (h_r : SM r) : G 107 7 (some (.ref 0) :: t) ((some (vI r)).toList ++ []) (toM ρ τ) Q = Q (some (vI r)) (toM ρ τ) := by
  exact g_iret d107_7 rfl rfl
theorem d108_0 : ins 108 0 = some (.aload_n 0) := by decide +kernel
theorem d108_1 : ins 108 1 = some (.getfield 72) := by decide +kernel
theorem d108_4 : ins 108 4 = some (.invokevirtual 236) := by decide +kernel
theorem d108_7 : ins 108 7 = some (.ireturn) := by decide +kernel
set_option maxRecDepth 10000 in
theorem b108_0 {Q : Option Value → mm → Prop} (ρ : rm) (τ : Int64)  (hB : BM ρ)  : G 108 0 (some (.ref 0) :: []) [] (toM ρ τ) Q = G 66 0 [some (.ref 9)] [] (toM ρ τ) (fun v μ2 => G 108 7 (some (.ref 0) :: []) (v.toList ++ []) μ2 Q) := by
  refine (g_aload_n d108_0 rfl rfl).trans ?_
  refine (g_getR (q := 9) d108_1 f9_72 sh_0 (by decide) rfl).trans ?_
  exact g_cV d108_4 k9_236 rfl rfl rfl
set_option maxRecDepth 10000 in
theorem b108_7 {Q : Option Value → mm → Prop} (ρ : rm) (τ : Int64) (t : List (Option Value)) (r : Int) (hB : BM ρ) (h_r : SM r) : G 108 7 (some (.ref 0) :: t) ((some (vI r)).toList ++ []) (toM ρ τ) Q = Q (some (vI r)) (toM ρ τ) := by
  exact g_iret d108_7 rfl rfl
theorem d109_0 : ins 109 0 = some (.aload_n 0) := by decide +kernel
theorem d109_1 : ins 109 1 = some (.getfield 10) := by decide +kernel
theorem d109_4 : ins 109 4 = some (.iload_n 1) := by decide +kernel
theorem d109_5 : ins 109 5 = some (.invokevirtual 114) := by decide +kernel
theorem d109_8 : ins 109 8 = some (.ifCond .ne 6) := by decide +kernel
theorem d109_11 : ins 109 11 = some (.bipush (-2)) := by decide +kernel
theorem d109_13 : ins 109 13 = some (.ireturn) := by decide +kernel
theorem d109_14 : ins 109 14 = some (.iload_n 2) := by decide +kernel
theorem d109_15 : ins 109 15 = some (.invokestatic 220) := by decide +kernel
theorem d109_18 : ins 109 18 = some (.ifCond .eq 15) := by decide +kernel
theorem d109_21 : ins 109 21 = some (.aload_n 0) := by decide +kernel
theorem d109_22 : ins 109 22 = some (.getfield 72) := by decide +kernel
theorem d109_25 : ins 109 25 = some (.iload_n 1) := by decide +kernel
theorem d109_26 : ins 109 26 = some (.iload_n 2) := by decide +kernel
theorem d109_27 : ins 109 27 = some (.invokevirtual 239) := by decide +kernel
theorem d109_30 : ins 109 30 = some (.goto 5) := by decide +kernel
theorem d109_33 : ins 109 33 = some (.bipush (-3)) := by decide +kernel
theorem d109_35 : ins 109 35 = some (.ireturn) := by decide +kernel
set_option maxRecDepth 10000 in
theorem b109_0 {Q : Option Value → mm → Prop} (ρ : rm) (τ : Int64) (a1 : Int) (a2 : Int) (hB : BM ρ) (h_a1 : SB a1) (h_a2 : SB a2) : G 109 0 (some (.ref 0) :: some (vI a1) :: some (vI a2) :: []) [] (toM ρ τ) Q = G 32 0 [some (.ref 1), some (vI a1)] [] (toM ρ τ) (fun v μ2 => G 109 8 (some (.ref 0) :: some (vI a1) :: some (vI a2) :: []) (v.toList ++ []) μ2 Q) := by
  refine (g_aload_n d109_0 rfl rfl).trans ?_
  refine (g_getR (q := 1) d109_1 f9_10 sh_0 (by decide) rfl).trans ?_
  refine (g_iload_n d109_4 rfl).trans ?_
  exact g_cV d109_5 k9_114 rfl rfl rfl
set_option maxRecDepth 10000 in
theorem b109_8 {Q : Option Value → mm → Prop} (ρ : rm) (τ : Int64) (l1 : Int) (l2 : Int) (t : List (Option Value)) (r : Int) (hB : BM ρ) (h_l1 : SB l1) (h_l2 : SB l2) (h_r : SM r) : G 109 8 (some (.ref 0) :: some (vI l1) :: some (vI l2) :: t) ((some (vI r)).toList ++ []) (toM ρ τ) Q = (if r = 0 then Q (some (vI (-2))) (toM ρ τ) else G 114 0 [some (vI l2)] [] (toM ρ τ) (fun v μ2 => G 109 18 (some (.ref 0) :: some (vI l1) :: some (vI l2) :: t) (v.toList ++ []) μ2 Q)) := by
  refine j_if_ne (tgt := 14) d109_8 (by decide) (by omega) (fun q1 => ?_) (fun q1 => ?_)
  ·
    refine (j_bipush d109_11 (by decide)).trans ?_
    exact g_iret d109_13 rfl rfl
  ·
    refine (g_iload_n d109_14 rfl).trans ?_
    exact g_cS d109_15 k9_220 rfl rfl rfl
set_option maxRecDepth 10000 in
theorem b109_18 {Q : Option Value → mm → Prop} (ρ : rm) (τ : Int64) (l1 : Int) (l2 : Int) (t : List (Option Value)) (r : Int) (hB : BM ρ) (h_l1 : SB l1) (h_l2 : SB l2) (h_r : SM r) : G 109 18 (some (.ref 0) :: some (vI l1) :: some (vI l2) :: t) ((some (vI r)).toList ++ []) (toM ρ τ) Q = (if r = 0 then Q (some (vI (-3))) (toM ρ τ) else G 67 0 [some (.ref 9), some (vI l1), some (vI l2)] [] (toM ρ τ) (fun v μ2 => G 109 30 (some (.ref 0) :: some (vI l1) :: some (vI l2) :: t) (v.toList ++ []) μ2 Q)) := by
  refine j_if_eq (tgt := 33) d109_18 (by decide) (by omega) (fun q1 => ?_) (fun q1 => ?_)
  ·
    refine (j_bipush d109_33 (by decide)).trans ?_
    exact g_iret d109_35 rfl rfl
  ·
    refine (g_aload_n d109_21 rfl rfl).trans ?_
    refine (g_getR (q := 9) d109_22 f9_72 sh_0 (by decide) rfl).trans ?_
    refine (g_iload_n d109_25 rfl).trans ?_
    refine (g_iload_n d109_26 rfl).trans ?_
    exact g_cV d109_27 k9_239 rfl rfl rfl
set_option maxRecDepth 10000 in
theorem b109_30 {Q : Option Value → mm → Prop} (ρ : rm) (τ : Int64) (l1 : Int) (l2 : Int) (t : List (Option Value)) (r : Int) (hB : BM ρ) (h_l1 : SB l1) (h_l2 : SB l2) (h_r : SM r) : G 109 30 (some (.ref 0) :: some (vI l1) :: some (vI l2) :: t) ((some (vI r)).toList ++ []) (toM ρ τ) Q = Q (some (vI r)) (toM ρ τ) := by
  refine (g_goto (tgt := 35) d109_30 (by decide)).trans ?_
  exact g_iret d109_35 rfl rfl
theorem d110_0 : ins 110 0 = some (.iload_n 1) := by decide +kernel
theorem d110_1 : ins 110 1 = some (.ifCond .lt 8) := by decide +kernel
theorem d110_4 : ins 110 4 = some (.iload_n 1) := by decide +kernel
theorem d110_5 : ins 110 5 = some (.iconst 1) := by decide +kernel
theorem d110_6 : ins 110 6 = some (.if_icmp .le 6) := by decide +kernel
theorem d110_9 : ins 110 9 = some (.bipush (-3)) := by decide +kernel
theorem d110_11 : ins 110 11 = some (.ireturn) := by decide +kernel
theorem d110_12 : ins 110 12 = some (.aload_n 0) := by decide +kernel
theorem d110_13 : ins 110 13 = some (.getfield 21) := by decide +kernel
theorem d110_16 : ins 110 16 = some (.getfield 91) := by decide +kernel
theorem d110_19 : ins 110 19 = some (.ifCond .ne 6) := by decide +kernel
theorem d110_22 : ins 110 22 = some (.bipush (-4)) := by decide +kernel
theorem d110_24 : ins 110 24 = some (.ireturn) := by decide +kernel
theorem d110_25 : ins 110 25 = some (.aload_n 0) := by decide +kernel
theorem d110_26 : ins 110 26 = some (.getfield 21) := by decide +kernel
theorem d110_29 : ins 110 29 = some (.invokevirtual 242) := by decide +kernel
theorem d110_32 : ins 110 32 = some (.istore_n 2) := by decide +kernel
theorem d110_33 : ins 110 33 = some (.iload_n 1) := by decide +kernel
theorem d110_34 : ins 110 34 = some (.ifCond .ne 7) := by decide +kernel
theorem d110_37 : ins 110 37 = some (.iload_n 2) := by decide +kernel
theorem d110_38 : ins 110 38 = some (.goto 11) := by decide +kernel
theorem d110_41 : ins 110 41 = some (.aload_n 0) := by decide +kernel
theorem d110_42 : ins 110 42 = some (.getfield 21) := by decide +kernel
theorem d110_45 : ins 110 45 = some (.iload_n 2) := by decide +kernel
theorem d110_46 : ins 110 46 = some (.invokevirtual 245) := by decide +kernel
theorem d110_49 : ins 110 49 = some (.ireturn) := by decide +kernel
set_option maxRecDepth 10000 in
theorem b110_0 {Q : Option Value → mm → Prop} (ρ : rm) (τ : Int64) (a1 : Int) (hB : BM ρ) (h_a1 : SB a1) : G 110 0 (some (.ref 0) :: some (vI a1) :: []) [] (toM ρ τ) Q = (if a1 < 0 then Q (some (vI (-3))) (toM ρ τ) else (if a1 ≤ 1 then (if (ρ 2 4) = 0 then Q (some (vI (-4))) (toM ρ τ) else G 22 0 [some (.ref 2)] [] (toM ρ τ) (fun v μ2 => G 110 32 (some (.ref 0) :: some (vI a1) :: []) (v.toList ++ []) μ2 Q)) else Q (some (vI (-3))) (toM ρ τ))) := by
  refine (g_iload_n d110_0 rfl).trans ?_
  refine j_if_lt (tgt := 9) d110_1 (by decide) (by omega) (fun q1 => ?_) (fun q1 => ?_)
  ·
    refine (j_bipush d110_9 (by decide)).trans ?_
    exact g_iret d110_11 rfl rfl
  ·
    refine (g_iload_n d110_4 rfl).trans ?_
    refine (j_iconst d110_5).trans ?_
    refine j_icmp_le (tgt := 12) d110_6 (by decide) (by omega) (by omega) (fun q2 => ?_) (fun q2 => ?_)
    ·
      refine (g_aload_n d110_12 rfl rfl).trans ?_
      refine (g_getR (q := 2) d110_13 f9_21 sh_0 (by decide) rfl).trans ?_
      refine (j_getI (v := ρ 2 4) d110_16 f9_91 sh_2 (by decide) rfl rfl).trans ?_
      have q3 := hB 2 4 (by decide)
      refine j_if_ne (tgt := 25) d110_19 (by decide) (by omega) (fun q4 => ?_) (fun q4 => ?_)
      ·
        refine (j_bipush d110_22 (by decide)).trans ?_
        exact g_iret d110_24 rfl rfl
      ·
        refine (g_aload_n d110_25 rfl rfl).trans ?_
        refine (g_getR (q := 2) d110_26 f9_21 sh_0 (by decide) rfl).trans ?_
        exact g_cV d110_29 k9_242 rfl rfl rfl
    ·
      refine (j_bipush d110_9 (by decide)).trans ?_
      exact g_iret d110_11 rfl rfl
set_option maxRecDepth 10000 in
theorem b110_32 {Q : Option Value → mm → Prop} (ρ : rm) (τ : Int64) (l1 : Int) (t : List (Option Value)) (r : Int) (hB : BM ρ) (h_l1 : SB l1) (h_r : SM r) : G 110 32 (some (.ref 0) :: some (vI l1) :: t) ((some (vI r)).toList ++ []) (toM ρ τ) Q = (if l1 = 0 then Q (some (vI r)) (toM ρ τ) else G 21 0 [some (.ref 2), some (vI r)] [] (toM ρ τ) (fun v μ2 => G 110 49 (some (.ref 0) :: some (vI l1) :: some (vI r) :: t.tail) (v.toList ++ []) μ2 Q)) := by
  refine (g_istore_n d110_32 (by decide) rfl rfl).trans ?_
  refine (g_iload_n d110_33 rfl).trans ?_
  refine j_if_ne (tgt := 41) d110_34 (by decide) (by omega) (fun q1 => ?_) (fun q1 => ?_)
  ·
    refine (g_iload_n d110_37 rfl).trans ?_
    refine (g_goto (tgt := 49) d110_38 (by decide)).trans ?_
    exact g_iret d110_49 rfl rfl
  ·
    refine (g_aload_n d110_41 rfl rfl).trans ?_
    refine (g_getR (q := 2) d110_42 f9_21 sh_0 (by decide) rfl).trans ?_
    refine (g_iload_n d110_45 rfl).trans ?_
    exact g_cV d110_46 k9_245 rfl rfl rfl
set_option maxRecDepth 10000 in
theorem b110_49 {Q : Option Value → mm → Prop} (ρ : rm) (τ : Int64) (l1 : Int) (l2 : Int) (t : List (Option Value)) (r : Int) (hB : BM ρ) (h_l1 : SB l1) (h_l2 : SM l2) (h_r : SM r) : G 110 49 (some (.ref 0) :: some (vI l1) :: some (vI l2) :: t) ((some (vI r)).toList ++ []) (toM ρ τ) Q = Q (some (vI r)) (toM ρ τ) := by
  exact g_iret d110_49 rfl rfl
theorem d111_0 : ins 111 0 = some (.iload_n 1) := by decide +kernel
theorem d111_1 : ins 111 1 = some (.iconst 1) := by decide +kernel
theorem d111_2 : ins 111 2 = some (.if_icmp .lt 17) := by decide +kernel
theorem d111_5 : ins 111 5 = some (.iload_n 1) := by decide +kernel
theorem d111_6 : ins 111 6 = some (.sipush 9999) := by decide +kernel
theorem d111_9 : ins 111 9 = some (.if_icmp .gt 10) := by decide +kernel
theorem d111_12 : ins 111 12 = some (.iload_n 1) := by decide +kernel
theorem d111_13 : ins 111 13 = some (.invokestatic 248) := by decide +kernel
theorem d111_16 : ins 111 16 = some (.goto 5) := by decide +kernel
theorem d111_19 : ins 111 19 = some (.bipush (-3)) := by decide +kernel
theorem d111_21 : ins 111 21 = some (.ireturn) := by decide +kernel
set_option maxRecDepth 10000 in
theorem b111_0 {Q : Option Value → mm → Prop} (ρ : rm) (τ : Int64) (a1 : Int) (hB : BM ρ) (h_a1 : SB a1) : G 111 0 (some (.ref 0) :: some (vI a1) :: []) [] (toM ρ τ) Q = (if a1 < 1 then Q (some (vI (-3))) (toM ρ τ) else (if 9999 < a1 then Q (some (vI (-3))) (toM ρ τ) else G 115 0 [some (vI a1)] [] (toM ρ τ) (fun v μ2 => G 111 16 (some (.ref 0) :: some (vI a1) :: []) (v.toList ++ []) μ2 Q))) := by
  refine (g_iload_n d111_0 rfl).trans ?_
  refine (j_iconst d111_1).trans ?_
  refine j_icmp_lt (tgt := 19) d111_2 (by decide) (by omega) (by omega) (fun q1 => ?_) (fun q1 => ?_)
  ·
    refine (j_bipush d111_19 (by decide)).trans ?_
    exact g_iret d111_21 rfl rfl
  ·
    refine (g_iload_n d111_5 rfl).trans ?_
    refine (j_sipush d111_6 (by decide)).trans ?_
    refine j_icmp_gt (tgt := 19) d111_9 (by decide) (by omega) (by omega) (fun q2 => ?_) (fun q2 => ?_)
    ·
      refine (j_bipush d111_19 (by decide)).trans ?_
      exact g_iret d111_21 rfl rfl
    ·
      refine (g_iload_n d111_12 rfl).trans ?_
      exact g_cS d111_13 k9_248 rfl rfl rfl
set_option maxRecDepth 10000 in
theorem b111_16 {Q : Option Value → mm → Prop} (ρ : rm) (τ : Int64) (l1 : Int) (t : List (Option Value)) (r : Int) (hB : BM ρ) (h_l1 : SB l1) (h_r : SM r) : G 111 16 (some (.ref 0) :: some (vI l1) :: t) ((some (vI r)).toList ++ []) (toM ρ τ) Q = Q (some (vI r)) (toM ρ τ) := by
  refine (g_goto (tgt := 21) d111_16 (by decide)).trans ?_
  exact g_iret d111_21 rfl rfl
theorem d112_0 : ins 112 0 = some (.iload_n 1) := by decide +kernel
theorem d112_1 : ins 112 1 = some (.tableswitch 111 0 7 #[47, 55, 63, 71, 79, 87, 95, 103]) := by decide +kernel
theorem d112_48 : ins 112 48 = some (.aload_n 0) := by decide +kernel
theorem d112_49 : ins 112 49 = some (.getfield 10) := by decide +kernel
theorem d112_52 : ins 112 52 = some (.getfield 84) := by decide +kernel
theorem d112_55 : ins 112 55 = some (.ireturn) := by decide +kernel
theorem d112_56 : ins 112 56 = some (.aload_n 0) := by decide +kernel
theorem d112_57 : ins 112 57 = some (.getfield 10) := by decide +kernel
theorem d112_60 : ins 112 60 = some (.getfield 88) := by decide +kernel
theorem d112_63 : ins 112 63 = some (.ireturn) := by decide +kernel
theorem d112_64 : ins 112 64 = some (.aload_n 0) := by decide +kernel
theorem d112_65 : ins 112 65 = some (.getfield 21) := by decide +kernel
theorem d112_68 : ins 112 68 = some (.getfield 91) := by decide +kernel
theorem d112_71 : ins 112 71 = some (.ireturn) := by decide +kernel
theorem d112_72 : ins 112 72 = some (.aload_n 0) := by decide +kernel
theorem d112_73 : ins 112 73 = some (.getfield 28) := by decide +kernel
theorem d112_76 : ins 112 76 = some (.getfield 92) := by decide +kernel
theorem d112_79 : ins 112 79 = some (.ireturn) := by decide +kernel
theorem d112_80 : ins 112 80 = some (.aload_n 0) := by decide +kernel
theorem d112_81 : ins 112 81 = some (.getfield 58) := by decide +kernel
theorem d112_84 : ins 112 84 = some (.getfield 193) := by decide +kernel
theorem d112_87 : ins 112 87 = some (.ireturn) := by decide +kernel
theorem d112_88 : ins 112 88 = some (.aload_n 0) := by decide +kernel
theorem d112_89 : ins 112 89 = some (.getfield 65) := by decide +kernel
theorem d112_92 : ins 112 92 = some (.getfield 251) := by decide +kernel
theorem d112_95 : ins 112 95 = some (.ireturn) := by decide +kernel
theorem d112_96 : ins 112 96 = some (.aload_n 0) := by decide +kernel
theorem d112_97 : ins 112 97 = some (.getfield 72) := by decide +kernel
theorem d112_100 : ins 112 100 = some (.getfield 252) := by decide +kernel
theorem d112_103 : ins 112 103 = some (.ireturn) := by decide +kernel
theorem d112_104 : ins 112 104 = some (.aload_n 0) := by decide +kernel
theorem d112_105 : ins 112 105 = some (.getfield 35) := by decide +kernel
theorem d112_108 : ins 112 108 = some (.getfield 253) := by decide +kernel
theorem d112_111 : ins 112 111 = some (.ireturn) := by decide +kernel
theorem d112_112 : ins 112 112 = some (.bipush (-3)) := by decide +kernel
theorem d112_114 : ins 112 114 = some (.ireturn) := by decide +kernel
set_option maxRecDepth 10000 in
theorem b112_0 {Q : Option Value → mm → Prop} (ρ : rm) (τ : Int64) (a1 : Int) (hB : BM ρ) (h_a1 : SB a1) : G 112 0 (some (.ref 0) :: some (vI a1) :: []) [] (toM ρ τ) Q = (if a1 = 0 then Q (some (vI (ρ 1 1))) (toM ρ τ) else (if a1 = 1 then Q (some (vI (ρ 1 2))) (toM ρ τ) else (if a1 = 2 then Q (some (vI (ρ 2 4))) (toM ρ τ) else (if a1 = 3 then Q (some (vI (ρ 3 0))) (toM ρ τ) else (if a1 = 4 then Q (some (vI (ρ 7 0))) (toM ρ τ) else (if a1 = 5 then Q (some (vI (ρ 8 0))) (toM ρ τ) else (if a1 = 6 then Q (some (vI (ρ 9 0))) (toM ρ τ) else (if a1 = 7 then Q (some (vI (ρ 4 1))) (toM ρ τ) else Q (some (vI (-3))) (toM ρ τ))))))))) := by
  refine (g_iload_n d112_0 rfl).trans ?_
  refine sw_case (c := 0) (fun q1 => ?_) (fun q1 => ?_)
  ·
    refine (g_tableIn (off := 47) (tgt := 48) d112_1 (by rw [iI_toInt (by omega)]; omega) (by rw [iI_toInt (by omega), q1]; rfl) (by decide)).trans ?_
    refine (g_aload_n d112_48 rfl rfl).trans ?_
    refine (g_getR (q := 1) d112_49 f9_10 sh_0 (by decide) rfl).trans ?_
    refine (j_getI (v := ρ 1 1) d112_52 f9_84 sh_1 (by decide) rfl rfl).trans ?_
    have q2 := hB 1 1 (by decide)
    exact g_iret d112_55 rfl rfl
  ·
    refine sw_case (c := 1) (fun q3 => ?_) (fun q3 => ?_)
    ·
      refine (g_tableIn (off := 55) (tgt := 56) d112_1 (by rw [iI_toInt (by omega)]; omega) (by rw [iI_toInt (by omega), q3]; rfl) (by decide)).trans ?_
      refine (g_aload_n d112_56 rfl rfl).trans ?_
      refine (g_getR (q := 1) d112_57 f9_10 sh_0 (by decide) rfl).trans ?_
      refine (j_getI (v := ρ 1 2) d112_60 f9_88 sh_1 (by decide) rfl rfl).trans ?_
      have q4 := hB 1 2 (by decide)
      exact g_iret d112_63 rfl rfl
    ·
      refine sw_case (c := 2) (fun q5 => ?_) (fun q5 => ?_)
      ·
        refine (g_tableIn (off := 63) (tgt := 64) d112_1 (by rw [iI_toInt (by omega)]; omega) (by rw [iI_toInt (by omega), q5]; rfl) (by decide)).trans ?_
        refine (g_aload_n d112_64 rfl rfl).trans ?_
        refine (g_getR (q := 2) d112_65 f9_21 sh_0 (by decide) rfl).trans ?_
        refine (j_getI (v := ρ 2 4) d112_68 f9_91 sh_2 (by decide) rfl rfl).trans ?_
        have q6 := hB 2 4 (by decide)
        exact g_iret d112_71 rfl rfl
      ·
        refine sw_case (c := 3) (fun q7 => ?_) (fun q7 => ?_)
        ·
          refine (g_tableIn (off := 71) (tgt := 72) d112_1 (by rw [iI_toInt (by omega)]; omega) (by rw [iI_toInt (by omega), q7]; rfl) (by decide)).trans ?_
          refine (g_aload_n d112_72 rfl rfl).trans ?_
          refine (g_getR (q := 3) d112_73 f9_28 sh_0 (by decide) rfl).trans ?_
          refine (j_getI (v := ρ 3 0) d112_76 f9_92 sh_3 (by decide) rfl rfl).trans ?_
          have q8 := hB 3 0 (by decide)
          exact g_iret d112_79 rfl rfl
        ·
          refine sw_case (c := 4) (fun q9 => ?_) (fun q9 => ?_)
          ·
            refine (g_tableIn (off := 79) (tgt := 80) d112_1 (by rw [iI_toInt (by omega)]; omega) (by rw [iI_toInt (by omega), q9]; rfl) (by decide)).trans ?_
            refine (g_aload_n d112_80 rfl rfl).trans ?_
            refine (g_getR (q := 7) d112_81 f9_58 sh_0 (by decide) rfl).trans ?_
            refine (j_getI (v := ρ 7 0) d112_84 f9_193 sh_7 (by decide) rfl rfl).trans ?_
            have q10 := hB 7 0 (by decide)
            exact g_iret d112_87 rfl rfl
          ·
            refine sw_case (c := 5) (fun q11 => ?_) (fun q11 => ?_)
            ·
              refine (g_tableIn (off := 87) (tgt := 88) d112_1 (by rw [iI_toInt (by omega)]; omega) (by rw [iI_toInt (by omega), q11]; rfl) (by decide)).trans ?_
              refine (g_aload_n d112_88 rfl rfl).trans ?_
              refine (g_getR (q := 8) d112_89 f9_65 sh_0 (by decide) rfl).trans ?_
              refine (j_getI (v := ρ 8 0) d112_92 f9_251 sh_8 (by decide) rfl rfl).trans ?_
              have q12 := hB 8 0 (by decide)
              exact g_iret d112_95 rfl rfl
            ·
              refine sw_case (c := 6) (fun q13 => ?_) (fun q13 => ?_)
              ·
                refine (g_tableIn (off := 95) (tgt := 96) d112_1 (by rw [iI_toInt (by omega)]; omega) (by rw [iI_toInt (by omega), q13]; rfl) (by decide)).trans ?_
                refine (g_aload_n d112_96 rfl rfl).trans ?_
                refine (g_getR (q := 9) d112_97 f9_72 sh_0 (by decide) rfl).trans ?_
                refine (j_getI (v := ρ 9 0) d112_100 f9_252 sh_9 (by decide) rfl rfl).trans ?_
                have q14 := hB 9 0 (by decide)
                exact g_iret d112_103 rfl rfl
              ·
                refine sw_case (c := 7) (fun q15 => ?_) (fun q15 => ?_)
                ·
                  refine (g_tableIn (off := 103) (tgt := 104) d112_1 (by rw [iI_toInt (by omega)]; omega) (by rw [iI_toInt (by omega), q15]; rfl) (by decide)).trans ?_
                  refine (g_aload_n d112_104 rfl rfl).trans ?_
                  refine (g_getR (q := 4) d112_105 f9_35 sh_0 (by decide) rfl).trans ?_
                  refine (j_getI (v := ρ 4 1) d112_108 f9_253 sh_4 (by decide) rfl rfl).trans ?_
                  have q16 := hB 4 1 (by decide)
                  exact g_iret d112_111 rfl rfl
                ·
                  refine (g_tableOut (tgt := 112) d112_1 (by rw [iI_toInt (by omega)]; omega) (by decide)).trans ?_
                  refine (j_bipush d112_112 (by decide)).trans ?_
                  exact g_iret d112_114 rfl rfl
theorem d113_0 : ins 113 0 = some (.aload_n 0) := by decide +kernel
theorem d113_1 : ins 113 1 = some (.getfield 44) := by decide +kernel
theorem d113_4 : ins 113 4 = some (.iload_n 1) := by decide +kernel
theorem d113_5 : ins 113 5 = some (.iconst 0) := by decide +kernel
theorem d113_6 : ins 113 6 = some (.invokevirtual 256) := by decide +kernel
theorem d113_9 : ins 113 9 = some (.istore_n 2) := by decide +kernel
theorem d113_10 : ins 113 10 = some (.aload_n 0) := by decide +kernel
theorem d113_11 : ins 113 11 = some (.getfield 44) := by decide +kernel
theorem d113_14 : ins 113 14 = some (.iload_n 1) := by decide +kernel
theorem d113_15 : ins 113 15 = some (.iconst 1) := by decide +kernel
theorem d113_16 : ins 113 16 = some (.invokevirtual 256) := by decide +kernel
theorem d113_19 : ins 113 19 = some (.istore_n 3) := by decide +kernel
theorem d113_20 : ins 113 20 = some (.aload_n 0) := by decide +kernel
theorem d113_21 : ins 113 21 = some (.getfield 44) := by decide +kernel
theorem d113_24 : ins 113 24 = some (.iload_n 1) := by decide +kernel
theorem d113_25 : ins 113 25 = some (.iconst 2) := by decide +kernel
theorem d113_26 : ins 113 26 = some (.invokevirtual 256) := by decide +kernel
theorem d113_29 : ins 113 29 = some (.istore 4) := by decide +kernel
theorem d113_31 : ins 113 31 = some (.aload_n 0) := by decide +kernel
theorem d113_32 : ins 113 32 = some (.getfield 44) := by decide +kernel
theorem d113_35 : ins 113 35 = some (.iload_n 1) := by decide +kernel
theorem d113_36 : ins 113 36 = some (.invokevirtual 259) := by decide +kernel
theorem d113_39 : ins 113 39 = some (.tableswitch 148 1 6 #[37, 64, 76, 88, 102, 116]) := by decide +kernel
theorem d113_76 : ins 113 76 = some (.aload_n 0) := by decide +kernel
theorem d113_77 : ins 113 77 = some (.getfield 10) := by decide +kernel
theorem d113_80 : ins 113 80 = some (.iload_n 2) := by decide +kernel
theorem d113_81 : ins 113 81 = some (.invokevirtual 262) := by decide +kernel
theorem d113_84 : ins 113 84 = some (.aload_n 0) := by decide +kernel
theorem d113_85 : ins 113 85 = some (.getfield 21) := by decide +kernel
theorem d113_88 : ins 113 88 = some (.iconst 0) := by decide +kernel
theorem d113_89 : ins 113 89 = some (.putfield 91) := by decide +kernel
theorem d113_92 : ins 113 92 = some (.aload_n 0) := by decide +kernel
theorem d113_93 : ins 113 93 = some (.getfield 28) := by decide +kernel
theorem d113_96 : ins 113 96 = some (.iconst 0) := by decide +kernel
theorem d113_97 : ins 113 97 = some (.putfield 92) := by decide +kernel
theorem d113_100 : ins 113 100 = some (.goto 103) := by decide +kernel
theorem d113_103 : ins 113 103 = some (.aload_n 0) := by decide +kernel
theorem d113_104 : ins 113 104 = some (.getfield 10) := by decide +kernel
theorem d113_107 : ins 113 107 = some (.iload_n 2) := by decide +kernel
theorem d113_108 : ins 113 108 = some (.iload_n 3) := by decide +kernel
theorem d113_109 : ins 113 109 = some (.invokevirtual 264) := by decide +kernel
theorem d113_112 : ins 113 112 = some (.goto 91) := by decide +kernel
theorem d113_115 : ins 113 115 = some (.aload_n 0) := by decide +kernel
theorem d113_116 : ins 113 116 = some (.getfield 10) := by decide +kernel
theorem d113_119 : ins 113 119 = some (.iload_n 2) := by decide +kernel
theorem d113_120 : ins 113 120 = some (.iload_n 3) := by decide +kernel
theorem d113_121 : ins 113 121 = some (.invokevirtual 267) := by decide +kernel
theorem d113_124 : ins 113 124 = some (.goto 79) := by decide +kernel
theorem d113_127 : ins 113 127 = some (.aload_n 0) := by decide +kernel
theorem d113_128 : ins 113 128 = some (.getfield 10) := by decide +kernel
theorem d113_131 : ins 113 131 = some (.iload_n 2) := by decide +kernel
theorem d113_132 : ins 113 132 = some (.iload_n 3) := by decide +kernel
theorem d113_133 : ins 113 133 = some (.iload 4) := by decide +kernel
theorem d113_135 : ins 113 135 = some (.invokevirtual 270) := by decide +kernel
theorem d113_138 : ins 113 138 = some (.goto 65) := by decide +kernel
theorem d113_141 : ins 113 141 = some (.aload_n 0) := by decide +kernel
theorem d113_142 : ins 113 142 = some (.getfield 21) := by decide +kernel
theorem d113_145 : ins 113 145 = some (.iload_n 2) := by decide +kernel
theorem d113_146 : ins 113 146 = some (.iload_n 3) := by decide +kernel
theorem d113_147 : ins 113 147 = some (.iload 4) := by decide +kernel
theorem d113_149 : ins 113 149 = some (.invokevirtual 274) := by decide +kernel
theorem d113_152 : ins 113 152 = some (.goto 51) := by decide +kernel
theorem d113_155 : ins 113 155 = some (.aload_n 0) := by decide +kernel
theorem d113_156 : ins 113 156 = some (.getfield 28) := by decide +kernel
theorem d113_159 : ins 113 159 = some (.iload_n 2) := by decide +kernel
theorem d113_160 : ins 113 160 = some (.iload_n 3) := by decide +kernel
theorem d113_161 : ins 113 161 = some (.iload 4) := by decide +kernel
theorem d113_163 : ins 113 163 = some (.aload_n 0) := by decide +kernel
theorem d113_164 : ins 113 164 = some (.getfield 44) := by decide +kernel
theorem d113_167 : ins 113 167 = some (.iload_n 1) := by decide +kernel
theorem d113_168 : ins 113 168 = some (.iconst 3) := by decide +kernel
theorem d113_169 : ins 113 169 = some (.invokevirtual 256) := by decide +kernel
theorem d113_172 : ins 113 172 = some (.aload_n 0) := by decide +kernel
theorem d113_173 : ins 113 173 = some (.getfield 44) := by decide +kernel
theorem d113_176 : ins 113 176 = some (.iload_n 1) := by decide +kernel
theorem d113_177 : ins 113 177 = some (.iconst 4) := by decide +kernel
theorem d113_178 : ins 113 178 = some (.invokevirtual 256) := by decide +kernel
theorem d113_181 : ins 113 181 = some (.invokevirtual 276) := by decide +kernel
theorem d113_184 : ins 113 184 = some (.goto 19) := by decide +kernel
theorem d113_187 : ins 113 187 = some (.aload_n 0) := by decide +kernel
theorem d113_188 : ins 113 188 = some (.getfield 21) := by decide +kernel
theorem d113_191 : ins 113 191 = some (.iconst 0) := by decide +kernel
theorem d113_192 : ins 113 192 = some (.putfield 91) := by decide +kernel
theorem d113_195 : ins 113 195 = some (.aload_n 0) := by decide +kernel
theorem d113_196 : ins 113 196 = some (.getfield 28) := by decide +kernel
theorem d113_199 : ins 113 199 = some (.iconst 0) := by decide +kernel
theorem d113_200 : ins 113 200 = some (.putfield 92) := by decide +kernel
theorem d113_203 : ins 113 203 = some (.return_) := by decide +kernel
set_option maxRecDepth 10000 in
theorem b113_0 {Q : Option Value → mm → Prop} (ρ : rm) (τ : Int64) (a1 : Int) (hB : BM ρ) (h_a1 : SM a1) : G 113 0 (some (.ref 0) :: some (vI a1) :: []) [] (toM ρ τ) Q = G 42 0 [some (.ref 5), some (vI a1), some (vI 0)] [] (toM ρ τ) (fun v μ2 => G 113 9 (some (.ref 0) :: some (vI a1) :: []) (v.toList ++ []) μ2 Q) := by
  refine (g_aload_n d113_0 rfl rfl).trans ?_
  refine (g_getR (q := 5) d113_1 f9_44 sh_0 (by decide) rfl).trans ?_
  refine (g_iload_n d113_4 rfl).trans ?_
  refine (j_iconst d113_5).trans ?_
  exact g_cV d113_6 k9_256 rfl rfl rfl
set_option maxRecDepth 10000 in
theorem b113_9 {Q : Option Value → mm → Prop} (ρ : rm) (τ : Int64) (l1 : Int) (t : List (Option Value)) (r : Int) (hB : BM ρ) (h_l1 : SM l1) (h_r : SM r) : G 113 9 (some (.ref 0) :: some (vI l1) :: t) ((some (vI r)).toList ++ []) (toM ρ τ) Q = G 42 0 [some (.ref 5), some (vI l1), some (vI 1)] [] (toM ρ τ) (fun v μ2 => G 113 19 (some (.ref 0) :: some (vI l1) :: some (vI r) :: t.tail) (v.toList ++ []) μ2 Q) := by
  refine (g_istore_n d113_9 (by decide) rfl rfl).trans ?_
  refine (g_aload_n d113_10 rfl rfl).trans ?_
  refine (g_getR (q := 5) d113_11 f9_44 sh_0 (by decide) rfl).trans ?_
  refine (g_iload_n d113_14 rfl).trans ?_
  refine (j_iconst d113_15).trans ?_
  exact g_cV d113_16 k9_256 rfl rfl rfl
set_option maxRecDepth 10000 in
theorem b113_19 {Q : Option Value → mm → Prop} (ρ : rm) (τ : Int64) (l1 : Int) (l2 : Int) (t : List (Option Value)) (r : Int) (hB : BM ρ) (h_l1 : SM l1) (h_l2 : SM l2) (h_r : SM r) : G 113 19 (some (.ref 0) :: some (vI l1) :: some (vI l2) :: t) ((some (vI r)).toList ++ []) (toM ρ τ) Q = G 42 0 [some (.ref 5), some (vI l1), some (vI 2)] [] (toM ρ τ) (fun v μ2 => G 113 29 (some (.ref 0) :: some (vI l1) :: some (vI l2) :: some (vI r) :: t.tail) (v.toList ++ []) μ2 Q) := by
  refine (g_istore_n d113_19 (by decide) rfl rfl).trans ?_
  refine (g_aload_n d113_20 rfl rfl).trans ?_
  refine (g_getR (q := 5) d113_21 f9_44 sh_0 (by decide) rfl).trans ?_
  refine (g_iload_n d113_24 rfl).trans ?_
  refine (j_iconst d113_25).trans ?_
  exact g_cV d113_26 k9_256 rfl rfl rfl
set_option maxRecDepth 10000 in
theorem b113_29 {Q : Option Value → mm → Prop} (ρ : rm) (τ : Int64) (l1 : Int) (l2 : Int) (l3 : Int) (t : List (Option Value)) (r : Int) (hB : BM ρ) (h_l1 : SM l1) (h_l2 : SM l2) (h_l3 : SM l3) (h_r : SM r) : G 113 29 (some (.ref 0) :: some (vI l1) :: some (vI l2) :: some (vI l3) :: t) ((some (vI r)).toList ++ []) (toM ρ τ) Q = G 41 0 [some (.ref 5), some (vI l1)] [] (toM ρ τ) (fun v μ2 => G 113 39 (some (.ref 0) :: some (vI l1) :: some (vI l2) :: some (vI l3) :: some (vI r) :: t.tail) (v.toList ++ []) μ2 Q) := by
  refine (g_istore d113_29 (by decide) rfl rfl).trans ?_
  refine (g_aload_n d113_31 rfl rfl).trans ?_
  refine (g_getR (q := 5) d113_32 f9_44 sh_0 (by decide) rfl).trans ?_
  refine (g_iload_n d113_35 rfl).trans ?_
  exact g_cV d113_36 k9_259 rfl rfl rfl
set_option maxRecDepth 10000 in
theorem b113_39 {Q : Option Value → mm → Prop} (ρ : rm) (τ : Int64) (l1 : Int) (l2 : Int) (l3 : Int) (l4 : Int) (t : List (Option Value)) (r : Int) (hB : BM ρ) (h_l1 : SM l1) (h_l2 : SM l2) (h_l3 : SM l3) (h_l4 : SM l4) (h_r : SM r) : G 113 39 (some (.ref 0) :: some (vI l1) :: some (vI l2) :: some (vI l3) :: some (vI l4) :: t) ((some (vI r)).toList ++ []) (toM ρ τ) Q = (if r = 1 then G 24 0 [some (.ref 1), some (vI l2)] [] (toM ρ τ) (fun v μ2 => G 113 84 (some (.ref 0) :: some (vI l1) :: some (vI l2) :: some (vI l3) :: some (vI l4) :: t) (v.toList ++ []) μ2 Q) else (if r = 2 then G 25 0 [some (.ref 1), some (vI l2), some (vI l3)] [] (toM ρ τ) (fun v μ2 => G 113 112 (some (.ref 0) :: some (vI l1) :: some (vI l2) :: some (vI l3) :: some (vI l4) :: t) (v.toList ++ []) μ2 Q) else (if r = 3 then G 26 0 [some (.ref 1), some (vI l2), some (vI l3)] [] (toM ρ τ) (fun v μ2 => G 113 124 (some (.ref 0) :: some (vI l1) :: some (vI l2) :: some (vI l3) :: some (vI l4) :: t) (v.toList ++ []) μ2 Q) else (if r = 4 then G 27 0 [some (.ref 1), some (vI l2), some (vI l3), some (vI l4)] [] (toM ρ τ) (fun v μ2 => G 113 138 (some (.ref 0) :: some (vI l1) :: some (vI l2) :: some (vI l3) :: some (vI l4) :: t) (v.toList ++ []) μ2 Q) else (if r = 5 then G 10 0 [some (.ref 2), some (vI l2), some (vI l3), some (vI l4)] [] (toM ρ τ) (fun v μ2 => G 113 152 (some (.ref 0) :: some (vI l1) :: some (vI l2) :: some (vI l3) :: some (vI l4) :: t) (v.toList ++ []) μ2 Q) else (if r = 6 then G 42 0 [some (.ref 5), some (vI l1), some (vI 3)] [] (toM ρ τ) (fun v μ2 => G 113 172 (some (.ref 0) :: some (vI l1) :: some (vI l2) :: some (vI l3) :: some (vI l4) :: t) (v.toList ++ [vI l4, vI l3, vI l2, .ref 3]) μ2 Q) else Q none (toM (rup (rup ρ 2 4 0) 3 0 0) τ))))))) := by
  refine sw_case (c := 1) (fun q1 => ?_) (fun q1 => ?_)
  ·
    refine (g_tableIn (off := 37) (tgt := 76) d113_39 (by rw [iI_toInt (by omega)]; omega) (by rw [iI_toInt (by omega), q1]; rfl) (by decide)).trans ?_
    refine (g_aload_n d113_76 rfl rfl).trans ?_
    refine (g_getR (q := 1) d113_77 f9_10 sh_0 (by decide) rfl).trans ?_
    refine (g_iload_n d113_80 rfl).trans ?_
    exact g_cV d113_81 k9_262 rfl rfl rfl
  ·
    refine sw_case (c := 2) (fun q2 => ?_) (fun q2 => ?_)
    ·
      refine (g_tableIn (off := 64) (tgt := 103) d113_39 (by rw [iI_toInt (by omega)]; omega) (by rw [iI_toInt (by omega), q2]; rfl) (by decide)).trans ?_
      refine (g_aload_n d113_103 rfl rfl).trans ?_
      refine (g_getR (q := 1) d113_104 f9_10 sh_0 (by decide) rfl).trans ?_
      refine (g_iload_n d113_107 rfl).trans ?_
      refine (g_iload_n d113_108 rfl).trans ?_
      exact g_cV d113_109 k9_264 rfl rfl rfl
    ·
      refine sw_case (c := 3) (fun q3 => ?_) (fun q3 => ?_)
      ·
        refine (g_tableIn (off := 76) (tgt := 115) d113_39 (by rw [iI_toInt (by omega)]; omega) (by rw [iI_toInt (by omega), q3]; rfl) (by decide)).trans ?_
        refine (g_aload_n d113_115 rfl rfl).trans ?_
        refine (g_getR (q := 1) d113_116 f9_10 sh_0 (by decide) rfl).trans ?_
        refine (g_iload_n d113_119 rfl).trans ?_
        refine (g_iload_n d113_120 rfl).trans ?_
        exact g_cV d113_121 k9_267 rfl rfl rfl
      ·
        refine sw_case (c := 4) (fun q4 => ?_) (fun q4 => ?_)
        ·
          refine (g_tableIn (off := 88) (tgt := 127) d113_39 (by rw [iI_toInt (by omega)]; omega) (by rw [iI_toInt (by omega), q4]; rfl) (by decide)).trans ?_
          refine (g_aload_n d113_127 rfl rfl).trans ?_
          refine (g_getR (q := 1) d113_128 f9_10 sh_0 (by decide) rfl).trans ?_
          refine (g_iload_n d113_131 rfl).trans ?_
          refine (g_iload_n d113_132 rfl).trans ?_
          refine (g_iload d113_133 rfl).trans ?_
          exact g_cV d113_135 k9_270 rfl rfl rfl
        ·
          refine sw_case (c := 5) (fun q5 => ?_) (fun q5 => ?_)
          ·
            refine (g_tableIn (off := 102) (tgt := 141) d113_39 (by rw [iI_toInt (by omega)]; omega) (by rw [iI_toInt (by omega), q5]; rfl) (by decide)).trans ?_
            refine (g_aload_n d113_141 rfl rfl).trans ?_
            refine (g_getR (q := 2) d113_142 f9_21 sh_0 (by decide) rfl).trans ?_
            refine (g_iload_n d113_145 rfl).trans ?_
            refine (g_iload_n d113_146 rfl).trans ?_
            refine (g_iload d113_147 rfl).trans ?_
            exact g_cV d113_149 k9_274 rfl rfl rfl
          ·
            refine sw_case (c := 6) (fun q6 => ?_) (fun q6 => ?_)
            ·
              refine (g_tableIn (off := 116) (tgt := 155) d113_39 (by rw [iI_toInt (by omega)]; omega) (by rw [iI_toInt (by omega), q6]; rfl) (by decide)).trans ?_
              refine (g_aload_n d113_155 rfl rfl).trans ?_
              refine (g_getR (q := 3) d113_156 f9_28 sh_0 (by decide) rfl).trans ?_
              refine (g_iload_n d113_159 rfl).trans ?_
              refine (g_iload_n d113_160 rfl).trans ?_
              refine (g_iload d113_161 rfl).trans ?_
              refine (g_aload_n d113_163 rfl rfl).trans ?_
              refine (g_getR (q := 5) d113_164 f9_44 sh_0 (by decide) rfl).trans ?_
              refine (g_iload_n d113_167 rfl).trans ?_
              refine (j_iconst d113_168).trans ?_
              exact g_cV d113_169 k9_256 rfl rfl rfl
            ·
              refine (g_tableOut (tgt := 187) d113_39 (by rw [iI_toInt (by omega)]; omega) (by decide)).trans ?_
              refine (g_aload_n d113_187 rfl rfl).trans ?_
              refine (g_getR (q := 2) d113_188 f9_21 sh_0 (by decide) rfl).trans ?_
              refine (j_iconst d113_191).trans ?_
              refine (j_putI d113_192 f9_91 sh_2 (by decide) rfl).trans ?_
              refine (g_aload_n d113_195 rfl rfl).trans ?_
              refine (g_getR (q := 3) d113_196 f9_28 sh_0 (by decide) rfl).trans ?_
              refine (j_iconst d113_199).trans ?_
              refine (j_putI d113_200 f9_92 sh_3 (by decide) rfl).trans ?_
              exact g_ret d113_203 rfl
set_option maxRecDepth 10000 in
theorem b113_84 {Q : Option Value → mm → Prop} (ρ : rm) (τ : Int64) (l1 : Int) (l2 : Int) (l3 : Int) (l4 : Int) (t : List (Option Value)) (hB : BM ρ) (h_l1 : SM l1) (h_l2 : SM l2) (h_l3 : SM l3) (h_l4 : SM l4) : G 113 84 (some (.ref 0) :: some (vI l1) :: some (vI l2) :: some (vI l3) :: some (vI l4) :: t) ((none : Option Value).toList ++ []) (toM ρ τ) Q = Q none (toM (rup (rup ρ 2 4 0) 3 0 0) τ) := by
  refine (g_aload_n d113_84 rfl rfl).trans ?_
  refine (g_getR (q := 2) d113_85 f9_21 sh_0 (by decide) rfl).trans ?_
  refine (j_iconst d113_88).trans ?_
  refine (j_putI d113_89 f9_91 sh_2 (by decide) rfl).trans ?_
  refine (g_aload_n d113_92 rfl rfl).trans ?_
  refine (g_getR (q := 3) d113_93 f9_28 sh_0 (by decide) rfl).trans ?_
  refine (j_iconst d113_96).trans ?_
  refine (j_putI d113_97 f9_92 sh_3 (by decide) rfl).trans ?_
  refine (g_goto (tgt := 203) d113_100 (by decide)).trans ?_
  exact g_ret d113_203 rfl
set_option maxRecDepth 10000 in
theorem b113_112 {Q : Option Value → mm → Prop} (ρ : rm) (τ : Int64) (l1 : Int) (l2 : Int) (l3 : Int) (l4 : Int) (t : List (Option Value)) (hB : BM ρ) (h_l1 : SM l1) (h_l2 : SM l2) (h_l3 : SM l3) (h_l4 : SM l4) : G 113 112 (some (.ref 0) :: some (vI l1) :: some (vI l2) :: some (vI l3) :: some (vI l4) :: t) ((none : Option Value).toList ++ []) (toM ρ τ) Q = Q none (toM ρ τ) := by
  refine (g_goto (tgt := 203) d113_112 (by decide)).trans ?_
  exact g_ret d113_203 rfl
set_option maxRecDepth 10000 in
theorem b113_124 {Q : Option Value → mm → Prop} (ρ : rm) (τ : Int64) (l1 : Int) (l2 : Int) (l3 : Int) (l4 : Int) (t : List (Option Value)) (hB : BM ρ) (h_l1 : SM l1) (h_l2 : SM l2) (h_l3 : SM l3) (h_l4 : SM l4) : G 113 124 (some (.ref 0) :: some (vI l1) :: some (vI l2) :: some (vI l3) :: some (vI l4) :: t) ((none : Option Value).toList ++ []) (toM ρ τ) Q = Q none (toM ρ τ) := by
  refine (g_goto (tgt := 203) d113_124 (by decide)).trans ?_
  exact g_ret d113_203 rfl
set_option maxRecDepth 10000 in
theorem b113_138 {Q : Option Value → mm → Prop} (ρ : rm) (τ : Int64) (l1 : Int) (l2 : Int) (l3 : Int) (l4 : Int) (t : List (Option Value)) (hB : BM ρ) (h_l1 : SM l1) (h_l2 : SM l2) (h_l3 : SM l3) (h_l4 : SM l4) : G 113 138 (some (.ref 0) :: some (vI l1) :: some (vI l2) :: some (vI l3) :: some (vI l4) :: t) ((none : Option Value).toList ++ []) (toM ρ τ) Q = Q none (toM ρ τ) := by
  refine (g_goto (tgt := 203) d113_138 (by decide)).trans ?_
  exact g_ret d113_203 rfl
set_option maxRecDepth 10000 in
theorem b113_152 {Q : Option Value → mm → Prop} (ρ : rm) (τ : Int64) (l1 : Int) (l2 : Int) (l3 : Int) (l4 : Int) (t : List (Option Value)) (hB : BM ρ) (h_l1 : SM l1) (h_l2 : SM l2) (h_l3 : SM l3) (h_l4 : SM l4) : G 113 152 (some (.ref 0) :: some (vI l1) :: some (vI l2) :: some (vI l3) :: some (vI l4) :: t) ((none : Option Value).toList ++ []) (toM ρ τ) Q = Q none (toM ρ τ) := by
  refine (g_goto (tgt := 203) d113_152 (by decide)).trans ?_
  exact g_ret d113_203 rfl
set_option maxRecDepth 10000 in
theorem b113_172 {Q : Option Value → mm → Prop} (ρ : rm) (τ : Int64) (l1 : Int) (l2 : Int) (l3 : Int) (l4 : Int) (t : List (Option Value)) (s0 : Int) (s1 : Int) (s2 : Int) (r : Int) (hB : BM ρ) (h_l1 : SM l1) (h_l2 : SM l2) (h_l3 : SM l3) (h_l4 : SM l4) (h_s0 : SM s0) (h_s1 : SM s1) (h_s2 : SM s2) (h_r : SM r) : G 113 172 (some (.ref 0) :: some (vI l1) :: some (vI l2) :: some (vI l3) :: some (vI l4) :: t) ((some (vI r)).toList ++ [vI s0, vI s1, vI s2, .ref 3]) (toM ρ τ) Q = G 42 0 [some (.ref 5), some (vI l1), some (vI 4)] [] (toM ρ τ) (fun v μ2 => G 113 181 (some (.ref 0) :: some (vI l1) :: some (vI l2) :: some (vI l3) :: some (vI l4) :: t) (v.toList ++ [vI r, vI s0, vI s1, vI s2, .ref 3]) μ2 Q) := by
  refine (g_aload_n d113_172 rfl rfl).trans ?_
  refine (g_getR (q := 5) d113_173 f9_44 sh_0 (by decide) rfl).trans ?_
  refine (g_iload_n d113_176 rfl).trans ?_
  refine (j_iconst d113_177).trans ?_
  exact g_cV d113_178 k9_256 rfl rfl rfl
set_option maxRecDepth 10000 in
theorem b113_181 {Q : Option Value → mm → Prop} (ρ : rm) (τ : Int64) (l1 : Int) (l2 : Int) (l3 : Int) (l4 : Int) (t : List (Option Value)) (s0 : Int) (s1 : Int) (s2 : Int) (s3 : Int) (r : Int) (hB : BM ρ) (h_l1 : SM l1) (h_l2 : SM l2) (h_l3 : SM l3) (h_l4 : SM l4) (h_s0 : SM s0) (h_s1 : SM s1) (h_s2 : SM s2) (h_s3 : SM s3) (h_r : SM r) : G 113 181 (some (.ref 0) :: some (vI l1) :: some (vI l2) :: some (vI l3) :: some (vI l4) :: t) ((some (vI r)).toList ++ [vI s0, vI s1, vI s2, vI s3, .ref 3]) (toM ρ τ) Q = G 59 0 [some (.ref 3), some (vI s3), some (vI s2), some (vI s1), some (vI s0), some (vI r)] [] (toM ρ τ) (fun v μ2 => G 113 184 (some (.ref 0) :: some (vI l1) :: some (vI l2) :: some (vI l3) :: some (vI l4) :: t) (v.toList ++ []) μ2 Q) := by
  exact g_cV d113_181 k9_276 rfl rfl rfl
set_option maxRecDepth 10000 in
theorem b113_184 {Q : Option Value → mm → Prop} (ρ : rm) (τ : Int64) (l1 : Int) (l2 : Int) (l3 : Int) (l4 : Int) (t : List (Option Value)) (hB : BM ρ) (h_l1 : SM l1) (h_l2 : SM l2) (h_l3 : SM l3) (h_l4 : SM l4) : G 113 184 (some (.ref 0) :: some (vI l1) :: some (vI l2) :: some (vI l3) :: some (vI l4) :: t) ((none : Option Value).toList ++ []) (toM ρ τ) Q = Q none (toM ρ τ) := by
  refine (g_goto (tgt := 203) d113_184 (by decide)).trans ?_
  exact g_ret d113_203 rfl
theorem d114_0 : ins 114 0 = some (.iload_n 0) := by decide +kernel
theorem d114_1 : ins 114 1 = some (.ifCond .lt 14) := by decide +kernel
theorem d114_4 : ins 114 4 = some (.iload_n 0) := by decide +kernel
theorem d114_5 : ins 114 5 = some (.sipush 1440) := by decide +kernel
theorem d114_8 : ins 114 8 = some (.if_icmp .ge 7) := by decide +kernel
theorem d114_11 : ins 114 11 = some (.iconst 1) := by decide +kernel
theorem d114_12 : ins 114 12 = some (.goto 4) := by decide +kernel
theorem d114_15 : ins 114 15 = some (.iconst 0) := by decide +kernel
theorem d114_16 : ins 114 16 = some (.ireturn) := by decide +kernel
set_option maxRecDepth 10000 in
theorem b114_0 {Q : Option Value → mm → Prop} (ρ : rm) (τ : Int64) (a1 : Int) (hB : BM ρ) (h_a1 : SB a1) : G 114 0 (some (vI a1) :: []) [] (toM ρ τ) Q = (if a1 < 0 then Q (some (vI 0)) (toM ρ τ) else (if 1440 ≤ a1 then Q (some (vI 0)) (toM ρ τ) else Q (some (vI 1)) (toM ρ τ))) := by
  refine (g_iload_n d114_0 rfl).trans ?_
  refine j_if_lt (tgt := 15) d114_1 (by decide) (by omega) (fun q1 => ?_) (fun q1 => ?_)
  ·
    refine (j_iconst d114_15).trans ?_
    exact g_iret d114_16 rfl rfl
  ·
    refine (g_iload_n d114_4 rfl).trans ?_
    refine (j_sipush d114_5 (by decide)).trans ?_
    refine j_icmp_ge (tgt := 15) d114_8 (by decide) (by omega) (by omega) (fun q2 => ?_) (fun q2 => ?_)
    ·
      refine (j_iconst d114_15).trans ?_
      exact g_iret d114_16 rfl rfl
    ·
      refine (j_iconst d114_11).trans ?_
      refine (g_goto (tgt := 16) d114_12 (by decide)).trans ?_
      exact g_iret d114_16 rfl rfl
theorem d115_0 : ins 115 0 = some (.iconst 1) := by decide +kernel
theorem d115_1 : ins 115 1 = some (.istore_n 1) := by decide +kernel
theorem d115_2 : ins 115 2 = some (.iload_n 1) := by decide +kernel
theorem d115_3 : ins 115 3 = some (.sipush 1440) := by decide +kernel
theorem d115_6 : ins 115 6 = some (.if_icmp .ge 19) := by decide +kernel
theorem d115_9 : ins 115 9 = some (.iload_n 0) := by decide +kernel
theorem d115_10 : ins 115 10 = some (.iload_n 1) := by decide +kernel
theorem d115_11 : ins 115 11 = some (.imul) := by decide +kernel
theorem d115_12 : ins 115 12 = some (.sipush 1440) := by decide +kernel
theorem d115_15 : ins 115 15 = some (.irem) := by decide +kernel
theorem d115_16 : ins 115 16 = some (.ifCond .eq 9) := by decide +kernel
theorem d115_19 : ins 115 19 = some (.iinc 1 1) := by decide +kernel
theorem d115_22 : ins 115 22 = some (.goto (-20)) := by decide +kernel
theorem d115_25 : ins 115 25 = some (.iload_n 1) := by decide +kernel
theorem d115_26 : ins 115 26 = some (.ireturn) := by decide +kernel
set_option maxRecDepth 10000 in
theorem b115_0 {Q : Option Value → mm → Prop} (ρ : rm) (τ : Int64) (a1 : Int) (hB : BM ρ) (h_a1 : SM a1) : G 115 0 (some (vI a1) :: []) [] (toM ρ τ) Q = G 115 2 (some (vI a1) :: some (vI 1) :: []) [] (toM ρ τ) Q := by
  refine (j_iconst d115_0).trans ?_
  refine (g_istore_n d115_1 (by decide) rfl rfl).trans ?_
  rfl
set_option maxRecDepth 10000 in
theorem b115_2 {Q : Option Value → mm → Prop} (ρ : rm) (τ : Int64) (l0 : Int) (l1 : Int) (t : List (Option Value)) (hB : BM ρ) (h_l0 : SM l0) (h_l1 : SM l1) (h_mul : SB (l0 * l1)) : G 115 2 (some (vI l0) :: some (vI l1) :: t) [] (toM ρ τ) Q = (if 1440 ≤ l1 then Q (some (vI l1)) (toM ρ τ) else (if (Int.tmod (l0 * l1) 1440) = 0 then Q (some (vI l1)) (toM ρ τ) else G 115 2 (some (vI l0) :: some (vI (l1 + 1)) :: t) [] (toM ρ τ) Q)) := by
  refine (g_iload_n d115_2 rfl).trans ?_
  refine (j_sipush d115_3 (by decide)).trans ?_
  refine j_icmp_ge (tgt := 25) d115_6 (by decide) (by omega) (by omega) (fun q1 => ?_) (fun q1 => ?_)
  ·
    refine (g_iload_n d115_25 rfl).trans ?_
    exact g_iret d115_26 rfl rfl
  ·
    refine (g_iload_n d115_9 rfl).trans ?_
    refine (g_iload_n d115_10 rfl).trans ?_
    refine (j_imul d115_11).trans ?_
    refine (j_sipush d115_12 (by decide)).trans ?_
    refine (j_irem d115_15 (by omega) (by omega) (by omega)).trans ?_
    have q2 := tmod_bd (l0 * l1) (b := 1440) (by omega)
    refine j_if_eq (tgt := 25) d115_16 (by decide) (by omega) (fun q3 => ?_) (fun q3 => ?_)
    ·
      refine (g_iload_n d115_25 rfl).trans ?_
      exact g_iret d115_26 rfl rfl
    ·
      refine (j_iinc d115_19 rfl (by decide) rfl rfl).trans ?_
      refine (g_goto (tgt := 2) d115_22 (by decide)).trans ?_
      rfl
