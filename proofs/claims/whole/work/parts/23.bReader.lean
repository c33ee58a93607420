/-! blocks of the small machine (wip/gen/gen_blocks.py) -/
theorem d41_0 : ins 41 0 = some (.iload_n 1) := by decide +kernel
theorem d41_1 : ins 41 1 = some (.ifCond .lt 20) := by decide +kernel
theorem d41_4 : ins 41 4 = some (.iload_n 1) := by decide +kernel
theorem d41_5 : ins 41 5 = some (.aload_n 0) := by decide +kernel
theorem d41_6 : ins 41 6 = some (.getfield 22) := by decide +kernel
theorem d41_9 : ins 41 9 = some (.if_icmp .ge 12) := by decide +kernel
theorem d41_12 : ins 41 12 = some (.aload_n 0) := by decide +kernel
theorem d41_13 : ins 41 13 = some (.getfield 9) := by decide +kernel
theorem d41_16 : ins 41 16 = some (.iload_n 1) := by decide +kernel
theorem d41_17 : ins 41 17 = some (.iaload) := by decide +kernel
theorem d41_18 : ins 41 18 = some (.goto 4) := by decide +kernel
theorem d41_21 : ins 41 21 = some (.iconst 0) := by decide +kernel
theorem d41_22 : ins 41 22 = some (.ireturn) := by decide +kernel
set_option maxRecDepth 10000 in
theorem b41_0 {Q : Option Value → mm → Prop} (ρ : rm) (τ : Int64) (a1 : Int) (hB : BM ρ) (h_a1 : SM a1) : G 41 0 (some (.ref 5) :: some (vI a1) :: []) [] (toM ρ τ) Q = (if a1 < 0 then Q (some (vI 0)) (toM ρ τ) else (if (ρ 5 0) ≤ a1 then Q (some (vI 0)) (toM ρ τ) else (if 0 ≤ a1 ∧ a1 < 10 then Q (some (vI (ρ 38 a1))) (toM ρ τ) else False))) := by
  refine (g_iload_n d41_0 rfl).trans ?_
  refine j_if_lt (tgt := 21) d41_1 (by decide) (by omega) (fun q1 => ?_) (fun q1 => ?_)
  ·
    refine (j_iconst d41_21).trans ?_
    exact g_iret d41_22 rfl rfl
  ·
    refine (g_iload_n d41_4 rfl).trans ?_
    refine (g_aload_n d41_5 rfl rfl).trans ?_
    refine (j_getI (v := ρ 5 0) d41_6 f3_22 sh_5 (by decide) rfl rfl).trans ?_
    have q2 := hB 5 0 (by decide)
    refine j_icmp_ge (tgt := 21) d41_9 (by decide) (by omega) (by omega) (fun q3 => ?_) (fun q3 => ?_)
    ·
      refine (j_iconst d41_21).trans ?_
      exact g_iret d41_22 rfl rfl
    ·
      refine (g_aload_n d41_12 rfl rfl).trans ?_
      refine (g_getR (q := 38) d41_13 f3_9 sh_5 (by decide) rfl).trans ?_
      refine (g_iload_n d41_16 rfl).trans ?_
      refine j_iaload (v := ρ 38 a1) d41_17 sh_38 (by omega) rfl (fun q4 => ?_)
      have q5 := hB 38 a1 (by omega)
      refine (g_goto (tgt := 22) d41_18 (by decide)).trans ?_
      exact g_iret d41_22 rfl rfl
theorem d42_0 : ins 42 0 = some (.iload_n 1) := by decide +kernel
theorem d42_1 : ins 42 1 = some (.ifCond .lt 24) := by decide +kernel
theorem d42_4 : ins 42 4 = some (.iload_n 1) := by decide +kernel
theorem d42_5 : ins 42 5 = some (.aload_n 0) := by decide +kernel
theorem d42_6 : ins 42 6 = some (.getfield 22) := by decide +kernel
theorem d42_9 : ins 42 9 = some (.if_icmp .ge 16) := by decide +kernel
theorem d42_12 : ins 42 12 = some (.iload_n 2) := by decide +kernel
theorem d42_13 : ins 42 13 = some (.ifCond .lt 12) := by decide +kernel
theorem d42_16 : ins 42 16 = some (.iload_n 2) := by decide +kernel
theorem d42_17 : ins 42 17 = some (.iconst 5) := by decide +kernel
theorem d42_18 : ins 42 18 = some (.if_icmp .ge 7) := by decide +kernel
theorem d42_21 : ins 42 21 = some (.iconst 1) := by decide +kernel
theorem d42_22 : ins 42 22 = some (.goto 4) := by decide +kernel
theorem d42_25 : ins 42 25 = some (.iconst 0) := by decide +kernel
theorem d42_26 : ins 42 26 = some (.istore_n 3) := by decide +kernel
theorem d42_27 : ins 42 27 = some (.iload_n 3) := by decide +kernel
theorem d42_28 : ins 42 28 = some (.ifCond .eq 16) := by decide +kernel
theorem d42_31 : ins 42 31 = some (.aload_n 0) := by decide +kernel
theorem d42_32 : ins 42 32 = some (.getfield 15) := by decide +kernel
theorem d42_35 : ins 42 35 = some (.iload_n 1) := by decide +kernel
theorem d42_36 : ins 42 36 = some (.iconst 5) := by decide +kernel
theorem d42_37 : ins 42 37 = some (.imul) := by decide +kernel
theorem d42_38 : ins 42 38 = some (.iload_n 2) := by decide +kernel
theorem d42_39 : ins 42 39 = some (.iadd) := by decide +kernel
theorem d42_40 : ins 42 40 = some (.iaload) := by decide +kernel
theorem d42_41 : ins 42 41 = some (.goto 4) := by decide +kernel
theorem d42_44 : ins 42 44 = some (.iconst 0) := by decide +kernel
theorem d42_45 : ins 42 45 = some (.ireturn) := by decide +kernel
set_option maxRecDepth 10000 in
theorem b42_0 {Q : Option Value → mm → Prop} (ρ : rm) (τ : Int64) (a1 : Int) (a2 : Int) (hB : BM ρ) (h_a1 : SM a1) (h_a2 : SM a2) : G 42 0 (some (.ref 5) :: some (vI a1) :: some (vI a2) :: []) [] (toM ρ τ) Q = (if a1 < 0 then Q (some (vI 0)) (toM ρ τ) else (if (ρ 5 0) ≤ a1 then Q (some (vI 0)) (toM ρ τ) else (if a2 < 0 then Q (some (vI 0)) (toM ρ τ) else (if 5 ≤ a2 then Q (some (vI 0)) (toM ρ τ) else (if 0 ≤ ((a1 * 5) + a2) ∧ ((a1 * 5) + a2) < 50 then Q (some (vI (ρ 39 ((a1 * 5) + a2)))) (toM ρ τ) else False))))) := by
  refine (g_iload_n d42_0 rfl).trans ?_
  refine j_if_lt (tgt := 25) d42_1 (by decide) (by omega) (fun q1 => ?_) (fun q1 => ?_)
  ·
    refine (j_iconst d42_25).trans ?_
    refine (g_istore_n d42_26 (by decide) rfl rfl).trans ?_
    refine (g_iload_n d42_27 rfl).trans ?_
    refine ((g_if_eq (tgt := 44) d42_28 (by decide)).trans (if_pos (by decide))).trans ?_
    refine (j_iconst d42_44).trans ?_
    exact g_iret d42_45 rfl rfl
  ·
    refine (g_iload_n d42_4 rfl).trans ?_
    refine (g_aload_n d42_5 rfl rfl).trans ?_
    refine (j_getI (v := ρ 5 0) d42_6 f3_22 sh_5 (by decide) rfl rfl).trans ?_
    have q2 := hB 5 0 (by decide)
    refine j_icmp_ge (tgt := 25) d42_9 (by decide) (by omega) (by omega) (fun q3 => ?_) (fun q3 => ?_)
    ·
      refine (j_iconst d42_25).trans ?_
      refine (g_istore_n d42_26 (by decide) rfl rfl).trans ?_
      refine (g_iload_n d42_27 rfl).trans ?_
      refine ((g_if_eq (tgt := 44) d42_28 (by decide)).trans (if_pos (by decide))).trans ?_
      refine (j_iconst d42_44).trans ?_
      exact g_iret d42_45 rfl rfl
    ·
      refine (g_iload_n d42_12 rfl).trans ?_
      refine j_if_lt (tgt := 25) d42_13 (by decide) (by omega) (fun q4 => ?_) (fun q4 => ?_)
      ·
        refine (j_iconst d42_25).trans ?_
        refine (g_istore_n d42_26 (by decide) rfl rfl).trans ?_
        refine (g_iload_n d42_27 rfl).trans ?_
        refine ((g_if_eq (tgt := 44) d42_28 (by decide)).trans (if_pos (by decide))).trans ?_
        refine (j_iconst d42_44).trans ?_
        exact g_iret d42_45 rfl rfl
      ·
        refine (g_iload_n d42_16 rfl).trans ?_
        refine (j_iconst d42_17).trans ?_
        refine j_icmp_ge (tgt := 25) d42_18 (by decide) (by omega) (by omega) (fun q5 => ?_) (fun q5 => ?_)
        ·
          refine (j_iconst d42_25).trans ?_
          refine (g_istore_n d42_26 (by decide) rfl rfl).trans ?_
          refine (g_iload_n d42_27 rfl).trans ?_
          refine ((g_if_eq (tgt := 44) d42_28 (by decide)).trans (if_pos (by decide))).trans ?_
          refine (j_iconst d42_44).trans ?_
          exact g_iret d42_45 rfl rfl
        ·
          refine (j_iconst d42_21).trans ?_
          refine (g_goto (tgt := 26) d42_22 (by decide)).trans ?_
          refine (g_istore_n d42_26 (by decide) rfl rfl).trans ?_
          refine (g_iload_n d42_27 rfl).trans ?_
          refine ((g_if_eq (tgt := 44) d42_28 (by decide)).trans (if_neg (by decide))).trans ?_
          refine (g_aload_n d42_31 rfl rfl).trans ?_
          refine (g_getR (q := 39) d42_32 f3_15 sh_5 (by decide) rfl).trans ?_
          refine (g_iload_n d42_35 rfl).trans ?_
          refine (j_iconst d42_36).trans ?_
          refine (j_imul d42_37).trans ?_
          refine (g_iload_n d42_38 rfl).trans ?_
          refine (j_iadd d42_39).trans ?_
          refine j_iaload (v := ρ 39 ((a1 * 5) + a2)) d42_40 sh_39 (by omega) rfl (fun q6 => ?_)
          have q7 := hB 39 ((a1 * 5) + a2) (by omega)
          refine (g_goto (tgt := 45) d42_41 (by decide)).trans ?_
          exact g_iret d42_45 rfl rfl
theorem d43_0 : ins 43 0 = some (.aload_n 0) := by decide +kernel
theorem d43_1 : ins 43 1 = some (.iload_n 1) := by decide +kernel
theorem d43_2 : ins 43 2 = some (.putfield 26) := by decide +kernel
theorem d43_5 : ins 43 5 = some (.aload_n 0) := by decide +kernel
theorem d43_6 : ins 43 6 = some (.iload_n 2) := by decide +kernel
theorem d43_7 : ins 43 7 = some (.putfield 29) := by decide +kernel
theorem d43_10 : ins 43 10 = some (.aload_n 0) := by decide +kernel
theorem d43_11 : ins 43 11 = some (.iload_n 3) := by decide +kernel
theorem d43_12 : ins 43 12 = some (.putfield 32) := by decide +kernel
theorem d43_15 : ins 43 15 = some (.aload_n 0) := by decide +kernel
theorem d43_16 : ins 43 16 = some (.iload 4) := by decide +kernel
theorem d43_18 : ins 43 18 = some (.putfield 35) := by decide +kernel
theorem d43_21 : ins 43 21 = some (.aload_n 0) := by decide +kernel
theorem d43_22 : ins 43 22 = some (.iconst 0) := by decide +kernel
theorem d43_23 : ins 43 23 = some (.putfield 38) := by decide +kernel
theorem d43_26 : ins 43 26 = some (.aload_n 0) := by decide +kernel
theorem d43_27 : ins 43 27 = some (.iconst 0) := by decide +kernel
theorem d43_28 : ins 43 28 = some (.putfield 22) := by decide +kernel
theorem d43_31 : ins 43 31 = some (.aload_n 0) := by decide +kernel
theorem d43_32 : ins 43 32 = some (.getfield 22) := by decide +kernel
theorem d43_35 : ins 43 35 = some (.bipush 10) := by decide +kernel
theorem d43_37 : ins 43 37 = some (.if_icmp .ge 57) := by decide +kernel
theorem d43_40 : ins 43 40 = some (.aload_n 0) := by decide +kernel
theorem d43_41 : ins 43 41 = some (.aload_n 0) := by decide +kernel
theorem d43_42 : ins 43 42 = some (.getfield 22) := by decide +kernel
theorem d43_45 : ins 43 45 = some (.iconst 5) := by decide +kernel
theorem d43_46 : ins 43 46 = some (.imul) := by decide +kernel
theorem d43_47 : ins 43 47 = some (.invokevirtual 41) := by decide +kernel
theorem d43_50 : ins 43 50 = some (.ifCond .ne 8) := by decide +kernel
theorem d43_53 : ins 43 53 = some (.aload_n 0) := by decide +kernel
theorem d43_54 : ins 43 54 = some (.getfield 45) := by decide +kernel
theorem d43_57 : ins 43 57 = some (.ireturn) := by decide +kernel
theorem d43_58 : ins 43 58 = some (.aload_n 0) := by decide +kernel
theorem d43_59 : ins 43 59 = some (.dup) := by decide +kernel
theorem d43_60 : ins 43 60 = some (.getfield 22) := by decide +kernel
theorem d43_63 : ins 43 63 = some (.iconst 1) := by decide +kernel
theorem d43_64 : ins 43 64 = some (.iadd) := by decide +kernel
theorem d43_65 : ins 43 65 = some (.putfield 22) := by decide +kernel
theorem d43_68 : ins 43 68 = some (.aload_n 0) := by decide +kernel
theorem d43_69 : ins 43 69 = some (.invokevirtual 48) := by decide +kernel
theorem d43_72 : ins 43 72 = some (.aload_n 0) := by decide +kernel
theorem d43_73 : ins 43 73 = some (.getfield 51) := by decide +kernel
theorem d43_76 : ins 43 76 = some (.ifCond .ne 5) := by decide +kernel
theorem d43_79 : ins 43 79 = some (.iconst (-1)) := by decide +kernel
theorem d43_80 : ins 43 80 = some (.ireturn) := by decide +kernel
theorem d43_81 : ins 43 81 = some (.aload_n 0) := by decide +kernel
theorem d43_82 : ins 43 82 = some (.getfield 51) := by decide +kernel
theorem d43_85 : ins 43 85 = some (.iconst 3) := by decide +kernel
theorem d43_86 : ins 43 86 = some (.if_icmp .eq (-55)) := by decide +kernel
theorem d43_89 : ins 43 89 = some (.aload_n 0) := by decide +kernel
theorem d43_90 : ins 43 90 = some (.getfield 45) := by decide +kernel
theorem d43_93 : ins 43 93 = some (.ireturn) := by decide +kernel
theorem d43_94 : ins 43 94 = some (.aload_n 0) := by decide +kernel
theorem d43_95 : ins 43 95 = some (.getfield 45) := by decide +kernel
theorem d43_98 : ins 43 98 = some (.ireturn) := by decide +kernel
set_option maxRecDepth 10000 in
theorem b43_0 {Q : Option Value → mm → Prop} (ρ : rm) (τ : Int64) (a1 : Int) (a2 : Int) (a3 : Int) (a4 : Int) (hB : BM ρ) (h_a1 : SM a1) (h_a2 : SM a2) (h_a3 : SM a3) (h_a4 : SM a4) : G 43 0 (some (.ref 5) :: some (vI a1) :: some (vI a2) :: some (vI a3) :: some (vI a4) :: []) [] (toM ρ τ) Q = G 43 31 (some (.ref 5) :: some (vI a1) :: some (vI a2) :: some (vI a3) :: some (vI a4) :: []) [] (toM (rup (rup (rup (rup (rup (rup ρ 5 8 a1) 5 9 a2) 5 10 a3) 5 11 a4) 5 4 0) 5 0 0) τ) Q := by
  refine (g_aload_n d43_0 rfl rfl).trans ?_
  refine (g_iload_n d43_1 rfl).trans ?_
  refine (j_putI d43_2 f3_26 sh_5 (by decide) rfl).trans ?_
  refine (g_aload_n d43_5 rfl rfl).trans ?_
  refine (g_iload_n d43_6 rfl).trans ?_
  refine (j_putI d43_7 f3_29 sh_5 (by decide) rfl).trans ?_
  refine (g_aload_n d43_10 rfl rfl).trans ?_
  refine (g_iload_n d43_11 rfl).trans ?_
  refine (j_putI d43_12 f3_32 sh_5 (by decide) rfl).trans ?_
  refine (g_aload_n d43_15 rfl rfl).trans ?_
  refine (g_iload d43_16 rfl).trans ?_
  refine (j_putI d43_18 f3_35 sh_5 (by decide) rfl).trans ?_
  refine (g_aload_n d43_21 rfl rfl).trans ?_
  refine (j_iconst d43_22).trans ?_
  refine (j_putI d43_23 f3_38 sh_5 (by decide) rfl).trans ?_
  refine (g_aload_n d43_26 rfl rfl).trans ?_
  refine (j_iconst d43_27).trans ?_
  refine (j_putI d43_28 f3_22 sh_5 (by decide) rfl).trans ?_
  rfl
set_option maxRecDepth 10000 in
theorem b43_31 {Q : Option Value → mm → Prop} (ρ : rm) (τ : Int64) (l1 : Int) (l2 : Int) (l3 : Int) (l4 : Int) (t : List (Option Value)) (hB : BM ρ) (h_l1 : SM l1) (h_l2 : SM l2) (h_l3 : SM l3) (h_l4 : SM l4) : G 43 31 (some (.ref 5) :: some (vI l1) :: some (vI l2) :: some (vI l3) :: some (vI l4) :: t) [] (toM ρ τ) Q = (if 10 ≤ (ρ 5 0) then Q (some (vI (ρ 5 6))) (toM ρ τ) else G 44 0 [some (.ref 5), some (vI ((ρ 5 0) * 5))] [] (toM ρ τ) (fun v μ2 => G 43 50 (some (.ref 5) :: some (vI l1) :: some (vI l2) :: some (vI l3) :: some (vI l4) :: t) (v.toList ++ []) μ2 Q)) := by
  refine (g_aload_n d43_31 rfl rfl).trans ?_
  refine (j_getI (v := ρ 5 0) d43_32 f3_22 sh_5 (by decide) rfl rfl).trans ?_
  have q1 := hB 5 0 (by decide)
  refine (j_bipush d43_35 (by decide)).trans ?_
  refine j_icmp_ge (tgt := 94) d43_37 (by decide) (by omega) (by omega) (fun q2 => ?_) (fun q2 => ?_)
  ·
    refine (g_aload_n d43_94 rfl rfl).trans ?_
    refine (j_getI (v := ρ 5 6) d43_95 f3_45 sh_5 (by decide) rfl rfl).trans ?_
    have q3 := hB 5 6 (by decide)
    exact g_iret d43_98 rfl rfl
  ·
    refine (g_aload_n d43_40 rfl rfl).trans ?_
    refine (g_aload_n d43_41 rfl rfl).trans ?_
    refine (j_getI (v := ρ 5 0) d43_42 f3_22 sh_5 (by decide) rfl rfl).trans ?_
    refine (j_iconst d43_45).trans ?_
    refine (j_imul d43_46).trans ?_
    exact g_cV d43_47 k3_41 rfl rfl rfl
set_option maxRecDepth 10000 in
theorem b43_50 {Q : Option Value → mm → Prop} (ρ : rm) (τ : Int64) (l1 : Int) (l2 : Int) (l3 : Int) (l4 : Int) (t : List (Option Value)) (r : Int) (hB : BM ρ) (h_l1 : SM l1) (h_l2 : SM l2) (h_l3 : SM l3) (h_l4 : SM l4) (h_r : SM r) : G 43 50 (some (.ref 5) :: some (vI l1) :: some (vI l2) :: some (vI l3) :: some (vI l4) :: t) ((some (vI r)).toList ++ []) (toM ρ τ) Q = (if r = 0 then Q (some (vI (ρ 5 6))) (toM ρ τ) else G 51 0 [some (.ref 5)] [] (toM (rup ρ 5 0 ((ρ 5 0) + 1)) τ) (fun v μ2 => G 43 72 (some (.ref 5) :: some (vI l1) :: some (vI l2) :: some (vI l3) :: some (vI l4) :: t) (v.toList ++ []) μ2 Q)) := by
  refine j_if_ne (tgt := 58) d43_50 (by decide) (by omega) (fun q1 => ?_) (fun q1 => ?_)
  ·
    refine (g_aload_n d43_53 rfl rfl).trans ?_
    refine (j_getI (v := ρ 5 6) d43_54 f3_45 sh_5 (by decide) rfl rfl).trans ?_
    have q2 := hB 5 6 (by decide)
    exact g_iret d43_57 rfl rfl
  ·
    refine (g_aload_n d43_58 rfl rfl).trans ?_
    refine (g_dupR d43_59).trans ?_
    refine (j_getI (v := ρ 5 0) d43_60 f3_22 sh_5 (by decide) rfl rfl).trans ?_
    have q3 := hB 5 0 (by decide)
    refine (j_iconst d43_63).trans ?_
    refine (j_iadd d43_64).trans ?_
    refine (j_putI d43_65 f3_22 sh_5 (by decide) rfl).trans ?_
    refine (g_aload_n d43_68 rfl rfl).trans ?_
    exact g_cV d43_69 k3_48 rfl rfl rfl
set_option maxRecDepth 10000 in
theorem b43_72 {Q : Option Value → mm → Prop} (ρ : rm) (τ : Int64) (l1 : Int) (l2 : Int) (l3 : Int) (l4 : Int) (t : List (Option Value)) (hB : BM ρ) (h_l1 : SM l1) (h_l2 : SM l2) (h_l3 : SM l3) (h_l4 : SM l4) : G 43 72 (some (.ref 5) :: some (vI l1) :: some (vI l2) :: some (vI l3) :: some (vI l4) :: t) ((none : Option Value).toList ++ []) (toM ρ τ) Q = (if (ρ 5 5) = 0 then Q (some (vI (-1))) (toM ρ τ) else (if (ρ 5 5) = 3 then G 43 31 (some (.ref 5) :: some (vI l1) :: some (vI l2) :: some (vI l3) :: some (vI l4) :: t) [] (toM ρ τ) Q else Q (some (vI (ρ 5 6))) (toM ρ τ))) := by
  refine (g_aload_n d43_72 rfl rfl).trans ?_
  refine (j_getI (v := ρ 5 5) d43_73 f3_51 sh_5 (by decide) rfl rfl).trans ?_
  have q1 := hB 5 5 (by decide)
  refine j_if_ne (tgt := 81) d43_76 (by decide) (by omega) (fun q2 => ?_) (fun q2 => ?_)
  ·
    refine (j_iconst d43_79).trans ?_
    exact g_iret d43_80 rfl rfl
  ·
    refine (g_aload_n d43_81 rfl rfl).trans ?_
    refine (j_getI (v := ρ 5 5) d43_82 f3_51 sh_5 (by decide) rfl rfl).trans ?_
    refine (j_iconst d43_85).trans ?_
    refine j_icmp_eq (tgt := 31) d43_86 (by decide) (by omega) (by omega) (fun q3 => ?_) (fun q3 => ?_)
    ·
      rfl
    ·
      refine (g_aload_n d43_89 rfl rfl).trans ?_
      refine (j_getI (v := ρ 5 6) d43_90 f3_45 sh_5 (by decide) rfl rfl).trans ?_
      have q4 := hB 5 6 (by decide)
      exact g_iret d43_93 rfl rfl
theorem d44_0 : ins 44 0 = some (.aload_n 0) := by decide +kernel
theorem d44_1 : ins 44 1 = some (.invokevirtual 48) := by decide +kernel
theorem d44_4 : ins 44 4 = some (.aload_n 0) := by decide +kernel
theorem d44_5 : ins 44 5 = some (.invokevirtual 54) := by decide +kernel
theorem d44_8 : ins 44 8 = some (.istore_n 2) := by decide +kernel
theorem d44_9 : ins 44 9 = some (.iload_n 2) := by decide +kernel
theorem d44_10 : ins 44 10 = some (.ifCond .eq 11) := by decide +kernel
theorem d44_13 : ins 44 13 = some (.aload_n 0) := by decide +kernel
theorem d44_14 : ins 44 14 = some (.iload_n 2) := by decide +kernel
theorem d44_15 : ins 44 15 = some (.invokevirtual 58) := by decide +kernel
theorem d44_18 : ins 44 18 = some (.ifCond .eq 5) := by decide +kernel
theorem d44_21 : ins 44 21 = some (.iconst 0) := by decide +kernel
theorem d44_22 : ins 44 22 = some (.ireturn) := by decide +kernel
theorem d44_23 : ins 44 23 = some (.iconst 0) := by decide +kernel
theorem d44_24 : ins 44 24 = some (.istore_n 3) := by decide +kernel
theorem d44_25 : ins 44 25 = some (.iload_n 3) := by decide +kernel
theorem d44_26 : ins 44 26 = some (.iload_n 2) := by decide +kernel
theorem d44_27 : ins 44 27 = some (.invokestatic 61) := by decide +kernel
theorem d44_30 : ins 44 30 = some (.if_icmp .ge 45) := by decide +kernel
theorem d44_33 : ins 44 33 = some (.aload_n 0) := by decide +kernel
theorem d44_34 : ins 44 34 = some (.invokevirtual 48) := by decide +kernel
theorem d44_37 : ins 44 37 = some (.aload_n 0) := by decide +kernel
theorem d44_38 : ins 44 38 = some (.getfield 51) := by decide +kernel
theorem d44_41 : ins 44 41 = some (.iconst 2) := by decide +kernel
theorem d44_42 : ins 44 42 = some (.if_icmp .ne 13) := by decide +kernel
theorem d44_45 : ins 44 45 = some (.aload_n 0) := by decide +kernel
theorem d44_46 : ins 44 46 = some (.iload_n 2) := by decide +kernel
theorem d44_47 : ins 44 47 = some (.iload_n 3) := by decide +kernel
theorem d44_48 : ins 44 48 = some (.iload_n 1) := by decide +kernel
theorem d44_49 : ins 44 49 = some (.invokevirtual 65) := by decide +kernel
theorem d44_52 : ins 44 52 = some (.ifCond .ne 5) := by decide +kernel
theorem d44_55 : ins 44 55 = some (.iconst 0) := by decide +kernel
theorem d44_56 : ins 44 56 = some (.ireturn) := by decide +kernel
theorem d44_57 : ins 44 57 = some (.aload_n 0) := by decide +kernel
theorem d44_58 : ins 44 58 = some (.getfield 15) := by decide +kernel
theorem d44_61 : ins 44 61 = some (.iload_n 1) := by decide +kernel
theorem d44_62 : ins 44 62 = some (.iload_n 3) := by decide +kernel
theorem d44_63 : ins 44 63 = some (.iadd) := by decide +kernel
theorem d44_64 : ins 44 64 = some (.aload_n 0) := by decide +kernel
theorem d44_65 : ins 44 65 = some (.getfield 69) := by decide +kernel
theorem d44_68 : ins 44 68 = some (.iastore) := by decide +kernel
theorem d44_69 : ins 44 69 = some (.iinc 3 1) := by decide +kernel
theorem d44_72 : ins 44 72 = some (.goto (-47)) := by decide +kernel
theorem d44_75 : ins 44 75 = some (.aload_n 0) := by decide +kernel
theorem d44_76 : ins 44 76 = some (.getfield 9) := by decide +kernel
theorem d44_79 : ins 44 79 = some (.aload_n 0) := by decide +kernel
theorem d44_80 : ins 44 80 = some (.getfield 22) := by decide +kernel
theorem d44_83 : ins 44 83 = some (.iload_n 2) := by decide +kernel
theorem d44_84 : ins 44 84 = some (.iastore) := by decide +kernel
theorem d44_85 : ins 44 85 = some (.aload_n 0) := by decide +kernel
theorem d44_86 : ins 44 86 = some (.iload_n 2) := by decide +kernel
theorem d44_87 : ins 44 87 = some (.aload_n 0) := by decide +kernel
theorem d44_88 : ins 44 88 = some (.getfield 15) := by decide +kernel
theorem d44_91 : ins 44 91 = some (.iload_n 1) := by decide +kernel
theorem d44_92 : ins 44 92 = some (.iaload) := by decide +kernel
theorem d44_93 : ins 44 93 = some (.invokevirtual 72) := by decide +kernel
theorem d44_96 : ins 44 96 = some (.iconst 1) := by decide +kernel
theorem d44_97 : ins 44 97 = some (.ireturn) := by decide +kernel
set_option maxRecDepth 10000 in
theorem b44_0 {Q : Option Value → mm → Prop} (ρ : rm) (τ : Int64) (a1 : Int) (hB : BM ρ) (h_a1 : SM a1) : G 44 0 (some (.ref 5) :: some (vI a1) :: []) [] (toM ρ τ) Q = G 51 0 [some (.ref 5)] [] (toM ρ τ) (fun v μ2 => G 44 4 (some (.ref 5) :: some (vI a1) :: []) (v.toList ++ []) μ2 Q) := by
  refine (g_aload_n d44_0 rfl rfl).trans ?_
  exact g_cV d44_1 k3_48 rfl rfl rfl
set_option maxRecDepth 10000 in
theorem b44_4 {Q : Option Value → mm → Prop} (ρ : rm) (τ : Int64) (l1 : Int) (t : List (Option Value)) (hB : BM ρ) (h_l1 : SM l1) : G 44 4 (some (.ref 5) :: some (vI l1) :: t) ((none : Option Value).toList ++ []) (toM ρ τ) Q = G 56 0 [some (.ref 5)] [] (toM ρ τ) (fun v μ2 => G 44 8 (some (.ref 5) :: some (vI l1) :: t) (v.toList ++ []) μ2 Q) := by
  refine (g_aload_n d44_4 rfl rfl).trans ?_
  exact g_cV d44_5 k3_54 rfl rfl rfl
set_option maxRecDepth 10000 in
theorem b44_8 {Q : Option Value → mm → Prop} (ρ : rm) (τ : Int64) (l1 : Int) (t : List (Option Value)) (r : Int) (hB : BM ρ) (h_l1 : SM l1) (h_r : SM r) : G 44 8 (some (.ref 5) :: some (vI l1) :: t) ((some (vI r)).toList ++ []) (toM ρ τ) Q = (if r = 0 then Q (some (vI 0)) (toM ρ τ) else G 46 0 [some (.ref 5), some (vI r)] [] (toM ρ τ) (fun v μ2 => G 44 18 (some (.ref 5) :: some (vI l1) :: some (vI r) :: t.tail) (v.toList ++ []) μ2 Q)) := by
  refine (g_istore_n d44_8 (by decide) rfl rfl).trans ?_
  refine (g_iload_n d44_9 rfl).trans ?_
  refine j_if_eq (tgt := 21) d44_10 (by decide) (by omega) (fun q1 => ?_) (fun q1 => ?_)
  ·
    refine (j_iconst d44_21).trans ?_
    exact g_iret d44_22 rfl rfl
  ·
    refine (g_aload_n d44_13 rfl rfl).trans ?_
    refine (g_iload_n d44_14 rfl).trans ?_
    exact g_cV d44_15 k3_58 rfl rfl rfl
set_option maxRecDepth 10000 in
theorem b44_18 {Q : Option Value → mm → Prop} (ρ : rm) (τ : Int64) (l1 : Int) (l2 : Int) (t : List (Option Value)) (r : Int) (hB : BM ρ) (h_l1 : SM l1) (h_l2 : SM l2) (h_r : SM r) : G 44 18 (some (.ref 5) :: some (vI l1) :: some (vI l2) :: t) ((some (vI r)).toList ++ []) (toM ρ τ) Q = (if r = 0 then G 44 25 (some (.ref 5) :: some (vI l1) :: some (vI l2) :: some (vI 0) :: t.tail) [] (toM ρ τ) Q else Q (some (vI 0)) (toM ρ τ)) := by
  refine j_if_eq (tgt := 23) d44_18 (by decide) (by omega) (fun q1 => ?_) (fun q1 => ?_)
  ·
    refine (j_iconst d44_23).trans ?_
    refine (g_istore_n d44_24 (by decide) rfl rfl).trans ?_
    rfl
  ·
    refine (j_iconst d44_21).trans ?_
    exact g_iret d44_22 rfl rfl
set_option maxRecDepth 10000 in
theorem b44_25 {Q : Option Value → mm → Prop} (ρ : rm) (τ : Int64) (l1 : Int) (l2 : Int) (l3 : Int) (t : List (Option Value)) (hB : BM ρ) (h_l1 : SM l1) (h_l2 : SM l2) (h_l3 : SM l3) : G 44 25 (some (.ref 5) :: some (vI l1) :: some (vI l2) :: some (vI l3) :: t) [] (toM ρ τ) Q = G 48 0 [some (vI l2)] [] (toM ρ τ) (fun v μ2 => G 44 30 (some (.ref 5) :: some (vI l1) :: some (vI l2) :: some (vI l3) :: t) (v.toList ++ [vI l3]) μ2 Q) := by
  refine (g_iload_n d44_25 rfl).trans ?_
  refine (g_iload_n d44_26 rfl).trans ?_
  exact g_cS d44_27 k3_61 rfl rfl rfl
set_option maxRecDepth 10000 in
theorem b44_30 {Q : Option Value → mm → Prop} (ρ : rm) (τ : Int64) (l1 : Int) (l2 : Int) (l3 : Int) (t : List (Option Value)) (s0 : Int) (r : Int) (hB : BM ρ) (h_l1 : SM l1) (h_l2 : SM l2) (h_l3 : SM l3) (h_s0 : SM s0) (h_r : SM r) : G 44 30 (some (.ref 5) :: some (vI l1) :: some (vI l2) :: some (vI l3) :: t) ((some (vI r)).toList ++ [vI s0]) (toM ρ τ) Q = (if r ≤ s0 then (if 0 ≤ (ρ 5 0) ∧ (ρ 5 0) < 10 then (if 0 ≤ l1 ∧ l1 < 50 then G 47 0 [some (.ref 5), some (vI l2), some (vI (ρ 39 l1))] [] (toM (rup ρ 38 (ρ 5 0) l2) τ) (fun v μ2 => G 44 96 (some (.ref 5) :: some (vI l1) :: some (vI l2) :: some (vI l3) :: t) (v.toList ++ []) μ2 Q) else False) else False) else G 51 0 [some (.ref 5)] [] (toM ρ τ) (fun v μ2 => G 44 37 (some (.ref 5) :: some (vI l1) :: some (vI l2) :: some (vI l3) :: t) (v.toList ++ []) μ2 Q)) := by
  refine j_icmp_ge (tgt := 75) d44_30 (by decide) (by omega) (by omega) (fun q1 => ?_) (fun q1 => ?_)
  ·
    refine (g_aload_n d44_75 rfl rfl).trans ?_
    refine (g_getR (q := 38) d44_76 f3_9 sh_5 (by decide) rfl).trans ?_
    refine (g_aload_n d44_79 rfl rfl).trans ?_
    refine (j_getI (v := ρ 5 0) d44_80 f3_22 sh_5 (by decide) rfl rfl).trans ?_
    have q2 := hB 5 0 (by decide)
    refine (g_iload_n d44_83 rfl).trans ?_
    refine j_iastore d44_84 sh_38 (by omega) (fun q3 => ?_)
    refine (g_aload_n d44_85 rfl rfl).trans ?_
    refine (g_iload_n d44_86 rfl).trans ?_
    refine (g_aload_n d44_87 rfl rfl).trans ?_
    refine (g_getR (q := 39) d44_88 f3_15 sh_5 (by decide) rfl).trans ?_
    refine (g_iload_n d44_91 rfl).trans ?_
    refine j_iaload (v := ρ 39 l1) d44_92 sh_39 (by omega) (by simp [rup]) (fun q4 => ?_)
    have q5 := hB 39 l1 (by omega)
    exact g_cV d44_93 k3_72 rfl rfl rfl
  ·
    refine (g_aload_n d44_33 rfl rfl).trans ?_
    exact g_cV d44_34 k3_48 rfl rfl rfl
set_option maxRecDepth 10000 in
theorem b44_96 {Q : Option Value → mm → Prop} (ρ : rm) (τ : Int64) (l1 : Int) (l2 : Int) (l3 : Int) (t : List (Option Value)) (hB : BM ρ) (h_l1 : SM l1) (h_l2 : SM l2) (h_l3 : SM l3) : G 44 96 (some (.ref 5) :: some (vI l1) :: some (vI l2) :: some (vI l3) :: t) ((none : Option Value).toList ++ []) (toM ρ τ) Q = Q (some (vI 1)) (toM ρ τ) := by
  refine (j_iconst d44_96).trans ?_
  exact g_iret d44_97 rfl rfl
set_option maxRecDepth 10000 in
theorem b44_37 {Q : Option Value → mm → Prop} (ρ : rm) (τ : Int64) (l1 : Int) (l2 : Int) (l3 : Int) (t : List (Option Value)) (hB : BM ρ) (h_l1 : SM l1) (h_l2 : SM l2) (h_l3 : SM l3) : G 44 37 (some (.ref 5) :: some (vI l1) :: some (vI l2) :: some (vI l3) :: t) ((none : Option Value).toList ++ []) (toM ρ τ) Q = (if (ρ 5 5) = 2 then G 45 0 [some (.ref 5), some (vI l2), some (vI l3), some (vI l1)] [] (toM ρ τ) (fun v μ2 => G 44 52 (some (.ref 5) :: some (vI l1) :: some (vI l2) :: some (vI l3) :: t) (v.toList ++ []) μ2 Q) else Q (some (vI 0)) (toM ρ τ)) := by
  refine (g_aload_n d44_37 rfl rfl).trans ?_
  refine (j_getI (v := ρ 5 5) d44_38 f3_51 sh_5 (by decide) rfl rfl).trans ?_
  have q1 := hB 5 5 (by decide)
  refine (j_iconst d44_41).trans ?_
  refine j_icmp_ne (tgt := 55) d44_42 (by decide) (by omega) (by omega) (fun q2 => ?_) (fun q2 => ?_)
  ·
    refine (g_aload_n d44_45 rfl rfl).trans ?_
    refine (g_iload_n d44_46 rfl).trans ?_
    refine (g_iload_n d44_47 rfl).trans ?_
    refine (g_iload_n d44_48 rfl).trans ?_
    exact g_cV d44_49 k3_65 rfl rfl rfl
  ·
    refine (j_iconst d44_55).trans ?_
    exact g_iret d44_56 rfl rfl
set_option maxRecDepth 10000 in
theorem b44_52 {Q : Option Value → mm → Prop} (ρ : rm) (τ : Int64) (l1 : Int) (l2 : Int) (l3 : Int) (t : List (Option Value)) (r : Int) (hB : BM ρ) (h_l1 : SM l1) (h_l2 : SM l2) (h_l3 : SM l3) (h_r : SM r) : G 44 52 (some (.ref 5) :: some (vI l1) :: some (vI l2) :: some (vI l3) :: t) ((some (vI r)).toList ++ []) (toM ρ τ) Q = (if r = 0 then Q (some (vI 0)) (toM ρ τ) else (if 0 ≤ (l1 + l3) ∧ (l1 + l3) < 50 then G 44 25 (some (.ref 5) :: some (vI l1) :: some (vI l2) :: some (vI (l3 + 1)) :: t) [] (toM (rup ρ 39 (l1 + l3) (ρ 5 7)) τ) Q else False)) := by
  refine j_if_ne (tgt := 57) d44_52 (by decide) (by omega) (fun q1 => ?_) (fun q1 => ?_)
  ·
    refine (j_iconst d44_55).trans ?_
    exact g_iret d44_56 rfl rfl
  ·
    refine (g_aload_n d44_57 rfl rfl).trans ?_
    refine (g_getR (q := 39) d44_58 f3_15 sh_5 (by decide) rfl).trans ?_
    refine (g_iload_n d44_61 rfl).trans ?_
    refine (g_iload_n d44_62 rfl).trans ?_
    refine (j_iadd d44_63).trans ?_
    refine (g_aload_n d44_64 rfl rfl).trans ?_
    refine (j_getI (v := ρ 5 7) d44_65 f3_69 sh_5 (by decide) rfl rfl).trans ?_
    have q2 := hB 5 7 (by decide)
    refine j_iastore d44_68 sh_39 (by omega) (fun q3 => ?_)
    refine (j_iinc d44_69 rfl (by decide) rfl rfl).trans ?_
    refine (g_goto (tgt := 25) d44_72 (by decide)).trans ?_
    rfl
theorem d45_0 : ins 45 0 = some (.iload_n 1) := by decide +kernel
theorem d45_1 : ins 45 1 = some (.iconst 4) := by decide +kernel
theorem d45_2 : ins 45 2 = some (.if_icmp .ne 23) := by decide +kernel
theorem d45_5 : ins 45 5 = some (.iload_n 2) := by decide +kernel
theorem d45_6 : ins 45 6 = some (.iconst 1) := by decide +kernel
theorem d45_7 : ins 45 7 = some (.if_icmp .ne 18) := by decide +kernel
theorem d45_10 : ins 45 10 = some (.aload_n 0) := by decide +kernel
theorem d45_11 : ins 45 11 = some (.getfield 69) := by decide +kernel
theorem d45_14 : ins 45 14 = some (.aload_n 0) := by decide +kernel
theorem d45_15 : ins 45 15 = some (.getfield 15) := by decide +kernel
theorem d45_18 : ins 45 18 = some (.iload_n 3) := by decide +kernel
theorem d45_19 : ins 45 19 = some (.iaload) := by decide +kernel
theorem d45_20 : ins 45 20 = some (.if_icmp .ne 5) := by decide +kernel
theorem d45_23 : ins 45 23 = some (.iconst 0) := by decide +kernel
theorem d45_24 : ins 45 24 = some (.ireturn) := by decide +kernel
theorem d45_25 : ins 45 25 = some (.iload_n 1) := by decide +kernel
theorem d45_26 : ins 45 26 = some (.bipush 6) := by decide +kernel
theorem d45_28 : ins 45 28 = some (.if_icmp .ne 21) := by decide +kernel
theorem d45_31 : ins 45 31 = some (.iload_n 2) := by decide +kernel
theorem d45_32 : ins 45 32 = some (.iconst 2) := by decide +kernel
theorem d45_33 : ins 45 33 = some (.if_icmp .ne 16) := by decide +kernel
theorem d45_36 : ins 45 36 = some (.aload_n 0) := by decide +kernel
theorem d45_37 : ins 45 37 = some (.getfield 15) := by decide +kernel
theorem d45_40 : ins 45 40 = some (.iload_n 3) := by decide +kernel
theorem d45_41 : ins 45 41 = some (.iconst 1) := by decide +kernel
theorem d45_42 : ins 45 42 = some (.iadd) := by decide +kernel
theorem d45_43 : ins 45 43 = some (.iaload) := by decide +kernel
theorem d45_44 : ins 45 44 = some (.iconst 1) := by decide +kernel
theorem d45_45 : ins 45 45 = some (.iadd) := by decide +kernel
theorem d45_46 : ins 45 46 = some (.goto 8) := by decide +kernel
theorem d45_49 : ins 45 49 = some (.iload_n 1) := by decide +kernel
theorem d45_50 : ins 45 50 = some (.iload_n 2) := by decide +kernel
theorem d45_51 : ins 45 51 = some (.invokestatic 76) := by decide +kernel
theorem d45_54 : ins 45 54 = some (.istore 4) := by decide +kernel
theorem d45_56 : ins 45 56 = some (.aload_n 0) := by decide +kernel
theorem d45_57 : ins 45 57 = some (.getfield 69) := by decide +kernel
theorem d45_60 : ins 45 60 = some (.iload 4) := by decide +kernel
theorem d45_62 : ins 45 62 = some (.if_icmp .lt 20) := by decide +kernel
theorem d45_65 : ins 45 65 = some (.aload_n 0) := by decide +kernel
theorem d45_66 : ins 45 66 = some (.getfield 69) := by decide +kernel
theorem d45_69 : ins 45 69 = some (.aload_n 0) := by decide +kernel
theorem d45_70 : ins 45 70 = some (.iload_n 1) := by decide +kernel
theorem d45_71 : ins 45 71 = some (.iload_n 2) := by decide +kernel
theorem d45_72 : ins 45 72 = some (.invokevirtual 80) := by decide +kernel
theorem d45_75 : ins 45 75 = some (.if_icmp .gt 7) := by decide +kernel
theorem d45_78 : ins 45 78 = some (.iconst 1) := by decide +kernel
theorem d45_79 : ins 45 79 = some (.goto 4) := by decide +kernel
theorem d45_82 : ins 45 82 = some (.iconst 0) := by decide +kernel
theorem d45_83 : ins 45 83 = some (.ireturn) := by decide +kernel
set_option maxRecDepth 10000 in
theorem b45_0 {Q : Option Value → mm → Prop} (ρ : rm) (τ : Int64) (a1 : Int) (a2 : Int) (a3 : Int) (hB : BM ρ) (h_a1 : SM a1) (h_a2 : SM a2) (h_a3 : SM a3) : G 45 0 (some (.ref 5) :: some (vI a1) :: some (vI a2) :: some (vI a3) :: []) [] (toM ρ τ) Q = (if a1 = 4 then (if a2 = 1 then (if 0 ≤ a3 ∧ a3 < 50 then (if (ρ 5 7) = (ρ 39 a3) then Q (some (vI 0)) (toM ρ τ) else (if a1 = 6 then (if a2 = 2 then (if 0 ≤ (a3 + 1) ∧ (a3 + 1) < 50 then (if (ρ 5 7) < ((ρ 39 (a3 + 1)) + 1) then Q (some (vI 0)) (toM ρ τ) else G 50 0 [some (.ref 5), some (vI a1), some (vI a2)] [] (toM ρ τ) (fun v μ2 => G 45 75 (some (.ref 5) :: some (vI a1) :: some (vI a2) :: some (vI a3) :: some (vI ((ρ 39 (a3 + 1)) + 1)) :: []) (v.toList ++ [vI (ρ 5 7)]) μ2 Q)) else False) else G 49 0 [some (vI a1), some (vI a2)] [] (toM ρ τ) (fun v μ2 => G 45 54 (some (.ref 5) :: some (vI a1) :: some (vI a2) :: some (vI a3) :: []) (v.toList ++ []) μ2 Q)) else G 49 0 [some (vI a1), some (vI a2)] [] (toM ρ τ) (fun v μ2 => G 45 54 (some (.ref 5) :: some (vI a1) :: some (vI a2) :: some (vI a3) :: []) (v.toList ++ []) μ2 Q))) else False) else (if a1 = 6 then (if a2 = 2 then (if 0 ≤ (a3 + 1) ∧ (a3 + 1) < 50 then (if (ρ 5 7) < ((ρ 39 (a3 + 1)) + 1) then Q (some (vI 0)) (toM ρ τ) else G 50 0 [some (.ref 5), some (vI a1), some (vI a2)] [] (toM ρ τ) (fun v μ2 => G 45 75 (some (.ref 5) :: some (vI a1) :: some (vI a2) :: some (vI a3) :: some (vI ((ρ 39 (a3 + 1)) + 1)) :: []) (v.toList ++ [vI (ρ 5 7)]) μ2 Q)) else False) else G 49 0 [some (vI a1), some (vI a2)] [] (toM ρ τ) (fun v μ2 => G 45 54 (some (.ref 5) :: some (vI a1) :: some (vI a2) :: some (vI a3) :: []) (v.toList ++ []) μ2 Q)) else G 49 0 [some (vI a1), some (vI a2)] [] (toM ρ τ) (fun v μ2 => G 45 54 (some (.ref 5) :: some (vI a1) :: some (vI a2) :: some (vI a3) :: []) (v.toList ++ []) μ2 Q))) else (if a1 = 6 then (if a2 = 2 then (if 0 ≤ (a3 + 1) ∧ (a3 + 1) < 50 then (if (ρ 5 7) < ((ρ 39 (a3 + 1)) + 1) then Q (some (vI 0)) (toM ρ τ) else G 50 0 [some (.ref 5), some (vI a1), some (vI a2)] [] (toM ρ τ) (fun v μ2 => G 45 75 (some (.ref 5) :: some (vI a1) :: some (vI a2) :: some (vI a3) :: some (vI ((ρ 39 (a3 + 1)) + 1)) :: []) (v.toList ++ [vI (ρ 5 7)]) μ2 Q)) else False) else G 49 0 [some (vI a1), some (vI a2)] [] (toM ρ τ) (fun v μ2 => G 45 54 (some (.ref 5) :: some (vI a1) :: some (vI a2) :: some (vI a3) :: []) (v.toList ++ []) μ2 Q)) else G 49 0 [some (vI a1), some (vI a2)] [] (toM ρ τ) (fun v μ2 => G 45 54 (some (.ref 5) :: some (vI a1) :: some (vI a2) :: some (vI a3) :: []) (v.toList ++ []) μ2 Q))) := by
  refine (g_iload_n d45_0 rfl).trans ?_
  refine (j_iconst d45_1).trans ?_
  refine j_icmp_ne (tgt := 25) d45_2 (by decide) (by omega) (by omega) (fun q1 => ?_) (fun q1 => ?_)
  ·
    refine (g_iload_n d45_5 rfl).trans ?_
    refine (j_iconst d45_6).trans ?_
    refine j_icmp_ne (tgt := 25) d45_7 (by decide) (by omega) (by omega) (fun q2 => ?_) (fun q2 => ?_)
    ·
      refine (g_aload_n d45_10 rfl rfl).trans ?_
      refine (j_getI (v := ρ 5 7) d45_11 f3_69 sh_5 (by decide) rfl rfl).trans ?_
      have q3 := hB 5 7 (by decide)
      refine (g_aload_n d45_14 rfl rfl).trans ?_
      refine (g_getR (q := 39) d45_15 f3_15 sh_5 (by decide) rfl).trans ?_
      refine (g_iload_n d45_18 rfl).trans ?_
      refine j_iaload (v := ρ 39 a3) d45_19 sh_39 (by omega) rfl (fun q4 => ?_)
      have q5 := hB 39 a3 (by omega)
      refine j_icmp_ne (tgt := 25) d45_20 (by decide) (by omega) (by omega) (fun q6 => ?_) (fun q6 => ?_)
      ·
        refine (j_iconst d45_23).trans ?_
        exact g_iret d45_24 rfl rfl
      ·
        refine (g_iload_n d45_25 rfl).trans ?_
        refine (j_bipush d45_26 (by decide)).trans ?_
        refine j_icmp_ne (tgt := 49) d45_28 (by decide) (by omega) (by omega) (fun q7 => ?_) (fun q7 => ?_)
        ·
          refine (g_iload_n d45_31 rfl).trans ?_
          refine (j_iconst d45_32).trans ?_
          refine j_icmp_ne (tgt := 49) d45_33 (by decide) (by omega) (by omega) (fun q8 => ?_) (fun q8 => ?_)
          ·
            refine (g_aload_n d45_36 rfl rfl).trans ?_
            refine (g_getR (q := 39) d45_37 f3_15 sh_5 (by decide) rfl).trans ?_
            refine (g_iload_n d45_40 rfl).trans ?_
            refine (j_iconst d45_41).trans ?_
            refine (j_iadd d45_42).trans ?_
            refine j_iaload (v := ρ 39 (a3 + 1)) d45_43 sh_39 (by omega) rfl (fun q9 => ?_)
            have q10 := hB 39 (a3 + 1) (by omega)
            refine (j_iconst d45_44).trans ?_
            refine (j_iadd d45_45).trans ?_
            refine (g_goto (tgt := 54) d45_46 (by decide)).trans ?_
            refine (g_istore d45_54 (by decide) rfl rfl).trans ?_
            refine (g_aload_n d45_56 rfl rfl).trans ?_
            refine (j_getI (v := ρ 5 7) d45_57 f3_69 sh_5 (by decide) rfl rfl).trans ?_
            refine (g_iload d45_60 rfl).trans ?_
            refine j_icmp_lt (tgt := 82) d45_62 (by decide) (by omega) (by omega) (fun q11 => ?_) (fun q11 => ?_)
            ·
              refine (j_iconst d45_82).trans ?_
              exact g_iret d45_83 rfl rfl
            ·
              refine (g_aload_n d45_65 rfl rfl).trans ?_
              refine (j_getI (v := ρ 5 7) d45_66 f3_69 sh_5 (by decide) rfl rfl).trans ?_
              refine (g_aload_n d45_69 rfl rfl).trans ?_
              refine (g_iload_n d45_70 rfl).trans ?_
              refine (g_iload_n d45_71 rfl).trans ?_
              exact g_cV d45_72 k3_80 rfl rfl rfl
          ·
            refine (g_iload_n d45_49 rfl).trans ?_
            refine (g_iload_n d45_50 rfl).trans ?_
            exact g_cS d45_51 k3_76 rfl rfl rfl
        ·
          refine (g_iload_n d45_49 rfl).trans ?_
          refine (g_iload_n d45_50 rfl).trans ?_
          exact g_cS d45_51 k3_76 rfl rfl rfl
    ·
      refine (g_iload_n d45_25 rfl).trans ?_
      refine (j_bipush d45_26 (by decide)).trans ?_
      refine j_icmp_ne (tgt := 49) d45_28 (by decide) (by omega) (by omega) (fun q12 => ?_) (fun q12 => ?_)
      ·
        refine (g_iload_n d45_31 rfl).trans ?_
        refine (j_iconst d45_32).trans ?_
        refine j_icmp_ne (tgt := 49) d45_33 (by decide) (by omega) (by omega) (fun q13 => ?_) (fun q13 => ?_)
        ·
          refine (g_aload_n d45_36 rfl rfl).trans ?_
          refine (g_getR (q := 39) d45_37 f3_15 sh_5 (by decide) rfl).trans ?_
          refine (g_iload_n d45_40 rfl).trans ?_
          refine (j_iconst d45_41).trans ?_
          refine (j_iadd d45_42).trans ?_
          refine j_iaload (v := ρ 39 (a3 + 1)) d45_43 sh_39 (by omega) rfl (fun q14 => ?_)
          have q15 := hB 39 (a3 + 1) (by omega)
          refine (j_iconst d45_44).trans ?_
          refine (j_iadd d45_45).trans ?_
          refine (g_goto (tgt := 54) d45_46 (by decide)).trans ?_
          refine (g_istore d45_54 (by decide) rfl rfl).trans ?_
          refine (g_aload_n d45_56 rfl rfl).trans ?_
          refine (j_getI (v := ρ 5 7) d45_57 f3_69 sh_5 (by decide) rfl rfl).trans ?_
          have q16 := hB 5 7 (by decide)
          refine (g_iload d45_60 rfl).trans ?_
          refine j_icmp_lt (tgt := 82) d45_62 (by decide) (by omega) (by omega) (fun q17 => ?_) (fun q17 => ?_)
          ·
            refine (j_iconst d45_82).trans ?_
            exact g_iret d45_83 rfl rfl
          ·
            refine (g_aload_n d45_65 rfl rfl).trans ?_
            refine (j_getI (v := ρ 5 7) d45_66 f3_69 sh_5 (by decide) rfl rfl).trans ?_
            refine (g_aload_n d45_69 rfl rfl).trans ?_
            refine (g_iload_n d45_70 rfl).trans ?_
            refine (g_iload_n d45_71 rfl).trans ?_
            exact g_cV d45_72 k3_80 rfl rfl rfl
        ·
          refine (g_iload_n d45_49 rfl).trans ?_
          refine (g_iload_n d45_50 rfl).trans ?_
          exact g_cS d45_51 k3_76 rfl rfl rfl
      ·
        refine (g_iload_n d45_49 rfl).trans ?_
        refine (g_iload_n d45_50 rfl).trans ?_
        exact g_cS d45_51 k3_76 rfl rfl rfl
  ·
    refine (g_iload_n d45_25 rfl).trans ?_
    refine (j_bipush d45_26 (by decide)).trans ?_
    refine j_icmp_ne (tgt := 49) d45_28 (by decide) (by omega) (by omega) (fun q18 => ?_) (fun q18 => ?_)
    ·
      refine (g_iload_n d45_31 rfl).trans ?_
      refine (j_iconst d45_32).trans ?_
      refine j_icmp_ne (tgt := 49) d45_33 (by decide) (by omega) (by omega) (fun q19 => ?_) (fun q19 => ?_)
      ·
        refine (g_aload_n d45_36 rfl rfl).trans ?_
        refine (g_getR (q := 39) d45_37 f3_15 sh_5 (by decide) rfl).trans ?_
        refine (g_iload_n d45_40 rfl).trans ?_
        refine (j_iconst d45_41).trans ?_
        refine (j_iadd d45_42).trans ?_
        refine j_iaload (v := ρ 39 (a3 + 1)) d45_43 sh_39 (by omega) rfl (fun q20 => ?_)
        have q21 := hB 39 (a3 + 1) (by omega)
        refine (j_iconst d45_44).trans ?_
        refine (j_iadd d45_45).trans ?_
        refine (g_goto (tgt := 54) d45_46 (by decide)).trans ?_
        refine (g_istore d45_54 (by decide) rfl rfl).trans ?_
        refine (g_aload_n d45_56 rfl rfl).trans ?_
        refine (j_getI (v := ρ 5 7) d45_57 f3_69 sh_5 (by decide) rfl rfl).trans ?_
        have q22 := hB 5 7 (by decide)
        refine (g_iload d45_60 rfl).trans ?_
        refine j_icmp_lt (tgt := 82) d45_62 (by decide) (by omega) (by omega) (fun q23 => ?_) (fun q23 => ?_)
        ·
          refine (j_iconst d45_82).trans ?_
          exact g_iret d45_83 rfl rfl
        ·
          refine (g_aload_n d45_65 rfl rfl).trans ?_
          refine (j_getI (v := ρ 5 7) d45_66 f3_69 sh_5 (by decide) rfl rfl).trans ?_
          refine (g_aload_n d45_69 rfl rfl).trans ?_
          refine (g_iload_n d45_70 rfl).trans ?_
          refine (g_iload_n d45_71 rfl).trans ?_
          exact g_cV d45_72 k3_80 rfl rfl rfl
      ·
        refine (g_iload_n d45_49 rfl).trans ?_
        refine (g_iload_n d45_50 rfl).trans ?_
        exact g_cS d45_51 k3_76 rfl rfl rfl
    ·
      refine (g_iload_n d45_49 rfl).trans ?_
      refine (g_iload_n d45_50 rfl).trans ?_
      exact g_cS d45_51 k3_76 rfl rfl rfl
set_option maxRecDepth 10000 in
theorem b45_75 {Q : Option Value → mm → Prop} (ρ : rm) (τ : Int64) (l1 : Int) (l2 : Int) (l3 : Int) (l4 : Int) (t : List (Option Value)) (s0 : Int) (r : Int) (hB : BM ρ) (h_l1 : SM l1) (h_l2 : SM l2) (h_l3 : SM l3) (h_l4 : SM l4) (h_s0 : SM s0) (h_r : SM r) : G 45 75 (some (.ref 5) :: some (vI l1) :: some (vI l2) :: some (vI l3) :: some (vI l4) :: t) ((some (vI r)).toList ++ [vI s0]) (toM ρ τ) Q = (if r < s0 then Q (some (vI 0)) (toM ρ τ) else Q (some (vI 1)) (toM ρ τ)) := by
  refine j_icmp_gt (tgt := 82) d45_75 (by decide) (by omega) (by omega) (fun q1 => ?_) (fun q1 => ?_)
  ·
    refine (j_iconst d45_82).trans ?_
    exact g_iret d45_83 rfl rfl
  ·
    refine (j_iconst d45_78).trans ?_
    refine (g_goto (tgt := 83) d45_79 (by decide)).trans ?_
    exact g_iret d45_83 rfl rfl
set_option maxRecDepth 10000 in
theorem b45_54 {Q : Option Value → mm → Prop} (ρ : rm) (τ : Int64) (l1 : Int) (l2 : Int) (l3 : Int) (t : List (Option Value)) (r : Int) (hB : BM ρ) (h_l1 : SM l1) (h_l2 : SM l2) (h_l3 : SM l3) (h_r : SM r) : G 45 54 (some (.ref 5) :: some (vI l1) :: some (vI l2) :: some (vI l3) :: t) ((some (vI r)).toList ++ []) (toM ρ τ) Q = (if (ρ 5 7) < r then Q (some (vI 0)) (toM ρ τ) else G 50 0 [some (.ref 5), some (vI l1), some (vI l2)] [] (toM ρ τ) (fun v μ2 => G 45 75 (some (.ref 5) :: some (vI l1) :: some (vI l2) :: some (vI l3) :: some (vI r) :: t.tail) (v.toList ++ [vI (ρ 5 7)]) μ2 Q)) := by
  refine (g_istore d45_54 (by decide) rfl rfl).trans ?_
  refine (g_aload_n d45_56 rfl rfl).trans ?_
  refine (j_getI (v := ρ 5 7) d45_57 f3_69 sh_5 (by decide) rfl rfl).trans ?_
  have q1 := hB 5 7 (by decide)
  refine (g_iload d45_60 rfl).trans ?_
  refine j_icmp_lt (tgt := 82) d45_62 (by decide) (by omega) (by omega) (fun q2 => ?_) (fun q2 => ?_)
  ·
    refine (j_iconst d45_82).trans ?_
    exact g_iret d45_83 rfl rfl
  ·
    refine (g_aload_n d45_65 rfl rfl).trans ?_
    refine (j_getI (v := ρ 5 7) d45_66 f3_69 sh_5 (by decide) rfl rfl).trans ?_
    refine (g_aload_n d45_69 rfl rfl).trans ?_
    refine (g_iload_n d45_70 rfl).trans ?_
    refine (g_iload_n d45_71 rfl).trans ?_
    exact g_cV d45_72 k3_80 rfl rfl rfl
theorem d46_0 : ins 46 0 = some (.iload_n 1) := by decide +kernel
theorem d46_1 : ins 46 1 = some (.tableswitch 72 4 6 #[27, 42, 57]) := by decide +kernel
theorem d46_28 : ins 46 28 = some (.aload_n 0) := by decide +kernel
theorem d46_29 : ins 46 29 = some (.getfield 29) := by decide +kernel
theorem d46_32 : ins 46 32 = some (.bipush 8) := by decide +kernel
theorem d46_34 : ins 46 34 = some (.if_icmp .lt 7) := by decide +kernel
theorem d46_37 : ins 46 37 = some (.iconst 1) := by decide +kernel
theorem d46_38 : ins 46 38 = some (.goto 4) := by decide +kernel
theorem d46_41 : ins 46 41 = some (.iconst 0) := by decide +kernel
theorem d46_42 : ins 46 42 = some (.ireturn) := by decide +kernel
theorem d46_43 : ins 46 43 = some (.aload_n 0) := by decide +kernel
theorem d46_44 : ins 46 44 = some (.getfield 32) := by decide +kernel
theorem d46_47 : ins 46 47 = some (.bipush 10) := by decide +kernel
theorem d46_49 : ins 46 49 = some (.if_icmp .lt 7) := by decide +kernel
theorem d46_52 : ins 46 52 = some (.iconst 1) := by decide +kernel
theorem d46_53 : ins 46 53 = some (.goto 4) := by decide +kernel
theorem d46_56 : ins 46 56 = some (.iconst 0) := by decide +kernel
theorem d46_57 : ins 46 57 = some (.ireturn) := by decide +kernel
theorem d46_58 : ins 46 58 = some (.aload_n 0) := by decide +kernel
theorem d46_59 : ins 46 59 = some (.getfield 35) := by decide +kernel
theorem d46_62 : ins 46 62 = some (.bipush 6) := by decide +kernel
theorem d46_64 : ins 46 64 = some (.if_icmp .lt 7) := by decide +kernel
theorem d46_67 : ins 46 67 = some (.iconst 1) := by decide +kernel
theorem d46_68 : ins 46 68 = some (.goto 4) := by decide +kernel
theorem d46_71 : ins 46 71 = some (.iconst 0) := by decide +kernel
theorem d46_72 : ins 46 72 = some (.ireturn) := by decide +kernel
theorem d46_73 : ins 46 73 = some (.iconst 0) := by decide +kernel
theorem d46_74 : ins 46 74 = some (.ireturn) := by decide +kernel
set_option maxRecDepth 10000 in
theorem b46_0 {Q : Option Value → mm → Prop} (ρ : rm) (τ : Int64) (a1 : Int) (hB : BM ρ) (h_a1 : SM a1) : G 46 0 (some (.ref 5) :: some (vI a1) :: []) [] (toM ρ τ) Q = (if a1 = 4 then (if (ρ 5 9) < 8 then Q (some (vI 0)) (toM ρ τ) else Q (some (vI 1)) (toM ρ τ)) else (if a1 = 5 then (if (ρ 5 10) < 10 then Q (some (vI 0)) (toM ρ τ) else Q (some (vI 1)) (toM ρ τ)) else (if a1 = 6 then (if (ρ 5 11) < 6 then Q (some (vI 0)) (toM ρ τ) else Q (some (vI 1)) (toM ρ τ)) else Q (some (vI 0)) (toM ρ τ)))) := by
  refine (g_iload_n d46_0 rfl).trans ?_
  refine sw_case (c := 4) (fun q1 => ?_) (fun q1 => ?_)
  ·
    refine (g_tableIn (off := 27) (tgt := 28) d46_1 (by rw [iI_toInt (by omega)]; omega) (by rw [iI_toInt (by omega), q1]; rfl) (by decide)).trans ?_
    refine (g_aload_n d46_28 rfl rfl).trans ?_
    refine (j_getI (v := ρ 5 9) d46_29 f3_29 sh_5 (by decide) rfl rfl).trans ?_
    have q2 := hB 5 9 (by decide)
    refine (j_bipush d46_32 (by decide)).trans ?_
    refine j_icmp_lt (tgt := 41) d46_34 (by decide) (by omega) (by omega) (fun q3 => ?_) (fun q3 => ?_)
    ·
      refine (j_iconst d46_41).trans ?_
      exact g_iret d46_42 rfl rfl
    ·
      refine (j_iconst d46_37).trans ?_
      refine (g_goto (tgt := 42) d46_38 (by decide)).trans ?_
      exact g_iret d46_42 rfl rfl
  ·
    refine sw_case (c := 5) (fun q4 => ?_) (fun q4 => ?_)
    ·
      refine (g_tableIn (off := 42) (tgt := 43) d46_1 (by rw [iI_toInt (by omega)]; omega) (by rw [iI_toInt (by omega), q4]; rfl) (by decide)).trans ?_
      refine (g_aload_n d46_43 rfl rfl).trans ?_
      refine (j_getI (v := ρ 5 10) d46_44 f3_32 sh_5 (by decide) rfl rfl).trans ?_
      have q5 := hB 5 10 (by decide)
      refine (j_bipush d46_47 (by decide)).trans ?_
      refine j_icmp_lt (tgt := 56) d46_49 (by decide) (by omega) (by omega) (fun q6 => ?_) (fun q6 => ?_)
      ·
        refine (j_iconst d46_56).trans ?_
        exact g_iret d46_57 rfl rfl
      ·
        refine (j_iconst d46_52).trans ?_
        refine (g_goto (tgt := 57) d46_53 (by decide)).trans ?_
        exact g_iret d46_57 rfl rfl
    ·
      refine sw_case (c := 6) (fun q7 => ?_) (fun q7 => ?_)
      ·
        refine (g_tableIn (off := 57) (tgt := 58) d46_1 (by rw [iI_toInt (by omega)]; omega) (by rw [iI_toInt (by omega), q7]; rfl) (by decide)).trans ?_
        refine (g_aload_n d46_58 rfl rfl).trans ?_
        refine (j_getI (v := ρ 5 11) d46_59 f3_35 sh_5 (by decide) rfl rfl).trans ?_
        have q8 := hB 5 11 (by decide)
        refine (j_bipush d46_62 (by decide)).trans ?_
        refine j_icmp_lt (tgt := 71) d46_64 (by decide) (by omega) (by omega) (fun q9 => ?_) (fun q9 => ?_)
        ·
          refine (j_iconst d46_71).trans ?_
          exact g_iret d46_72 rfl rfl
        ·
          refine (j_iconst d46_67).trans ?_
          refine (g_goto (tgt := 72) d46_68 (by decide)).trans ?_
          exact g_iret d46_72 rfl rfl
      ·
        refine (g_tableOut (tgt := 73) d46_1 (by rw [iI_toInt (by omega)]; omega) (by decide)).trans ?_
        refine (j_iconst d46_73).trans ?_
        exact g_iret d46_74 rfl rfl
theorem d47_0 : ins 47 0 = some (.iload_n 1) := by decide +kernel
theorem d47_1 : ins 47 1 = some (.tableswitch 118 1 7 #[43, 118, 118, 66, 79, 92, 105]) := by decide +kernel
theorem d47_44 : ins 47 44 = some (.aload_n 0) := by decide +kernel
theorem d47_45 : ins 47 45 = some (.iload_n 2) := by decide +kernel
theorem d47_46 : ins 47 46 = some (.putfield 26) := by decide +kernel
theorem d47_49 : ins 47 49 = some (.aload_n 0) := by decide +kernel
theorem d47_50 : ins 47 50 = some (.iconst 0) := by decide +kernel
theorem d47_51 : ins 47 51 = some (.putfield 29) := by decide +kernel
theorem d47_54 : ins 47 54 = some (.aload_n 0) := by decide +kernel
theorem d47_55 : ins 47 55 = some (.iconst 0) := by decide +kernel
theorem d47_56 : ins 47 56 = some (.putfield 32) := by decide +kernel
theorem d47_59 : ins 47 59 = some (.aload_n 0) := by decide +kernel
theorem d47_60 : ins 47 60 = some (.iconst 0) := by decide +kernel
theorem d47_61 : ins 47 61 = some (.putfield 35) := by decide +kernel
theorem d47_64 : ins 47 64 = some (.goto 55) := by decide +kernel
theorem d47_67 : ins 47 67 = some (.aload_n 0) := by decide +kernel
theorem d47_68 : ins 47 68 = some (.dup) := by decide +kernel
theorem d47_69 : ins 47 69 = some (.getfield 29) := by decide +kernel
theorem d47_72 : ins 47 72 = some (.iconst 1) := by decide +kernel
theorem d47_73 : ins 47 73 = some (.iadd) := by decide +kernel
theorem d47_74 : ins 47 74 = some (.putfield 29) := by decide +kernel
theorem d47_77 : ins 47 77 = some (.goto 42) := by decide +kernel
theorem d47_80 : ins 47 80 = some (.aload_n 0) := by decide +kernel
theorem d47_81 : ins 47 81 = some (.dup) := by decide +kernel
theorem d47_82 : ins 47 82 = some (.getfield 32) := by decide +kernel
theorem d47_85 : ins 47 85 = some (.iconst 1) := by decide +kernel
theorem d47_86 : ins 47 86 = some (.iadd) := by decide +kernel
theorem d47_87 : ins 47 87 = some (.putfield 32) := by decide +kernel
theorem d47_90 : ins 47 90 = some (.goto 29) := by decide +kernel
theorem d47_93 : ins 47 93 = some (.aload_n 0) := by decide +kernel
theorem d47_94 : ins 47 94 = some (.dup) := by decide +kernel
theorem d47_95 : ins 47 95 = some (.getfield 35) := by decide +kernel
theorem d47_98 : ins 47 98 = some (.iconst 1) := by decide +kernel
theorem d47_99 : ins 47 99 = some (.iadd) := by decide +kernel
theorem d47_100 : ins 47 100 = some (.putfield 35) := by decide +kernel
theorem d47_103 : ins 47 103 = some (.goto 16) := by decide +kernel
theorem d47_106 : ins 47 106 = some (.aload_n 0) := by decide +kernel
theorem d47_107 : ins 47 107 = some (.iconst 0) := by decide +kernel
theorem d47_108 : ins 47 108 = some (.putfield 32) := by decide +kernel
theorem d47_111 : ins 47 111 = some (.aload_n 0) := by decide +kernel
theorem d47_112 : ins 47 112 = some (.iconst 0) := by decide +kernel
theorem d47_113 : ins 47 113 = some (.putfield 35) := by decide +kernel
theorem d47_116 : ins 47 116 = some (.goto 3) := by decide +kernel
theorem d47_119 : ins 47 119 = some (.return_) := by decide +kernel
set_option maxRecDepth 10000 in
theorem b47_0 {Q : Option Value → mm → Prop} (ρ : rm) (τ : Int64) (a1 : Int) (a2 : Int) (hB : BM ρ) (h_a1 : SM a1) (h_a2 : SM a2) : G 47 0 (some (.ref 5) :: some (vI a1) :: some (vI a2) :: []) [] (toM ρ τ) Q = (if a1 = 1 then Q none (toM (rup (rup (rup (rup ρ 5 8 a2) 5 9 0) 5 10 0) 5 11 0) τ) else (if a1 = 2 then Q none (toM ρ τ) else (if a1 = 3 then Q none (toM ρ τ) else (if a1 = 4 then Q none (toM (rup ρ 5 9 ((ρ 5 9) + 1)) τ) else (if a1 = 5 then Q none (toM (rup ρ 5 10 ((ρ 5 10) + 1)) τ) else (if a1 = 6 then Q none (toM (rup ρ 5 11 ((ρ 5 11) + 1)) τ) else (if a1 = 7 then Q none (toM (rup (rup ρ 5 10 0) 5 11 0) τ) else Q none (toM ρ τ)))))))) := by
  refine (g_iload_n d47_0 rfl).trans ?_
  refine sw_case (c := 1) (fun q1 => ?_) (fun q1 => ?_)
  ·
    refine (g_tableIn (off := 43) (tgt := 44) d47_1 (by rw [iI_toInt (by omega)]; omega) (by rw [iI_toInt (by omega), q1]; rfl) (by decide)).trans ?_
    refine (g_aload_n d47_44 rfl rfl).trans ?_
    refine (g_iload_n d47_45 rfl).trans ?_
    refine (j_putI d47_46 f3_26 sh_5 (by decide) rfl).trans ?_
    refine (g_aload_n d47_49 rfl rfl).trans ?_
    refine (j_iconst d47_50).trans ?_
    refine (j_putI d47_51 f3_29 sh_5 (by decide) rfl).trans ?_
    refine (g_aload_n d47_54 rfl rfl).trans ?_
    refine (j_iconst d47_55).trans ?_
    refine (j_putI d47_56 f3_32 sh_5 (by decide) rfl).trans ?_
    refine (g_aload_n d47_59 rfl rfl).trans ?_
    refine (j_iconst d47_60).trans ?_
    refine (j_putI d47_61 f3_35 sh_5 (by decide) rfl).trans ?_
    refine (g_goto (tgt := 119) d47_64 (by decide)).trans ?_
    exact g_ret d47_119 rfl
  ·
    refine sw_case (c := 2) (fun q2 => ?_) (fun q2 => ?_)
    ·
      refine (g_tableIn (off := 118) (tgt := 119) d47_1 (by rw [iI_toInt (by omega)]; omega) (by rw [iI_toInt (by omega), q2]; rfl) (by decide)).trans ?_
      exact g_ret d47_119 rfl
    ·
      refine sw_case (c := 3) (fun q3 => ?_) (fun q3 => ?_)
      ·
        refine (g_tableIn (off := 118) (tgt := 119) d47_1 (by rw [iI_toInt (by omega)]; omega) (by rw [iI_toInt (by omega), q3]; rfl) (by decide)).trans ?_
        exact g_ret d47_119 rfl
      ·
        refine sw_case (c := 4) (fun q4 => ?_) (fun q4 => ?_)
        ·
          refine (g_tableIn (off := 66) (tgt := 67) d47_1 (by rw [iI_toInt (by omega)]; omega) (by rw [iI_toInt (by omega), q4]; rfl) (by decide)).trans ?_
          refine (g_aload_n d47_67 rfl rfl).trans ?_
          refine (g_dupR d47_68).trans ?_
          refine (j_getI (v := ρ 5 9) d47_69 f3_29 sh_5 (by decide) rfl rfl).trans ?_
          have q5 := hB 5 9 (by decide)
          refine (j_iconst d47_72).trans ?_
          refine (j_iadd d47_73).trans ?_
          refine (j_putI d47_74 f3_29 sh_5 (by decide) rfl).trans ?_
          refine (g_goto (tgt := 119) d47_77 (by decide)).trans ?_
          exact g_ret d47_119 rfl
        ·
          refine sw_case (c := 5) (fun q6 => ?_) (fun q6 => ?_)
          ·
            refine (g_tableIn (off := 79) (tgt := 80) d47_1 (by rw [iI_toInt (by omega)]; omega) (by rw [iI_toInt (by omega), q6]; rfl) (by decide)).trans ?_
            refine (g_aload_n d47_80 rfl rfl).trans ?_
            refine (g_dupR d47_81).trans ?_
            refine (j_getI (v := ρ 5 10) d47_82 f3_32 sh_5 (by decide) rfl rfl).trans ?_
            have q7 := hB 5 10 (by decide)
            refine (j_iconst d47_85).trans ?_
            refine (j_iadd d47_86).trans ?_
            refine (j_putI d47_87 f3_32 sh_5 (by decide) rfl).trans ?_
            refine (g_goto (tgt := 119) d47_90 (by decide)).trans ?_
            exact g_ret d47_119 rfl
          ·
            refine sw_case (c := 6) (fun q8 => ?_) (fun q8 => ?_)
            ·
              refine (g_tableIn (off := 92) (tgt := 93) d47_1 (by rw [iI_toInt (by omega)]; omega) (by rw [iI_toInt (by omega), q8]; rfl) (by decide)).trans ?_
              refine (g_aload_n d47_93 rfl rfl).trans ?_
              refine (g_dupR d47_94).trans ?_
              refine (j_getI (v := ρ 5 11) d47_95 f3_35 sh_5 (by decide) rfl rfl).trans ?_
              have q9 := hB 5 11 (by decide)
              refine (j_iconst d47_98).trans ?_
              refine (j_iadd d47_99).trans ?_
              refine (j_putI d47_100 f3_35 sh_5 (by decide) rfl).trans ?_
              refine (g_goto (tgt := 119) d47_103 (by decide)).trans ?_
              exact g_ret d47_119 rfl
            ·
              refine sw_case (c := 7) (fun q10 => ?_) (fun q10 => ?_)
              ·
                refine (g_tableIn (off := 105) (tgt := 106) d47_1 (by rw [iI_toInt (by omega)]; omega) (by rw [iI_toInt (by omega), q10]; rfl) (by decide)).trans ?_
                refine (g_aload_n d47_106 rfl rfl).trans ?_
                refine (j_iconst d47_107).trans ?_
                refine (j_putI d47_108 f3_32 sh_5 (by decide) rfl).trans ?_
                refine (g_aload_n d47_111 rfl rfl).trans ?_
                refine (j_iconst d47_112).trans ?_
                refine (j_putI d47_113 f3_35 sh_5 (by decide) rfl).trans ?_
                refine (g_goto (tgt := 119) d47_116 (by decide)).trans ?_
                exact g_ret d47_119 rfl
              ·
                refine (g_tableOut (tgt := 119) d47_1 (by rw [iI_toInt (by omega)]; omega) (by decide)).trans ?_
                exact g_ret d47_119 rfl
theorem d48_0 : ins 48 0 = some (.iload_n 0) := by decide +kernel
theorem d48_1 : ins 48 1 = some (.tableswitch 51 1 6 #[39, 41, 43, 45, 47, 49]) := by decide +kernel
theorem d48_40 : ins 48 40 = some (.iconst 1) := by decide +kernel
theorem d48_41 : ins 48 41 = some (.ireturn) := by decide +kernel
theorem d48_42 : ins 48 42 = some (.iconst 2) := by decide +kernel
theorem d48_43 : ins 48 43 = some (.ireturn) := by decide +kernel
theorem d48_44 : ins 48 44 = some (.iconst 2) := by decide +kernel
theorem d48_45 : ins 48 45 = some (.ireturn) := by decide +kernel
theorem d48_46 : ins 48 46 = some (.iconst 3) := by decide +kernel
theorem d48_47 : ins 48 47 = some (.ireturn) := by decide +kernel
theorem d48_48 : ins 48 48 = some (.iconst 3) := by decide +kernel
theorem d48_49 : ins 48 49 = some (.ireturn) := by decide +kernel
theorem d48_50 : ins 48 50 = some (.iconst 5) := by decide +kernel
theorem d48_51 : ins 48 51 = some (.ireturn) := by decide +kernel
theorem d48_52 : ins 48 52 = some (.iconst 0) := by decide +kernel
theorem d48_53 : ins 48 53 = some (.ireturn) := by decide +kernel
set_option maxRecDepth 10000 in
theorem b48_0 {Q : Option Value → mm → Prop} (ρ : rm) (τ : Int64) (a1 : Int) (hB : BM ρ) (h_a1 : SM a1) : G 48 0 (some (vI a1) :: []) [] (toM ρ τ) Q = (if a1 = 1 then Q (some (vI 1)) (toM ρ τ) else (if a1 = 2 then Q (some (vI 2)) (toM ρ τ) else (if a1 = 3 then Q (some (vI 2)) (toM ρ τ) else (if a1 = 4 then Q (some (vI 3)) (toM ρ τ) else (if a1 = 5 then Q (some (vI 3)) (toM ρ τ) else (if a1 = 6 then Q (some (vI 5)) (toM ρ τ) else Q (some (vI 0)) (toM ρ τ))))))) := by
  refine (g_iload_n d48_0 rfl).trans ?_
  refine sw_case (c := 1) (fun q1 => ?_) (fun q1 => ?_)
  ·
    refine (g_tableIn (off := 39) (tgt := 40) d48_1 (by rw [iI_toInt (by omega)]; omega) (by rw [iI_toInt (by omega), q1]; rfl) (by decide)).trans ?_
    refine (j_iconst d48_40).trans ?_
    exact g_iret d48_41 rfl rfl
  ·
    refine sw_case (c := 2) (fun q2 => ?_) (fun q2 => ?_)
    ·
      refine (g_tableIn (off := 41) (tgt := 42) d48_1 (by rw [iI_toInt (by omega)]; omega) (by rw [iI_toInt (by omega), q2]; rfl) (by decide)).trans ?_
      refine (j_iconst d48_42).trans ?_
      exact g_iret d48_43 rfl rfl
    ·
      refine sw_case (c := 3) (fun q3 => ?_) (fun q3 => ?_)
      ·
        refine (g_tableIn (off := 43) (tgt := 44) d48_1 (by rw [iI_toInt (by omega)]; omega) (by rw [iI_toInt (by omega), q3]; rfl) (by decide)).trans ?_
        refine (j_iconst d48_44).trans ?_
        exact g_iret d48_45 rfl rfl
      ·
        refine sw_case (c := 4) (fun q4 => ?_) (fun q4 => ?_)
        ·
          refine (g_tableIn (off := 45) (tgt := 46) d48_1 (by rw [iI_toInt (by omega)]; omega) (by rw [iI_toInt (by omega), q4]; rfl) (by decide)).trans ?_
          refine (j_iconst d48_46).trans ?_
          exact g_iret d48_47 rfl rfl
        ·
          refine sw_case (c := 5) (fun q5 => ?_) (fun q5 => ?_)
          ·
            refine (g_tableIn (off := 47) (tgt := 48) d48_1 (by rw [iI_toInt (by omega)]; omega) (by rw [iI_toInt (by omega), q5]; rfl) (by decide)).trans ?_
            refine (j_iconst d48_48).trans ?_
            exact g_iret d48_49 rfl rfl
          ·
            refine sw_case (c := 6) (fun q6 => ?_) (fun q6 => ?_)
            ·
              refine (g_tableIn (off := 49) (tgt := 50) d48_1 (by rw [iI_toInt (by omega)]; omega) (by rw [iI_toInt (by omega), q6]; rfl) (by decide)).trans ?_
              refine (j_iconst d48_50).trans ?_
              exact g_iret d48_51 rfl rfl
            ·
              refine (g_tableOut (tgt := 52) d48_1 (by rw [iI_toInt (by omega)]; omega) (by decide)).trans ?_
              refine (j_iconst d48_52).trans ?_
              exact g_iret d48_53 rfl rfl
theorem d49_0 : ins 49 0 = some (.iload_n 0) := by decide +kernel
theorem d49_1 : ins 49 1 = some (.tableswitch 64 1 4 #[31, 33, 43, 53]) := by decide +kernel
theorem d49_32 : ins 49 32 = some (.iconst 2) := by decide +kernel
theorem d49_33 : ins 49 33 = some (.ireturn) := by decide +kernel
theorem d49_34 : ins 49 34 = some (.iload_n 1) := by decide +kernel
theorem d49_35 : ins 49 35 = some (.ifCond .ne 7) := by decide +kernel
theorem d49_38 : ins 49 38 = some (.iconst 1) := by decide +kernel
theorem d49_39 : ins 49 39 = some (.goto 4) := by decide +kernel
theorem d49_42 : ins 49 42 = some (.iconst 0) := by decide +kernel
theorem d49_43 : ins 49 43 = some (.ireturn) := by decide +kernel
theorem d49_44 : ins 49 44 = some (.iload_n 1) := by decide +kernel
theorem d49_45 : ins 49 45 = some (.ifCond .ne 7) := by decide +kernel
theorem d49_48 : ins 49 48 = some (.iconst 0) := by decide +kernel
theorem d49_49 : ins 49 49 = some (.goto 4) := by decide +kernel
theorem d49_52 : ins 49 52 = some (.iconst 1) := by decide +kernel
theorem d49_53 : ins 49 53 = some (.ireturn) := by decide +kernel
theorem d49_54 : ins 49 54 = some (.iload_n 1) := by decide +kernel
theorem d49_55 : ins 49 55 = some (.iconst 2) := by decide +kernel
theorem d49_56 : ins 49 56 = some (.if_icmp .ne 7) := by decide +kernel
theorem d49_59 : ins 49 59 = some (.iconst 1) := by decide +kernel
theorem d49_60 : ins 49 60 = some (.goto 4) := by decide +kernel
theorem d49_63 : ins 49 63 = some (.iconst 0) := by decide +kernel
theorem d49_64 : ins 49 64 = some (.ireturn) := by decide +kernel
theorem d49_65 : ins 49 65 = some (.iconst 0) := by decide +kernel
theorem d49_66 : ins 49 66 = some (.ireturn) := by decide +kernel
set_option maxRecDepth 10000 in
theorem b49_0 {Q : Option Value → mm → Prop} (ρ : rm) (τ : Int64) (a1 : Int) (a2 : Int) (hB : BM ρ) (h_a1 : SM a1) (h_a2 : SM a2) : G 49 0 (some (vI a1) :: some (vI a2) :: []) [] (toM ρ τ) Q = (if a1 = 1 then Q (some (vI 2)) (toM ρ τ) else (if a1 = 2 then (if a2 = 0 then Q (some (vI 1)) (toM ρ τ) else Q (some (vI 0)) (toM ρ τ)) else (if a1 = 3 then (if a2 = 0 then Q (some (vI 0)) (toM ρ τ) else Q (some (vI 1)) (toM ρ τ)) else (if a1 = 4 then (if a2 = 2 then Q (some (vI 1)) (toM ρ τ) else Q (some (vI 0)) (toM ρ τ)) else Q (some (vI 0)) (toM ρ τ))))) := by
  refine (g_iload_n d49_0 rfl).trans ?_
  refine sw_case (c := 1) (fun q1 => ?_) (fun q1 => ?_)
  ·
    refine (g_tableIn (off := 31) (tgt := 32) d49_1 (by rw [iI_toInt (by omega)]; omega) (by rw [iI_toInt (by omega), q1]; rfl) (by decide)).trans ?_
    refine (j_iconst d49_32).trans ?_
    exact g_iret d49_33 rfl rfl
  ·
    refine sw_case (c := 2) (fun q2 => ?_) (fun q2 => ?_)
    ·
      refine (g_tableIn (off := 33) (tgt := 34) d49_1 (by rw [iI_toInt (by omega)]; omega) (by rw [iI_toInt (by omega), q2]; rfl) (by decide)).trans ?_
      refine (g_iload_n d49_34 rfl).trans ?_
      refine j_if_ne (tgt := 42) d49_35 (by decide) (by omega) (fun q3 => ?_) (fun q3 => ?_)
      ·
        refine (j_iconst d49_38).trans ?_
        refine (g_goto (tgt := 43) d49_39 (by decide)).trans ?_
        exact g_iret d49_43 rfl rfl
      ·
        refine (j_iconst d49_42).trans ?_
        exact g_iret d49_43 rfl rfl
    ·
      refine sw_case (c := 3) (fun q4 => ?_) (fun q4 => ?_)
      ·
        refine (g_tableIn (off := 43) (tgt := 44) d49_1 (by rw [iI_toInt (by omega)]; omega) (by rw [iI_toInt (by omega), q4]; rfl) (by decide)).trans ?_
        refine (g_iload_n d49_44 rfl).trans ?_
        refine j_if_ne (tgt := 52) d49_45 (by decide) (by omega) (fun q5 => ?_) (fun q5 => ?_)
        ·
          refine (j_iconst d49_48).trans ?_
          refine (g_goto (tgt := 53) d49_49 (by decide)).trans ?_
          exact g_iret d49_53 rfl rfl
        ·
          refine (j_iconst d49_52).trans ?_
          exact g_iret d49_53 rfl rfl
      ·
        refine sw_case (c := 4) (fun q6 => ?_) (fun q6 => ?_)
        ·
          refine (g_tableIn (off := 53) (tgt := 54) d49_1 (by rw [iI_toInt (by omega)]; omega) (by rw [iI_toInt (by omega), q6]; rfl) (by decide)).trans ?_
          refine (g_iload_n d49_54 rfl).trans ?_
          refine (j_iconst d49_55).trans ?_
          refine j_icmp_ne (tgt := 63) d49_56 (by decide) (by omega) (by omega) (fun q7 => ?_) (fun q7 => ?_)
          ·
            refine (j_iconst d49_59).trans ?_
            refine (g_goto (tgt := 64) d49_60 (by decide)).trans ?_
            exact g_iret d49_64 rfl rfl
          ·
            refine (j_iconst d49_63).trans ?_
            exact g_iret d49_64 rfl rfl
        ·
          refine (g_tableOut (tgt := 65) d49_1 (by rw [iI_toInt (by omega)]; omega) (by decide)).trans ?_
          refine (j_iconst d49_65).trans ?_
          exact g_iret d49_66 rfl rfl
theorem d50_0 : ins 50 0 = some (.iload_n 1) := by decide +kernel
theorem d50_1 : ins 50 1 = some (.tableswitch 146 1 6 #[39, 42, 59, 75, 92, 119]) := by decide +kernel
theorem d50_40 : ins 50 40 = some (.bipush 10) := by decide +kernel
theorem d50_42 : ins 50 42 = some (.ireturn) := by decide +kernel
theorem d50_43 : ins 50 43 = some (.iload_n 2) := by decide +kernel
theorem d50_44 : ins 50 44 = some (.ifCond .ne 12) := by decide +kernel
theorem d50_47 : ins 50 47 = some (.aload_n 0) := by decide +kernel
theorem d50_48 : ins 50 48 = some (.getfield 26) := by decide +kernel
theorem d50_51 : ins 50 51 = some (.iconst 1) := by decide +kernel
theorem d50_52 : ins 50 52 = some (.isub) := by decide +kernel
theorem d50_53 : ins 50 53 = some (.goto 6) := by decide +kernel
theorem d50_56 : ins 50 56 = some (.sipush 999) := by decide +kernel
theorem d50_59 : ins 50 59 = some (.ireturn) := by decide +kernel
theorem d50_60 : ins 50 60 = some (.iload_n 2) := by decide +kernel
theorem d50_61 : ins 50 61 = some (.ifCond .ne 12) := by decide +kernel
theorem d50_64 : ins 50 64 = some (.aload_n 0) := by decide +kernel
theorem d50_65 : ins 50 65 = some (.getfield 26) := by decide +kernel
theorem d50_68 : ins 50 68 = some (.iconst 2) := by decide +kernel
theorem d50_69 : ins 50 69 = some (.isub) := by decide +kernel
theorem d50_70 : ins 50 70 = some (.goto 5) := by decide +kernel
theorem d50_73 : ins 50 73 = some (.bipush 99) := by decide +kernel
theorem d50_75 : ins 50 75 = some (.ireturn) := by decide +kernel
theorem d50_76 : ins 50 76 = some (.iload_n 2) := by decide +kernel
theorem d50_77 : ins 50 77 = some (.iconst 1) := by decide +kernel
theorem d50_78 : ins 50 78 = some (.if_icmp .gt 12) := by decide +kernel
theorem d50_81 : ins 50 81 = some (.aload_n 0) := by decide +kernel
theorem d50_82 : ins 50 82 = some (.getfield 26) := by decide +kernel
theorem d50_85 : ins 50 85 = some (.iconst 1) := by decide +kernel
theorem d50_86 : ins 50 86 = some (.isub) := by decide +kernel
theorem d50_87 : ins 50 87 = some (.goto 5) := by decide +kernel
theorem d50_90 : ins 50 90 = some (.bipush 99) := by decide +kernel
theorem d50_92 : ins 50 92 = some (.ireturn) := by decide +kernel
theorem d50_93 : ins 50 93 = some (.iload_n 2) := by decide +kernel
theorem d50_94 : ins 50 94 = some (.ifCond .ne 12) := by decide +kernel
theorem d50_97 : ins 50 97 = some (.aload_n 0) := by decide +kernel
theorem d50_98 : ins 50 98 = some (.getfield 26) := by decide +kernel
theorem d50_101 : ins 50 101 = some (.iconst 1) := by decide +kernel
theorem d50_102 : ins 50 102 = some (.isub) := by decide +kernel
theorem d50_103 : ins 50 103 = some (.goto 16) := by decide +kernel
theorem d50_106 : ins 50 106 = some (.iload_n 2) := by decide +kernel
theorem d50_107 : ins 50 107 = some (.iconst 1) := by decide +kernel
theorem d50_108 : ins 50 108 = some (.if_icmp .ne 9) := by decide +kernel
theorem d50_111 : ins 50 111 = some (.sipush 1439) := by decide +kernel
theorem d50_114 : ins 50 114 = some (.goto 5) := by decide +kernel
theorem d50_117 : ins 50 117 = some (.bipush 99) := by decide +kernel
theorem d50_119 : ins 50 119 = some (.ireturn) := by decide +kernel
theorem d50_120 : ins 50 120 = some (.iload_n 2) := by decide +kernel
theorem d50_121 : ins 50 121 = some (.ifCond .ne 12) := by decide +kernel
theorem d50_124 : ins 50 124 = some (.aload_n 0) := by decide +kernel
theorem d50_125 : ins 50 125 = some (.getfield 26) := by decide +kernel
theorem d50_128 : ins 50 128 = some (.iconst 1) := by decide +kernel
theorem d50_129 : ins 50 129 = some (.isub) := by decide +kernel
theorem d50_130 : ins 50 130 = some (.goto 16) := by decide +kernel
theorem d50_133 : ins 50 133 = some (.iload_n 2) := by decide +kernel
theorem d50_134 : ins 50 134 = some (.iconst 2) := by decide +kernel
theorem d50_135 : ins 50 135 = some (.if_icmp .gt 9) := by decide +kernel
theorem d50_138 : ins 50 138 = some (.sipush 1439) := by decide +kernel
theorem d50_141 : ins 50 141 = some (.goto 5) := by decide +kernel
theorem d50_144 : ins 50 144 = some (.bipush 99) := by decide +kernel
theorem d50_146 : ins 50 146 = some (.ireturn) := by decide +kernel
theorem d50_147 : ins 50 147 = some (.iconst (-1)) := by decide +kernel
theorem d50_148 : ins 50 148 = some (.ireturn) := by decide +kernel
set_option maxRecDepth 10000 in
theorem b50_0 {Q : Option Value → mm → Prop} (ρ : rm) (τ : Int64) (a1 : Int) (a2 : Int) (hB : BM ρ) (h_a1 : SM a1) (h_a2 : SM a2) : G 50 0 (some (.ref 5) :: some (vI a1) :: some (vI a2) :: []) [] (toM ρ τ) Q = (if a1 = 1 then Q (some (vI 10)) (toM ρ τ) else (if a1 = 2 then (if a2 = 0 then Q (some (vI ((ρ 5 8) - 1))) (toM ρ τ) else Q (some (vI 999)) (toM ρ τ)) else (if a1 = 3 then (if a2 = 0 then Q (some (vI ((ρ 5 8) - 2))) (toM ρ τ) else Q (some (vI 99)) (toM ρ τ)) else (if a1 = 4 then (if 1 < a2 then Q (some (vI 99)) (toM ρ τ) else Q (some (vI ((ρ 5 8) - 1))) (toM ρ τ)) else (if a1 = 5 then (if a2 = 0 then Q (some (vI ((ρ 5 8) - 1))) (toM ρ τ) else (if a2 = 1 then Q (some (vI 1439)) (toM ρ τ) else Q (some (vI 99)) (toM ρ τ))) else (if a1 = 6 then (if a2 = 0 then Q (some (vI ((ρ 5 8) - 1))) (toM ρ τ) else (if 2 < a2 then Q (some (vI 99)) (toM ρ τ) else Q (some (vI 1439)) (toM ρ τ))) else Q (some (vI (-1))) (toM ρ τ))))))) := by
  refine (g_iload_n d50_0 rfl).trans ?_
  refine sw_case (c := 1) (fun q1 => ?_) (fun q1 => ?_)
  ·
    refine (g_tableIn (off := 39) (tgt := 40) d50_1 (by rw [iI_toInt (by omega)]; omega) (by rw [iI_toInt (by omega), q1]; rfl) (by decide)).trans ?_
    refine (j_bipush d50_40 (by decide)).trans ?_
    exact g_iret d50_42 rfl rfl
  ·
    refine sw_case (c := 2) (fun q2 => ?_) (fun q2 => ?_)
    ·
      refine (g_tableIn (off := 42) (tgt := 43) d50_1 (by rw [iI_toInt (by omega)]; omega) (by rw [iI_toInt (by omega), q2]; rfl) (by decide)).trans ?_
      refine (g_iload_n d50_43 rfl).trans ?_
      refine j_if_ne (tgt := 56) d50_44 (by decide) (by omega) (fun q3 => ?_) (fun q3 => ?_)
      ·
        refine (g_aload_n d50_47 rfl rfl).trans ?_
        refine (j_getI (v := ρ 5 8) d50_48 f3_26 sh_5 (by decide) rfl rfl).trans ?_
        have q4 := hB 5 8 (by decide)
        refine (j_iconst d50_51).trans ?_
        refine (j_isub d50_52).trans ?_
        refine (g_goto (tgt := 59) d50_53 (by decide)).trans ?_
        exact g_iret d50_59 rfl rfl
      ·
        refine (j_sipush d50_56 (by decide)).trans ?_
        exact g_iret d50_59 rfl rfl
    ·
      refine sw_case (c := 3) (fun q5 => ?_) (fun q5 => ?_)
      ·
        refine (g_tableIn (off := 59) (tgt := 60) d50_1 (by rw [iI_toInt (by omega)]; omega) (by rw [iI_toInt (by omega), q5]; rfl) (by decide)).trans ?_
        refine (g_iload_n d50_60 rfl).trans ?_
        refine j_if_ne (tgt := 73) d50_61 (by decide) (by omega) (fun q6 => ?_) (fun q6 => ?_)
        ·
          refine (g_aload_n d50_64 rfl rfl).trans ?_
          refine (j_getI (v := ρ 5 8) d50_65 f3_26 sh_5 (by decide) rfl rfl).trans ?_
          have q7 := hB 5 8 (by decide)
          refine (j_iconst d50_68).trans ?_
          refine (j_isub d50_69).trans ?_
          refine (g_goto (tgt := 75) d50_70 (by decide)).trans ?_
          exact g_iret d50_75 rfl rfl
        ·
          refine (j_bipush d50_73 (by decide)).trans ?_
          exact g_iret d50_75 rfl rfl
      ·
        refine sw_case (c := 4) (fun q8 => ?_) (fun q8 => ?_)
        ·
          refine (g_tableIn (off := 75) (tgt := 76) d50_1 (by rw [iI_toInt (by omega)]; omega) (by rw [iI_toInt (by omega), q8]; rfl) (by decide)).trans ?_
          refine (g_iload_n d50_76 rfl).trans ?_
          refine (j_iconst d50_77).trans ?_
          refine j_icmp_gt (tgt := 90) d50_78 (by decide) (by omega) (by omega) (fun q9 => ?_) (fun q9 => ?_)
          ·
            refine (j_bipush d50_90 (by decide)).trans ?_
            exact g_iret d50_92 rfl rfl
          ·
            refine (g_aload_n d50_81 rfl rfl).trans ?_
            refine (j_getI (v := ρ 5 8) d50_82 f3_26 sh_5 (by decide) rfl rfl).trans ?_
            have q10 := hB 5 8 (by decide)
            refine (j_iconst d50_85).trans ?_
            refine (j_isub d50_86).trans ?_
            refine (g_goto (tgt := 92) d50_87 (by decide)).trans ?_
            exact g_iret d50_92 rfl rfl
        ·
          refine sw_case (c := 5) (fun q11 => ?_) (fun q11 => ?_)
          ·
            refine (g_tableIn (off := 92) (tgt := 93) d50_1 (by rw [iI_toInt (by omega)]; omega) (by rw [iI_toInt (by omega), q11]; rfl) (by decide)).trans ?_
            refine (g_iload_n d50_93 rfl).trans ?_
            refine j_if_ne (tgt := 106) d50_94 (by decide) (by omega) (fun q12 => ?_) (fun q12 => ?_)
            ·
              refine (g_aload_n d50_97 rfl rfl).trans ?_
              refine (j_getI (v := ρ 5 8) d50_98 f3_26 sh_5 (by decide) rfl rfl).trans ?_
              have q13 := hB 5 8 (by decide)
              refine (j_iconst d50_101).trans ?_
              refine (j_isub d50_102).trans ?_
              refine (g_goto (tgt := 119) d50_103 (by decide)).trans ?_
              exact g_iret d50_119 rfl rfl
            ·
              refine (g_iload_n d50_106 rfl).trans ?_
              refine (j_iconst d50_107).trans ?_
              refine j_icmp_ne (tgt := 117) d50_108 (by decide) (by omega) (by omega) (fun q14 => ?_) (fun q14 => ?_)
              ·
                refine (j_sipush d50_111 (by decide)).trans ?_
                refine (g_goto (tgt := 119) d50_114 (by decide)).trans ?_
                exact g_iret d50_119 rfl rfl
              ·
                refine (j_bipush d50_117 (by decide)).trans ?_
                exact g_iret d50_119 rfl rfl
          ·
            refine sw_case (c := 6) (fun q15 => ?_) (fun q15 => ?_)
            ·
              refine (g_tableIn (off := 119) (tgt := 120) d50_1 (by rw [iI_toInt (by omega)]; omega) (by rw [iI_toInt (by omega), q15]; rfl) (by decide)).trans ?_
              refine (g_iload_n d50_120 rfl).trans ?_
              refine j_if_ne (tgt := 133) d50_121 (by decide) (by omega) (fun q16 => ?_) (fun q16 => ?_)
              ·
                refine (g_aload_n d50_124 rfl rfl).trans ?_
                refine (j_getI (v := ρ 5 8) d50_125 f3_26 sh_5 (by decide) rfl rfl).trans ?_
                have q17 := hB 5 8 (by decide)
                refine (j_iconst d50_128).trans ?_
                refine (j_isub d50_129).trans ?_
                refine (g_goto (tgt := 146) d50_130 (by decide)).trans ?_
                exact g_iret d50_146 rfl rfl
              ·
                refine (g_iload_n d50_133 rfl).trans ?_
                refine (j_iconst d50_134).trans ?_
                refine j_icmp_gt (tgt := 144) d50_135 (by decide) (by omega) (by omega) (fun q18 => ?_) (fun q18 => ?_)
                ·
                  refine (j_bipush d50_144 (by decide)).trans ?_
                  exact g_iret d50_146 rfl rfl
                ·
                  refine (j_sipush d50_138 (by decide)).trans ?_
                  refine (g_goto (tgt := 146) d50_141 (by decide)).trans ?_
                  exact g_iret d50_146 rfl rfl
            ·
              refine (g_tableOut (tgt := 147) d50_1 (by rw [iI_toInt (by omega)]; omega) (by decide)).trans ?_
              refine (j_iconst d50_147).trans ?_
              exact g_iret d50_148 rfl rfl
theorem d51_0 : ins 51 0 = some (.aload_n 0) := by decide +kernel
theorem d51_1 : ins 51 1 = some (.getfield 38) := by decide +kernel
theorem d51_4 : ins 51 4 = some (.aload_n 0) := by decide +kernel
theorem d51_5 : ins 51 5 = some (.getfield 18) := by decide +kernel
theorem d51_8 : ins 51 8 = some (.getfield 83) := by decide +kernel
theorem d51_11 : ins 51 11 = some (.if_icmp .ge 33) := by decide +kernel
theorem d51_14 : ins 51 14 = some (.aload_n 0) := by decide +kernel
theorem d51_15 : ins 51 15 = some (.getfield 18) := by decide +kernel
theorem d51_18 : ins 51 18 = some (.getfield 88) := by decide +kernel
theorem d51_21 : ins 51 21 = some (.aload_n 0) := by decide +kernel
theorem d51_22 : ins 51 22 = some (.getfield 38) := by decide +kernel
theorem d51_25 : ins 51 25 = some (.iaload) := by decide +kernel
theorem d51_26 : ins 51 26 = some (.bipush 32) := by decide +kernel
theorem d51_28 : ins 51 28 = some (.if_icmp .ne 16) := by decide +kernel
theorem d51_31 : ins 51 31 = some (.aload_n 0) := by decide +kernel
theorem d51_32 : ins 51 32 = some (.dup) := by decide +kernel
theorem d51_33 : ins 51 33 = some (.getfield 38) := by decide +kernel
theorem d51_36 : ins 51 36 = some (.iconst 1) := by decide +kernel
theorem d51_37 : ins 51 37 = some (.iadd) := by decide +kernel
theorem d51_38 : ins 51 38 = some (.putfield 38) := by decide +kernel
theorem d51_41 : ins 51 41 = some (.goto (-41)) := by decide +kernel
theorem d51_44 : ins 51 44 = some (.aload_n 0) := by decide +kernel
theorem d51_45 : ins 51 45 = some (.aload_n 0) := by decide +kernel
theorem d51_46 : ins 51 46 = some (.getfield 38) := by decide +kernel
theorem d51_49 : ins 51 49 = some (.putfield 45) := by decide +kernel
theorem d51_52 : ins 51 52 = some (.aload_n 0) := by decide +kernel
theorem d51_53 : ins 51 53 = some (.getfield 38) := by decide +kernel
theorem d51_56 : ins 51 56 = some (.aload_n 0) := by decide +kernel
theorem d51_57 : ins 51 57 = some (.getfield 18) := by decide +kernel
theorem d51_60 : ins 51 60 = some (.getfield 83) := by decide +kernel
theorem d51_63 : ins 51 63 = some (.if_icmp .lt 11) := by decide +kernel
theorem d51_66 : ins 51 66 = some (.aload_n 0) := by decide +kernel
theorem d51_67 : ins 51 67 = some (.iconst 0) := by decide +kernel
theorem d51_68 : ins 51 68 = some (.putfield 51) := by decide +kernel
theorem d51_71 : ins 51 71 = some (.goto 99) := by decide +kernel
theorem d51_74 : ins 51 74 = some (.aload_n 0) := by decide +kernel
theorem d51_75 : ins 51 75 = some (.getfield 18) := by decide +kernel
theorem d51_78 : ins 51 78 = some (.getfield 88) := by decide +kernel
theorem d51_81 : ins 51 81 = some (.aload_n 0) := by decide +kernel
theorem d51_82 : ins 51 82 = some (.getfield 38) := by decide +kernel
theorem d51_85 : ins 51 85 = some (.iaload) := by decide +kernel
theorem d51_86 : ins 51 86 = some (.invokestatic 91) := by decide +kernel
theorem d51_89 : ins 51 89 = some (.ifCond .eq 15) := by decide +kernel
theorem d51_92 : ins 51 92 = some (.aload_n 0) := by decide +kernel
theorem d51_93 : ins 51 93 = some (.iconst 1) := by decide +kernel
theorem d51_94 : ins 51 94 = some (.putfield 51) := by decide +kernel
theorem d51_97 : ins 51 97 = some (.aload_n 0) := by decide +kernel
theorem d51_98 : ins 51 98 = some (.invokevirtual 94) := by decide +kernel
theorem d51_101 : ins 51 101 = some (.goto 69) := by decide +kernel
theorem d51_104 : ins 51 104 = some (.aload_n 0) := by decide +kernel
theorem d51_105 : ins 51 105 = some (.getfield 18) := by decide +kernel
theorem d51_108 : ins 51 108 = some (.getfield 88) := by decide +kernel
theorem d51_111 : ins 51 111 = some (.aload_n 0) := by decide +kernel
theorem d51_112 : ins 51 112 = some (.getfield 38) := by decide +kernel
theorem d51_115 : ins 51 115 = some (.iaload) := by decide +kernel
theorem d51_116 : ins 51 116 = some (.invokestatic 97) := by decide +kernel
theorem d51_119 : ins 51 119 = some (.ifCond .eq 15) := by decide +kernel
theorem d51_122 : ins 51 122 = some (.aload_n 0) := by decide +kernel
theorem d51_123 : ins 51 123 = some (.iconst 2) := by decide +kernel
theorem d51_124 : ins 51 124 = some (.putfield 51) := by decide +kernel
theorem d51_127 : ins 51 127 = some (.aload_n 0) := by decide +kernel
theorem d51_128 : ins 51 128 = some (.invokevirtual 100) := by decide +kernel
theorem d51_131 : ins 51 131 = some (.goto 39) := by decide +kernel
theorem d51_134 : ins 51 134 = some (.aload_n 0) := by decide +kernel
theorem d51_135 : ins 51 135 = some (.aload_n 0) := by decide +kernel
theorem d51_136 : ins 51 136 = some (.getfield 18) := by decide +kernel
theorem d51_139 : ins 51 139 = some (.getfield 88) := by decide +kernel
theorem d51_142 : ins 51 142 = some (.aload_n 0) := by decide +kernel
theorem d51_143 : ins 51 143 = some (.getfield 38) := by decide +kernel
theorem d51_146 : ins 51 146 = some (.iaload) := by decide +kernel
theorem d51_147 : ins 51 147 = some (.bipush 59) := by decide +kernel
theorem d51_149 : ins 51 149 = some (.if_icmp .ne 7) := by decide +kernel
theorem d51_152 : ins 51 152 = some (.iconst 3) := by decide +kernel
theorem d51_153 : ins 51 153 = some (.goto 4) := by decide +kernel
theorem d51_156 : ins 51 156 = some (.iconst 4) := by decide +kernel
theorem d51_157 : ins 51 157 = some (.putfield 51) := by decide +kernel
theorem d51_160 : ins 51 160 = some (.aload_n 0) := by decide +kernel
theorem d51_161 : ins 51 161 = some (.dup) := by decide +kernel
theorem d51_162 : ins 51 162 = some (.getfield 38) := by decide +kernel
theorem d51_165 : ins 51 165 = some (.iconst 1) := by decide +kernel
theorem d51_166 : ins 51 166 = some (.iadd) := by decide +kernel
theorem d51_167 : ins 51 167 = some (.putfield 38) := by decide +kernel
theorem d51_170 : ins 51 170 = some (.return_) := by decide +kernel
set_option maxRecDepth 10000 in
theorem b51_0 {Q : Option Value → mm → Prop} (ρ : rm) (τ : Int64)  (hB : BM ρ)  : G 51 0 (some (.ref 5) :: []) [] (toM ρ τ) Q = (if (ρ 4 1) ≤ (ρ 5 4) then (if (ρ 5 4) < (ρ 4 1) then (if 0 ≤ (ρ 5 4) ∧ (ρ 5 4) < 200 then G 54 0 [some (vI (ρ 37 (ρ 5 4)))] [] (toM (rup ρ 5 6 (ρ 5 4)) τ) (fun v μ2 => G 51 89 (some (.ref 5) :: []) (v.toList ++ []) μ2 Q) else False) else Q none (toM (rup (rup ρ 5 6 (ρ 5 4)) 5 5 0) τ)) else (if 0 ≤ (ρ 5 4) ∧ (ρ 5 4) < 200 then (if (ρ 37 (ρ 5 4)) = 32 then G 51 0 (some (.ref 5) :: []) [] (toM (rup ρ 5 4 ((ρ 5 4) + 1)) τ) Q else (if (ρ 5 4) < (ρ 4 1) then (if 0 ≤ (ρ 5 4) ∧ (ρ 5 4) < 200 then G 54 0 [some (vI (ρ 37 (ρ 5 4)))] [] (toM (rup ρ 5 6 (ρ 5 4)) τ) (fun v μ2 => G 51 89 (some (.ref 5) :: []) (v.toList ++ []) μ2 Q) else False) else Q none (toM (rup (rup ρ 5 6 (ρ 5 4)) 5 5 0) τ))) else False)) := by
  refine (g_aload_n d51_0 rfl rfl).trans ?_
  refine (j_getI (v := ρ 5 4) d51_1 f3_38 sh_5 (by decide) rfl rfl).trans ?_
  have q1 := hB 5 4 (by decide)
  refine (g_aload_n d51_4 rfl rfl).trans ?_
  refine (g_getR (q := 4) d51_5 f3_18 sh_5 (by decide) rfl).trans ?_
  refine (j_getI (v := ρ 4 1) d51_8 f3_83 sh_4 (by decide) rfl rfl).trans ?_
  have q2 := hB 4 1 (by decide)
  refine j_icmp_ge (tgt := 44) d51_11 (by decide) (by omega) (by omega) (fun q3 => ?_) (fun q3 => ?_)
  ·
    refine (g_aload_n d51_44 rfl rfl).trans ?_
    refine (g_aload_n d51_45 rfl rfl).trans ?_
    refine (j_getI (v := ρ 5 4) d51_46 f3_38 sh_5 (by decide) rfl rfl).trans ?_
    refine (j_putI d51_49 f3_45 sh_5 (by decide) rfl).trans ?_
    refine (g_aload_n d51_52 rfl rfl).trans ?_
    refine (j_getI (v := ρ 5 4) d51_53 f3_38 sh_5 (by decide) rfl (by simp [rup])).trans ?_
    refine (g_aload_n d51_56 rfl rfl).trans ?_
    refine (g_getR (q := 4) d51_57 f3_18 sh_5 (by decide) rfl).trans ?_
    refine (j_getI (v := ρ 4 1) d51_60 f3_83 sh_4 (by decide) rfl (by simp [rup])).trans ?_
    refine j_icmp_lt (tgt := 74) d51_63 (by decide) (by omega) (by omega) (fun q4 => ?_) (fun q4 => ?_)
    ·
      refine (g_aload_n d51_74 rfl rfl).trans ?_
      refine (g_getR (q := 4) d51_75 f3_18 sh_5 (by decide) rfl).trans ?_
      refine (g_getR (q := 37) d51_78 f3_88 sh_4 (by decide) rfl).trans ?_
      refine (g_aload_n d51_81 rfl rfl).trans ?_
      refine (j_getI (v := ρ 5 4) d51_82 f3_38 sh_5 (by decide) rfl (by simp [rup])).trans ?_
      refine j_iaload (v := ρ 37 (ρ 5 4)) d51_85 sh_37 (by omega) (by simp [rup]) (fun q5 => ?_)
      have q6 := hB 37 (ρ 5 4) (by omega)
      exact g_cS d51_86 k3_91 rfl rfl rfl
    ·
      refine (g_aload_n d51_66 rfl rfl).trans ?_
      refine (j_iconst d51_67).trans ?_
      refine (j_putI d51_68 f3_51 sh_5 (by decide) rfl).trans ?_
      refine (g_goto (tgt := 170) d51_71 (by decide)).trans ?_
      exact g_ret d51_170 rfl
  ·
    refine (g_aload_n d51_14 rfl rfl).trans ?_
    refine (g_getR (q := 4) d51_15 f3_18 sh_5 (by decide) rfl).trans ?_
    refine (g_getR (q := 37) d51_18 f3_88 sh_4 (by decide) rfl).trans ?_
    refine (g_aload_n d51_21 rfl rfl).trans ?_
    refine (j_getI (v := ρ 5 4) d51_22 f3_38 sh_5 (by decide) rfl rfl).trans ?_
    refine j_iaload (v := ρ 37 (ρ 5 4)) d51_25 sh_37 (by omega) rfl (fun q7 => ?_)
    have q8 := hB 37 (ρ 5 4) (by omega)
    refine (j_bipush d51_26 (by decide)).trans ?_
    refine j_icmp_ne (tgt := 44) d51_28 (by decide) (by omega) (by omega) (fun q9 => ?_) (fun q9 => ?_)
    ·
      refine (g_aload_n d51_31 rfl rfl).trans ?_
      refine (g_dupR d51_32).trans ?_
      refine (j_getI (v := ρ 5 4) d51_33 f3_38 sh_5 (by decide) rfl rfl).trans ?_
      refine (j_iconst d51_36).trans ?_
      refine (j_iadd d51_37).trans ?_
      refine (j_putI d51_38 f3_38 sh_5 (by decide) rfl).trans ?_
      refine (g_goto (tgt := 0) d51_41 (by decide)).trans ?_
      rfl
    ·
      refine (g_aload_n d51_44 rfl rfl).trans ?_
      refine (g_aload_n d51_45 rfl rfl).trans ?_
      refine (j_getI (v := ρ 5 4) d51_46 f3_38 sh_5 (by decide) rfl rfl).trans ?_
      refine (j_putI d51_49 f3_45 sh_5 (by decide) rfl).trans ?_
      refine (g_aload_n d51_52 rfl rfl).trans ?_
      refine (j_getI (v := ρ 5 4) d51_53 f3_38 sh_5 (by decide) rfl (by simp [rup])).trans ?_
      refine (g_aload_n d51_56 rfl rfl).trans ?_
      refine (g_getR (q := 4) d51_57 f3_18 sh_5 (by decide) rfl).trans ?_
      refine (j_getI (v := ρ 4 1) d51_60 f3_83 sh_4 (by decide) rfl (by simp [rup])).trans ?_
      refine j_icmp_lt (tgt := 74) d51_63 (by decide) (by omega) (by omega) (fun q10 => ?_) (fun q10 => ?_)
      ·
        refine (g_aload_n d51_74 rfl rfl).trans ?_
        refine (g_getR (q := 4) d51_75 f3_18 sh_5 (by decide) rfl).trans ?_
        refine (g_getR (q := 37) d51_78 f3_88 sh_4 (by decide) rfl).trans ?_
        refine (g_aload_n d51_81 rfl rfl).trans ?_
        refine (j_getI (v := ρ 5 4) d51_82 f3_38 sh_5 (by decide) rfl (by simp [rup])).trans ?_
        refine j_iaload (v := ρ 37 (ρ 5 4)) d51_85 sh_37 (by omega) (by simp [rup]) (fun q11 => ?_)
        exact g_cS d51_86 k3_91 rfl rfl rfl
      ·
        refine (g_aload_n d51_66 rfl rfl).trans ?_
        refine (j_iconst d51_67).trans ?_
        refine (j_putI d51_68 f3_51 sh_5 (by decide) rfl).trans ?_
        refine (g_goto (tgt := 170) d51_71 (by decide)).trans ?_
        exact g_ret d51_170 rfl
set_option maxRecDepth 10000 in
theorem b51_89 {Q : Option Value → mm → Prop} (ρ : rm) (τ : Int64) (t : List (Option Value)) (r : Int) (hB : BM ρ) (h_r : SM r) : G 51 89 (some (.ref 5) :: t) ((some (vI r)).toList ++ []) (toM ρ τ) Q = (if r = 0 then (if 0 ≤ (ρ 5 4) ∧ (ρ 5 4) < 200 then G 55 0 [some (vI (ρ 37 (ρ 5 4)))] [] (toM ρ τ) (fun v μ2 => G 51 119 (some (.ref 5) :: t) (v.toList ++ []) μ2 Q) else False) else G 52 0 [some (.ref 5)] [] (toM (rup ρ 5 5 1) τ) (fun v μ2 => G 51 101 (some (.ref 5) :: t) (v.toList ++ []) μ2 Q)) := by
  refine j_if_eq (tgt := 104) d51_89 (by decide) (by omega) (fun q1 => ?_) (fun q1 => ?_)
  ·
    refine (g_aload_n d51_104 rfl rfl).trans ?_
    refine (g_getR (q := 4) d51_105 f3_18 sh_5 (by decide) rfl).trans ?_
    refine (g_getR (q := 37) d51_108 f3_88 sh_4 (by decide) rfl).trans ?_
    refine (g_aload_n d51_111 rfl rfl).trans ?_
    refine (j_getI (v := ρ 5 4) d51_112 f3_38 sh_5 (by decide) rfl rfl).trans ?_
    have q2 := hB 5 4 (by decide)
    refine j_iaload (v := ρ 37 (ρ 5 4)) d51_115 sh_37 (by omega) rfl (fun q3 => ?_)
    have q4 := hB 37 (ρ 5 4) (by omega)
    exact g_cS d51_116 k3_97 rfl rfl rfl
  ·
    refine (g_aload_n d51_92 rfl rfl).trans ?_
    refine (j_iconst d51_93).trans ?_
    refine (j_putI d51_94 f3_51 sh_5 (by decide) rfl).trans ?_
    refine (g_aload_n d51_97 rfl rfl).trans ?_
    exact g_cV d51_98 k3_94 rfl rfl rfl
set_option maxRecDepth 10000 in
theorem b51_119 {Q : Option Value → mm → Prop} (ρ : rm) (τ : Int64) (t : List (Option Value)) (r : Int) (hB : BM ρ) (h_r : SM r) : G 51 119 (some (.ref 5) :: t) ((some (vI r)).toList ++ []) (toM ρ τ) Q = (if r = 0 then (if 0 ≤ (ρ 5 4) ∧ (ρ 5 4) < 200 then (if (ρ 37 (ρ 5 4)) = 59 then Q none (toM (rup (rup ρ 5 5 3) 5 4 ((ρ 5 4) + 1)) τ) else Q none (toM (rup (rup ρ 5 5 4) 5 4 ((ρ 5 4) + 1)) τ)) else False) else G 53 0 [some (.ref 5)] [] (toM (rup ρ 5 5 2) τ) (fun v μ2 => G 51 131 (some (.ref 5) :: t) (v.toList ++ []) μ2 Q)) := by
  refine j_if_eq (tgt := 134) d51_119 (by decide) (by omega) (fun q1 => ?_) (fun q1 => ?_)
  ·
    refine (g_aload_n d51_134 rfl rfl).trans ?_
    refine (g_aload_n d51_135 rfl rfl).trans ?_
    refine (g_getR (q := 4) d51_136 f3_18 sh_5 (by decide) rfl).trans ?_
    refine (g_getR (q := 37) d51_139 f3_88 sh_4 (by decide) rfl).trans ?_
    refine (g_aload_n d51_142 rfl rfl).trans ?_
    refine (j_getI (v := ρ 5 4) d51_143 f3_38 sh_5 (by decide) rfl rfl).trans ?_
    have q2 := hB 5 4 (by decide)
    refine j_iaload (v := ρ 37 (ρ 5 4)) d51_146 sh_37 (by omega) rfl (fun q3 => ?_)
    have q4 := hB 37 (ρ 5 4) (by omega)
    refine (j_bipush d51_147 (by decide)).trans ?_
    refine j_icmp_ne (tgt := 156) d51_149 (by decide) (by omega) (by omega) (fun q5 => ?_) (fun q5 => ?_)
    ·
      refine (j_iconst d51_152).trans ?_
      refine (g_goto (tgt := 157) d51_153 (by decide)).trans ?_
      refine (j_putI d51_157 f3_51 sh_5 (by decide) rfl).trans ?_
      refine (g_aload_n d51_160 rfl rfl).trans ?_
      refine (g_dupR d51_161).trans ?_
      refine (j_getI (v := ρ 5 4) d51_162 f3_38 sh_5 (by decide) rfl (by simp [rup])).trans ?_
      refine (j_iconst d51_165).trans ?_
      refine (j_iadd d51_166).trans ?_
      refine (j_putI d51_167 f3_38 sh_5 (by decide) rfl).trans ?_
      exact g_ret d51_170 rfl
    ·
      refine (j_iconst d51_156).trans ?_
      refine (j_putI d51_157 f3_51 sh_5 (by decide) rfl).trans ?_
      refine (g_aload_n d51_160 rfl rfl).trans ?_
      refine (g_dupR d51_161).trans ?_
      refine (j_getI (v := ρ 5 4) d51_162 f3_38 sh_5 (by decide) rfl (by simp [rup])).trans ?_
      refine (j_iconst d51_165).trans ?_
      refine (j_iadd d51_166).trans ?_
      refine (j_putI d51_167 f3_38 sh_5 (by decide) rfl).trans ?_
      exact g_ret d51_170 rfl
  ·
    refine (g_aload_n d51_122 rfl rfl).trans ?_
    refine (j_iconst d51_123).trans ?_
    refine (j_putI d51_124 f3_51 sh_5 (by decide) rfl).trans ?_
    refine (g_aload_n d51_127 rfl rfl).trans ?_
    exact g_cV d51_128 k3_100 rfl rfl rfl
set_option maxRecDepth 10000 in
theorem b51_101 {Q : Option Value → mm → Prop} (ρ : rm) (τ : Int64) (t : List (Option Value)) (hB : BM ρ)  : G 51 101 (some (.ref 5) :: t) ((none : Option Value).toList ++ []) (toM ρ τ) Q = Q none (toM ρ τ) := by
  refine (g_goto (tgt := 170) d51_101 (by decide)).trans ?_
  exact g_ret d51_170 rfl
set_option maxRecDepth 10000 in
theorem b51_131 {Q : Option Value → mm → Prop} (ρ : rm) (τ : Int64) (t : List (Option Value)) (hB : BM ρ)  : G 51 131 (some (.ref 5) :: t) ((none : Option Value).toList ++ []) (toM ρ τ) Q = Q none (toM ρ τ) := by
  refine (g_goto (tgt := 170) d51_131 (by decide)).trans ?_
  exact g_ret d51_170 rfl
theorem d52_0 : ins 52 0 = some (.aload_n 0) := by decide +kernel
theorem d52_1 : ins 52 1 = some (.getfield 38) := by decide +kernel
theorem d52_4 : ins 52 4 = some (.aload_n 0) := by decide +kernel
theorem d52_5 : ins 52 5 = some (.getfield 18) := by decide +kernel
theorem d52_8 : ins 52 8 = some (.getfield 83) := by decide +kernel
theorem d52_11 : ins 52 11 = some (.if_icmp .ge 34) := by decide +kernel
theorem d52_14 : ins 52 14 = some (.aload_n 0) := by decide +kernel
theorem d52_15 : ins 52 15 = some (.getfield 18) := by decide +kernel
theorem d52_18 : ins 52 18 = some (.getfield 88) := by decide +kernel
theorem d52_21 : ins 52 21 = some (.aload_n 0) := by decide +kernel
theorem d52_22 : ins 52 22 = some (.getfield 38) := by decide +kernel
theorem d52_25 : ins 52 25 = some (.iaload) := by decide +kernel
theorem d52_26 : ins 52 26 = some (.invokestatic 91) := by decide +kernel
theorem d52_29 : ins 52 29 = some (.ifCond .eq 16) := by decide +kernel
theorem d52_32 : ins 52 32 = some (.aload_n 0) := by decide +kernel
theorem d52_33 : ins 52 33 = some (.dup) := by decide +kernel
theorem d52_34 : ins 52 34 = some (.getfield 38) := by decide +kernel
theorem d52_37 : ins 52 37 = some (.iconst 1) := by decide +kernel
theorem d52_38 : ins 52 38 = some (.iadd) := by decide +kernel
theorem d52_39 : ins 52 39 = some (.putfield 38) := by decide +kernel
theorem d52_42 : ins 52 42 = some (.goto (-42)) := by decide +kernel
theorem d52_45 : ins 52 45 = some (.return_) := by decide +kernel
set_option maxRecDepth 10000 in
theorem b52_0 {Q : Option Value → mm → Prop} (ρ : rm) (τ : Int64)  (hB : BM ρ)  : G 52 0 (some (.ref 5) :: []) [] (toM ρ τ) Q = (if (ρ 4 1) ≤ (ρ 5 4) then Q none (toM ρ τ) else (if 0 ≤ (ρ 5 4) ∧ (ρ 5 4) < 200 then G 54 0 [some (vI (ρ 37 (ρ 5 4)))] [] (toM ρ τ) (fun v μ2 => G 52 29 (some (.ref 5) :: []) (v.toList ++ []) μ2 Q) else False)) := by
  refine (g_aload_n d52_0 rfl rfl).trans ?_
  refine (j_getI (v := ρ 5 4) d52_1 f3_38 sh_5 (by decide) rfl rfl).trans ?_
  have q1 := hB 5 4 (by decide)
  refine (g_aload_n d52_4 rfl rfl).trans ?_
  refine (g_getR (q := 4) d52_5 f3_18 sh_5 (by decide) rfl).trans ?_
  refine (j_getI (v := ρ 4 1) d52_8 f3_83 sh_4 (by decide) rfl rfl).trans ?_
  have q2 := hB 4 1 (by decide)
  refine j_icmp_ge (tgt := 45) d52_11 (by decide) (by omega) (by omega) (fun q3 => ?_) (fun q3 => ?_)
  ·
    exact g_ret d52_45 rfl
  ·
    refine (g_aload_n d52_14 rfl rfl).trans ?_
    refine (g_getR (q := 4) d52_15 f3_18 sh_5 (by decide) rfl).trans ?_
    refine (g_getR (q := 37) d52_18 f3_88 sh_4 (by decide) rfl).trans ?_
    refine (g_aload_n d52_21 rfl rfl).trans ?_
    refine (j_getI (v := ρ 5 4) d52_22 f3_38 sh_5 (by decide) rfl rfl).trans ?_
    refine j_iaload (v := ρ 37 (ρ 5 4)) d52_25 sh_37 (by omega) rfl (fun q4 => ?_)
    have q5 := hB 37 (ρ 5 4) (by omega)
    exact g_cS d52_26 k3_91 rfl rfl rfl
set_option maxRecDepth 10000 in
theorem b52_29 {Q : Option Value → mm → Prop} (ρ : rm) (τ : Int64) (t : List (Option Value)) (r : Int) (hB : BM ρ) (h_r : SM r) : G 52 29 (some (.ref 5) :: t) ((some (vI r)).toList ++ []) (toM ρ τ) Q = (if r = 0 then Q none (toM ρ τ) else G 52 0 (some (.ref 5) :: t) [] (toM (rup ρ 5 4 ((ρ 5 4) + 1)) τ) Q) := by
  refine j_if_eq (tgt := 45) d52_29 (by decide) (by omega) (fun q1 => ?_) (fun q1 => ?_)
  ·
    exact g_ret d52_45 rfl
  ·
    refine (g_aload_n d52_32 rfl rfl).trans ?_
    refine (g_dupR d52_33).trans ?_
    refine (j_getI (v := ρ 5 4) d52_34 f3_38 sh_5 (by decide) rfl rfl).trans ?_
    have q2 := hB 5 4 (by decide)
    refine (j_iconst d52_37).trans ?_
    refine (j_iadd d52_38).trans ?_
    refine (j_putI d52_39 f3_38 sh_5 (by decide) rfl).trans ?_
    refine (g_goto (tgt := 0) d52_42 (by decide)).trans ?_
    rfl
theorem d53_0 : ins 53 0 = some (.aload_n 0) := by decide +kernel
theorem d53_1 : ins 53 1 = some (.iconst 0) := by decide +kernel
theorem d53_2 : ins 53 2 = some (.putfield 69) := by decide +kernel
theorem d53_5 : ins 53 5 = some (.aload_n 0) := by decide +kernel
theorem d53_6 : ins 53 6 = some (.getfield 38) := by decide +kernel
theorem d53_9 : ins 53 9 = some (.aload_n 0) := by decide +kernel
theorem d53_10 : ins 53 10 = some (.getfield 18) := by decide +kernel
theorem d53_13 : ins 53 13 = some (.getfield 83) := by decide +kernel
theorem d53_16 : ins 53 16 = some (.if_icmp .ge 88) := by decide +kernel
theorem d53_19 : ins 53 19 = some (.aload_n 0) := by decide +kernel
theorem d53_20 : ins 53 20 = some (.getfield 18) := by decide +kernel
theorem d53_23 : ins 53 23 = some (.getfield 88) := by decide +kernel
theorem d53_26 : ins 53 26 = some (.aload_n 0) := by decide +kernel
theorem d53_27 : ins 53 27 = some (.getfield 38) := by decide +kernel
theorem d53_30 : ins 53 30 = some (.iaload) := by decide +kernel
theorem d53_31 : ins 53 31 = some (.invokestatic 97) := by decide +kernel
theorem d53_34 : ins 53 34 = some (.ifCond .eq 70) := by decide +kernel
theorem d53_37 : ins 53 37 = some (.aload_n 0) := by decide +kernel
theorem d53_38 : ins 53 38 = some (.getfield 38) := by decide +kernel
theorem d53_41 : ins 53 41 = some (.aload_n 0) := by decide +kernel
theorem d53_42 : ins 53 42 = some (.getfield 45) := by decide +kernel
theorem d53_45 : ins 53 45 = some (.isub) := by decide +kernel
theorem d53_46 : ins 53 46 = some (.iconst 4) := by decide +kernel
theorem d53_47 : ins 53 47 = some (.if_icmp .ge 7) := by decide +kernel
theorem d53_50 : ins 53 50 = some (.iconst 1) := by decide +kernel
theorem d53_51 : ins 53 51 = some (.goto 4) := by decide +kernel
theorem d53_54 : ins 53 54 = some (.iconst 0) := by decide +kernel
theorem d53_55 : ins 53 55 = some (.istore_n 1) := by decide +kernel
theorem d53_56 : ins 53 56 = some (.aload_n 0) := by decide +kernel
theorem d53_57 : ins 53 57 = some (.iload_n 1) := by decide +kernel
theorem d53_58 : ins 53 58 = some (.ifCond .eq 29) := by decide +kernel
theorem d53_61 : ins 53 61 = some (.aload_n 0) := by decide +kernel
theorem d53_62 : ins 53 62 = some (.getfield 69) := by decide +kernel
theorem d53_65 : ins 53 65 = some (.bipush 10) := by decide +kernel
theorem d53_67 : ins 53 67 = some (.imul) := by decide +kernel
theorem d53_68 : ins 53 68 = some (.aload_n 0) := by decide +kernel
theorem d53_69 : ins 53 69 = some (.getfield 18) := by decide +kernel
theorem d53_72 : ins 53 72 = some (.getfield 88) := by decide +kernel
theorem d53_75 : ins 53 75 = some (.aload_n 0) := by decide +kernel
theorem d53_76 : ins 53 76 = some (.getfield 38) := by decide +kernel
theorem d53_79 : ins 53 79 = some (.iaload) := by decide +kernel
theorem d53_80 : ins 53 80 = some (.iadd) := by decide +kernel
theorem d53_81 : ins 53 81 = some (.bipush 48) := by decide +kernel
theorem d53_83 : ins 53 83 = some (.isub) := by decide +kernel
theorem d53_84 : ins 53 84 = some (.goto 4) := by decide +kernel
theorem d53_87 : ins 53 87 = some (.iconst (-1)) := by decide +kernel
theorem d53_88 : ins 53 88 = some (.putfield 69) := by decide +kernel
theorem d53_91 : ins 53 91 = some (.aload_n 0) := by decide +kernel
theorem d53_92 : ins 53 92 = some (.dup) := by decide +kernel
theorem d53_93 : ins 53 93 = some (.getfield 38) := by decide +kernel
theorem d53_96 : ins 53 96 = some (.iconst 1) := by decide +kernel
theorem d53_97 : ins 53 97 = some (.iadd) := by decide +kernel
theorem d53_98 : ins 53 98 = some (.putfield 38) := by decide +kernel
theorem d53_101 : ins 53 101 = some (.goto (-96)) := by decide +kernel
theorem d53_104 : ins 53 104 = some (.return_) := by decide +kernel
set_option maxRecDepth 10000 in
theorem b53_0 {Q : Option Value → mm → Prop} (ρ : rm) (τ : Int64)  (hB : BM ρ)  : G 53 0 (some (.ref 5) :: []) [] (toM ρ τ) Q = G 53 5 (some (.ref 5) :: []) [] (toM (rup ρ 5 7 0) τ) Q := by
  refine (g_aload_n d53_0 rfl rfl).trans ?_
  refine (j_iconst d53_1).trans ?_
  refine (j_putI d53_2 f3_69 sh_5 (by decide) rfl).trans ?_
  rfl
set_option maxRecDepth 10000 in
theorem b53_5 {Q : Option Value → mm → Prop} (ρ : rm) (τ : Int64) (t : List (Option Value)) (hB : BM ρ)  : G 53 5 (some (.ref 5) :: t) [] (toM ρ τ) Q = (if (ρ 4 1) ≤ (ρ 5 4) then Q none (toM ρ τ) else (if 0 ≤ (ρ 5 4) ∧ (ρ 5 4) < 200 then G 55 0 [some (vI (ρ 37 (ρ 5 4)))] [] (toM ρ τ) (fun v μ2 => G 53 34 (some (.ref 5) :: t) (v.toList ++ []) μ2 Q) else False)) := by
  refine (g_aload_n d53_5 rfl rfl).trans ?_
  refine (j_getI (v := ρ 5 4) d53_6 f3_38 sh_5 (by decide) rfl rfl).trans ?_
  have q1 := hB 5 4 (by decide)
  refine (g_aload_n d53_9 rfl rfl).trans ?_
  refine (g_getR (q := 4) d53_10 f3_18 sh_5 (by decide) rfl).trans ?_
  refine (j_getI (v := ρ 4 1) d53_13 f3_83 sh_4 (by decide) rfl rfl).trans ?_
  have q2 := hB 4 1 (by decide)
  refine j_icmp_ge (tgt := 104) d53_16 (by decide) (by omega) (by omega) (fun q3 => ?_) (fun q3 => ?_)
  ·
    exact g_ret d53_104 rfl
  ·
    refine (g_aload_n d53_19 rfl rfl).trans ?_
    refine (g_getR (q := 4) d53_20 f3_18 sh_5 (by decide) rfl).trans ?_
    refine (g_getR (q := 37) d53_23 f3_88 sh_4 (by decide) rfl).trans ?_
    refine (g_aload_n d53_26 rfl rfl).trans ?_
    refine (j_getI (v := ρ 5 4) d53_27 f3_38 sh_5 (by decide) rfl rfl).trans ?_
    refine j_iaload (v := ρ 37 (ρ 5 4)) d53_30 sh_37 (by omega) rfl (fun q4 => ?_)
    have q5 := hB 37 (ρ 5 4) (by omega)
    exact g_cS d53_31 k3_97 rfl rfl rfl
set_option maxRecDepth 10000 in
theorem b53_34 {Q : Option Value → mm → Prop} (ρ : rm) (τ : Int64) (t : List (Option Value)) (r : Int) (hB : BM ρ) (h_r : SM r) : G 53 34 (some (.ref 5) :: t) ((some (vI r)).toList ++ []) (toM ρ τ) Q = (if r = 0 then Q none (toM ρ τ) else (if 4 ≤ ((ρ 5 4) - (ρ 5 6)) then G 53 5 (some (.ref 5) :: some (vI 0) :: t.tail) [] (toM (rup (rup ρ 5 7 (-1)) 5 4 ((ρ 5 4) + 1)) τ) Q else (if 0 ≤ (ρ 5 4) ∧ (ρ 5 4) < 200 then G 53 5 (some (.ref 5) :: some (vI 1) :: t.tail) [] (toM (rup (rup ρ 5 7 ((((ρ 5 7) * 10) + (ρ 37 (ρ 5 4))) - 48)) 5 4 ((ρ 5 4) + 1)) τ) Q else False))) := by
  refine j_if_eq (tgt := 104) d53_34 (by decide) (by omega) (fun q1 => ?_) (fun q1 => ?_)
  ·
    exact g_ret d53_104 rfl
  ·
    refine (g_aload_n d53_37 rfl rfl).trans ?_
    refine (j_getI (v := ρ 5 4) d53_38 f3_38 sh_5 (by decide) rfl rfl).trans ?_
    have q2 := hB 5 4 (by decide)
    refine (g_aload_n d53_41 rfl rfl).trans ?_
    refine (j_getI (v := ρ 5 6) d53_42 f3_45 sh_5 (by decide) rfl rfl).trans ?_
    have q3 := hB 5 6 (by decide)
    refine (j_isub d53_45).trans ?_
    refine (j_iconst d53_46).trans ?_
    refine j_icmp_ge (tgt := 54) d53_47 (by decide) (by omega) (by omega) (fun q4 => ?_) (fun q4 => ?_)
    ·
      refine (j_iconst d53_54).trans ?_
      refine (g_istore_n d53_55 (by decide) rfl rfl).trans ?_
      refine (g_aload_n d53_56 rfl rfl).trans ?_
      refine (g_iload_n d53_57 rfl).trans ?_
      refine ((g_if_eq (tgt := 87) d53_58 (by decide)).trans (if_pos (by decide))).trans ?_
      refine (j_iconst d53_87).trans ?_
      refine (j_putI d53_88 f3_69 sh_5 (by decide) rfl).trans ?_
      refine (g_aload_n d53_91 rfl rfl).trans ?_
      refine (g_dupR d53_92).trans ?_
      refine (j_getI (v := ρ 5 4) d53_93 f3_38 sh_5 (by decide) rfl (by simp [rup])).trans ?_
      refine (j_iconst d53_96).trans ?_
      refine (j_iadd d53_97).trans ?_
      refine (j_putI d53_98 f3_38 sh_5 (by decide) rfl).trans ?_
      refine (g_goto (tgt := 5) d53_101 (by decide)).trans ?_
      rfl
    ·
      refine (j_iconst d53_50).trans ?_
      refine (g_goto (tgt := 55) d53_51 (by decide)).trans ?_
      refine (g_istore_n d53_55 (by decide) rfl rfl).trans ?_
      refine (g_aload_n d53_56 rfl rfl).trans ?_
      refine (g_iload_n d53_57 rfl).trans ?_
      refine ((g_if_eq (tgt := 87) d53_58 (by decide)).trans (if_neg (by decide))).trans ?_
      refine (g_aload_n d53_61 rfl rfl).trans ?_
      refine (j_getI (v := ρ 5 7) d53_62 f3_69 sh_5 (by decide) rfl rfl).trans ?_
      have q5 := hB 5 7 (by decide)
      refine (j_bipush d53_65 (by decide)).trans ?_
      refine (j_imul d53_67).trans ?_
      refine (g_aload_n d53_68 rfl rfl).trans ?_
      refine (g_getR (q := 4) d53_69 f3_18 sh_5 (by decide) rfl).trans ?_
      refine (g_getR (q := 37) d53_72 f3_88 sh_4 (by decide) rfl).trans ?_
      refine (g_aload_n d53_75 rfl rfl).trans ?_
      refine (j_getI (v := ρ 5 4) d53_76 f3_38 sh_5 (by decide) rfl rfl).trans ?_
      refine j_iaload (v := ρ 37 (ρ 5 4)) d53_79 sh_37 (by omega) rfl (fun q6 => ?_)
      have q7 := hB 37 (ρ 5 4) (by omega)
      refine (j_iadd d53_80).trans ?_
      refine (j_bipush d53_81 (by decide)).trans ?_
      refine (j_isub d53_83).trans ?_
      refine (g_goto (tgt := 88) d53_84 (by decide)).trans ?_
      refine (j_putI d53_88 f3_69 sh_5 (by decide) rfl).trans ?_
      refine (g_aload_n d53_91 rfl rfl).trans ?_
      refine (g_dupR d53_92).trans ?_
      refine (j_getI (v := ρ 5 4) d53_93 f3_38 sh_5 (by decide) rfl (by simp [rup])).trans ?_
      refine (j_iconst d53_96).trans ?_
      refine (j_iadd d53_97).trans ?_
      refine (j_putI d53_98 f3_38 sh_5 (by decide) rfl).trans ?_
      refine (g_goto (tgt := 5) d53_101 (by decide)).trans ?_
      rfl
theorem d54_0 : ins 54 0 = some (.iload_n 0) := by decide +kernel
theorem d54_1 : ins 54 1 = some (.bipush 97) := by decide +kernel
theorem d54_3 : ins 54 3 = some (.if_icmp .lt 13) := by decide +kernel
theorem d54_6 : ins 54 6 = some (.iload_n 0) := by decide +kernel
theorem d54_7 : ins 54 7 = some (.bipush 122) := by decide +kernel
theorem d54_9 : ins 54 9 = some (.if_icmp .gt 7) := by decide +kernel
theorem d54_12 : ins 54 12 = some (.iconst 1) := by decide +kernel
theorem d54_13 : ins 54 13 = some (.goto 4) := by decide +kernel
theorem d54_16 : ins 54 16 = some (.iconst 0) := by decide +kernel
theorem d54_17 : ins 54 17 = some (.ireturn) := by decide +kernel
set_option maxRecDepth 10000 in
theorem b54_0 {Q : Option Value → mm → Prop} (ρ : rm) (τ : Int64) (a1 : Int) (hB : BM ρ) (h_a1 : SM a1) : G 54 0 (some (vI a1) :: []) [] (toM ρ τ) Q = (if a1 < 97 then Q (some (vI 0)) (toM ρ τ) else (if 122 < a1 then Q (some (vI 0)) (toM ρ τ) else Q (some (vI 1)) (toM ρ τ))) := by
  refine (g_iload_n d54_0 rfl).trans ?_
  refine (j_bipush d54_1 (by decide)).trans ?_
  refine j_icmp_lt (tgt := 16) d54_3 (by decide) (by omega) (by omega) (fun q1 => ?_) (fun q1 => ?_)
  ·
    refine (j_iconst d54_16).trans ?_
    exact g_iret d54_17 rfl rfl
  ·
    refine (g_iload_n d54_6 rfl).trans ?_
    refine (j_bipush d54_7 (by decide)).trans ?_
    refine j_icmp_gt (tgt := 16) d54_9 (by decide) (by omega) (by omega) (fun q2 => ?_) (fun q2 => ?_)
    ·
      refine (j_iconst d54_16).trans ?_
      exact g_iret d54_17 rfl rfl
    ·
      refine (j_iconst d54_12).trans ?_
      refine (g_goto (tgt := 17) d54_13 (by decide)).trans ?_
      exact g_iret d54_17 rfl rfl
theorem d55_0 : ins 55 0 = some (.iload_n 0) := by decide +kernel
theorem d55_1 : ins 55 1 = some (.bipush 48) := by decide +kernel
theorem d55_3 : ins 55 3 = some (.if_icmp .lt 13) := by decide +kernel
theorem d55_6 : ins 55 6 = some (.iload_n 0) := by decide +kernel
theorem d55_7 : ins 55 7 = some (.bipush 57) := by decide +kernel
theorem d55_9 : ins 55 9 = some (.if_icmp .gt 7) := by decide +kernel
theorem d55_12 : ins 55 12 = some (.iconst 1) := by decide +kernel
theorem d55_13 : ins 55 13 = some (.goto 4) := by decide +kernel
theorem d55_16 : ins 55 16 = some (.iconst 0) := by decide +kernel
theorem d55_17 : ins 55 17 = some (.ireturn) := by decide +kernel
set_option maxRecDepth 10000 in
theorem b55_0 {Q : Option Value → mm → Prop} (ρ : rm) (τ : Int64) (a1 : Int) (hB : BM ρ) (h_a1 : SM a1) : G 55 0 (some (vI a1) :: []) [] (toM ρ τ) Q = (if a1 < 48 then Q (some (vI 0)) (toM ρ τ) else (if 57 < a1 then Q (some (vI 0)) (toM ρ τ) else Q (some (vI 1)) (toM ρ τ))) := by
  refine (g_iload_n d55_0 rfl).trans ?_
  refine (j_bipush d55_1 (by decide)).trans ?_
  refine j_icmp_lt (tgt := 16) d55_3 (by decide) (by omega) (by omega) (fun q1 => ?_) (fun q1 => ?_)
  ·
    refine (j_iconst d55_16).trans ?_
    exact g_iret d55_17 rfl rfl
  ·
    refine (g_iload_n d55_6 rfl).trans ?_
    refine (j_bipush d55_7 (by decide)).trans ?_
    refine j_icmp_gt (tgt := 16) d55_9 (by decide) (by omega) (by omega) (fun q2 => ?_) (fun q2 => ?_)
    ·
      refine (j_iconst d55_16).trans ?_
      exact g_iret d55_17 rfl rfl
    ·
      refine (j_iconst d55_12).trans ?_
      refine (g_goto (tgt := 17) d55_13 (by decide)).trans ?_
      exact g_iret d55_17 rfl rfl
theorem d56_0 : ins 56 0 = some (.aload_n 0) := by decide +kernel
theorem d56_1 : ins 56 1 = some (.getfield 51) := by decide +kernel
theorem d56_4 : ins 56 4 = some (.iconst 1) := by decide +kernel
theorem d56_5 : ins 56 5 = some (.if_icmp .eq 5) := by decide +kernel
theorem d56_8 : ins 56 8 = some (.iconst 0) := by decide +kernel
theorem d56_9 : ins 56 9 = some (.ireturn) := by decide +kernel
theorem d56_10 : ins 56 10 = some (.aload_n 0) := by decide +kernel
theorem d56_11 : ins 56 11 = some (.ldc 103) := by decide +kernel
theorem d56_13 : ins 56 13 = some (.invokevirtual 105) := by decide +kernel
theorem d56_16 : ins 56 16 = some (.ifCond .eq 7) := by decide +kernel
theorem d56_19 : ins 56 19 = some (.iconst 1) := by decide +kernel
theorem d56_20 : ins 56 20 = some (.goto 84) := by decide +kernel
theorem d56_23 : ins 56 23 = some (.aload_n 0) := by decide +kernel
theorem d56_24 : ins 56 24 = some (.ldc 109) := by decide +kernel
theorem d56_26 : ins 56 26 = some (.invokevirtual 105) := by decide +kernel
theorem d56_29 : ins 56 29 = some (.ifCond .eq 7) := by decide +kernel
theorem d56_32 : ins 56 32 = some (.iconst 2) := by decide +kernel
theorem d56_33 : ins 56 33 = some (.goto 71) := by decide +kernel
theorem d56_36 : ins 56 36 = some (.aload_n 0) := by decide +kernel
theorem d56_37 : ins 56 37 = some (.ldc 111) := by decide +kernel
theorem d56_39 : ins 56 39 = some (.invokevirtual 105) := by decide +kernel
theorem d56_42 : ins 56 42 = some (.ifCond .eq 7) := by decide +kernel
theorem d56_45 : ins 56 45 = some (.iconst 3) := by decide +kernel
theorem d56_46 : ins 56 46 = some (.goto 58) := by decide +kernel
theorem d56_49 : ins 56 49 = some (.aload_n 0) := by decide +kernel
theorem d56_50 : ins 56 50 = some (.ldc 113) := by decide +kernel
theorem d56_52 : ins 56 52 = some (.invokevirtual 105) := by decide +kernel
theorem d56_55 : ins 56 55 = some (.ifCond .eq 7) := by decide +kernel
theorem d56_58 : ins 56 58 = some (.iconst 4) := by decide +kernel
theorem d56_59 : ins 56 59 = some (.goto 45) := by decide +kernel
theorem d56_62 : ins 56 62 = some (.aload_n 0) := by decide +kernel
theorem d56_63 : ins 56 63 = some (.ldc 115) := by decide +kernel
theorem d56_65 : ins 56 65 = some (.invokevirtual 105) := by decide +kernel
theorem d56_68 : ins 56 68 = some (.ifCond .eq 7) := by decide +kernel
theorem d56_71 : ins 56 71 = some (.iconst 5) := by decide +kernel
theorem d56_72 : ins 56 72 = some (.goto 32) := by decide +kernel
theorem d56_75 : ins 56 75 = some (.aload_n 0) := by decide +kernel
theorem d56_76 : ins 56 76 = some (.ldc 117) := by decide +kernel
theorem d56_78 : ins 56 78 = some (.invokevirtual 105) := by decide +kernel
theorem d56_81 : ins 56 81 = some (.ifCond .eq 8) := by decide +kernel
theorem d56_84 : ins 56 84 = some (.bipush 6) := by decide +kernel
theorem d56_86 : ins 56 86 = some (.goto 18) := by decide +kernel
theorem d56_89 : ins 56 89 = some (.aload_n 0) := by decide +kernel
theorem d56_90 : ins 56 90 = some (.ldc 119) := by decide +kernel
theorem d56_92 : ins 56 92 = some (.invokevirtual 105) := by decide +kernel
theorem d56_95 : ins 56 95 = some (.ifCond .eq 8) := by decide +kernel
theorem d56_98 : ins 56 98 = some (.bipush 7) := by decide +kernel
theorem d56_100 : ins 56 100 = some (.goto 4) := by decide +kernel
theorem d56_103 : ins 56 103 = some (.iconst 0) := by decide +kernel
theorem d56_104 : ins 56 104 = some (.ireturn) := by decide +kernel
set_option maxRecDepth 10000 in
theorem b56_0 {Q : Option Value → mm → Prop} (ρ : rm) (τ : Int64)  (hB : BM ρ)  : G 56 0 (some (.ref 5) :: []) [] (toM ρ τ) Q = (if (ρ 5 5) = 1 then G 57 0 [some (.ref 5), some (.ref 1000)] [] (toM ρ τ) (fun v μ2 => G 56 16 (some (.ref 5) :: []) (v.toList ++ []) μ2 Q) else Q (some (vI 0)) (toM ρ τ)) := by
  refine (g_aload_n d56_0 rfl rfl).trans ?_
  refine (j_getI (v := ρ 5 5) d56_1 f3_51 sh_5 (by decide) rfl rfl).trans ?_
  have q1 := hB 5 5 (by decide)
  refine (j_iconst d56_4).trans ?_
  refine j_icmp_eq (tgt := 10) d56_5 (by decide) (by omega) (by omega) (fun q2 => ?_) (fun q2 => ?_)
  ·
    refine (g_aload_n d56_10 rfl rfl).trans ?_
    refine (g_ldcS d56_11 cs3_103).trans ?_
    exact g_cV d56_13 k3_105 rfl rfl rfl
  ·
    refine (j_iconst d56_8).trans ?_
    exact g_iret d56_9 rfl rfl
set_option maxRecDepth 10000 in
theorem b56_16 {Q : Option Value → mm → Prop} (ρ : rm) (τ : Int64) (t : List (Option Value)) (r : Int) (hB : BM ρ) (h_r : SM r) : G 56 16 (some (.ref 5) :: t) ((some (vI r)).toList ++ []) (toM ρ τ) Q = (if r = 0 then G 57 0 [some (.ref 5), some (.ref 1001)] [] (toM ρ τ) (fun v μ2 => G 56 29 (some (.ref 5) :: t) (v.toList ++ []) μ2 Q) else Q (some (vI 1)) (toM ρ τ)) := by
  refine j_if_eq (tgt := 23) d56_16 (by decide) (by omega) (fun q1 => ?_) (fun q1 => ?_)
  ·
    refine (g_aload_n d56_23 rfl rfl).trans ?_
    refine (g_ldcS d56_24 cs3_109).trans ?_
    exact g_cV d56_26 k3_105 rfl rfl rfl
  ·
    refine (j_iconst d56_19).trans ?_
    refine (g_goto (tgt := 104) d56_20 (by decide)).trans ?_
    exact g_iret d56_104 rfl rfl
set_option maxRecDepth 10000 in
theorem b56_29 {Q : Option Value → mm → Prop} (ρ : rm) (τ : Int64) (t : List (Option Value)) (r : Int) (hB : BM ρ) (h_r : SM r) : G 56 29 (some (.ref 5) :: t) ((some (vI r)).toList ++ []) (toM ρ τ) Q = (if r = 0 then G 57 0 [some (.ref 5), some (.ref 1002)] [] (toM ρ τ) (fun v μ2 => G 56 42 (some (.ref 5) :: t) (v.toList ++ []) μ2 Q) else Q (some (vI 2)) (toM ρ τ)) := by
  refine j_if_eq (tgt := 36) d56_29 (by decide) (by omega) (fun q1 => ?_) (fun q1 => ?_)
  ·
    refine (g_aload_n d56_36 rfl rfl).trans ?_
    refine (g_ldcS d56_37 cs3_111).trans ?_
    exact g_cV d56_39 k3_105 rfl rfl rfl
  ·
    refine (j_iconst d56_32).trans ?_
    refine (g_goto (tgt := 104) d56_33 (by decide)).trans ?_
    exact g_iret d56_104 rfl rfl
set_option maxRecDepth 10000 in
theorem b56_42 {Q : Option Value → mm → Prop} (ρ : rm) (τ : Int64) (t : List (Option Value)) (r : Int) (hB : BM ρ) (h_r : SM r) : G 56 42 (some (.ref 5) :: t) ((some (vI r)).toList ++ []) (toM ρ τ) Q = (if r = 0 then G 57 0 [some (.ref 5), some (.ref 1003)] [] (toM ρ τ) (fun v μ2 => G 56 55 (some (.ref 5) :: t) (v.toList ++ []) μ2 Q) else Q (some (vI 3)) (toM ρ τ)) := by
  refine j_if_eq (tgt := 49) d56_42 (by decide) (by omega) (fun q1 => ?_) (fun q1 => ?_)
  ·
    refine (g_aload_n d56_49 rfl rfl).trans ?_
    refine (g_ldcS d56_50 cs3_113).trans ?_
    exact g_cV d56_52 k3_105 rfl rfl rfl
  ·
    refine (j_iconst d56_45).trans ?_
    refine (g_goto (tgt := 104) d56_46 (by decide)).trans ?_
    exact g_iret d56_104 rfl rfl
set_option maxRecDepth 10000 in
theorem b56_55 {Q : Option Value → mm → Prop} (ρ : rm) (τ : Int64) (t : List (Option Value)) (r : Int) (hB : BM ρ) (h_r : SM r) : G 56 55 (some (.ref 5) :: t) ((some (vI r)).toList ++ []) (toM ρ τ) Q = (if r = 0 then G 57 0 [some (.ref 5), some (.ref 1004)] [] (toM ρ τ) (fun v μ2 => G 56 68 (some (.ref 5) :: t) (v.toList ++ []) μ2 Q) else Q (some (vI 4)) (toM ρ τ)) := by
  refine j_if_eq (tgt := 62) d56_55 (by decide) (by omega) (fun q1 => ?_) (fun q1 => ?_)
  ·
    refine (g_aload_n d56_62 rfl rfl).trans ?_
    refine (g_ldcS d56_63 cs3_115).trans ?_
    exact g_cV d56_65 k3_105 rfl rfl rfl
  ·
    refine (j_iconst d56_58).trans ?_
    refine (g_goto (tgt := 104) d56_59 (by decide)).trans ?_
    exact g_iret d56_104 rfl rfl
set_option maxRecDepth 10000 in
theorem b56_68 {Q : Option Value → mm → Prop} (ρ : rm) (τ : Int64) (t : List (Option Value)) (r : Int) (hB : BM ρ) (h_r : SM r) : G 56 68 (some (.ref 5) :: t) ((some (vI r)).toList ++ []) (toM ρ τ) Q = (if r = 0 then G 57 0 [some (.ref 5), some (.ref 1005)] [] (toM ρ τ) (fun v μ2 => G 56 81 (some (.ref 5) :: t) (v.toList ++ []) μ2 Q) else Q (some (vI 5)) (toM ρ τ)) := by
  refine j_if_eq (tgt := 75) d56_68 (by decide) (by omega) (fun q1 => ?_) (fun q1 => ?_)
  ·
    refine (g_aload_n d56_75 rfl rfl).trans ?_
    refine (g_ldcS d56_76 cs3_117).trans ?_
    exact g_cV d56_78 k3_105 rfl rfl rfl
  ·
    refine (j_iconst d56_71).trans ?_
    refine (g_goto (tgt := 104) d56_72 (by decide)).trans ?_
    exact g_iret d56_104 rfl rfl
set_option maxRecDepth 10000 in
theorem b56_81 {Q : Option Value → mm → Prop} (ρ : rm) (τ : Int64) (t : List (Option Value)) (r : Int) (hB : BM ρ) (h_r : SM r) : G 56 81 (some (.ref 5) :: t) ((some (vI r)).toList ++ []) (toM ρ τ) Q = (if r = 0 then G 57 0 [some (.ref 5), some (.ref 1006)] [] (toM ρ τ) (fun v μ2 => G 56 95 (some (.ref 5) :: t) (v.toList ++ []) μ2 Q) else Q (some (vI 6)) (toM ρ τ)) := by
  refine j_if_eq (tgt := 89) d56_81 (by decide) (by omega) (fun q1 => ?_) (fun q1 => ?_)
  ·
    refine (g_aload_n d56_89 rfl rfl).trans ?_
    refine (g_ldcS d56_90 cs3_119).trans ?_
    exact g_cV d56_92 k3_105 rfl rfl rfl
  ·
    refine (j_bipush d56_84 (by decide)).trans ?_
    refine (g_goto (tgt := 104) d56_86 (by decide)).trans ?_
    exact g_iret d56_104 rfl rfl
set_option maxRecDepth 10000 in
theorem b56_95 {Q : Option Value → mm → Prop} (ρ : rm) (τ : Int64) (t : List (Option Value)) (r : Int) (hB : BM ρ) (h_r : SM r) : G 56 95 (some (.ref 5) :: t) ((some (vI r)).toList ++ []) (toM ρ τ) Q = (if r = 0 then Q (some (vI 0)) (toM ρ τ) else Q (some (vI 7)) (toM ρ τ)) := by
  refine j_if_eq (tgt := 103) d56_95 (by decide) (by omega) (fun q1 => ?_) (fun q1 => ?_)
  ·
    refine (j_iconst d56_103).trans ?_
    exact g_iret d56_104 rfl rfl
  ·
    refine (j_bipush d56_98 (by decide)).trans ?_
    refine (g_goto (tgt := 104) d56_100 (by decide)).trans ?_
    exact g_iret d56_104 rfl rfl
