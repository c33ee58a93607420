/-! loops, second pass (wip/gen/run_spec6.py) -/
set_option maxRecDepth 10000 in
theorem s176 {Q : Option Value → mm → Prop} (ρ : rm) (τ : Int64) (a1 : Int) (a2 : Int) (hT : TI ρ) (h_a1 : SB a1) (h_a2 : SB a2) : G 176 0 (some (.ref 51) :: some (vI a1) :: some (vI a2) :: []) [] (toM ρ τ) Q = (if 0 ≤ a1 ∧ a1 ≤ ρ 51 0 - 1 then (if 0 ≤ a2 ∧ a2 ≤ 1439 then G 175 0 [some (.ref 51)] [] (toM ρ τ) (fun v μ2 => G 176 31 (some (.ref 51) :: some (vI a1) :: some (vI a2) :: []) (v.toList ++ [vI 63]) μ2 Q) else Q (some (vI (-3))) (toM ρ τ)) else Q (some (vI (-2))) (toM ρ τ)) := by
  refine (g_aload_n d176_0 rfl rfl).trans ?_
  refine (g_iload_n d176_1 rfl).trans ?_
  refine (g_cV d176_2 k10_196 rfl rfl rfl).trans ?_
  show G 119 0 [some (.ref 51), some (vI a1)] [] (toM ρ τ) _ = _
  refine (m_isHouse hT.1 (by omega)).trans ?_
  show G 176 5 (some (.ref 51) :: some (vI a1) :: some (vI a2) :: []) [vI (tv (0 ≤ a1 ∧ a1 ≤ ρ 51 0 - 1))] (toM ρ τ) _ = _
  have q1 := (show 2 ≤ ρ 51 0 ∧ ρ 51 0 ≤ 10 from hT.2 51 0)
  refine j_ifT_ne (tgt := 11) d176_5 (by decide) (fun q2 => ?_) (fun q2 => ?_)
  ·
    refine (g_iload_n d176_11 rfl).trans ?_
    refine (j_iconst d176_12).trans ?_
    refine (j_sipush d176_13 (by decide)).trans ?_
    refine (g_cS d176_16 k10_69 rfl rfl rfl).trans ?_
    show G 117 0 [some (vI a2), some (vI 0), some (vI 1439)] [] (toM ρ τ) _ = _
    refine (m_in hT.1 (by omega) (by omega) (by omega)).trans ?_
    show G 176 19 (some (.ref 51) :: some (vI a1) :: some (vI a2) :: []) [vI (tv (0 ≤ a2 ∧ a2 ≤ 1439))] (toM ρ τ) _ = _
    refine j_ifT_ne (tgt := 25) d176_19 (by decide) (fun q3 => ?_) (fun q3 => ?_)
    ·
      refine (j_bipush d176_25 (by decide)).trans ?_
      refine (g_aload_n d176_27 rfl rfl).trans ?_
      exact g_cV d176_28 k10_257 rfl rfl rfl
    ·
      refine (j_bipush d176_22 (by decide)).trans ?_
      exact g_iret d176_24 rfl rfl
  ·
    refine (j_bipush d176_8 (by decide)).trans ?_
    exact g_iret d176_10 rfl rfl
set_option maxRecDepth 10000 in
theorem s176_31 {Q : Option Value → mm → Prop} (ρ : rm) (τ : Int64) (l1 : Int) (l2 : Int) (t : List (Option Value)) (s0 : Int) (r : Int) (hT : TI ρ) (h_l1 : SB l1) (h_l2 : SB l2) (h_s0 : SM s0) (h_r : SM r) : G 176 31 (some (.ref 51) :: some (vI l1) :: some (vI l2) :: t) ((some (vI r)).toList ++ [vI s0]) (toM ρ τ) Q = G 176 38 (some (.ref 51) :: some (vI l1) :: some (vI l2) :: some (vI ((iI s0 &&& iI ((iI r ^^^ iI (-1)).toInt)).toInt)) :: some (vI 0) :: t.tail.tail) [] (toM ρ τ) Q := by
  refine (j_iconst d176_31).trans ?_
  refine (j_ixor d176_32).trans ?_
  have q1 := SB_of (iI r ^^^ iI (-1))
  refine (j_iand d176_33).trans ?_
  have q2 := SB_of (iI s0 &&& iI ((iI r ^^^ iI (-1)).toInt))
  refine (g_istore_n d176_34 (by decide) rfl rfl).trans ?_
  refine (j_iconst d176_35).trans ?_
  refine (g_istore d176_36 (by decide) rfl rfl).trans ?_
  rfl
set_option maxRecDepth 10000 in
theorem s176_38 {Q : Option Value → mm → Prop} (ρ : rm) (τ : Int64) (l1 : Int) (l2 : Int) (l3 : Int) (l4 : Int) (t : List (Option Value)) (hT : TI ρ) (h_l1 : 0 ≤ l1 ∧ l1 < 10) (h_l2 : 0 ≤ l2 ∧ l2 ≤ 1439) (h_l3 : SM l3) (h_l4 : 0 ≤ l4 ∧ l4 ≤ 12) : G 176 38 (some (.ref 51) :: some (vI l1) :: some (vI l2) :: some (vI l3) :: some (vI l4) :: t) [] (toM ρ τ) Q = (if (ρ 51 32) ≤ l4 then Q (some (vI l3)) (toM ρ τ) else (if ρ 57 ((10 * l1) + (ρ 64 ((3 * l4) + 1))) ≤ iab (l2 + oS ρ l1 - (ρ 64 ((3 * l4) + 2)) - oS ρ (ρ 64 ((3 * l4) + 1))) then G 176 38 (some (.ref 51) :: some (vI l1) :: some (vI l2) :: some (vI l3) :: some (vI (l4 + 1)) :: t) [] (toM ρ τ) Q else G 176 38 (some (.ref 51) :: some (vI l1) :: some (vI l2) :: some (vI ((iI l3 &&& iI ((iI ((iI 1 <<< (iI (ρ 64 (3 * l4)) &&& 31)).toInt) ^^^ iI (-1)).toInt)).toInt)) :: some (vI (l4 + 1)) :: t) [] (toM ρ τ) Q)) := by
  refine (g_iload d176_38 rfl).trans ?_
  refine (g_aload_n d176_40 rfl rfl).trans ?_
  refine (j_getI (v := ρ 51 32) d176_41 f10_193 sh_51 (by decide) rfl rfl).trans ?_
  have q1 : 0 ≤ ρ 51 32 ∧ ρ 51 32 ≤ 12 := hT.2 51 32
  refine j_icmp_ge (tgt := 104) d176_44 (by decide) (by omega) (by omega) (fun q2 => ?_) (fun q2 => ?_)
  ·
    refine (g_iload_n d176_104 rfl).trans ?_
    exact g_iret d176_105 rfl rfl
  ·
    refine (g_aload_n d176_47 rfl rfl).trans ?_
    refine (g_iload_n d176_48 rfl).trans ?_
    refine (g_iload_n d176_49 rfl).trans ?_
    refine (g_aload_n d176_50 rfl rfl).trans ?_
    refine (g_getR (q := 64) d176_51 f10_51 sh_51 (by decide) rfl).trans ?_
    refine (j_iconst d176_54).trans ?_
    refine (g_iload d176_55 rfl).trans ?_
    refine (j_imul d176_57).trans ?_
    refine (j_iconst d176_58).trans ?_
    refine (j_iadd d176_59).trans ?_
    refine (j_ialoadB (v := ρ 64 ((3 * l4) + 1)) d176_60 sh_64 (by omega) (by decide) rfl).trans ?_
    have q3 := T64b hT l4
    refine (g_aload_n d176_61 rfl rfl).trans ?_
    refine (g_getR (q := 64) d176_62 f10_51 sh_51 (by decide) rfl).trans ?_
    refine (j_iconst d176_65).trans ?_
    refine (g_iload d176_66 rfl).trans ?_
    refine (j_imul d176_68).trans ?_
    refine (j_iconst d176_69).trans ?_
    refine (j_iadd d176_70).trans ?_
    refine (j_ialoadB (v := ρ 64 ((3 * l4) + 2)) d176_71 sh_64 (by omega) (by decide) rfl).trans ?_
    have q4 := T64c hT l4
    refine (g_cV d176_72 k10_253 rfl rfl rfl).trans ?_
    show G 174 0 [some (.ref 51), some (vI l1), some (vI l2), some (vI (ρ 64 ((3 * l4) + 1))), some (vI (ρ 64 ((3 * l4) + 2)))] [] (toM ρ τ) _ = _
    refine (m_both hT (by omega) (by omega) (by omega) (by omega)).trans ?_
    show G 176 75 (some (.ref 51) :: some (vI l1) :: some (vI l2) :: some (vI l3) :: some (vI l4) :: t) [vI (tv (ρ 57 ((10 * l1) + (ρ 64 ((3 * l4) + 1))) ≤ iab (l2 + oS ρ l1 - (ρ 64 ((3 * l4) + 2)) - oS ρ (ρ 64 ((3 * l4) + 1)))))] (toM ρ τ) _ = _
    refine j_ifT_eq (tgt := 82) d176_75 (by decide) (fun q5 => ?_) (fun q5 => ?_)
    ·
      refine (g_iload_n d176_78 rfl).trans ?_
      refine (g_goto (tgt := 97) d176_79 (by decide)).trans ?_
      refine (g_istore_n d176_97 (by decide) rfl rfl).trans ?_
      refine (j_iinc d176_98 rfl (by decide) rfl rfl).trans ?_
      refine (g_goto (tgt := 38) d176_101 (by decide)).trans ?_
      rfl
    ·
      refine (g_iload_n d176_82 rfl).trans ?_
      refine (j_iconst d176_83).trans ?_
      refine (g_aload_n d176_84 rfl rfl).trans ?_
      refine (g_getR (q := 64) d176_85 f10_51 sh_51 (by decide) rfl).trans ?_
      refine (j_iconst d176_88).trans ?_
      refine (g_iload d176_89 rfl).trans ?_
      refine (j_imul d176_91).trans ?_
      refine (j_ialoadB (v := ρ 64 (3 * l4)) d176_92 sh_64 (by omega) (by decide) rfl).trans ?_
      have q6 := T64a hT l4
      refine (j_ishl d176_93).trans ?_
      have q7 := SB_of (iI 1 <<< (iI (ρ 64 (3 * l4)) &&& 31))
      refine (j_iconst d176_94).trans ?_
      refine (j_ixor d176_95).trans ?_
      have q8 := SB_of (iI ((iI 1 <<< (iI (ρ 64 (3 * l4)) &&& 31)).toInt) ^^^ iI (-1))
      refine (j_iand d176_96).trans ?_
      have q9 := SB_of (iI l3 &&& iI ((iI ((iI 1 <<< (iI (ρ 64 (3 * l4)) &&& 31)).toInt) ^^^ iI (-1)).toInt))
      refine (g_istore_n d176_97 (by decide) rfl rfl).trans ?_
      refine (j_iinc d176_98 rfl (by decide) rfl rfl).trans ?_
      refine (g_goto (tgt := 38) d176_101 (by decide)).trans ?_
      rfl
