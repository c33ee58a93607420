/-! loops, second pass (wip/gen/run_spec4.py) -/
set_option maxRecDepth 10000 in
theorem s21 {Q : Option Value → mm → Prop} (ρ : rm) (τ : Int64) (a1 : Int) (hT : TI ρ) (h_a1 : 0 ≤ a1 ∧ a1 < 10) : G 21 0 (some (.ref 2) :: some (vI a1) :: []) [] (toM ρ τ) Q = G 21 4 (some (.ref 2) :: some (vI a1) :: some (vI 0) :: some (vI 0) :: []) [] (toM ρ τ) Q := by
  refine (j_iconst d21_0).trans ?_
  refine (g_istore_n d21_1 (by decide) rfl rfl).trans ?_
  refine (j_iconst d21_2).trans ?_
  refine (g_istore_n d21_3 (by decide) rfl rfl).trans ?_
  rfl
set_option maxRecDepth 10000 in
theorem s21_4 {Q : Option Value → mm → Prop} (ρ : rm) (τ : Int64) (l1 : Int) (l2 : Int) (l3 : Int) (t : List (Option Value)) (hT : TI ρ) (h_l1 : 0 ≤ l1 ∧ l1 < 10) (h_l2 : SM l2) (h_l3 : 0 ≤ l3 ∧ l3 ≤ 10) : G 21 4 (some (.ref 2) :: some (vI l1) :: some (vI l2) :: some (vI l3) :: t) [] (toM ρ τ) Q = (if (ρ 2 4) ≤ l3 then Q (some (vI l2)) (toM ρ τ) else G 21 4 (some (.ref 2) :: some (vI l1) :: some (vI (l2 + (iab ((ρ 10 l1) - (ρ 10 (ρ 27 l3)))))) :: some (vI (l3 + 1)) :: t) [] (toM ρ τ) Q) := by
  refine (g_iload_n d21_4 rfl).trans ?_
  refine (g_aload_n d21_5 rfl rfl).trans ?_
  refine (j_getI (v := ρ 2 4) d21_6 f1_31 sh_2 (by decide) rfl rfl).trans ?_
  have q1 : 0 ≤ ρ 2 4 ∧ ρ 2 4 ≤ 10 := hT.2 2 4
  refine j_icmp_ge (tgt := 48) d21_9 (by decide) (by omega) (by omega) (fun q2 => ?_) (fun q2 => ?_)
  ·
    refine (g_iload_n d21_48 rfl).trans ?_
    exact g_iret d21_49 rfl rfl
  ·
    refine (g_iload_n d21_12 rfl).trans ?_
    refine (g_aload_n d21_13 rfl rfl).trans ?_
    refine (g_getR (q := 1) d21_14 f1_27 sh_2 (by decide) rfl).trans ?_
    refine (g_getR (q := 10) d21_17 f1_74 sh_1 (by decide) rfl).trans ?_
    refine (g_iload_n d21_20 rfl).trans ?_
    refine (j_ialoadB (v := ρ 10 l1) d21_21 sh_10 (by omega) (by decide) rfl).trans ?_
    have q3 : 0 ≤ ρ 10 l1 ∧ ρ 10 l1 ≤ 8991 := hT.2 10 l1
    refine (g_aload_n d21_22 rfl rfl).trans ?_
    refine (g_getR (q := 1) d21_23 f1_27 sh_2 (by decide) rfl).trans ?_
    refine (g_getR (q := 10) d21_26 f1_74 sh_1 (by decide) rfl).trans ?_
    refine (g_aload_n d21_29 rfl rfl).trans ?_
    refine (g_getR (q := 27) d21_30 f1_9 sh_2 (by decide) rfl).trans ?_
    refine (g_iload_n d21_33 rfl).trans ?_
    refine (j_ialoadB (v := ρ 27 l3) d21_34 sh_27 (by omega) (by decide) rfl).trans ?_
    have q4 : 0 ≤ ρ 27 l3 ∧ ρ 27 l3 ≤ 9 := hT.2 27 l3
    refine (j_ialoadB (v := ρ 10 (ρ 27 l3)) d21_35 sh_10 (by omega) (by decide) rfl).trans ?_
    have q5 : 0 ≤ ρ 10 (ρ 27 l3) ∧ ρ 10 (ρ 27 l3) ≤ 8991 := hT.2 10 (ρ 27 l3)
    refine (j_isub d21_36).trans ?_
    refine (g_cS d21_37 k1_77 rfl rfl rfl).trans ?_
    show G 183 0 [some (vI ((ρ 10 l1) - (ρ 10 (ρ 27 l3))))] [] (toM ρ τ) _ = _
    refine (c_abs hT.1 (by omega)).trans ?_
    show G 21 40 (some (.ref 2) :: some (vI l1) :: some (vI l2) :: some (vI l3) :: t) [vI (iab ((ρ 10 l1) - (ρ 10 (ρ 27 l3)))), vI l2] (toM ρ τ) _ = _
    have q6 := iab_bd ((ρ 10 l1) - (ρ 10 (ρ 27 l3)))
    refine (j_iadd d21_40).trans ?_
    refine (g_istore_n d21_41 (by decide) rfl rfl).trans ?_
    refine (j_iinc d21_42 rfl (by decide) rfl rfl).trans ?_
    refine (g_goto (tgt := 4) d21_45 (by decide)).trans ?_
    rfl
set_option maxRecDepth 10000 in
theorem s177 {Q : Option Value → mm → Prop} (ρ : rm) (τ : Int64) (a1 : Int) (hT : TI ρ) (h_a1 : SB a1) : G 177 0 (some (.ref 51) :: some (vI a1) :: []) [] (toM ρ τ) Q = (if 0 ≤ a1 ∧ a1 ≤ 1 then (if (ρ 51 5) = 0 then Q (some (vI (-4))) (toM ρ τ) else G 177 29 (some (.ref 51) :: some (vI a1) :: some (vI (-1)) :: some (vI 0) :: some (vI 0) :: []) [] (toM ρ τ) Q) else Q (some (vI (-3))) (toM ρ τ)) := by
  refine (g_iload_n d177_0 rfl).trans ?_
  refine (j_iconst d177_1).trans ?_
  refine (j_iconst d177_2).trans ?_
  refine (g_cS d177_3 k10_69 rfl rfl rfl).trans ?_
  show G 117 0 [some (vI a1), some (vI 0), some (vI 1)] [] (toM ρ τ) _ = _
  refine (m_in hT.1 (by omega) (by omega) (by omega)).trans ?_
  show G 177 6 (some (.ref 51) :: some (vI a1) :: []) [vI (tv (0 ≤ a1 ∧ a1 ≤ 1))] (toM ρ τ) _ = _
  refine j_ifT_ne (tgt := 12) d177_6 (by decide) (fun q1 => ?_) (fun q1 => ?_)
  ·
    refine (g_aload_n d177_12 rfl rfl).trans ?_
    refine (j_getI (v := ρ 51 5) d177_13 f10_73 sh_51 (by decide) rfl rfl).trans ?_
    have q2 : 0 ≤ ρ 51 5 ∧ ρ 51 5 ≤ 10 := hT.2 51 5
    refine j_if_ne (tgt := 22) d177_16 (by decide) (by omega) (fun q3 => ?_) (fun q3 => ?_)
    ·
      refine (j_bipush d177_19 (by decide)).trans ?_
      exact g_iret d177_21 rfl rfl
    ·
      refine (j_iconst d177_22).trans ?_
      refine (g_istore_n d177_23 (by decide) rfl rfl).trans ?_
      refine (j_iconst d177_24).trans ?_
      refine (g_istore_n d177_25 (by decide) rfl rfl).trans ?_
      refine (j_iconst d177_26).trans ?_
      refine (g_istore d177_27 (by decide) rfl rfl).trans ?_
      rfl
  ·
    refine (j_bipush d177_9 (by decide)).trans ?_
    exact g_iret d177_11 rfl rfl
set_option maxRecDepth 10000 in
theorem s177_29 {Q : Option Value → mm → Prop} (ρ : rm) (τ : Int64) (l1 : Int) (l2 : Int) (l3 : Int) (l4 : Int) (t : List (Option Value)) (hT : TI ρ) (h_l1 : SB l1) (h_l2 : SM l2) (h_l3 : SM l3) (h_l4 : 0 ≤ l4 ∧ l4 ≤ 10) : G 177 29 (some (.ref 51) :: some (vI l1) :: some (vI l2) :: some (vI l3) :: some (vI l4) :: t) [] (toM ρ τ) Q = (if (ρ 51 0) ≤ l4 then (if l1 = 0 then Q (some (vI l2)) (toM ρ τ) else Q (some (vI l3)) (toM ρ τ)) else G 177 44 (some (.ref 51) :: some (vI l1) :: some (vI l2) :: some (vI l3) :: some (vI l4) :: some (vI 0) :: some (vI 0) :: t.tail.tail) [] (toM ρ τ) Q) := by
  refine (g_iload d177_29 rfl).trans ?_
  refine (g_aload_n d177_31 rfl rfl).trans ?_
  refine (j_getI (v := ρ 51 0) d177_32 f10_7 sh_51 (by decide) rfl rfl).trans ?_
  have q1 : 2 ≤ ρ 51 0 ∧ ρ 51 0 ≤ 10 := hT.2 51 0
  refine j_icmp_ge (tgt := 147) d177_35 (by decide) (by omega) (by omega) (fun q2 => ?_) (fun q2 => ?_)
  ·
    refine (g_iload_n d177_147 rfl).trans ?_
    refine j_if_ne (tgt := 155) d177_148 (by decide) (by omega) (fun q3 => ?_) (fun q3 => ?_)
    ·
      refine (g_iload_n d177_151 rfl).trans ?_
      refine (g_goto (tgt := 156) d177_152 (by decide)).trans ?_
      exact g_iret d177_156 rfl rfl
    ·
      refine (g_iload_n d177_155 rfl).trans ?_
      exact g_iret d177_156 rfl rfl
  ·
    refine (j_iconst d177_38).trans ?_
    refine (g_istore d177_39 (by decide) rfl rfl).trans ?_
    refine (j_iconst d177_41).trans ?_
    refine (g_istore d177_42 (by decide) rfl rfl).trans ?_
    rfl
set_option maxRecDepth 10000 in
theorem s177_44 {Q : Option Value → mm → Prop} (ρ : rm) (τ : Int64) (l1 : Int) (l2 : Int) (l3 : Int) (l4 : Int) (l5 : Int) (l6 : Int) (t : List (Option Value)) (hT : TI ρ) (h_l1 : SB l1) (h_l2 : SM l2) (h_l3 : SM l3) (h_l4 : 0 ≤ l4 ∧ l4 < 10) (h_l5 : SM l5) (h_l6 : 0 ≤ l6 ∧ l6 ≤ 10) : G 177 44 (some (.ref 51) :: some (vI l1) :: some (vI l2) :: some (vI l3) :: some (vI l4) :: some (vI l5) :: some (vI l6) :: t) [] (toM ρ τ) Q = (if (ρ 51 5) ≤ l6 then (if l2 = (-1) then G 177 29 (some (.ref 51) :: some (vI l1) :: some (vI l4) :: some (vI l5) :: some (vI (l4 + 1)) :: some (vI l5) :: some (vI 1) :: t) [] (toM ρ τ) Q else (if l3 ≤ l5 then G 177 29 (some (.ref 51) :: some (vI l1) :: some (vI l2) :: some (vI l3) :: some (vI (l4 + 1)) :: some (vI l5) :: some (vI 0) :: t) [] (toM ρ τ) Q else G 177 29 (some (.ref 51) :: some (vI l1) :: some (vI l4) :: some (vI l5) :: some (vI (l4 + 1)) :: some (vI l5) :: some (vI 1) :: t) [] (toM ρ τ) Q)) else (if 0 ≤ ((oS ρ (ρ 55 (3 * l6))) - (oS ρ l4)) then G 177 44 (some (.ref 51) :: some (vI l1) :: some (vI l2) :: some (vI l3) :: some (vI l4) :: some (vI (l5 + ((oS ρ (ρ 55 (3 * l6))) - (oS ρ l4)))) :: some (vI (l6 + 1)) :: some (vI ((oS ρ (ρ 55 (3 * l6))) - (oS ρ l4))) :: t.tail) [] (toM ρ τ) Q else G 177 44 (some (.ref 51) :: some (vI l1) :: some (vI l2) :: some (vI l3) :: some (vI l4) :: some (vI (l5 + (-((oS ρ (ρ 55 (3 * l6))) - (oS ρ l4))))) :: some (vI (l6 + 1)) :: some (vI ((oS ρ (ρ 55 (3 * l6))) - (oS ρ l4))) :: t.tail) [] (toM ρ τ) Q)) := by
  refine (g_iload d177_44 rfl).trans ?_
  refine (g_aload_n d177_46 rfl rfl).trans ?_
  refine (j_getI (v := ρ 51 5) d177_47 f10_73 sh_51 (by decide) rfl rfl).trans ?_
  have q1 : 0 ≤ ρ 51 5 ∧ ρ 51 5 ≤ 10 := hT.2 51 5
  refine j_icmp_ge (tgt := 99) d177_50 (by decide) (by omega) (by omega) (fun q2 => ?_) (fun q2 => ?_)
  ·
    refine (g_iload_n d177_99 rfl).trans ?_
    refine (j_iconst d177_100).trans ?_
    refine j_icmp_eq (tgt := 110) d177_101 (by decide) (by omega) (by omega) (fun q3 => ?_) (fun q3 => ?_)
    ·
      refine (j_iconst d177_110).trans ?_
      refine (g_goto (tgt := 115) d177_111 (by decide)).trans ?_
      refine (g_istore d177_115 (by decide) rfl rfl).trans ?_
      refine (g_iload d177_117 rfl).trans ?_
      refine ((g_if_eq (tgt := 127) d177_119 (by decide)).trans (if_neg (by decide))).trans ?_
      refine (g_iload d177_122 rfl).trans ?_
      refine (g_goto (tgt := 128) d177_124 (by decide)).trans ?_
      refine (g_istore_n d177_128 (by decide) rfl rfl).trans ?_
      refine (g_iload d177_129 rfl).trans ?_
      refine ((g_if_eq (tgt := 139) d177_131 (by decide)).trans (if_neg (by decide))).trans ?_
      refine (g_iload d177_134 rfl).trans ?_
      refine (g_goto (tgt := 140) d177_136 (by decide)).trans ?_
      refine (g_istore_n d177_140 (by decide) rfl rfl).trans ?_
      refine (j_iinc d177_141 rfl (by decide) rfl rfl).trans ?_
      refine (g_goto (tgt := 29) d177_144 (by decide)).trans ?_
      rfl
    ·
      refine (g_iload d177_104 rfl).trans ?_
      refine (g_iload_n d177_106 rfl).trans ?_
      refine j_icmp_ge (tgt := 114) d177_107 (by decide) (by omega) (by omega) (fun q4 => ?_) (fun q4 => ?_)
      ·
        refine (j_iconst d177_114).trans ?_
        refine (g_istore d177_115 (by decide) rfl rfl).trans ?_
        refine (g_iload d177_117 rfl).trans ?_
        refine ((g_if_eq (tgt := 127) d177_119 (by decide)).trans (if_pos (by decide))).trans ?_
        refine (g_iload_n d177_127 rfl).trans ?_
        refine (g_istore_n d177_128 (by decide) rfl rfl).trans ?_
        refine (g_iload d177_129 rfl).trans ?_
        refine ((g_if_eq (tgt := 139) d177_131 (by decide)).trans (if_pos (by decide))).trans ?_
        refine (g_iload_n d177_139 rfl).trans ?_
        refine (g_istore_n d177_140 (by decide) rfl rfl).trans ?_
        refine (j_iinc d177_141 rfl (by decide) rfl rfl).trans ?_
        refine (g_goto (tgt := 29) d177_144 (by decide)).trans ?_
        rfl
      ·
        refine (j_iconst d177_110).trans ?_
        refine (g_goto (tgt := 115) d177_111 (by decide)).trans ?_
        refine (g_istore d177_115 (by decide) rfl rfl).trans ?_
        refine (g_iload d177_117 rfl).trans ?_
        refine ((g_if_eq (tgt := 127) d177_119 (by decide)).trans (if_neg (by decide))).trans ?_
        refine (g_iload d177_122 rfl).trans ?_
        refine (g_goto (tgt := 128) d177_124 (by decide)).trans ?_
        refine (g_istore_n d177_128 (by decide) rfl rfl).trans ?_
        refine (g_iload d177_129 rfl).trans ?_
        refine ((g_if_eq (tgt := 139) d177_131 (by decide)).trans (if_neg (by decide))).trans ?_
        refine (g_iload d177_134 rfl).trans ?_
        refine (g_goto (tgt := 140) d177_136 (by decide)).trans ?_
        refine (g_istore_n d177_140 (by decide) rfl rfl).trans ?_
        refine (j_iinc d177_141 rfl (by decide) rfl rfl).trans ?_
        refine (g_goto (tgt := 29) d177_144 (by decide)).trans ?_
        rfl
  ·
    refine (g_aload_n d177_53 rfl rfl).trans ?_
    refine (g_aload_n d177_54 rfl rfl).trans ?_
    refine (g_getR (q := 55) d177_55 f10_23 sh_51 (by decide) rfl).trans ?_
    refine (j_iconst d177_58).trans ?_
    refine (g_iload d177_59 rfl).trans ?_
    refine (j_imul d177_61).trans ?_
    refine (j_ialoadB (v := ρ 55 (3 * l6)) d177_62 sh_55 (by omega) (by decide) rfl).trans ?_
    have q5 := T55a hT l6
    refine (g_cV d177_63 k10_199 rfl rfl rfl).trans ?_
    show G 137 0 [some (.ref 51), some (vI (ρ 55 (3 * l6)))] [] (toM ρ τ) _ = _
    refine (m_offOf hT.1 (by omega)).trans ?_
    show G 177 66 (some (.ref 51) :: some (vI l1) :: some (vI l2) :: some (vI l3) :: some (vI l4) :: some (vI l5) :: some (vI l6) :: t) [vI (oS ρ (ρ 55 (3 * l6)))] (toM ρ τ) _ = _
    have q6 := oS_rg hT (h := ρ 55 (3 * l6)) (by omega)
    refine (g_aload_n d177_66 rfl rfl).trans ?_
    refine (g_iload d177_67 rfl).trans ?_
    refine (g_cV d177_69 k10_199 rfl rfl rfl).trans ?_
    show G 137 0 [some (.ref 51), some (vI l4)] [] (toM ρ τ) _ = _
    refine (m_offOf hT.1 (by omega)).trans ?_
    show G 177 72 (some (.ref 51) :: some (vI l1) :: some (vI l2) :: some (vI l3) :: some (vI l4) :: some (vI l5) :: some (vI l6) :: t) [vI (oS ρ l4), vI (oS ρ (ρ 55 (3 * l6)))] (toM ρ τ) _ = _
    have q7 := oS_rg hT (h := l4) (by omega)
    refine (j_isub d177_72).trans ?_
    refine (g_istore d177_73 (by decide) rfl rfl).trans ?_
    refine (g_iload d177_75 rfl).trans ?_
    refine (g_iload d177_77 rfl).trans ?_
    refine j_if_ge (tgt := 88) d177_79 (by decide) (by omega) (fun q8 => ?_) (fun q8 => ?_)
    ·
      refine (g_iload d177_88 rfl).trans ?_
      refine (j_iadd d177_90).trans ?_
      refine (g_istore d177_91 (by decide) rfl rfl).trans ?_
      refine (j_iinc d177_93 rfl (by decide) rfl rfl).trans ?_
      refine (g_goto (tgt := 44) d177_96 (by decide)).trans ?_
      rfl
    ·
      refine (g_iload d177_82 rfl).trans ?_
      refine (j_ineg d177_84).trans ?_
      refine (g_goto (tgt := 90) d177_85 (by decide)).trans ?_
      refine (j_iadd d177_90).trans ?_
      refine (g_istore d177_91 (by decide) rfl rfl).trans ?_
      refine (j_iinc d177_93 rfl (by decide) rfl rfl).trans ?_
      refine (g_goto (tgt := 44) d177_96 (by decide)).trans ?_
      rfl
set_option maxRecDepth 10000 in
theorem s65 {Q : Option Value → mm → Prop} (ρ : rm) (τ : Int64) (a1 : Int) (a2 : Int) (hT : TI ρ) (h_a1 : 0 ≤ a1 ∧ a1 < 10) (h_a2 : 0 ≤ a2 ∧ a2 ≤ 20000) : G 65 0 (some (.ref 9) :: some (vI a1) :: some (vI a2) :: []) [] (toM ρ τ) Q = G 65 5 (some (.ref 9) :: some (vI a1) :: some (vI a2) :: some (vI 0) :: some (vI 0) :: []) [] (toM ρ τ) Q := by
  refine (j_iconst d65_0).trans ?_
  refine (g_istore_n d65_1 (by decide) rfl rfl).trans ?_
  refine (j_iconst d65_2).trans ?_
  refine (g_istore d65_3 (by decide) rfl rfl).trans ?_
  rfl
set_option maxRecDepth 10000 in
theorem s65_5 {Q : Option Value → mm → Prop} (ρ : rm) (τ : Int64) (l1 : Int) (l2 : Int) (l3 : Int) (l4 : Int) (t : List (Option Value)) (hT : TI ρ) (h_l1 : 0 ≤ l1 ∧ l1 < 10) (h_l2 : 0 ≤ l2 ∧ l2 ≤ 20000) (h_l3 : SM l3) (h_l4 : 0 ≤ l4 ∧ l4 ≤ 12) : G 65 5 (some (.ref 9) :: some (vI l1) :: some (vI l2) :: some (vI l3) :: some (vI l4) :: t) [] (toM ρ τ) Q = (if (ρ 9 0) ≤ l4 then Q (some (vI l3)) (toM ρ τ) else (if (ρ (17 + l1.toNat) (ρ 49 l4)) ≤ (iab (l2 - (ρ 50 l4))) then G 65 5 (some (.ref 9) :: some (vI l1) :: some (vI l2) :: some (vI l3) :: some (vI (l4 + 1)) :: t) [] (toM ρ τ) Q else G 65 5 (some (.ref 9) :: some (vI l1) :: some (vI l2) :: some (vI ((iI l3 ||| iI ((iI 1 <<< (iI (ρ 48 l4) &&& 31)).toInt)).toInt)) :: some (vI (l4 + 1)) :: t) [] (toM ρ τ) Q)) := by
  refine (g_iload d65_5 rfl).trans ?_
  refine (g_aload_n d65_7 rfl rfl).trans ?_
  refine (j_getI (v := ρ 9 0) d65_8 f5_25 sh_9 (by decide) rfl rfl).trans ?_
  have q1 : 0 ≤ ρ 9 0 ∧ ρ 9 0 ≤ 12 := hT.2 9 0
  refine j_icmp_ge (tgt := 62) d65_11 (by decide) (by omega) (by omega) (fun q2 => ?_) (fun q2 => ?_)
  ·
    refine (g_iload_n d65_62 rfl).trans ?_
    exact g_iret d65_63 rfl rfl
  ·
    refine (g_aload_n d65_14 rfl rfl).trans ?_
    refine (g_getR (q := 1) d65_15 f5_21 sh_9 (by decide) rfl).trans ?_
    refine (g_iload_n d65_18 rfl).trans ?_
    refine (g_aload_n d65_19 rfl rfl).trans ?_
    refine (g_getR (q := 49) d65_20 f5_15 sh_9 (by decide) rfl).trans ?_
    refine (g_iload d65_23 rfl).trans ?_
    refine (j_ialoadB (v := ρ 49 l4) d65_25 sh_49 (by omega) (by decide) rfl).trans ?_
    have q3 : 0 ≤ ρ 49 l4 ∧ ρ 49 l4 ≤ 9 := hT.2 49 l4
    refine (g_cV d65_26 k5_35 rfl rfl rfl).trans ?_
    show G 33 0 [some (.ref 1), some (vI l1), some (vI (ρ 49 l4))] [] (toM ρ τ) _ = _
    refine (c_dist hT.1 (by omega) (by omega)).trans ?_
    show G 65 29 (some (.ref 9) :: some (vI l1) :: some (vI l2) :: some (vI l3) :: some (vI l4) :: t) [vI (ρ (17 + l1.toNat) (ρ 49 l4))] (toM ρ τ) _ = _
    have q4 := TI.row hT (k := 17 + l1.toNat) (by omega) (ρ 49 l4)
    refine (g_iload_n d65_29 rfl).trans ?_
    refine (g_aload_n d65_30 rfl rfl).trans ?_
    refine (g_getR (q := 50) d65_31 f5_18 sh_9 (by decide) rfl).trans ?_
    refine (g_iload d65_34 rfl).trans ?_
    refine (j_ialoadB (v := ρ 50 l4) d65_36 sh_50 (by omega) (by decide) rfl).trans ?_
    have q5 : 0 ≤ ρ 50 l4 ∧ ρ 50 l4 ≤ 20000 := hT.2 50 l4
    refine (j_isub d65_37).trans ?_
    refine (g_cS d65_38 k5_38 rfl rfl rfl).trans ?_
    show G 183 0 [some (vI (l2 - (ρ 50 l4)))] [] (toM ρ τ) _ = _
    refine (c_abs hT.1 (by omega)).trans ?_
    show G 65 41 (some (.ref 9) :: some (vI l1) :: some (vI l2) :: some (vI l3) :: some (vI l4) :: t) [vI (iab (l2 - (ρ 50 l4))), vI (ρ (17 + l1.toNat) (ρ 49 l4))] (toM ρ τ) _ = _
    have q6 := iab_bd (l2 - (ρ 50 l4))
    refine j_icmp_le (tgt := 56) d65_41 (by decide) (by omega) (by omega) (fun q7 => ?_) (fun q7 => ?_)
    ·
      refine (j_iinc d65_56 rfl (by decide) rfl rfl).trans ?_
      refine (g_goto (tgt := 5) d65_59 (by decide)).trans ?_
      rfl
    ·
      refine (g_iload_n d65_44 rfl).trans ?_
      refine (j_iconst d65_45).trans ?_
      refine (g_aload_n d65_46 rfl rfl).trans ?_
      refine (g_getR (q := 48) d65_47 f5_9 sh_9 (by decide) rfl).trans ?_
      refine (g_iload d65_50 rfl).trans ?_
      refine (j_ialoadB (v := ρ 48 l4) d65_52 sh_48 (by omega) (by decide) rfl).trans ?_
      have q8 : 0 ≤ ρ 48 l4 ∧ ρ 48 l4 ≤ 5 := hT.2 48 l4
      refine (j_ishl d65_53).trans ?_
      have q9 := SB_of (iI 1 <<< (iI (ρ 48 l4) &&& 31))
      refine (j_ior d65_54).trans ?_
      have q10 := SB_of (iI l3 ||| iI ((iI 1 <<< (iI (ρ 48 l4) &&& 31)).toInt))
      refine (g_istore_n d65_55 (by decide) rfl rfl).trans ?_
      refine (j_iinc d65_56 rfl (by decide) rfl rfl).trans ?_
      refine (g_goto (tgt := 5) d65_59 (by decide)).trans ?_
      rfl
set_option maxRecDepth 10000 in
theorem s60 {Q : Option Value → mm → Prop} (ρ : rm) (τ : Int64) (a1 : Int) (a2 : Int) (a3 : Int) (hT : TI ρ) (h_a1 : 0 ≤ a1 ∧ a1 < 6) (h_a2 : 0 ≤ a2 ∧ a2 < 10) (h_a3 : 0 ≤ a3 ∧ a3 ≤ 3000000) : G 60 0 (some (.ref 3) :: some (vI a1) :: some (vI a2) :: some (vI a3) :: []) [] (toM ρ τ) Q = (if (((a3 + (ρ (17 + a2.toNat) (ρ 32 a1))) - ρ 10 (ρ 32 a1)) % 1440) < (ρ 33 a1) then Q (some (vI ((a3 + (ρ (17 + a2.toNat) (ρ 32 a1))) + (((ρ 33 a1) - (((a3 + (ρ (17 + a2.toNat) (ρ 32 a1))) - ρ 10 (ρ 32 a1)) % 1440)) % 1440)))) (toM ρ τ) else (if (ρ 34 a1) ≤ (((a3 + (ρ (17 + a2.toNat) (ρ 32 a1))) - ρ 10 (ρ 32 a1)) % 1440) then Q (some (vI ((a3 + (ρ (17 + a2.toNat) (ρ 32 a1))) + (((ρ 33 a1) - (((a3 + (ρ (17 + a2.toNat) (ρ 32 a1))) - ρ 10 (ρ 32 a1)) % 1440)) % 1440)))) (toM ρ τ) else Q (some (vI (a3 + (ρ (17 + a2.toNat) (ρ 32 a1))))) (toM ρ τ))) := by
  refine (g_iload_n d60_0 rfl).trans ?_
  refine (g_aload_n d60_1 rfl rfl).trans ?_
  refine (g_getR (q := 1) d60_2 f4_27 sh_3 (by decide) rfl).trans ?_
  refine (g_iload_n d60_5 rfl).trans ?_
  refine (g_aload_n d60_6 rfl rfl).trans ?_
  refine (g_getR (q := 32) d60_7 f4_9 sh_3 (by decide) rfl).trans ?_
  refine (g_iload_n d60_10 rfl).trans ?_
  refine (j_ialoadB (v := ρ 32 a1) d60_11 sh_32 (by omega) (by decide) rfl).trans ?_
  have q1 : 0 ≤ ρ 32 a1 ∧ ρ 32 a1 ≤ 9 := hT.2 32 a1
  refine (g_cV d60_12 k4_35 rfl rfl rfl).trans ?_
  show G 33 0 [some (.ref 1), some (vI a2), some (vI (ρ 32 a1))] [] (toM ρ τ) _ = _
  refine (c_dist hT.1 (by omega) (by omega)).trans ?_
  show G 60 15 (some (.ref 3) :: some (vI a1) :: some (vI a2) :: some (vI a3) :: []) [vI (ρ (17 + a2.toNat) (ρ 32 a1)), vI a3] (toM ρ τ) _ = _
  have q2 := TI.row hT (k := 17 + a2.toNat) (by omega) (ρ 32 a1)
  refine (j_iadd d60_15).trans ?_
  refine (g_istore d60_16 (by decide) rfl rfl).trans ?_
  refine (g_aload_n d60_18 rfl rfl).trans ?_
  refine (g_getR (q := 1) d60_19 f4_27 sh_3 (by decide) rfl).trans ?_
  refine (g_aload_n d60_22 rfl rfl).trans ?_
  refine (g_getR (q := 32) d60_23 f4_9 sh_3 (by decide) rfl).trans ?_
  refine (g_iload_n d60_26 rfl).trans ?_
  refine (j_ialoadB (v := ρ 32 a1) d60_27 sh_32 (by omega) (by decide) rfl).trans ?_
  refine (g_iload d60_28 rfl).trans ?_
  refine (g_cV d60_30 k4_41 rfl rfl rfl).trans ?_
  show G 34 0 [some (.ref 1), some (vI (ρ 32 a1)), some (vI (a3 + (ρ (17 + a2.toNat) (ρ 32 a1))))] [] (toM ρ τ) _ = _
  refine (c_clock hT.1 (by omega) (by omega)).trans ?_
  show G 60 33 (some (.ref 3) :: some (vI a1) :: some (vI a2) :: some (vI a3) :: some (vI (a3 + (ρ (17 + a2.toNat) (ρ 32 a1)))) :: []) [vI (((a3 + (ρ (17 + a2.toNat) (ρ 32 a1))) - ρ 10 (ρ 32 a1)) % 1440)] (toM ρ τ) _ = _
  refine (g_istore d60_33 (by decide) rfl rfl).trans ?_
  refine (g_iload d60_35 rfl).trans ?_
  refine (g_aload_n d60_37 rfl rfl).trans ?_
  refine (g_getR (q := 33) d60_38 f4_15 sh_3 (by decide) rfl).trans ?_
  refine (g_iload_n d60_41 rfl).trans ?_
  refine (j_ialoadB (v := ρ 33 a1) d60_42 sh_33 (by omega) (by decide) rfl).trans ?_
  have q3 : 0 ≤ ρ 33 a1 ∧ ρ 33 a1 ≤ 1439 := hT.2 33 a1
  refine j_icmp_lt (tgt := 60) d60_43 (by decide) (by omega) (by omega) (fun q4 => ?_) (fun q4 => ?_)
  ·
    refine (g_iload d60_60 rfl).trans ?_
    refine (g_aload_n d60_62 rfl rfl).trans ?_
    refine (g_getR (q := 33) d60_63 f4_15 sh_3 (by decide) rfl).trans ?_
    refine (g_iload_n d60_66 rfl).trans ?_
    refine (j_ialoadB (v := ρ 33 a1) d60_67 sh_33 (by omega) (by decide) rfl).trans ?_
    refine (g_iload d60_68 rfl).trans ?_
    refine (j_isub d60_70).trans ?_
    refine (j_sipush d60_71 (by decide)).trans ?_
    refine (g_cS d60_74 k4_44 rfl rfl rfl).trans ?_
    show G 182 0 [some (vI ((ρ 33 a1) - (((a3 + (ρ (17 + a2.toNat) (ρ 32 a1))) - ρ 10 (ρ 32 a1)) % 1440))), some (vI 1440)] [] (toM ρ τ) _ = _
    refine (c_fmod hT.1 (by omega)).trans ?_
    show G 60 77 (some (.ref 3) :: some (vI a1) :: some (vI a2) :: some (vI a3) :: some (vI (a3 + (ρ (17 + a2.toNat) (ρ 32 a1)))) :: some (vI (((a3 + (ρ (17 + a2.toNat) (ρ 32 a1))) - ρ 10 (ρ 32 a1)) % 1440)) :: []) [vI (((ρ 33 a1) - (((a3 + (ρ (17 + a2.toNat) (ρ 32 a1))) - ρ 10 (ρ 32 a1)) % 1440)) % 1440), vI (a3 + (ρ (17 + a2.toNat) (ρ 32 a1)))] (toM ρ τ) _ = _
    refine (j_iadd d60_77).trans ?_
    exact g_iret d60_78 rfl rfl
  ·
    refine (g_iload d60_46 rfl).trans ?_
    refine (g_aload_n d60_48 rfl rfl).trans ?_
    refine (g_getR (q := 34) d60_49 f4_18 sh_3 (by decide) rfl).trans ?_
    refine (g_iload_n d60_52 rfl).trans ?_
    refine (j_ialoadB (v := ρ 34 a1) d60_53 sh_34 (by omega) (by decide) rfl).trans ?_
    have q5 : 0 ≤ ρ 34 a1 ∧ ρ 34 a1 ≤ 1439 := hT.2 34 a1
    refine j_icmp_ge (tgt := 60) d60_54 (by decide) (by omega) (by omega) (fun q6 => ?_) (fun q6 => ?_)
    ·
      refine (g_iload d60_60 rfl).trans ?_
      refine (g_aload_n d60_62 rfl rfl).trans ?_
      refine (g_getR (q := 33) d60_63 f4_15 sh_3 (by decide) rfl).trans ?_
      refine (g_iload_n d60_66 rfl).trans ?_
      refine (j_ialoadB (v := ρ 33 a1) d60_67 sh_33 (by omega) (by decide) rfl).trans ?_
      refine (g_iload d60_68 rfl).trans ?_
      refine (j_isub d60_70).trans ?_
      refine (j_sipush d60_71 (by decide)).trans ?_
      refine (g_cS d60_74 k4_44 rfl rfl rfl).trans ?_
      show G 182 0 [some (vI ((ρ 33 a1) - (((a3 + (ρ (17 + a2.toNat) (ρ 32 a1))) - ρ 10 (ρ 32 a1)) % 1440))), some (vI 1440)] [] (toM ρ τ) _ = _
      refine (c_fmod hT.1 (by omega)).trans ?_
      show G 60 77 (some (.ref 3) :: some (vI a1) :: some (vI a2) :: some (vI a3) :: some (vI (a3 + (ρ (17 + a2.toNat) (ρ 32 a1)))) :: some (vI (((a3 + (ρ (17 + a2.toNat) (ρ 32 a1))) - ρ 10 (ρ 32 a1)) % 1440)) :: []) [vI (((ρ 33 a1) - (((a3 + (ρ (17 + a2.toNat) (ρ 32 a1))) - ρ 10 (ρ 32 a1)) % 1440)) % 1440), vI (a3 + (ρ (17 + a2.toNat) (ρ 32 a1)))] (toM ρ τ) _ = _
      refine (j_iadd d60_77).trans ?_
      exact g_iret d60_78 rfl rfl
    ·
      refine (g_iload d60_57 rfl).trans ?_
      exact g_iret d60_59 rfl rfl
set_option maxRecDepth 10000 in
theorem s163 {Q : Option Value → mm → Prop} (ρ : rm) (τ : Int64) (a1 : Int) (a2 : Int) (hT : TI ρ) (h_a1 : 0 ≤ a1 ∧ a1 < 6) (h_a2 : 0 ≤ a2 ∧ a2 ≤ 3000000) : G 163 0 (some (.ref 51) :: some (vI a1) :: some (vI a2) :: []) [] (toM ρ τ) Q = (if (Int.tmod ((a2 - (oS ρ (ρ 56 (5 * a1)))) + 144000) 1440) < (ρ 56 ((5 * a1) + 1)) then Q (some (vI (a2 + (Int.tmod (((ρ 56 ((5 * a1) + 1)) - (Int.tmod ((a2 - (oS ρ (ρ 56 (5 * a1)))) + 144000) 1440)) + 1440) 1440)))) (toM ρ τ) else (if (ρ 56 ((5 * a1) + 2)) ≤ (Int.tmod ((a2 - (oS ρ (ρ 56 (5 * a1)))) + 144000) 1440) then Q (some (vI (a2 + (Int.tmod (((ρ 56 ((5 * a1) + 1)) - (Int.tmod ((a2 - (oS ρ (ρ 56 (5 * a1)))) + 144000) 1440)) + 1440) 1440)))) (toM ρ τ) else Q (some (vI a2)) (toM ρ τ))) := by
  refine (g_aload_n d163_0 rfl rfl).trans ?_
  refine (g_aload_n d163_1 rfl rfl).trans ?_
  refine (g_getR (q := 56) d163_2 f10_26 sh_51 (by decide) rfl).trans ?_
  refine (j_iconst d163_5).trans ?_
  refine (g_iload_n d163_6 rfl).trans ?_
  refine (j_imul d163_7).trans ?_
  refine (j_ialoadB (v := ρ 56 (5 * a1)) d163_8 sh_56 (by omega) (by decide) rfl).trans ?_
  have q1 := T56a hT a1
  refine (g_iload_n d163_9 rfl).trans ?_
  refine (g_cV d163_10 k10_205 rfl rfl rfl).trans ?_
  show G 141 0 [some (.ref 51), some (vI (ρ 56 (5 * a1))), some (vI a2)] [] (toM ρ τ) _ = _
  refine (s141 _ _ _ _ hT (by omega) (by omega)).trans ?_
  show G 163 13 (some (.ref 51) :: some (vI a1) :: some (vI a2) :: []) [vI (Int.tmod ((a2 - (oS ρ (ρ 56 (5 * a1)))) + 144000) 1440)] (toM ρ τ) _ = _
  have q2 := (And.intro (tmod_bd ((a2 - (oS ρ (ρ 56 (5 * a1)))) + 144000) (b := 1440) (by omega)) (oS_rg hT (h := ρ 56 (5 * a1)) (by omega)))
  refine (g_istore_n d163_13 (by decide) rfl rfl).trans ?_
  refine (g_iload_n d163_14 rfl).trans ?_
  refine (g_aload_n d163_15 rfl rfl).trans ?_
  refine (g_getR (q := 56) d163_16 f10_26 sh_51 (by decide) rfl).trans ?_
  refine (j_iconst d163_19).trans ?_
  refine (g_iload_n d163_20 rfl).trans ?_
  refine (j_imul d163_21).trans ?_
  refine (j_iconst d163_22).trans ?_
  refine (j_iadd d163_23).trans ?_
  refine (j_ialoadB (v := ρ 56 ((5 * a1) + 1)) d163_24 sh_56 (by omega) (by decide) rfl).trans ?_
  have q3 := hT.1 56 ((5 * a1) + 1) (by decide)
  refine j_icmp_lt (tgt := 44) d163_25 (by decide) (by omega) (by omega) (fun q4 => ?_) (fun q4 => ?_)
  ·
    refine (g_iload_n d163_44 rfl).trans ?_
    refine (g_aload_n d163_45 rfl rfl).trans ?_
    refine (g_getR (q := 56) d163_46 f10_26 sh_51 (by decide) rfl).trans ?_
    refine (j_iconst d163_49).trans ?_
    refine (g_iload_n d163_50 rfl).trans ?_
    refine (j_imul d163_51).trans ?_
    refine (j_iconst d163_52).trans ?_
    refine (j_iadd d163_53).trans ?_
    refine (j_ialoadB (v := ρ 56 ((5 * a1) + 1)) d163_54 sh_56 (by omega) (by decide) rfl).trans ?_
    refine (g_iload_n d163_55 rfl).trans ?_
    refine (j_isub d163_56).trans ?_
    refine (j_sipush d163_57 (by decide)).trans ?_
    refine (j_iadd d163_60).trans ?_
    refine (j_sipush d163_61 (by decide)).trans ?_
    refine (j_irem d163_64 (by omega) (by omega) (by omega)).trans ?_
    have q5 := tmod_bd (((ρ 56 ((5 * a1) + 1)) - (Int.tmod ((a2 - (oS ρ (ρ 56 (5 * a1)))) + 144000) 1440)) + 1440) (b := 1440) (by omega)
    refine (j_iadd d163_65).trans ?_
    exact g_iret d163_66 rfl rfl
  ·
    refine (g_iload_n d163_28 rfl).trans ?_
    refine (g_aload_n d163_29 rfl rfl).trans ?_
    refine (g_getR (q := 56) d163_30 f10_26 sh_51 (by decide) rfl).trans ?_
    refine (j_iconst d163_33).trans ?_
    refine (g_iload_n d163_34 rfl).trans ?_
    refine (j_imul d163_35).trans ?_
    refine (j_iconst d163_36).trans ?_
    refine (j_iadd d163_37).trans ?_
    refine (j_ialoadB (v := ρ 56 ((5 * a1) + 2)) d163_38 sh_56 (by omega) (by decide) rfl).trans ?_
    have q6 := hT.1 56 ((5 * a1) + 2) (by decide)
    refine j_icmp_ge (tgt := 44) d163_39 (by decide) (by omega) (by omega) (fun q7 => ?_) (fun q7 => ?_)
    ·
      refine (g_iload_n d163_44 rfl).trans ?_
      refine (g_aload_n d163_45 rfl rfl).trans ?_
      refine (g_getR (q := 56) d163_46 f10_26 sh_51 (by decide) rfl).trans ?_
      refine (j_iconst d163_49).trans ?_
      refine (g_iload_n d163_50 rfl).trans ?_
      refine (j_imul d163_51).trans ?_
      refine (j_iconst d163_52).trans ?_
      refine (j_iadd d163_53).trans ?_
      refine (j_ialoadB (v := ρ 56 ((5 * a1) + 1)) d163_54 sh_56 (by omega) (by decide) rfl).trans ?_
      refine (g_iload_n d163_55 rfl).trans ?_
      refine (j_isub d163_56).trans ?_
      refine (j_sipush d163_57 (by decide)).trans ?_
      refine (j_iadd d163_60).trans ?_
      refine (j_sipush d163_61 (by decide)).trans ?_
      refine (j_irem d163_64 (by omega) (by omega) (by omega)).trans ?_
      have q8 := tmod_bd (((ρ 56 ((5 * a1) + 1)) - (Int.tmod ((a2 - (oS ρ (ρ 56 (5 * a1)))) + 144000) 1440)) + 1440) (b := 1440) (by omega)
      refine (j_iadd d163_65).trans ?_
      exact g_iret d163_66 rfl rfl
    ·
      refine (g_iload_n d163_42 rfl).trans ?_
      exact g_iret d163_43 rfl rfl
set_option maxRecDepth 10000 in
theorem s174 {Q : Option Value → mm → Prop} (ρ : rm) (τ : Int64) (a1 : Int) (a2 : Int) (a3 : Int) (a4 : Int) (hT : TI ρ) (h_a1 : 0 ≤ a1 ∧ a1 < 10) (h_a2 : 0 ≤ a2 ∧ a2 ≤ 1439) (h_a3 : 0 ≤ a3 ∧ a3 < 10) (h_a4 : 0 ≤ a4 ∧ a4 ≤ 1439) : G 174 0 (some (.ref 51) :: some (vI a1) :: some (vI a2) :: some (vI a3) :: some (vI a4) :: []) [] (toM ρ τ) Q = (if 0 ≤ (((a2 + (oS ρ a1)) - a4) - (oS ρ a3)) then (if (((a2 + (oS ρ a1)) - a4) - (oS ρ a3)) < (ρ 57 ((10 * a1) + a3)) then Q (some (vI 0)) (toM ρ τ) else Q (some (vI 1)) (toM ρ τ)) else (if (-(((a2 + (oS ρ a1)) - a4) - (oS ρ a3))) < (ρ 57 ((10 * a1) + a3)) then Q (some (vI 0)) (toM ρ τ) else Q (some (vI 1)) (toM ρ τ))) := by
  refine (g_iload_n d174_0 rfl).trans ?_
  refine (g_aload_n d174_1 rfl rfl).trans ?_
  refine (g_iload_n d174_2 rfl).trans ?_
  refine (g_cV d174_3 k10_199 rfl rfl rfl).trans ?_
  show G 137 0 [some (.ref 51), some (vI a1)] [] (toM ρ τ) _ = _
  refine (m_offOf hT.1 (by omega)).trans ?_
  show G 174 6 (some (.ref 51) :: some (vI a1) :: some (vI a2) :: some (vI a3) :: some (vI a4) :: []) [vI (oS ρ a1), vI a2] (toM ρ τ) _ = _
  have q1 := oS_rg hT (h := a1) (by omega)
  refine (j_iadd d174_6).trans ?_
  refine (g_iload d174_7 rfl).trans ?_
  refine (j_isub d174_9).trans ?_
  refine (g_aload_n d174_10 rfl rfl).trans ?_
  refine (g_iload_n d174_11 rfl).trans ?_
  refine (g_cV d174_12 k10_199 rfl rfl rfl).trans ?_
  show G 137 0 [some (.ref 51), some (vI a3)] [] (toM ρ τ) _ = _
  refine (m_offOf hT.1 (by omega)).trans ?_
  show G 174 15 (some (.ref 51) :: some (vI a1) :: some (vI a2) :: some (vI a3) :: some (vI a4) :: []) [vI (oS ρ a3), vI ((a2 + (oS ρ a1)) - a4)] (toM ρ τ) _ = _
  have q2 := oS_rg hT (h := a3) (by omega)
  refine (j_isub d174_15).trans ?_
  refine (g_istore d174_16 (by decide) rfl rfl).trans ?_
  refine (g_aload_n d174_18 rfl rfl).trans ?_
  refine (g_getR (q := 57) d174_19 f10_29 sh_51 (by decide) rfl).trans ?_
  refine (j_bipush d174_22 (by decide)).trans ?_
  refine (g_iload_n d174_24 rfl).trans ?_
  refine (j_imul d174_25).trans ?_
  refine (g_iload_n d174_26 rfl).trans ?_
  refine (j_iadd d174_27).trans ?_
  refine (j_ialoadB (v := ρ 57 ((10 * a1) + a3)) d174_28 sh_57 (by omega) (by decide) rfl).trans ?_
  have q3 : 0 ≤ ρ 57 ((10 * a1) + a3) ∧ ρ 57 ((10 * a1) + a3) ≤ 100000 := hT.2 57 ((10 * a1) + a3)
  refine (g_iload d174_29 rfl).trans ?_
  refine j_if_ge (tgt := 40) d174_31 (by decide) (by omega) (fun q4 => ?_) (fun q4 => ?_)
  ·
    refine (g_iload d174_40 rfl).trans ?_
    refine j_icmp_gt (tgt := 49) d174_42 (by decide) (by omega) (by omega) (fun q5 => ?_) (fun q5 => ?_)
    ·
      refine (j_iconst d174_49).trans ?_
      exact g_iret d174_50 rfl rfl
    ·
      refine (j_iconst d174_45).trans ?_
      refine (g_goto (tgt := 50) d174_46 (by decide)).trans ?_
      exact g_iret d174_50 rfl rfl
  ·
    refine (g_iload d174_34 rfl).trans ?_
    refine (j_ineg d174_36).trans ?_
    refine (g_goto (tgt := 42) d174_37 (by decide)).trans ?_
    refine j_icmp_gt (tgt := 49) d174_42 (by decide) (by omega) (by omega) (fun q6 => ?_) (fun q6 => ?_)
    ·
      refine (j_iconst d174_49).trans ?_
      exact g_iret d174_50 rfl rfl
    ·
      refine (j_iconst d174_45).trans ?_
      refine (g_goto (tgt := 50) d174_46 (by decide)).trans ?_
      exact g_iret d174_50 rfl rfl
set_option maxRecDepth 10000 in
theorem s154 {Q : Option Value → mm → Prop} (ρ : rm) (τ : Int64) (a1 : Int) (hT : TI ρ) (h_a1 : SB a1) : G 154 0 (some (.ref 51) :: some (vI a1) :: []) [] (toM ρ τ) Q = (if 0 ≤ a1 then G 154 9 (some (.ref 51) :: some (vI a1) :: some (vI 0) :: []) [] (toM ρ τ) Q else Q (some (vI (-3))) (toM ρ τ)) := by
  refine (g_iload_n d154_0 rfl).trans ?_
  refine j_if_ge (tgt := 7) d154_1 (by decide) (by omega) (fun q1 => ?_) (fun q1 => ?_)
  ·
    refine (j_iconst d154_7).trans ?_
    refine (g_istore_n d154_8 (by decide) rfl rfl).trans ?_
    rfl
  ·
    refine (j_bipush d154_4 (by decide)).trans ?_
    exact g_iret d154_6 rfl rfl
set_option maxRecDepth 10000 in
theorem s154_9 {Q : Option Value → mm → Prop} (ρ : rm) (τ : Int64) (l1 : Int) (l2 : Int) (t : List (Option Value)) (hT : TI ρ) (h_l1 : SB l1) (h_l2 : 0 ≤ l2 ∧ l2 ≤ 10) : G 154 9 (some (.ref 51) :: some (vI l1) :: some (vI l2) :: t) [] (toM ρ τ) Q = (if (ρ 51 5) ≤ l2 then Q (some (vI (-1))) (toM ρ τ) else G 154 22 (some (.ref 51) :: some (vI l1) :: some (vI l2) :: some (vI 0) :: some (vI 0) :: t.tail.tail) [] (toM ρ τ) Q) := by
  refine (g_iload_n d154_9 rfl).trans ?_
  refine (g_aload_n d154_10 rfl rfl).trans ?_
  refine (j_getI (v := ρ 51 5) d154_11 f10_73 sh_51 (by decide) rfl rfl).trans ?_
  have q1 : 0 ≤ ρ 51 5 ∧ ρ 51 5 ≤ 10 := hT.2 51 5
  refine j_icmp_ge (tgt := 68) d154_14 (by decide) (by omega) (by omega) (fun q2 => ?_) (fun q2 => ?_)
  ·
    refine (j_iconst d154_68).trans ?_
    exact g_iret d154_69 rfl rfl
  ·
    refine (j_iconst d154_17).trans ?_
    refine (g_istore_n d154_18 (by decide) rfl rfl).trans ?_
    refine (j_iconst d154_19).trans ?_
    refine (g_istore d154_20 (by decide) rfl rfl).trans ?_
    rfl
set_option maxRecDepth 10000 in
theorem s154_22 {Q : Option Value → mm → Prop} (ρ : rm) (τ : Int64) (l1 : Int) (l2 : Int) (l3 : Int) (l4 : Int) (t : List (Option Value)) (hT : TI ρ) (h_l1 : SB l1) (h_l2 : 0 ≤ l2 ∧ l2 < 10) (h_l3 : SM l3) (h_l4 : 0 ≤ l4 ∧ l4 ≤ 10) : G 154 22 (some (.ref 51) :: some (vI l1) :: some (vI l2) :: some (vI l3) :: some (vI l4) :: t) [] (toM ρ τ) Q = (if (ρ 51 5) ≤ l4 then (if l3 = l1 then Q (some (vI l2)) (toM ρ τ) else G 154 9 (some (.ref 51) :: some (vI l1) :: some (vI (l2 + 1)) :: some (vI l3) :: some (vI l4) :: t) [] (toM ρ τ) Q) else (if ((ρ 55 ((3 * l4) + 1)) + (oS ρ (ρ 55 (3 * l4)))) < ((ρ 55 ((3 * l2) + 1)) + (oS ρ (ρ 55 (3 * l2)))) then G 154 22 (some (.ref 51) :: some (vI l1) :: some (vI l2) :: some (vI (l3 + 1)) :: some (vI (l4 + 1)) :: t) [] (toM ρ τ) Q else (if ((ρ 55 ((3 * l4) + 1)) + (oS ρ (ρ 55 (3 * l4)))) = ((ρ 55 ((3 * l2) + 1)) + (oS ρ (ρ 55 (3 * l2)))) then (if l2 ≤ l4 then G 154 22 (some (.ref 51) :: some (vI l1) :: some (vI l2) :: some (vI (l3 + 0)) :: some (vI (l4 + 1)) :: t) [] (toM ρ τ) Q else G 154 22 (some (.ref 51) :: some (vI l1) :: some (vI l2) :: some (vI (l3 + 1)) :: some (vI (l4 + 1)) :: t) [] (toM ρ τ) Q) else G 154 22 (some (.ref 51) :: some (vI l1) :: some (vI l2) :: some (vI (l3 + 0)) :: some (vI (l4 + 1)) :: t) [] (toM ρ τ) Q))) := by
  refine (g_iload d154_22 rfl).trans ?_
  refine (g_aload_n d154_24 rfl rfl).trans ?_
  refine (j_getI (v := ρ 51 5) d154_25 f10_73 sh_51 (by decide) rfl rfl).trans ?_
  have q1 : 0 ≤ ρ 51 5 ∧ ρ 51 5 ≤ 10 := hT.2 51 5
  refine j_icmp_ge (tgt := 55) d154_28 (by decide) (by omega) (by omega) (fun q2 => ?_) (fun q2 => ?_)
  ·
    refine (g_iload_n d154_55 rfl).trans ?_
    refine (g_iload_n d154_56 rfl).trans ?_
    refine j_icmp_ne (tgt := 62) d154_57 (by decide) (by omega) (by omega) (fun q3 => ?_) (fun q3 => ?_)
    ·
      refine (g_iload_n d154_60 rfl).trans ?_
      exact g_iret d154_61 rfl rfl
    ·
      refine (j_iinc d154_62 rfl (by decide) rfl rfl).trans ?_
      refine (g_goto (tgt := 9) d154_65 (by decide)).trans ?_
      rfl
  ·
    refine (g_iload_n d154_31 rfl).trans ?_
    refine (g_aload_n d154_32 rfl rfl).trans ?_
    refine (g_iload d154_33 rfl).trans ?_
    refine (g_iload_n d154_35 rfl).trans ?_
    refine (g_cV d154_36 k10_221 rfl rfl rfl).trans ?_
    show G 153 0 (some (.ref 51) :: some (vI l4) :: some (vI l2) :: []) [] (toM ρ τ) _ = _
    refine (g_aload_n d153_0 rfl rfl).trans ?_
    refine (g_iload_n d153_1 rfl).trans ?_
    refine (g_cV d153_2 k10_218 rfl rfl rfl).trans ?_
    show G 146 0 (some (.ref 51) :: some (vI l4) :: []) [] (toM ρ τ) _ = _
    refine (g_aload_n d146_0 rfl rfl).trans ?_
    refine (g_getR (q := 55) d146_1 f10_23 sh_51 (by decide) rfl).trans ?_
    refine (j_iconst d146_4).trans ?_
    refine (g_iload_n d146_5 rfl).trans ?_
    refine (j_imul d146_6).trans ?_
    refine (j_iconst d146_7).trans ?_
    refine (j_iadd d146_8).trans ?_
    refine (j_ialoadB (v := ρ 55 ((3 * l4) + 1)) d146_9 sh_55 (by omega) (by decide) rfl).trans ?_
    have q4 := hT.1 55 ((3 * l4) + 1) (by decide)
    refine (g_aload_n d146_10 rfl rfl).trans ?_
    refine (g_aload_n d146_11 rfl rfl).trans ?_
    refine (g_getR (q := 55) d146_12 f10_23 sh_51 (by decide) rfl).trans ?_
    refine (j_iconst d146_15).trans ?_
    refine (g_iload_n d146_16 rfl).trans ?_
    refine (j_imul d146_17).trans ?_
    refine (j_ialoadB (v := ρ 55 (3 * l4)) d146_18 sh_55 (by omega) (by decide) rfl).trans ?_
    have q5 := T55a hT l4
    refine (g_cV d146_19 k10_199 rfl rfl rfl).trans ?_
    show G 137 0 [some (.ref 51), some (vI (ρ 55 (3 * l4)))] [] (toM ρ τ) _ = _
    refine (m_offOf hT.1 (by omega)).trans ?_
    show G 146 22 (some (.ref 51) :: some (vI l4) :: []) [vI (oS ρ (ρ 55 (3 * l4))), vI (ρ 55 ((3 * l4) + 1))] (toM ρ τ) _ = _
    have q6 := oS_rg hT (h := ρ 55 (3 * l4)) (by omega)
    refine (j_iadd d146_22).trans ?_
    refine (g_iret d146_23 rfl rfl).trans ?_
    show G 153 5 (some (.ref 51) :: some (vI l4) :: some (vI l2) :: []) [vI ((ρ 55 ((3 * l4) + 1)) + (oS ρ (ρ 55 (3 * l4))))] (toM ρ τ) _ = _
    refine (g_aload_n d153_5 rfl rfl).trans ?_
    refine (g_iload_n d153_6 rfl).trans ?_
    refine (g_cV d153_7 k10_218 rfl rfl rfl).trans ?_
    show G 146 0 (some (.ref 51) :: some (vI l2) :: []) [] (toM ρ τ) _ = _
    refine (g_aload_n d146_0 rfl rfl).trans ?_
    refine (g_getR (q := 55) d146_1 f10_23 sh_51 (by decide) rfl).trans ?_
    refine (j_iconst d146_4).trans ?_
    refine (g_iload_n d146_5 rfl).trans ?_
    refine (j_imul d146_6).trans ?_
    refine (j_iconst d146_7).trans ?_
    refine (j_iadd d146_8).trans ?_
    refine (j_ialoadB (v := ρ 55 ((3 * l2) + 1)) d146_9 sh_55 (by omega) (by decide) rfl).trans ?_
    have q7 := hT.1 55 ((3 * l2) + 1) (by decide)
    refine (g_aload_n d146_10 rfl rfl).trans ?_
    refine (g_aload_n d146_11 rfl rfl).trans ?_
    refine (g_getR (q := 55) d146_12 f10_23 sh_51 (by decide) rfl).trans ?_
    refine (j_iconst d146_15).trans ?_
    refine (g_iload_n d146_16 rfl).trans ?_
    refine (j_imul d146_17).trans ?_
    refine (j_ialoadB (v := ρ 55 (3 * l2)) d146_18 sh_55 (by omega) (by decide) rfl).trans ?_
    have q8 := T55a hT l2
    refine (g_cV d146_19 k10_199 rfl rfl rfl).trans ?_
    show G 137 0 [some (.ref 51), some (vI (ρ 55 (3 * l2)))] [] (toM ρ τ) _ = _
    refine (m_offOf hT.1 (by omega)).trans ?_
    show G 146 22 (some (.ref 51) :: some (vI l2) :: []) [vI (oS ρ (ρ 55 (3 * l2))), vI (ρ 55 ((3 * l2) + 1))] (toM ρ τ) _ = _
    have q9 := oS_rg hT (h := ρ 55 (3 * l2)) (by omega)
    refine (j_iadd d146_22).trans ?_
    refine (g_iret d146_23 rfl rfl).trans ?_
    show G 153 10 (some (.ref 51) :: some (vI l4) :: some (vI l2) :: []) [vI ((ρ 55 ((3 * l2) + 1)) + (oS ρ (ρ 55 (3 * l2)))), vI ((ρ 55 ((3 * l4) + 1)) + (oS ρ (ρ 55 (3 * l4))))] (toM ρ τ) _ = _
    refine j_icmp_lt (tgt := 31) d153_10 (by decide) (by omega) (by omega) (fun q10 => ?_) (fun q10 => ?_)
    ·
      refine (j_iconst d153_31).trans ?_
      refine (g_goto (tgt := 36) d153_32 (by decide)).trans ?_
      refine (g_iret d153_36 rfl rfl).trans ?_
      show G 154 39 (some (.ref 51) :: some (vI l1) :: some (vI l2) :: some (vI l3) :: some (vI l4) :: t) [vI 1, vI l3] (toM ρ τ) _ = _
      refine ((g_if_eq (tgt := 46) d154_39 (by decide)).trans (if_neg (by decide))).trans ?_
      refine (j_iconst d154_42).trans ?_
      refine (g_goto (tgt := 47) d154_43 (by decide)).trans ?_
      refine (j_iadd d154_47).trans ?_
      refine (g_istore_n d154_48 (by decide) rfl rfl).trans ?_
      refine (j_iinc d154_49 rfl (by decide) rfl rfl).trans ?_
      refine (g_goto (tgt := 22) d154_52 (by decide)).trans ?_
      rfl
    ·
      refine (g_aload_n d153_13 rfl rfl).trans ?_
      refine (g_iload_n d153_14 rfl).trans ?_
      refine (g_cV d153_15 k10_218 rfl rfl rfl).trans ?_
      show G 146 0 (some (.ref 51) :: some (vI l4) :: []) [] (toM ρ τ) _ = _
      refine (g_aload_n d146_0 rfl rfl).trans ?_
      refine (g_getR (q := 55) d146_1 f10_23 sh_51 (by decide) rfl).trans ?_
      refine (j_iconst d146_4).trans ?_
      refine (g_iload_n d146_5 rfl).trans ?_
      refine (j_imul d146_6).trans ?_
      refine (j_iconst d146_7).trans ?_
      refine (j_iadd d146_8).trans ?_
      refine (j_ialoadB (v := ρ 55 ((3 * l4) + 1)) d146_9 sh_55 (by omega) (by decide) rfl).trans ?_
      refine (g_aload_n d146_10 rfl rfl).trans ?_
      refine (g_aload_n d146_11 rfl rfl).trans ?_
      refine (g_getR (q := 55) d146_12 f10_23 sh_51 (by decide) rfl).trans ?_
      refine (j_iconst d146_15).trans ?_
      refine (g_iload_n d146_16 rfl).trans ?_
      refine (j_imul d146_17).trans ?_
      refine (j_ialoadB (v := ρ 55 (3 * l4)) d146_18 sh_55 (by omega) (by decide) rfl).trans ?_
      refine (g_cV d146_19 k10_199 rfl rfl rfl).trans ?_
      show G 137 0 [some (.ref 51), some (vI (ρ 55 (3 * l4)))] [] (toM ρ τ) _ = _
      refine (m_offOf hT.1 (by omega)).trans ?_
      show G 146 22 (some (.ref 51) :: some (vI l4) :: []) [vI (oS ρ (ρ 55 (3 * l4))), vI (ρ 55 ((3 * l4) + 1))] (toM ρ τ) _ = _
      have q11 := oS_rg hT (h := ρ 55 (3 * l4)) (by omega)
      refine (j_iadd d146_22).trans ?_
      refine (g_iret d146_23 rfl rfl).trans ?_
      show G 153 18 (some (.ref 51) :: some (vI l4) :: some (vI l2) :: []) [vI ((ρ 55 ((3 * l4) + 1)) + (oS ρ (ρ 55 (3 * l4))))] (toM ρ τ) _ = _
      refine (g_aload_n d153_18 rfl rfl).trans ?_
      refine (g_iload_n d153_19 rfl).trans ?_
      refine (g_cV d153_20 k10_218 rfl rfl rfl).trans ?_
      show G 146 0 (some (.ref 51) :: some (vI l2) :: []) [] (toM ρ τ) _ = _
      refine (g_aload_n d146_0 rfl rfl).trans ?_
      refine (g_getR (q := 55) d146_1 f10_23 sh_51 (by decide) rfl).trans ?_
      refine (j_iconst d146_4).trans ?_
      refine (g_iload_n d146_5 rfl).trans ?_
      refine (j_imul d146_6).trans ?_
      refine (j_iconst d146_7).trans ?_
      refine (j_iadd d146_8).trans ?_
      refine (j_ialoadB (v := ρ 55 ((3 * l2) + 1)) d146_9 sh_55 (by omega) (by decide) rfl).trans ?_
      refine (g_aload_n d146_10 rfl rfl).trans ?_
      refine (g_aload_n d146_11 rfl rfl).trans ?_
      refine (g_getR (q := 55) d146_12 f10_23 sh_51 (by decide) rfl).trans ?_
      refine (j_iconst d146_15).trans ?_
      refine (g_iload_n d146_16 rfl).trans ?_
      refine (j_imul d146_17).trans ?_
      refine (j_ialoadB (v := ρ 55 (3 * l2)) d146_18 sh_55 (by omega) (by decide) rfl).trans ?_
      refine (g_cV d146_19 k10_199 rfl rfl rfl).trans ?_
      show G 137 0 [some (.ref 51), some (vI (ρ 55 (3 * l2)))] [] (toM ρ τ) _ = _
      refine (m_offOf hT.1 (by omega)).trans ?_
      show G 146 22 (some (.ref 51) :: some (vI l2) :: []) [vI (oS ρ (ρ 55 (3 * l2))), vI (ρ 55 ((3 * l2) + 1))] (toM ρ τ) _ = _
      have q12 := oS_rg hT (h := ρ 55 (3 * l2)) (by omega)
      refine (j_iadd d146_22).trans ?_
      refine (g_iret d146_23 rfl rfl).trans ?_
      show G 153 23 (some (.ref 51) :: some (vI l4) :: some (vI l2) :: []) [vI ((ρ 55 ((3 * l2) + 1)) + (oS ρ (ρ 55 (3 * l2)))), vI ((ρ 55 ((3 * l4) + 1)) + (oS ρ (ρ 55 (3 * l4))))] (toM ρ τ) _ = _
      refine j_icmp_ne (tgt := 35) d153_23 (by decide) (by omega) (by omega) (fun q13 => ?_) (fun q13 => ?_)
      ·
        refine (g_iload_n d153_26 rfl).trans ?_
        refine (g_iload_n d153_27 rfl).trans ?_
        refine j_icmp_ge (tgt := 35) d153_28 (by decide) (by omega) (by omega) (fun q14 => ?_) (fun q14 => ?_)
        ·
          refine (j_iconst d153_35).trans ?_
          refine (g_iret d153_36 rfl rfl).trans ?_
          show G 154 39 (some (.ref 51) :: some (vI l1) :: some (vI l2) :: some (vI l3) :: some (vI l4) :: t) [vI 0, vI l3] (toM ρ τ) _ = _
          refine ((g_if_eq (tgt := 46) d154_39 (by decide)).trans (if_pos (by decide))).trans ?_
          refine (j_iconst d154_46).trans ?_
          refine (j_iadd d154_47).trans ?_
          refine (g_istore_n d154_48 (by decide) rfl rfl).trans ?_
          refine (j_iinc d154_49 rfl (by decide) rfl rfl).trans ?_
          refine (g_goto (tgt := 22) d154_52 (by decide)).trans ?_
          rfl
        ·
          refine (j_iconst d153_31).trans ?_
          refine (g_goto (tgt := 36) d153_32 (by decide)).trans ?_
          refine (g_iret d153_36 rfl rfl).trans ?_
          show G 154 39 (some (.ref 51) :: some (vI l1) :: some (vI l2) :: some (vI l3) :: some (vI l4) :: t) [vI 1, vI l3] (toM ρ τ) _ = _
          refine ((g_if_eq (tgt := 46) d154_39 (by decide)).trans (if_neg (by decide))).trans ?_
          refine (j_iconst d154_42).trans ?_
          refine (g_goto (tgt := 47) d154_43 (by decide)).trans ?_
          refine (j_iadd d154_47).trans ?_
          refine (g_istore_n d154_48 (by decide) rfl rfl).trans ?_
          refine (j_iinc d154_49 rfl (by decide) rfl rfl).trans ?_
          refine (g_goto (tgt := 22) d154_52 (by decide)).trans ?_
          rfl
      ·
        refine (j_iconst d153_35).trans ?_
        refine (g_iret d153_36 rfl rfl).trans ?_
        show G 154 39 (some (.ref 51) :: some (vI l1) :: some (vI l2) :: some (vI l3) :: some (vI l4) :: t) [vI 0, vI l3] (toM ρ τ) _ = _
        refine ((g_if_eq (tgt := 46) d154_39 (by decide)).trans (if_pos (by decide))).trans ?_
        refine (j_iconst d154_46).trans ?_
        refine (j_iadd d154_47).trans ?_
        refine (g_istore_n d154_48 (by decide) rfl rfl).trans ?_
        refine (j_iinc d154_49 rfl (by decide) rfl rfl).trans ?_
        refine (g_goto (tgt := 22) d154_52 (by decide)).trans ?_
        rfl
