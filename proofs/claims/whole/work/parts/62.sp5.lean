/-! loops, second pass (wip/gen/run_spec5.py) -/
theorem T64c {ρ : rm} (h : TI ρ) (d : Int) : 0 ≤ ρ 64 (3 * d + 2) ∧ ρ 64 (3 * d + 2) ≤ 1439 := by
  have := h.2 64 (3 * d + 2)
  rwa [show loB 64 (3 * d + 2) = 0 from rfl, show hiB 64 (3 * d + 2) = if (3 * d + 2) % 3 = 0 then 5 else if (3 * d + 2) % 3 = 1 then 9 else 1439 from rfl, if_neg (by omega), if_neg (by omega)] at this
set_option maxRecDepth 10000 in
theorem s61 {Q : Option Value → mm → Prop} (ρ : rm) (τ : Int64) (a1 : Int) (a2 : Int) (hT : TI ρ) (h_a1 : 0 ≤ a1 ∧ a1 < 10) (h_a2 : 0 ≤ a2 ∧ a2 ≤ 9999) : G 61 0 (some (.ref 3) :: some (vI a1) :: some (vI a2) :: []) [] (toM ρ τ) Q = G 61 7 (some (.ref 3) :: some (vI a1) :: some (vI a2) :: some (vI 0) :: []) [] (toM (rup ρ 3 1 0) τ) Q := by
  refine (g_aload_n d61_0 rfl rfl).trans ?_
  refine (j_iconst d61_1).trans ?_
  refine (j_putI d61_2 f4_49 sh_3 (by decide) rfl).trans ?_
  refine (j_iconst d61_5).trans ?_
  refine (g_istore_n d61_6 (by decide) rfl rfl).trans ?_
  rfl
set_option maxRecDepth 10000 in
theorem s61_7 {Q : Option Value → mm → Prop} (ρ : rm) (τ : Int64) (l1 : Int) (l2 : Int) (l3 : Int) (t : List (Option Value)) (hT : TI ρ) (h_l1 : 0 ≤ l1 ∧ l1 < 10) (h_l2 : 0 ≤ l2 ∧ l2 ≤ 9999) (h_l3 : 0 ≤ l3 ∧ l3 ≤ 6) : G 61 7 (some (.ref 3) :: some (vI l1) :: some (vI l2) :: some (vI l3) :: t) [] (toM ρ τ) Q = (if (ρ 3 0) ≤ l3 then Q none (toM ρ τ) else G 61 27 (some (.ref 3) :: some (vI l1) :: some (vI l2) :: some (vI l3) :: some (vI (svC ρ l3 l1 l2)) :: some (vI 0) :: t.tail.tail) [] (toM ρ τ) Q) := by
  refine (g_iload_n d61_7 rfl).trans ?_
  refine (g_aload_n d61_8 rfl rfl).trans ?_
  refine (j_getI (v := ρ 3 0) d61_9 f4_31 sh_3 (by decide) rfl rfl).trans ?_
  have q1 : 0 ≤ ρ 3 0 ∧ ρ 3 0 ≤ 6 := hT.2 3 0
  refine j_icmp_ge (tgt := 122) d61_12 (by decide) (by omega) (by omega) (fun q2 => ?_) (fun q2 => ?_)
  ·
    exact g_ret d61_122 rfl
  ·
    refine (g_aload_n d61_15 rfl rfl).trans ?_
    refine (g_iload_n d61_16 rfl).trans ?_
    refine (g_iload_n d61_17 rfl).trans ?_
    refine (g_iload_n d61_18 rfl).trans ?_
    refine (g_cV d61_19 k4_52 rfl rfl rfl).trans ?_
    show G 60 0 [some (.ref 3), some (vI l3), some (vI l1), some (vI l2)] [] (toM ρ τ) _ = _
    refine (c_sv hT (by omega) (by omega) (by omega)).trans ?_
    show G 61 22 (some (.ref 3) :: some (vI l1) :: some (vI l2) :: some (vI l3) :: t) [vI (svC ρ l3 l1 l2)] (toM ρ τ) _ = _
    have q3 := svC_bd hT (s := l3) (l := l1) (t := l2) (by omega)
    refine (g_istore d61_22 (by decide) rfl rfl).trans ?_
    refine (j_iconst d61_24).trans ?_
    refine (g_istore d61_25 (by decide) rfl rfl).trans ?_
    rfl
set_option maxRecDepth 10000 in
theorem s61_27 {Q : Option Value → mm → Prop} (ρ : rm) (τ : Int64) (l1 : Int) (l2 : Int) (l3 : Int) (l4 : Int) (l5 : Int) (t : List (Option Value)) (hT : TI ρ) (h_l1 : 0 ≤ l1 ∧ l1 < 10) (h_l2 : 0 ≤ l2 ∧ l2 ≤ 9999) (h_l3 : 0 ≤ l3 ∧ l3 < 6) (h_l4 : 0 ≤ l4 ∧ l4 ≤ 1100000) (h_l5 : 0 ≤ l5 ∧ l5 ≤ 6) : G 61 27 (some (.ref 3) :: some (vI l1) :: some (vI l2) :: some (vI l3) :: some (vI l4) :: some (vI l5) :: t) [] (toM ρ τ) Q = (if (ρ 3 0) ≤ l5 then G 61 7 (some (.ref 3) :: some (vI l1) :: some (vI l2) :: some (vI (l3 + 1)) :: some (vI l4) :: some (vI l5) :: t) [] (toM ρ τ) Q else (if ((ρ 36 l5) - (ρ 35 l3)) ≤ (ρ 3 1) then G 61 27 (some (.ref 3) :: some (vI l1) :: some (vI l2) :: some (vI l3) :: some (vI l4) :: some (vI (l5 + 1)) :: some (vI (svC ρ l5 (ρ 32 l3) l4)) :: some (vI ((ρ 36 l5) - (ρ 35 l3))) :: t.tail.tail) [] (toM ρ τ) Q else (if 2880 < ((svC ρ l5 (ρ 32 l3) l4) - l2) then G 61 27 (some (.ref 3) :: some (vI l1) :: some (vI l2) :: some (vI l3) :: some (vI l4) :: some (vI (l5 + 1)) :: some (vI (svC ρ l5 (ρ 32 l3) l4)) :: some (vI ((ρ 36 l5) - (ρ 35 l3))) :: t.tail.tail) [] (toM ρ τ) Q else G 61 27 (some (.ref 3) :: some (vI l1) :: some (vI l2) :: some (vI l3) :: some (vI l4) :: some (vI (l5 + 1)) :: some (vI (svC ρ l5 (ρ 32 l3) l4)) :: some (vI ((ρ 36 l5) - (ρ 35 l3))) :: t.tail.tail) [] (toM (rup (rup (rup (rup ρ 3 1 ((ρ 36 l5) - (ρ 35 l3))) 3 2 l3) 3 3 l5) 3 4 (svC ρ l5 (ρ 32 l3) l4)) τ) Q))) := by
  refine (g_iload d61_27 rfl).trans ?_
  refine (g_aload_n d61_29 rfl rfl).trans ?_
  refine (j_getI (v := ρ 3 0) d61_30 f4_31 sh_3 (by decide) rfl rfl).trans ?_
  have q1 : 0 ≤ ρ 3 0 ∧ ρ 3 0 ≤ 6 := hT.2 3 0
  refine j_icmp_ge (tgt := 116) d61_33 (by decide) (by omega) (by omega) (fun q2 => ?_) (fun q2 => ?_)
  ·
    refine (j_iinc d61_116 rfl (by decide) rfl rfl).trans ?_
    refine (g_goto (tgt := 7) d61_119 (by decide)).trans ?_
    rfl
  ·
    refine (g_aload_n d61_36 rfl rfl).trans ?_
    refine (g_iload d61_37 rfl).trans ?_
    refine (g_aload_n d61_39 rfl rfl).trans ?_
    refine (g_getR (q := 32) d61_40 f4_9 sh_3 (by decide) rfl).trans ?_
    refine (g_iload_n d61_43 rfl).trans ?_
    refine (j_ialoadB (v := ρ 32 l3) d61_44 sh_32 (by omega) (by decide) rfl).trans ?_
    have q3 : 0 ≤ ρ 32 l3 ∧ ρ 32 l3 ≤ 9 := hT.2 32 l3
    refine (g_iload d61_45 rfl).trans ?_
    refine (g_cV d61_47 k4_52 rfl rfl rfl).trans ?_
    show G 60 0 [some (.ref 3), some (vI l5), some (vI (ρ 32 l3)), some (vI l4)] [] (toM ρ τ) _ = _
    refine (c_sv hT (by omega) (by omega) (by omega)).trans ?_
    show G 61 50 (some (.ref 3) :: some (vI l1) :: some (vI l2) :: some (vI l3) :: some (vI l4) :: some (vI l5) :: t) [vI (svC ρ l5 (ρ 32 l3) l4)] (toM ρ τ) _ = _
    have q4 := svC_bd hT (s := l5) (l := ρ 32 l3) (t := l4) (by omega)
    refine (g_istore d61_50 (by decide) rfl rfl).trans ?_
    refine (g_aload_n d61_52 rfl rfl).trans ?_
    refine (g_getR (q := 36) d61_53 f4_24 sh_3 (by decide) rfl).trans ?_
    refine (g_iload d61_56 rfl).trans ?_
    refine (j_ialoadB (v := ρ 36 l5) d61_58 sh_36 (by omega) (by decide) rfl).trans ?_
    have q5 : 0 ≤ ρ 36 l5 ∧ ρ 36 l5 ≤ 99 := hT.2 36 l5
    refine (g_aload_n d61_59 rfl rfl).trans ?_
    refine (g_getR (q := 35) d61_60 f4_21 sh_3 (by decide) rfl).trans ?_
    refine (g_iload_n d61_63 rfl).trans ?_
    refine (j_ialoadB (v := ρ 35 l3) d61_64 sh_35 (by omega) (by decide) rfl).trans ?_
    have q6 : 0 ≤ ρ 35 l3 ∧ ρ 35 l3 ≤ 99 := hT.2 35 l3
    refine (j_isub d61_65).trans ?_
    refine (g_istore d61_66 (by decide) rfl rfl).trans ?_
    refine (g_iload d61_68 rfl).trans ?_
    refine (g_aload_n d61_70 rfl rfl).trans ?_
    refine (j_getI (v := ρ 3 1) d61_71 f4_49 sh_3 (by decide) rfl rfl).trans ?_
    have q7 : 0 ≤ ρ 3 1 ∧ ρ 3 1 ≤ 99 := hT.2 3 1
    refine j_icmp_le (tgt := 110) d61_74 (by decide) (by omega) (by omega) (fun q8 => ?_) (fun q8 => ?_)
    ·
      refine (j_iinc d61_110 rfl (by decide) rfl rfl).trans ?_
      refine (g_goto (tgt := 27) d61_113 (by decide)).trans ?_
      rfl
    ·
      refine (g_iload d61_77 rfl).trans ?_
      refine (g_iload_n d61_79 rfl).trans ?_
      refine (j_isub d61_80).trans ?_
      refine (j_sipush d61_81 (by decide)).trans ?_
      refine j_icmp_gt (tgt := 110) d61_84 (by decide) (by omega) (by omega) (fun q9 => ?_) (fun q9 => ?_)
      ·
        refine (j_iinc d61_110 rfl (by decide) rfl rfl).trans ?_
        refine (g_goto (tgt := 27) d61_113 (by decide)).trans ?_
        rfl
      ·
        refine (g_aload_n d61_87 rfl rfl).trans ?_
        refine (g_iload d61_88 rfl).trans ?_
        refine (j_putI d61_90 f4_49 sh_3 (by decide) rfl).trans ?_
        refine (g_aload_n d61_93 rfl rfl).trans ?_
        refine (g_iload_n d61_94 rfl).trans ?_
        refine (j_putI d61_95 f4_56 sh_3 (by decide) rfl).trans ?_
        refine (g_aload_n d61_98 rfl rfl).trans ?_
        refine (g_iload d61_99 rfl).trans ?_
        refine (j_putI d61_101 f4_59 sh_3 (by decide) rfl).trans ?_
        refine (g_aload_n d61_104 rfl rfl).trans ?_
        refine (g_iload d61_105 rfl).trans ?_
        refine (j_putI d61_107 f4_62 sh_3 (by decide) rfl).trans ?_
        refine (j_iinc d61_110 rfl (by decide) rfl rfl).trans ?_
        refine (g_goto (tgt := 27) d61_113 (by decide)).trans ?_
        rfl
set_option maxRecDepth 10000 in
theorem s164 {Q : Option Value → mm → Prop} (ρ : rm) (τ : Int64) (a1 : Int) (a2 : Int) (a3 : Int) (hT : TI ρ) (h_a1 : SB a1) (h_a2 : SB a2) (h_a3 : SB a3) : G 164 0 (some (.ref 51) :: some (vI a1) :: some (vI a2) :: some (vI a3) :: []) [] (toM ρ τ) Q = (if 0 ≤ a1 ∧ a1 ≤ ρ 51 0 - 1 then (if 0 ≤ a2 ∧ a2 ≤ 9999 then (if 0 ≤ a3 ∧ a3 ≤ 3 then G 164 49 (some (.ref 51) :: some (vI a1) :: some (vI a2) :: some (vI a3) :: some (vI 0) :: some (vI (-1)) :: some (vI (-1)) :: some (vI (-1)) :: some (vI 0) :: []) [] (toM ρ τ) Q else Q (some (vI (-3))) (toM ρ τ)) else Q (some (vI (-3))) (toM ρ τ)) else Q (some (vI (-2))) (toM ρ τ)) := by
  refine (g_aload_n d164_0 rfl rfl).trans ?_
  refine (g_iload_n d164_1 rfl).trans ?_
  refine (g_cV d164_2 k10_196 rfl rfl rfl).trans ?_
  show G 119 0 [some (.ref 51), some (vI a1)] [] (toM ρ τ) _ = _
  refine (m_isHouse hT.1 (by omega)).trans ?_
  show G 164 5 (some (.ref 51) :: some (vI a1) :: some (vI a2) :: some (vI a3) :: []) [vI (tv (0 ≤ a1 ∧ a1 ≤ ρ 51 0 - 1))] (toM ρ τ) _ = _
  have q1 := (show 2 ≤ ρ 51 0 ∧ ρ 51 0 ≤ 10 from hT.2 51 0)
  refine j_ifT_ne (tgt := 11) d164_5 (by decide) (fun q2 => ?_) (fun q2 => ?_)
  ·
    refine (g_iload_n d164_11 rfl).trans ?_
    refine (j_iconst d164_12).trans ?_
    refine (j_sipush d164_13 (by decide)).trans ?_
    refine (g_cS d164_16 k10_69 rfl rfl rfl).trans ?_
    show G 117 0 [some (vI a2), some (vI 0), some (vI 9999)] [] (toM ρ τ) _ = _
    refine (m_in hT.1 (by omega) (by omega) (by omega)).trans ?_
    show G 164 19 (some (.ref 51) :: some (vI a1) :: some (vI a2) :: some (vI a3) :: []) [vI (tv (0 ≤ a2 ∧ a2 ≤ 9999))] (toM ρ τ) _ = _
    refine j_ifT_eq (tgt := 31) d164_19 (by decide) (fun q3 => ?_) (fun q3 => ?_)
    ·
      refine (g_iload_n d164_22 rfl).trans ?_
      refine (j_iconst d164_23).trans ?_
      refine (j_iconst d164_24).trans ?_
      refine (g_cS d164_25 k10_69 rfl rfl rfl).trans ?_
      show G 117 0 [some (vI a3), some (vI 0), some (vI 3)] [] (toM ρ τ) _ = _
      refine (m_in hT.1 (by omega) (by omega) (by omega)).trans ?_
      show G 164 28 (some (.ref 51) :: some (vI a1) :: some (vI a2) :: some (vI a3) :: []) [vI (tv (0 ≤ a3 ∧ a3 ≤ 3))] (toM ρ τ) _ = _
      refine j_ifT_ne (tgt := 34) d164_28 (by decide) (fun q4 => ?_) (fun q4 => ?_)
      ·
        refine (j_iconst d164_34).trans ?_
        refine (g_istore d164_35 (by decide) rfl rfl).trans ?_
        refine (j_iconst d164_37).trans ?_
        refine (g_istore d164_38 (by decide) rfl rfl).trans ?_
        refine (j_iconst d164_40).trans ?_
        refine (g_istore d164_41 (by decide) rfl rfl).trans ?_
        refine (j_iconst d164_43).trans ?_
        refine (g_istore d164_44 (by decide) rfl rfl).trans ?_
        refine (j_iconst d164_46).trans ?_
        refine (g_istore d164_47 (by decide) rfl rfl).trans ?_
        rfl
      ·
        refine (j_bipush d164_31 (by decide)).trans ?_
        exact g_iret d164_33 rfl rfl
    ·
      refine (j_bipush d164_31 (by decide)).trans ?_
      exact g_iret d164_33 rfl rfl
  ·
    refine (j_bipush d164_8 (by decide)).trans ?_
    exact g_iret d164_10 rfl rfl
set_option maxRecDepth 10000 in
theorem s164_49 {Q : Option Value → mm → Prop} (ρ : rm) (τ : Int64) (l1 : Int) (l2 : Int) (l3 : Int) (l4 : Int) (l5 : Int) (l6 : Int) (l7 : Int) (l8 : Int) (t : List (Option Value)) (hT : TI ρ) (h_l1 : 0 ≤ l1 ∧ l1 < 10) (h_l2 : 0 ≤ l2 ∧ l2 ≤ 9999) (h_l3 : SB l3) (h_l4 : SM l4) (h_l5 : SM l5) (h_l6 : SM l6) (h_l7 : SM l7) (h_l8 : 0 ≤ l8 ∧ l8 ≤ 6) : G 164 49 (some (.ref 51) :: some (vI l1) :: some (vI l2) :: some (vI l3) :: some (vI l4) :: some (vI l5) :: some (vI l6) :: some (vI l7) :: some (vI l8) :: t) [] (toM ρ τ) Q = (if (ρ 51 7) ≤ l8 then (if l5 = (-1) then Q (some (vI (-1))) (toM ρ τ) else (if l3 = 0 then Q (some (vI l4)) (toM ρ τ) else (if l3 = 1 then Q (some (vI l5)) (toM ρ τ) else (if l3 = 2 then Q (some (vI l6)) (toM ρ τ) else Q (some (vI l7)) (toM ρ τ))))) else G 164 90 (some (.ref 51) :: some (vI l1) :: some (vI l2) :: some (vI l3) :: some (vI l4) :: some (vI l5) :: some (vI l6) :: some (vI l7) :: some (vI l8) :: some (vI (opF (oS ρ) (ρ 56) l8 (l2 + (ρ 57 ((10 * l1) + (ρ 56 (5 * l8))))))) :: some (vI 0) :: t.tail.tail) [] (toM ρ τ) Q) := by
  refine (g_iload d164_49 rfl).trans ?_
  refine (g_aload_n d164_51 rfl rfl).trans ?_
  refine (j_getI (v := ρ 51 7) d164_52 f10_79 sh_51 (by decide) rfl rfl).trans ?_
  have q1 : 0 ≤ ρ 51 7 ∧ ρ 51 7 ≤ 6 := hT.2 51 7
  refine j_icmp_ge (tgt := 207) d164_55 (by decide) (by omega) (by omega) (fun q2 => ?_) (fun q2 => ?_)
  ·
    refine (g_iload d164_207 rfl).trans ?_
    refine (j_iconst d164_209).trans ?_
    refine j_icmp_ne (tgt := 217) d164_210 (by decide) (by omega) (by omega) (fun q3 => ?_) (fun q3 => ?_)
    ·
      refine (j_iconst d164_213).trans ?_
      refine (g_goto (tgt := 248) d164_214 (by decide)).trans ?_
      exact g_iret d164_248 rfl rfl
    ·
      refine (g_iload_n d164_217 rfl).trans ?_
      refine j_if_ne (tgt := 226) d164_218 (by decide) (by omega) (fun q4 => ?_) (fun q4 => ?_)
      ·
        refine (g_iload d164_221 rfl).trans ?_
        refine (g_goto (tgt := 248) d164_223 (by decide)).trans ?_
        exact g_iret d164_248 rfl rfl
      ·
        refine (g_iload_n d164_226 rfl).trans ?_
        refine (j_iconst d164_227).trans ?_
        refine j_icmp_ne (tgt := 236) d164_228 (by decide) (by omega) (by omega) (fun q5 => ?_) (fun q5 => ?_)
        ·
          refine (g_iload d164_231 rfl).trans ?_
          refine (g_goto (tgt := 248) d164_233 (by decide)).trans ?_
          exact g_iret d164_248 rfl rfl
        ·
          refine (g_iload_n d164_236 rfl).trans ?_
          refine (j_iconst d164_237).trans ?_
          refine j_icmp_ne (tgt := 246) d164_238 (by decide) (by omega) (by omega) (fun q6 => ?_) (fun q6 => ?_)
          ·
            refine (g_iload d164_241 rfl).trans ?_
            refine (g_goto (tgt := 248) d164_243 (by decide)).trans ?_
            exact g_iret d164_248 rfl rfl
          ·
            refine (g_iload d164_246 rfl).trans ?_
            exact g_iret d164_248 rfl rfl
  ·
    refine (g_aload_n d164_58 rfl rfl).trans ?_
    refine (g_iload d164_59 rfl).trans ?_
    refine (g_iload_n d164_61 rfl).trans ?_
    refine (g_aload_n d164_62 rfl rfl).trans ?_
    refine (g_getR (q := 57) d164_63 f10_29 sh_51 (by decide) rfl).trans ?_
    refine (j_bipush d164_66 (by decide)).trans ?_
    refine (g_iload_n d164_68 rfl).trans ?_
    refine (j_imul d164_69).trans ?_
    refine (g_aload_n d164_70 rfl rfl).trans ?_
    refine (g_getR (q := 56) d164_71 f10_26 sh_51 (by decide) rfl).trans ?_
    refine (j_iconst d164_74).trans ?_
    refine (g_iload d164_75 rfl).trans ?_
    refine (j_imul d164_77).trans ?_
    refine (j_ialoadB (v := ρ 56 (5 * l8)) d164_78 sh_56 (by omega) (by decide) rfl).trans ?_
    have q7 := T56a hT l8
    refine (j_iadd d164_79).trans ?_
    refine (j_ialoadB (v := ρ 57 ((10 * l1) + (ρ 56 (5 * l8)))) d164_80 sh_57 (by omega) (by decide) rfl).trans ?_
    have q8 : 0 ≤ ρ 57 ((10 * l1) + (ρ 56 (5 * l8))) ∧ ρ 57 ((10 * l1) + (ρ 56 (5 * l8))) ≤ 100000 := hT.2 57 ((10 * l1) + (ρ 56 (5 * l8)))
    refine (j_iadd d164_81).trans ?_
    refine (g_cV d164_82 k10_234 rfl rfl rfl).trans ?_
    show G 163 0 [some (.ref 51), some (vI l8), some (vI (l2 + (ρ 57 ((10 * l1) + (ρ 56 (5 * l8))))))] [] (toM ρ τ) _ = _
    refine (m_op hT (by omega) (by omega)).trans ?_
    show G 164 85 (some (.ref 51) :: some (vI l1) :: some (vI l2) :: some (vI l3) :: some (vI l4) :: some (vI l5) :: some (vI l6) :: some (vI l7) :: some (vI l8) :: t) [vI (opF (oS ρ) (ρ 56) l8 (l2 + (ρ 57 ((10 * l1) + (ρ 56 (5 * l8))))))] (toM ρ τ) _ = _
    have q9 := opF_bd (oS ρ) (ρ 56) l8 (l2 + (ρ 57 ((10 * l1) + (ρ 56 (5 * l8)))))
    refine (g_istore d164_85 (by decide) rfl rfl).trans ?_
    refine (j_iconst d164_87).trans ?_
    refine (g_istore d164_88 (by decide) rfl rfl).trans ?_
    rfl
set_option maxRecDepth 10000 in
theorem s164_90 {Q : Option Value → mm → Prop} (ρ : rm) (τ : Int64) (l1 : Int) (l2 : Int) (l3 : Int) (l4 : Int) (l5 : Int) (l6 : Int) (l7 : Int) (l8 : Int) (l9 : Int) (l10 : Int) (t : List (Option Value)) (hT : TI ρ) (h_l1 : 0 ≤ l1 ∧ l1 < 10) (h_l2 : 0 ≤ l2 ∧ l2 ≤ 9999) (h_l3 : SB l3) (h_l4 : SM l4) (h_l5 : SM l5) (h_l6 : SM l6) (h_l7 : SM l7) (h_l8 : 0 ≤ l8 ∧ l8 < 6) (h_l9 : 0 ≤ l9 ∧ l9 ≤ 1100000) (h_l10 : 0 ≤ l10 ∧ l10 ≤ 6) : G 164 90 (some (.ref 51) :: some (vI l1) :: some (vI l2) :: some (vI l3) :: some (vI l4) :: some (vI l5) :: some (vI l6) :: some (vI l7) :: some (vI l8) :: some (vI l9) :: some (vI l10) :: t) [] (toM ρ τ) Q = (if (ρ 51 7) ≤ l10 then G 164 49 (some (.ref 51) :: some (vI l1) :: some (vI l2) :: some (vI l3) :: some (vI l4) :: some (vI l5) :: some (vI l6) :: some (vI l7) :: some (vI (l8 + 1)) :: some (vI l9) :: some (vI l10) :: t) [] (toM ρ τ) Q else (if 2880 < ((opF (oS ρ) (ρ 56) l10 (l9 + (ρ 57 ((10 * (ρ 56 (5 * l8))) + (ρ 56 (5 * l10)))))) - l2) then G 164 90 (some (.ref 51) :: some (vI l1) :: some (vI l2) :: some (vI l3) :: some (vI l4) :: some (vI l5) :: some (vI l6) :: some (vI l7) :: some (vI l8) :: some (vI l9) :: some (vI (l10 + 1)) :: some (vI (opF (oS ρ) (ρ 56) l10 (l9 + (ρ 57 ((10 * (ρ 56 (5 * l8))) + (ρ 56 (5 * l10))))))) :: some (vI ((ρ 56 ((5 * l10) + 4)) - (ρ 56 ((5 * l8) + 3)))) :: t.tail.tail) [] (toM ρ τ) Q else (if ((ρ 56 ((5 * l10) + 4)) - (ρ 56 ((5 * l8) + 3))) ≤ l4 then G 164 90 (some (.ref 51) :: some (vI l1) :: some (vI l2) :: some (vI l3) :: some (vI l4) :: some (vI l5) :: some (vI l6) :: some (vI l7) :: some (vI l8) :: some (vI l9) :: some (vI (l10 + 1)) :: some (vI (opF (oS ρ) (ρ 56) l10 (l9 + (ρ 57 ((10 * (ρ 56 (5 * l8))) + (ρ 56 (5 * l10))))))) :: some (vI ((ρ 56 ((5 * l10) + 4)) - (ρ 56 ((5 * l8) + 3)))) :: t.tail.tail) [] (toM ρ τ) Q else G 164 90 (some (.ref 51) :: some (vI l1) :: some (vI l2) :: some (vI l3) :: some (vI ((ρ 56 ((5 * l10) + 4)) - (ρ 56 ((5 * l8) + 3)))) :: some (vI l8) :: some (vI l10) :: some (vI (opF (oS ρ) (ρ 56) l10 (l9 + (ρ 57 ((10 * (ρ 56 (5 * l8))) + (ρ 56 (5 * l10))))))) :: some (vI l8) :: some (vI l9) :: some (vI (l10 + 1)) :: some (vI (opF (oS ρ) (ρ 56) l10 (l9 + (ρ 57 ((10 * (ρ 56 (5 * l8))) + (ρ 56 (5 * l10))))))) :: some (vI ((ρ 56 ((5 * l10) + 4)) - (ρ 56 ((5 * l8) + 3)))) :: t.tail.tail) [] (toM ρ τ) Q))) := by
  refine (g_iload d164_90 rfl).trans ?_
  refine (g_aload_n d164_92 rfl rfl).trans ?_
  refine (j_getI (v := ρ 51 7) d164_93 f10_79 sh_51 (by decide) rfl rfl).trans ?_
  have q1 : 0 ≤ ρ 51 7 ∧ ρ 51 7 ≤ 6 := hT.2 51 7
  refine j_icmp_ge (tgt := 201) d164_96 (by decide) (by omega) (by omega) (fun q2 => ?_) (fun q2 => ?_)
  ·
    refine (j_iinc d164_201 rfl (by decide) rfl rfl).trans ?_
    refine (g_goto (tgt := 49) d164_204 (by decide)).trans ?_
    rfl
  ·
    refine (g_aload_n d164_99 rfl rfl).trans ?_
    refine (g_iload d164_100 rfl).trans ?_
    refine (g_iload d164_102 rfl).trans ?_
    refine (g_aload_n d164_104 rfl rfl).trans ?_
    refine (g_getR (q := 57) d164_105 f10_29 sh_51 (by decide) rfl).trans ?_
    refine (j_bipush d164_108 (by decide)).trans ?_
    refine (g_aload_n d164_110 rfl rfl).trans ?_
    refine (g_getR (q := 56) d164_111 f10_26 sh_51 (by decide) rfl).trans ?_
    refine (j_iconst d164_114).trans ?_
    refine (g_iload d164_115 rfl).trans ?_
    refine (j_imul d164_117).trans ?_
    refine (j_ialoadB (v := ρ 56 (5 * l8)) d164_118 sh_56 (by omega) (by decide) rfl).trans ?_
    have q3 := T56a hT l8
    refine (j_imul d164_119).trans ?_
    refine (g_aload_n d164_120 rfl rfl).trans ?_
    refine (g_getR (q := 56) d164_121 f10_26 sh_51 (by decide) rfl).trans ?_
    refine (j_iconst d164_124).trans ?_
    refine (g_iload d164_125 rfl).trans ?_
    refine (j_imul d164_127).trans ?_
    refine (j_ialoadB (v := ρ 56 (5 * l10)) d164_128 sh_56 (by omega) (by decide) rfl).trans ?_
    have q4 := T56a hT l10
    refine (j_iadd d164_129).trans ?_
    refine (j_ialoadB (v := ρ 57 ((10 * (ρ 56 (5 * l8))) + (ρ 56 (5 * l10)))) d164_130 sh_57 (by omega) (by decide) rfl).trans ?_
    have q5 : 0 ≤ ρ 57 ((10 * (ρ 56 (5 * l8))) + (ρ 56 (5 * l10))) ∧ ρ 57 ((10 * (ρ 56 (5 * l8))) + (ρ 56 (5 * l10))) ≤ 100000 := hT.2 57 ((10 * (ρ 56 (5 * l8))) + (ρ 56 (5 * l10)))
    refine (j_iadd d164_131).trans ?_
    refine (g_cV d164_132 k10_234 rfl rfl rfl).trans ?_
    show G 163 0 [some (.ref 51), some (vI l10), some (vI (l9 + (ρ 57 ((10 * (ρ 56 (5 * l8))) + (ρ 56 (5 * l10))))))] [] (toM ρ τ) _ = _
    refine (m_op hT (by omega) (by omega)).trans ?_
    show G 164 135 (some (.ref 51) :: some (vI l1) :: some (vI l2) :: some (vI l3) :: some (vI l4) :: some (vI l5) :: some (vI l6) :: some (vI l7) :: some (vI l8) :: some (vI l9) :: some (vI l10) :: t) [vI (opF (oS ρ) (ρ 56) l10 (l9 + (ρ 57 ((10 * (ρ 56 (5 * l8))) + (ρ 56 (5 * l10))))))] (toM ρ τ) _ = _
    have q6 := opF_bd (oS ρ) (ρ 56) l10 (l9 + (ρ 57 ((10 * (ρ 56 (5 * l8))) + (ρ 56 (5 * l10)))))
    refine (g_istore d164_135 (by decide) rfl rfl).trans ?_
    refine (g_aload_n d164_137 rfl rfl).trans ?_
    refine (g_getR (q := 56) d164_138 f10_26 sh_51 (by decide) rfl).trans ?_
    refine (j_iconst d164_141).trans ?_
    refine (g_iload d164_142 rfl).trans ?_
    refine (j_imul d164_144).trans ?_
    refine (j_iconst d164_145).trans ?_
    refine (j_iadd d164_146).trans ?_
    refine (j_ialoadB (v := ρ 56 ((5 * l10) + 4)) d164_147 sh_56 (by omega) (by decide) rfl).trans ?_
    have q7 := hT.1 56 ((5 * l10) + 4) (by decide)
    refine (g_aload_n d164_148 rfl rfl).trans ?_
    refine (g_getR (q := 56) d164_149 f10_26 sh_51 (by decide) rfl).trans ?_
    refine (j_iconst d164_152).trans ?_
    refine (g_iload d164_153 rfl).trans ?_
    refine (j_imul d164_155).trans ?_
    refine (j_iconst d164_156).trans ?_
    refine (j_iadd d164_157).trans ?_
    refine (j_ialoadB (v := ρ 56 ((5 * l8) + 3)) d164_158 sh_56 (by omega) (by decide) rfl).trans ?_
    have q8 := hT.1 56 ((5 * l8) + 3) (by decide)
    refine (j_isub d164_159).trans ?_
    refine (g_istore d164_160 (by decide) rfl rfl).trans ?_
    refine (g_iload d164_162 rfl).trans ?_
    refine (g_iload_n d164_164 rfl).trans ?_
    refine (j_isub d164_165).trans ?_
    refine (j_sipush d164_166 (by decide)).trans ?_
    refine j_icmp_gt (tgt := 195) d164_169 (by decide) (by omega) (by omega) (fun q9 => ?_) (fun q9 => ?_)
    ·
      refine (j_iinc d164_195 rfl (by decide) rfl rfl).trans ?_
      refine (g_goto (tgt := 90) d164_198 (by decide)).trans ?_
      rfl
    ·
      refine (g_iload d164_172 rfl).trans ?_
      refine (g_iload d164_174 rfl).trans ?_
      refine j_icmp_le (tgt := 195) d164_176 (by decide) (by omega) (by omega) (fun q10 => ?_) (fun q10 => ?_)
      ·
        refine (j_iinc d164_195 rfl (by decide) rfl rfl).trans ?_
        refine (g_goto (tgt := 90) d164_198 (by decide)).trans ?_
        rfl
      ·
        refine (g_iload d164_179 rfl).trans ?_
        refine (g_istore d164_181 (by decide) rfl rfl).trans ?_
        refine (g_iload d164_183 rfl).trans ?_
        refine (g_istore d164_185 (by decide) rfl rfl).trans ?_
        refine (g_iload d164_187 rfl).trans ?_
        refine (g_istore d164_189 (by decide) rfl rfl).trans ?_
        refine (g_iload d164_191 rfl).trans ?_
        refine (g_istore d164_193 (by decide) rfl rfl).trans ?_
        refine (j_iinc d164_195 rfl (by decide) rfl rfl).trans ?_
        refine (g_goto (tgt := 90) d164_198 (by decide)).trans ?_
        rfl
set_option maxRecDepth 10000 in
theorem s66 {Q : Option Value → mm → Prop} (ρ : rm) (τ : Int64)  (hT : TI ρ)  : G 66 0 (some (.ref 9) :: []) [] (toM ρ τ) Q = G 66 4 (some (.ref 9) :: some (vI 0) :: some (vI 0) :: []) [] (toM ρ τ) Q := by
  refine (j_iconst d66_0).trans ?_
  refine (g_istore_n d66_1 (by decide) rfl rfl).trans ?_
  refine (j_iconst d66_2).trans ?_
  refine (g_istore_n d66_3 (by decide) rfl rfl).trans ?_
  rfl
set_option maxRecDepth 10000 in
theorem s66_4 {Q : Option Value → mm → Prop} (ρ : rm) (τ : Int64) (l1 : Int) (l2 : Int) (t : List (Option Value)) (hT : TI ρ) (h_l1 : SM l1) (h_l2 : 0 ≤ l2 ∧ l2 ≤ 12) : G 66 4 (some (.ref 9) :: some (vI l1) :: some (vI l2) :: t) [] (toM ρ τ) Q = (if (ρ 9 0) ≤ l2 then Q (some (vI l1)) (toM ρ τ) else G 66 4 (some (.ref 9) :: some (vI ((iI l1 ||| iI ((iI (exS ρ (ρ 49 l2) (ρ 50 l2)) &&& iI ((iI 1 <<< (iI (ρ 48 l2) &&& 31)).toInt)).toInt)).toInt)) :: some (vI (l2 + 1)) :: t) [] (toM ρ τ) Q) := by
  refine (g_iload_n d66_4 rfl).trans ?_
  refine (g_aload_n d66_5 rfl rfl).trans ?_
  refine (j_getI (v := ρ 9 0) d66_6 f5_25 sh_9 (by decide) rfl rfl).trans ?_
  have q1 : 0 ≤ ρ 9 0 ∧ ρ 9 0 ≤ 12 := hT.2 9 0
  refine j_icmp_ge (tgt := 46) d66_9 (by decide) (by omega) (by omega) (fun q2 => ?_) (fun q2 => ?_)
  ·
    refine (g_iload_n d66_46 rfl).trans ?_
    exact g_iret d66_47 rfl rfl
  ·
    refine (g_iload_n d66_12 rfl).trans ?_
    refine (g_aload_n d66_13 rfl rfl).trans ?_
    refine (g_aload_n d66_14 rfl rfl).trans ?_
    refine (g_getR (q := 49) d66_15 f5_15 sh_9 (by decide) rfl).trans ?_
    refine (g_iload_n d66_18 rfl).trans ?_
    refine (j_ialoadB (v := ρ 49 l2) d66_19 sh_49 (by omega) (by decide) rfl).trans ?_
    have q3 : 0 ≤ ρ 49 l2 ∧ ρ 49 l2 ≤ 9 := hT.2 49 l2
    refine (g_aload_n d66_20 rfl rfl).trans ?_
    refine (g_getR (q := 50) d66_21 f5_18 sh_9 (by decide) rfl).trans ?_
    refine (g_iload_n d66_24 rfl).trans ?_
    refine (j_ialoadB (v := ρ 50 l2) d66_25 sh_50 (by omega) (by decide) rfl).trans ?_
    have q4 : 0 ≤ ρ 50 l2 ∧ ρ 50 l2 ≤ 20000 := hT.2 50 l2
    refine (g_cV d66_26 k5_44 rfl rfl rfl).trans ?_
    show G 65 0 [some (.ref 9), some (vI (ρ 49 l2)), some (vI (ρ 50 l2))] [] (toM ρ τ) _ = _
    refine (c_exc hT (by omega) (by omega)).trans ?_
    show G 66 29 (some (.ref 9) :: some (vI l1) :: some (vI l2) :: t) [vI (exS ρ (ρ 49 l2) (ρ 50 l2)), vI l1] (toM ρ τ) _ = _
    have q5 := (exS_I hT (ρ 49 l2) (ρ 50 l2)).2.1
    refine (j_iconst d66_29).trans ?_
    refine (g_aload_n d66_30 rfl rfl).trans ?_
    refine (g_getR (q := 48) d66_31 f5_9 sh_9 (by decide) rfl).trans ?_
    refine (g_iload_n d66_34 rfl).trans ?_
    refine (j_ialoadB (v := ρ 48 l2) d66_35 sh_48 (by omega) (by decide) rfl).trans ?_
    have q6 : 0 ≤ ρ 48 l2 ∧ ρ 48 l2 ≤ 5 := hT.2 48 l2
    refine (j_ishl d66_36).trans ?_
    have q7 := SB_of (iI 1 <<< (iI (ρ 48 l2) &&& 31))
    refine (j_iand d66_37).trans ?_
    have q8 := SB_of (iI (exS ρ (ρ 49 l2) (ρ 50 l2)) &&& iI ((iI 1 <<< (iI (ρ 48 l2) &&& 31)).toInt))
    refine (j_ior d66_38).trans ?_
    have q9 := SB_of (iI l1 ||| iI ((iI (exS ρ (ρ 49 l2) (ρ 50 l2)) &&& iI ((iI 1 <<< (iI (ρ 48 l2) &&& 31)).toInt)).toInt))
    refine (g_istore_n d66_39 (by decide) rfl rfl).trans ?_
    refine (j_iinc d66_40 rfl (by decide) rfl rfl).trans ?_
    refine (g_goto (tgt := 4) d66_43 (by decide)).trans ?_
    rfl
set_option maxRecDepth 10000 in
theorem s175 {Q : Option Value → mm → Prop} (ρ : rm) (τ : Int64)  (hT : TI ρ)  : G 175 0 (some (.ref 51) :: []) [] (toM ρ τ) Q = G 175 4 (some (.ref 51) :: some (vI 0) :: some (vI 0) :: []) [] (toM ρ τ) Q := by
  refine (j_iconst d175_0).trans ?_
  refine (g_istore_n d175_1 (by decide) rfl rfl).trans ?_
  refine (j_iconst d175_2).trans ?_
  refine (g_istore_n d175_3 (by decide) rfl rfl).trans ?_
  rfl
set_option maxRecDepth 10000 in
theorem s175_4 {Q : Option Value → mm → Prop} (ρ : rm) (τ : Int64) (l1 : Int) (l2 : Int) (t : List (Option Value)) (hT : TI ρ) (h_l1 : SM l1) (h_l2 : 0 ≤ l2 ∧ l2 ≤ 12) : G 175 4 (some (.ref 51) :: some (vI l1) :: some (vI l2) :: t) [] (toM ρ τ) Q = (if (ρ 51 32) ≤ l2 then Q (some (vI l1)) (toM ρ τ) else G 175 14 (some (.ref 51) :: some (vI l1) :: some (vI l2) :: some (vI 0) :: t.tail) [] (toM ρ τ) Q) := by
  refine (g_iload_n d175_4 rfl).trans ?_
  refine (g_aload_n d175_5 rfl rfl).trans ?_
  refine (j_getI (v := ρ 51 32) d175_6 f10_193 sh_51 (by decide) rfl rfl).trans ?_
  have q1 : 0 ≤ ρ 51 32 ∧ ρ 51 32 ≤ 12 := hT.2 51 32
  refine j_icmp_ge (tgt := 126) d175_9 (by decide) (by omega) (by omega) (fun q2 => ?_) (fun q2 => ?_)
  ·
    refine (g_iload_n d175_126 rfl).trans ?_
    exact g_iret d175_127 rfl rfl
  ·
    refine (j_iconst d175_12).trans ?_
    refine (g_istore_n d175_13 (by decide) rfl rfl).trans ?_
    rfl
set_option maxRecDepth 10000 in
theorem s175_14 {Q : Option Value → mm → Prop} (ρ : rm) (τ : Int64) (l1 : Int) (l2 : Int) (l3 : Int) (t : List (Option Value)) (hT : TI ρ) (h_l1 : SM l1) (h_l2 : 0 ≤ l2 ∧ l2 < 12) (h_l3 : 0 ≤ l3 ∧ l3 ≤ 12) : G 175 14 (some (.ref 51) :: some (vI l1) :: some (vI l2) :: some (vI l3) :: t) [] (toM ρ τ) Q = (if l2 ≤ l3 then G 175 4 (some (.ref 51) :: some (vI l1) :: some (vI (l2 + 1)) :: some (vI l3) :: t) [] (toM ρ τ) Q else (if (ρ 64 (3 * l2)) = (ρ 64 (3 * l3)) then (if ρ 57 ((10 * (ρ 64 ((3 * l2) + 1))) + (ρ 64 ((3 * l3) + 1))) ≤ iab ((ρ 64 ((3 * l2) + 2)) + oS ρ (ρ 64 ((3 * l2) + 1)) - (ρ 64 ((3 * l3) + 2)) - oS ρ (ρ 64 ((3 * l3) + 1))) then G 175 14 (some (.ref 51) :: some (vI ((iI l1 ||| iI 0).toInt)) :: some (vI l2) :: some (vI (l3 + 1)) :: some (vI 1) :: t.tail) [] (toM ρ τ) Q else G 175 14 (some (.ref 51) :: some (vI ((iI l1 ||| iI ((iI 1 <<< (iI (ρ 64 (3 * l2)) &&& 31)).toInt)).toInt)) :: some (vI l2) :: some (vI (l3 + 1)) :: some (vI 0) :: t.tail) [] (toM ρ τ) Q) else G 175 14 (some (.ref 51) :: some (vI ((iI l1 ||| iI 0).toInt)) :: some (vI l2) :: some (vI (l3 + 1)) :: some (vI 1) :: t.tail) [] (toM ρ τ) Q)) := by
  refine (g_iload_n d175_14 rfl).trans ?_
  refine (g_iload_n d175_15 rfl).trans ?_
  refine j_icmp_ge (tgt := 120) d175_16 (by decide) (by omega) (by omega) (fun q1 => ?_) (fun q1 => ?_)
  ·
    refine (j_iinc d175_120 rfl (by decide) rfl rfl).trans ?_
    refine (g_goto (tgt := 4) d175_123 (by decide)).trans ?_
    rfl
  ·
    refine (g_aload_n d175_19 rfl rfl).trans ?_
    refine (g_getR (q := 64) d175_20 f10_51 sh_51 (by decide) rfl).trans ?_
    refine (j_iconst d175_23).trans ?_
    refine (g_iload_n d175_24 rfl).trans ?_
    refine (j_imul d175_25).trans ?_
    refine (j_ialoadB (v := ρ 64 (3 * l2)) d175_26 sh_64 (by omega) (by decide) rfl).trans ?_
    have q2 := T64a hT l2
    refine (g_aload_n d175_27 rfl rfl).trans ?_
    refine (g_getR (q := 64) d175_28 f10_51 sh_51 (by decide) rfl).trans ?_
    refine (j_iconst d175_31).trans ?_
    refine (g_iload_n d175_32 rfl).trans ?_
    refine (j_imul d175_33).trans ?_
    refine (j_ialoadB (v := ρ 64 (3 * l3)) d175_34 sh_64 (by omega) (by decide) rfl).trans ?_
    have q3 := T64a hT l3
    refine j_icmp_ne (tgt := 85) d175_35 (by decide) (by omega) (by omega) (fun q4 => ?_) (fun q4 => ?_)
    ·
      refine (g_aload_n d175_38 rfl rfl).trans ?_
      refine (g_aload_n d175_39 rfl rfl).trans ?_
      refine (g_getR (q := 64) d175_40 f10_51 sh_51 (by decide) rfl).trans ?_
      refine (j_iconst d175_43).trans ?_
      refine (g_iload_n d175_44 rfl).trans ?_
      refine (j_imul d175_45).trans ?_
      refine (j_iconst d175_46).trans ?_
      refine (j_iadd d175_47).trans ?_
      refine (j_ialoadB (v := ρ 64 ((3 * l2) + 1)) d175_48 sh_64 (by omega) (by decide) rfl).trans ?_
      have q5 := T64b hT l2
      refine (g_aload_n d175_49 rfl rfl).trans ?_
      refine (g_getR (q := 64) d175_50 f10_51 sh_51 (by decide) rfl).trans ?_
      refine (j_iconst d175_53).trans ?_
      refine (g_iload_n d175_54 rfl).trans ?_
      refine (j_imul d175_55).trans ?_
      refine (j_iconst d175_56).trans ?_
      refine (j_iadd d175_57).trans ?_
      refine (j_ialoadB (v := ρ 64 ((3 * l2) + 2)) d175_58 sh_64 (by omega) (by decide) rfl).trans ?_
      have q6 := T64c hT l2
      refine (g_aload_n d175_59 rfl rfl).trans ?_
      refine (g_getR (q := 64) d175_60 f10_51 sh_51 (by decide) rfl).trans ?_
      refine (j_iconst d175_63).trans ?_
      refine (g_iload_n d175_64 rfl).trans ?_
      refine (j_imul d175_65).trans ?_
      refine (j_iconst d175_66).trans ?_
      refine (j_iadd d175_67).trans ?_
      refine (j_ialoadB (v := ρ 64 ((3 * l3) + 1)) d175_68 sh_64 (by omega) (by decide) rfl).trans ?_
      have q7 := T64b hT l3
      refine (g_aload_n d175_69 rfl rfl).trans ?_
      refine (g_getR (q := 64) d175_70 f10_51 sh_51 (by decide) rfl).trans ?_
      refine (j_iconst d175_73).trans ?_
      refine (g_iload_n d175_74 rfl).trans ?_
      refine (j_imul d175_75).trans ?_
      refine (j_iconst d175_76).trans ?_
      refine (j_iadd d175_77).trans ?_
      refine (j_ialoadB (v := ρ 64 ((3 * l3) + 2)) d175_78 sh_64 (by omega) (by decide) rfl).trans ?_
      have q8 := T64c hT l3
      refine (g_cV d175_79 k10_253 rfl rfl rfl).trans ?_
      show G 174 0 [some (.ref 51), some (vI (ρ 64 ((3 * l2) + 1))), some (vI (ρ 64 ((3 * l2) + 2))), some (vI (ρ 64 ((3 * l3) + 1))), some (vI (ρ 64 ((3 * l3) + 2)))] [] (toM ρ τ) _ = _
      refine (m_both hT (by omega) (by omega) (by omega) (by omega)).trans ?_
      show G 175 82 (some (.ref 51) :: some (vI l1) :: some (vI l2) :: some (vI l3) :: t) [vI (tv (ρ 57 ((10 * (ρ 64 ((3 * l2) + 1))) + (ρ 64 ((3 * l3) + 1))) ≤ iab ((ρ 64 ((3 * l2) + 2)) + oS ρ (ρ 64 ((3 * l2) + 1)) - (ρ 64 ((3 * l3) + 2)) - oS ρ (ρ 64 ((3 * l3) + 1)))))] (toM ρ τ) _ = _
      refine j_ifT_eq (tgt := 89) d175_82 (by decide) (fun q9 => ?_) (fun q9 => ?_)
      ·
        refine (j_iconst d175_85).trans ?_
        refine (g_goto (tgt := 90) d175_86 (by decide)).trans ?_
        refine (g_istore d175_90 (by decide) rfl rfl).trans ?_
        refine (g_iload_n d175_92 rfl).trans ?_
        refine (g_iload d175_93 rfl).trans ?_
        refine ((g_if_eq (tgt := 102) d175_95 (by decide)).trans (if_neg (by decide))).trans ?_
        refine (j_iconst d175_98).trans ?_
        refine (g_goto (tgt := 112) d175_99 (by decide)).trans ?_
        refine (j_ior d175_112).trans ?_
        have q10 := SB_of (iI l1 ||| iI 0)
        refine (g_istore_n d175_113 (by decide) rfl rfl).trans ?_
        refine (j_iinc d175_114 rfl (by decide) rfl rfl).trans ?_
        refine (g_goto (tgt := 14) d175_117 (by decide)).trans ?_
        rfl
      ·
        refine (j_iconst d175_89).trans ?_
        refine (g_istore d175_90 (by decide) rfl rfl).trans ?_
        refine (g_iload_n d175_92 rfl).trans ?_
        refine (g_iload d175_93 rfl).trans ?_
        refine ((g_if_eq (tgt := 102) d175_95 (by decide)).trans (if_pos (by decide))).trans ?_
        refine (j_iconst d175_102).trans ?_
        refine (g_aload_n d175_103 rfl rfl).trans ?_
        refine (g_getR (q := 64) d175_104 f10_51 sh_51 (by decide) rfl).trans ?_
        refine (j_iconst d175_107).trans ?_
        refine (g_iload_n d175_108 rfl).trans ?_
        refine (j_imul d175_109).trans ?_
        refine (j_ialoadB (v := ρ 64 (3 * l2)) d175_110 sh_64 (by omega) (by decide) rfl).trans ?_
        refine (j_ishl d175_111).trans ?_
        have q11 := SB_of (iI 1 <<< (iI (ρ 64 (3 * l2)) &&& 31))
        refine (j_ior d175_112).trans ?_
        have q12 := SB_of (iI l1 ||| iI ((iI 1 <<< (iI (ρ 64 (3 * l2)) &&& 31)).toInt))
        refine (g_istore_n d175_113 (by decide) rfl rfl).trans ?_
        refine (j_iinc d175_114 rfl (by decide) rfl rfl).trans ?_
        refine (g_goto (tgt := 14) d175_117 (by decide)).trans ?_
        rfl
    ·
      refine (j_iconst d175_85).trans ?_
      refine (g_goto (tgt := 90) d175_86 (by decide)).trans ?_
      refine (g_istore d175_90 (by decide) rfl rfl).trans ?_
      refine (g_iload_n d175_92 rfl).trans ?_
      refine (g_iload d175_93 rfl).trans ?_
      refine ((g_if_eq (tgt := 102) d175_95 (by decide)).trans (if_neg (by decide))).trans ?_
      refine (j_iconst d175_98).trans ?_
      refine (g_goto (tgt := 112) d175_99 (by decide)).trans ?_
      refine (j_ior d175_112).trans ?_
      have q13 := SB_of (iI l1 ||| iI 0)
      refine (g_istore_n d175_113 (by decide) rfl rfl).trans ?_
      refine (j_iinc d175_114 rfl (by decide) rfl rfl).trans ?_
      refine (g_goto (tgt := 14) d175_117 (by decide)).trans ?_
      rfl
