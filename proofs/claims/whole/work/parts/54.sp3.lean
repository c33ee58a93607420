/-! loops, second pass (wip/gen/run_spec3.py) -/
set_option maxRecDepth 10000 in
theorem s38 {Q : Option Value → mm → Prop} (ρ : rm) (τ : Int64)  (hT : TI ρ)  : G 38 0 (some (.ref 1) :: []) [] (toM ρ τ) Q = G 38 4 (some (.ref 1) :: some (vI 0) :: some (vI 0) :: []) [] (toM ρ τ) Q := by
  refine (j_iconst d38_0).trans ?_
  refine (g_istore_n d38_1 (by decide) rfl rfl).trans ?_
  refine (j_iconst d38_2).trans ?_
  refine (g_istore_n d38_3 (by decide) rfl rfl).trans ?_
  rfl
set_option maxRecDepth 10000 in
theorem s38_4 {Q : Option Value → mm → Prop} (ρ : rm) (τ : Int64) (l1 : Int) (l2 : Int) (t : List (Option Value)) (hT : TI ρ) (h_l1 : SM l1) (h_l2 : 0 ≤ l2 ∧ l2 ≤ 10) : G 38 4 (some (.ref 1) :: some (vI l1) :: some (vI l2) :: t) [] (toM ρ τ) Q = (if (ρ 1 1) ≤ l2 then Q (some (vI l1)) (toM ρ τ) else G 38 14 (some (.ref 1) :: some (vI l1) :: some (vI l2) :: some (vI 0) :: t.tail) [] (toM ρ τ) Q) := by
  refine (g_iload_n d38_4 rfl).trans ?_
  refine (g_aload_n d38_5 rfl rfl).trans ?_
  refine (j_getI (v := ρ 1 1) d38_6 f2_42 sh_1 (by decide) rfl rfl).trans ?_
  have q1 : 2 ≤ ρ 1 1 ∧ ρ 1 1 ≤ 10 := hT.2 1 1
  refine j_icmp_ge (tgt := 46) d38_9 (by decide) (by omega) (by omega) (fun q2 => ?_) (fun q2 => ?_)
  ·
    refine (g_iload_n d38_46 rfl).trans ?_
    exact g_iret d38_47 rfl rfl
  ·
    refine (j_iconst d38_12).trans ?_
    refine (g_istore_n d38_13 (by decide) rfl rfl).trans ?_
    rfl
set_option maxRecDepth 10000 in
theorem s38_14 {Q : Option Value → mm → Prop} (ρ : rm) (τ : Int64) (l1 : Int) (l2 : Int) (l3 : Int) (t : List (Option Value)) (hT : TI ρ) (h_l1 : SM l1) (h_l2 : 0 ≤ l2 ∧ l2 < 10) (h_l3 : 0 ≤ l3 ∧ l3 ≤ 10) : G 38 14 (some (.ref 1) :: some (vI l1) :: some (vI l2) :: some (vI l3) :: t) [] (toM ρ τ) Q = (if (ρ 1 1) ≤ l3 then G 38 4 (some (.ref 1) :: some (vI l1) :: some (vI (l2 + 1)) :: some (vI l3) :: t) [] (toM ρ τ) Q else (if 0 ≤ (ρ (17 + l2.toNat) l3 - (ρ 10 l3 - ρ 10 l2)) then G 38 14 (some (.ref 1) :: some (vI l1) :: some (vI l2) :: some (vI (l3 + 1)) :: t) [] (toM ρ τ) Q else G 38 14 (some (.ref 1) :: some (vI (l1 + 1)) :: some (vI l2) :: some (vI (l3 + 1)) :: t) [] (toM ρ τ) Q)) := by
  refine (g_iload_n d38_14 rfl).trans ?_
  refine (g_aload_n d38_15 rfl rfl).trans ?_
  refine (j_getI (v := ρ 1 1) d38_16 f2_42 sh_1 (by decide) rfl rfl).trans ?_
  have q1 : 2 ≤ ρ 1 1 ∧ ρ 1 1 ≤ 10 := hT.2 1 1
  refine j_icmp_ge (tgt := 40) d38_19 (by decide) (by omega) (by omega) (fun q2 => ?_) (fun q2 => ?_)
  ·
    refine (j_iinc d38_40 rfl (by decide) rfl rfl).trans ?_
    refine (g_goto (tgt := 4) d38_43 (by decide)).trans ?_
    rfl
  ·
    refine (g_aload_n d38_22 rfl rfl).trans ?_
    refine (g_iload_n d38_23 rfl).trans ?_
    refine (g_iload_n d38_24 rfl).trans ?_
    refine (g_cV d38_25 k2_76 rfl rfl rfl).trans ?_
    show G 37 0 [some (.ref 1), some (vI l2), some (vI l3)] [] (toM ρ τ) _ = _
    refine (c_span hT.1 (by omega) (by omega)).trans ?_
    show G 38 28 (some (.ref 1) :: some (vI l1) :: some (vI l2) :: some (vI l3) :: t) [vI (ρ (17 + l2.toNat) l3 - (ρ 10 l3 - ρ 10 l2))] (toM ρ τ) _ = _
    have q3 := span_bd hT l2 l3 (by omega)
    refine j_if_ge (tgt := 34) d38_28 (by decide) (by omega) (fun q4 => ?_) (fun q4 => ?_)
    ·
      refine (j_iinc d38_34 rfl (by decide) rfl rfl).trans ?_
      refine (g_goto (tgt := 14) d38_37 (by decide)).trans ?_
      rfl
    ·
      refine (j_iinc d38_31 rfl (by decide) rfl rfl).trans ?_
      refine (j_iinc d38_34 rfl (by decide) rfl rfl).trans ?_
      refine (g_goto (tgt := 14) d38_37 (by decide)).trans ?_
      rfl
set_option maxRecDepth 10000 in
theorem s39 {Q : Option Value → mm → Prop} (ρ : rm) (τ : Int64)  (hT : TI ρ)  : G 39 0 (some (.ref 1) :: []) [] (toM ρ τ) Q = G 39 6 (some (.ref 1) :: some (vI 0) :: some (vI (-1)) :: some (vI 0) :: []) [] (toM ρ τ) Q := by
  refine (j_iconst d39_0).trans ?_
  refine (g_istore_n d39_1 (by decide) rfl rfl).trans ?_
  refine (j_iconst d39_2).trans ?_
  refine (g_istore_n d39_3 (by decide) rfl rfl).trans ?_
  refine (j_iconst d39_4).trans ?_
  refine (g_istore_n d39_5 (by decide) rfl rfl).trans ?_
  rfl
set_option maxRecDepth 10000 in
theorem s39_6 {Q : Option Value → mm → Prop} (ρ : rm) (τ : Int64) (l1 : Int) (l2 : Int) (l3 : Int) (t : List (Option Value)) (hT : TI ρ) (h_l1 : SM l1) (h_l2 : SM l2) (h_l3 : 0 ≤ l3 ∧ l3 ≤ 10) : G 39 6 (some (.ref 1) :: some (vI l1) :: some (vI l2) :: some (vI l3) :: t) [] (toM ρ τ) Q = (if (ρ 1 1) ≤ l3 then Q (some (vI l2)) (toM ρ τ) else G 39 17 (some (.ref 1) :: some (vI l1) :: some (vI l2) :: some (vI l3) :: some (vI 0) :: t.tail) [] (toM ρ τ) Q) := by
  refine (g_iload_n d39_6 rfl).trans ?_
  refine (g_aload_n d39_7 rfl rfl).trans ?_
  refine (j_getI (v := ρ 1 1) d39_8 f2_42 sh_1 (by decide) rfl rfl).trans ?_
  have q1 : 2 ≤ ρ 1 1 ∧ ρ 1 1 ≤ 10 := hT.2 1 1
  refine j_icmp_ge (tgt := 65) d39_11 (by decide) (by omega) (by omega) (fun q2 => ?_) (fun q2 => ?_)
  ·
    refine (g_iload_n d39_65 rfl).trans ?_
    exact g_iret d39_66 rfl rfl
  ·
    refine (j_iconst d39_14).trans ?_
    refine (g_istore d39_15 (by decide) rfl rfl).trans ?_
    rfl
set_option maxRecDepth 10000 in
theorem s39_17 {Q : Option Value → mm → Prop} (ρ : rm) (τ : Int64) (l1 : Int) (l2 : Int) (l3 : Int) (l4 : Int) (t : List (Option Value)) (hT : TI ρ) (h_l1 : SM l1) (h_l2 : SM l2) (h_l3 : 0 ≤ l3 ∧ l3 < 10) (h_l4 : 0 ≤ l4 ∧ l4 ≤ 10) : G 39 17 (some (.ref 1) :: some (vI l1) :: some (vI l2) :: some (vI l3) :: some (vI l4) :: t) [] (toM ρ τ) Q = (if (ρ 1 1) ≤ l4 then G 39 6 (some (.ref 1) :: some (vI l1) :: some (vI l2) :: some (vI (l3 + 1)) :: some (vI l4) :: t) [] (toM ρ τ) Q else (if l1 ≤ (ρ (17 + l3.toNat) l4 - (ρ 10 l4 - ρ 10 l3)) then G 39 17 (some (.ref 1) :: some (vI l1) :: some (vI l2) :: some (vI l3) :: some (vI (l4 + 1)) :: t) [] (toM ρ τ) Q else G 39 17 (some (.ref 1) :: some (vI (ρ (17 + l3.toNat) l4 - (ρ 10 l4 - ρ 10 l3))) :: some (vI ((20 * l3) + l4)) :: some (vI l3) :: some (vI (l4 + 1)) :: t) [] (toM ρ τ) Q)) := by
  refine (g_iload d39_17 rfl).trans ?_
  refine (g_aload_n d39_19 rfl rfl).trans ?_
  refine (j_getI (v := ρ 1 1) d39_20 f2_42 sh_1 (by decide) rfl rfl).trans ?_
  have q1 : 2 ≤ ρ 1 1 ∧ ρ 1 1 ≤ 10 := hT.2 1 1
  refine j_icmp_ge (tgt := 59) d39_23 (by decide) (by omega) (by omega) (fun q2 => ?_) (fun q2 => ?_)
  ·
    refine (j_iinc d39_59 rfl (by decide) rfl rfl).trans ?_
    refine (g_goto (tgt := 6) d39_62 (by decide)).trans ?_
    rfl
  ·
    refine (g_aload_n d39_26 rfl rfl).trans ?_
    refine (g_iload_n d39_27 rfl).trans ?_
    refine (g_iload d39_28 rfl).trans ?_
    refine (g_cV d39_30 k2_76 rfl rfl rfl).trans ?_
    show G 37 0 [some (.ref 1), some (vI l3), some (vI l4)] [] (toM ρ τ) _ = _
    refine (c_span hT.1 (by omega) (by omega)).trans ?_
    show G 39 33 (some (.ref 1) :: some (vI l1) :: some (vI l2) :: some (vI l3) :: some (vI l4) :: t) [vI (ρ (17 + l3.toNat) l4 - (ρ 10 l4 - ρ 10 l3))] (toM ρ τ) _ = _
    have q3 := span_bd hT l3 l4 (by omega)
    refine (g_iload_n d39_33 rfl).trans ?_
    refine j_icmp_ge (tgt := 53) d39_34 (by decide) (by omega) (by omega) (fun q4 => ?_) (fun q4 => ?_)
    ·
      refine (j_iinc d39_53 rfl (by decide) rfl rfl).trans ?_
      refine (g_goto (tgt := 17) d39_56 (by decide)).trans ?_
      rfl
    ·
      refine (g_aload_n d39_37 rfl rfl).trans ?_
      refine (g_iload_n d39_38 rfl).trans ?_
      refine (g_iload d39_39 rfl).trans ?_
      refine (g_cV d39_41 k2_76 rfl rfl rfl).trans ?_
      show G 37 0 [some (.ref 1), some (vI l3), some (vI l4)] [] (toM ρ τ) _ = _
      refine (c_span hT.1 (by omega) (by omega)).trans ?_
      show G 39 44 (some (.ref 1) :: some (vI l1) :: some (vI l2) :: some (vI l3) :: some (vI l4) :: t) [vI (ρ (17 + l3.toNat) l4 - (ρ 10 l4 - ρ 10 l3))] (toM ρ τ) _ = _
      have q5 := span_bd hT l3 l4 (by omega)
      refine (g_istore_n d39_44 (by decide) rfl rfl).trans ?_
      refine (j_bipush d39_45 (by decide)).trans ?_
      refine (g_iload_n d39_47 rfl).trans ?_
      refine (j_imul d39_48).trans ?_
      refine (g_iload d39_49 rfl).trans ?_
      refine (j_iadd d39_51).trans ?_
      refine (g_istore_n d39_52 (by decide) rfl rfl).trans ?_
      refine (j_iinc d39_53 rfl (by decide) rfl rfl).trans ?_
      refine (g_goto (tgt := 17) d39_56 (by decide)).trans ?_
      rfl
set_option maxRecDepth 10000 in
theorem s145 {Q : Option Value → mm → Prop} (ρ : rm) (τ : Int64) (a1 : Int) (hT : TI ρ) (h_a1 : SB a1) : G 145 0 (some (.ref 51) :: some (vI a1) :: []) [] (toM ρ τ) Q = (if 0 ≤ a1 ∧ a1 ≤ 1 then G 145 22 (some (.ref 51) :: some (vI a1) :: some (vI 0) :: some (vI (-1)) :: some (vI 0) :: some (vI 0) :: []) [] (toM ρ τ) Q else Q (some (vI (-3))) (toM ρ τ)) := by
  refine (g_iload_n d145_0 rfl).trans ?_
  refine (j_iconst d145_1).trans ?_
  refine (j_iconst d145_2).trans ?_
  refine (g_cS d145_3 k10_69 rfl rfl rfl).trans ?_
  show G 117 0 [some (vI a1), some (vI 0), some (vI 1)] [] (toM ρ τ) _ = _
  refine (m_in hT.1 (by omega) (by omega) (by omega)).trans ?_
  show G 145 6 (some (.ref 51) :: some (vI a1) :: []) [vI (tv (0 ≤ a1 ∧ a1 ≤ 1))] (toM ρ τ) _ = _
  refine j_ifT_ne (tgt := 12) d145_6 (by decide) (fun q1 => ?_) (fun q1 => ?_)
  ·
    refine (j_iconst d145_12).trans ?_
    refine (g_istore_n d145_13 (by decide) rfl rfl).trans ?_
    refine (j_iconst d145_14).trans ?_
    refine (g_istore_n d145_15 (by decide) rfl rfl).trans ?_
    refine (j_iconst d145_16).trans ?_
    refine (g_istore d145_17 (by decide) rfl rfl).trans ?_
    refine (j_iconst d145_19).trans ?_
    refine (g_istore d145_20 (by decide) rfl rfl).trans ?_
    rfl
  ·
    refine (j_bipush d145_9 (by decide)).trans ?_
    exact g_iret d145_11 rfl rfl
set_option maxRecDepth 10000 in
theorem s145_22 {Q : Option Value → mm → Prop} (ρ : rm) (τ : Int64) (l1 : Int) (l2 : Int) (l3 : Int) (l4 : Int) (l5 : Int) (t : List (Option Value)) (hT : TI ρ) (h_l1 : SB l1) (h_l2 : SM l2) (h_l3 : SM l3) (h_l4 : SM l4) (h_l5 : 0 ≤ l5 ∧ l5 ≤ 10) : G 145 22 (some (.ref 51) :: some (vI l1) :: some (vI l2) :: some (vI l3) :: some (vI l4) :: some (vI l5) :: t) [] (toM ρ τ) Q = (if (ρ 51 0) ≤ l5 then (if l1 = 0 then Q (some (vI l2)) (toM ρ τ) else Q (some (vI l3)) (toM ρ τ)) else G 145 34 (some (.ref 51) :: some (vI l1) :: some (vI l2) :: some (vI l3) :: some (vI l4) :: some (vI l5) :: some (vI 0) :: t.tail) [] (toM ρ τ) Q) := by
  refine (g_iload d145_22 rfl).trans ?_
  refine (g_aload_n d145_24 rfl rfl).trans ?_
  refine (j_getI (v := ρ 51 0) d145_25 f10_7 sh_51 (by decide) rfl rfl).trans ?_
  have q1 : 2 ≤ ρ 51 0 ∧ ρ 51 0 ≤ 10 := hT.2 51 0
  refine j_icmp_ge (tgt := 114) d145_28 (by decide) (by omega) (by omega) (fun q2 => ?_) (fun q2 => ?_)
  ·
    refine (g_iload_n d145_114 rfl).trans ?_
    refine j_if_ne (tgt := 122) d145_115 (by decide) (by omega) (fun q3 => ?_) (fun q3 => ?_)
    ·
      refine (g_iload_n d145_118 rfl).trans ?_
      refine (g_goto (tgt := 123) d145_119 (by decide)).trans ?_
      exact g_iret d145_123 rfl rfl
    ·
      refine (g_iload_n d145_122 rfl).trans ?_
      exact g_iret d145_123 rfl rfl
  ·
    refine (j_iconst d145_31).trans ?_
    refine (g_istore d145_32 (by decide) rfl rfl).trans ?_
    rfl
set_option maxRecDepth 10000 in
theorem s145_34 {Q : Option Value → mm → Prop} (ρ : rm) (τ : Int64) (l1 : Int) (l2 : Int) (l3 : Int) (l4 : Int) (l5 : Int) (l6 : Int) (t : List (Option Value)) (hT : TI ρ) (h_l1 : SB l1) (h_l2 : SM l2) (h_l3 : SM l3) (h_l4 : SM l4) (h_l5 : 0 ≤ l5 ∧ l5 < 10) (h_l6 : 0 ≤ l6 ∧ l6 ≤ 10) : G 145 34 (some (.ref 51) :: some (vI l1) :: some (vI l2) :: some (vI l3) :: some (vI l4) :: some (vI l5) :: some (vI l6) :: t) [] (toM ρ τ) Q = (if (ρ 51 0) ≤ l6 then G 145 22 (some (.ref 51) :: some (vI l1) :: some (vI l2) :: some (vI l3) :: some (vI l4) :: some (vI (l5 + 1)) :: some (vI l6) :: t) [] (toM ρ τ) Q else (if 0 ≤ (((ρ 57 ((10 * l5) + l6)) - (oS ρ l6)) + (oS ρ l5)) then (if l4 ≤ (((ρ 57 ((10 * l5) + l6)) - (oS ρ l6)) + (oS ρ l5)) then (if l4 ≤ (((ρ 57 ((10 * l5) + l6)) - (oS ρ l6)) + (oS ρ l5)) then G 145 34 (some (.ref 51) :: some (vI l1) :: some (vI (l2 + 0)) :: some (vI l3) :: some (vI l4) :: some (vI l5) :: some (vI (l6 + 1)) :: some (vI (((ρ 57 ((10 * l5) + l6)) - (oS ρ l6)) + (oS ρ l5))) :: t.tail) [] (toM ρ τ) Q else G 145 34 (some (.ref 51) :: some (vI l1) :: some (vI (l2 + 0)) :: some (vI l3) :: some (vI (((ρ 57 ((10 * l5) + l6)) - (oS ρ l6)) + (oS ρ l5))) :: some (vI l5) :: some (vI (l6 + 1)) :: some (vI (((ρ 57 ((10 * l5) + l6)) - (oS ρ l6)) + (oS ρ l5))) :: t.tail) [] (toM ρ τ) Q) else (if l4 ≤ (((ρ 57 ((10 * l5) + l6)) - (oS ρ l6)) + (oS ρ l5)) then G 145 34 (some (.ref 51) :: some (vI l1) :: some (vI (l2 + 0)) :: some (vI ((20 * l5) + l6)) :: some (vI l4) :: some (vI l5) :: some (vI (l6 + 1)) :: some (vI (((ρ 57 ((10 * l5) + l6)) - (oS ρ l6)) + (oS ρ l5))) :: t.tail) [] (toM ρ τ) Q else G 145 34 (some (.ref 51) :: some (vI l1) :: some (vI (l2 + 0)) :: some (vI ((20 * l5) + l6)) :: some (vI (((ρ 57 ((10 * l5) + l6)) - (oS ρ l6)) + (oS ρ l5))) :: some (vI l5) :: some (vI (l6 + 1)) :: some (vI (((ρ 57 ((10 * l5) + l6)) - (oS ρ l6)) + (oS ρ l5))) :: t.tail) [] (toM ρ τ) Q)) else (if l4 ≤ (((ρ 57 ((10 * l5) + l6)) - (oS ρ l6)) + (oS ρ l5)) then (if l4 ≤ (((ρ 57 ((10 * l5) + l6)) - (oS ρ l6)) + (oS ρ l5)) then G 145 34 (some (.ref 51) :: some (vI l1) :: some (vI (l2 + 1)) :: some (vI l3) :: some (vI l4) :: some (vI l5) :: some (vI (l6 + 1)) :: some (vI (((ρ 57 ((10 * l5) + l6)) - (oS ρ l6)) + (oS ρ l5))) :: t.tail) [] (toM ρ τ) Q else G 145 34 (some (.ref 51) :: some (vI l1) :: some (vI (l2 + 1)) :: some (vI l3) :: some (vI (((ρ 57 ((10 * l5) + l6)) - (oS ρ l6)) + (oS ρ l5))) :: some (vI l5) :: some (vI (l6 + 1)) :: some (vI (((ρ 57 ((10 * l5) + l6)) - (oS ρ l6)) + (oS ρ l5))) :: t.tail) [] (toM ρ τ) Q) else (if l4 ≤ (((ρ 57 ((10 * l5) + l6)) - (oS ρ l6)) + (oS ρ l5)) then G 145 34 (some (.ref 51) :: some (vI l1) :: some (vI (l2 + 1)) :: some (vI ((20 * l5) + l6)) :: some (vI l4) :: some (vI l5) :: some (vI (l6 + 1)) :: some (vI (((ρ 57 ((10 * l5) + l6)) - (oS ρ l6)) + (oS ρ l5))) :: t.tail) [] (toM ρ τ) Q else G 145 34 (some (.ref 51) :: some (vI l1) :: some (vI (l2 + 1)) :: some (vI ((20 * l5) + l6)) :: some (vI (((ρ 57 ((10 * l5) + l6)) - (oS ρ l6)) + (oS ρ l5))) :: some (vI l5) :: some (vI (l6 + 1)) :: some (vI (((ρ 57 ((10 * l5) + l6)) - (oS ρ l6)) + (oS ρ l5))) :: t.tail) [] (toM ρ τ) Q)))) := by
  refine (g_iload d145_34 rfl).trans ?_
  refine (g_aload_n d145_36 rfl rfl).trans ?_
  refine (j_getI (v := ρ 51 0) d145_37 f10_7 sh_51 (by decide) rfl rfl).trans ?_
  have q1 : 2 ≤ ρ 51 0 ∧ ρ 51 0 ≤ 10 := hT.2 51 0
  refine j_icmp_ge (tgt := 108) d145_40 (by decide) (by omega) (by omega) (fun q2 => ?_) (fun q2 => ?_)
  ·
    refine (j_iinc d145_108 rfl (by decide) rfl rfl).trans ?_
    refine (g_goto (tgt := 22) d145_111 (by decide)).trans ?_
    rfl
  ·
    refine (g_aload_n d145_43 rfl rfl).trans ?_
    refine (g_iload d145_44 rfl).trans ?_
    refine (g_iload d145_46 rfl).trans ?_
    refine (g_cV d145_48 k10_212 rfl rfl rfl).trans ?_
    show G 143 0 [some (.ref 51), some (vI l5), some (vI l6)] [] (toM ρ τ) _ = _
    refine (s143 _ _ _ _ hT (by omega) (by omega)).trans ?_
    show G 145 51 (some (.ref 51) :: some (vI l1) :: some (vI l2) :: some (vI l3) :: some (vI l4) :: some (vI l5) :: some (vI l6) :: t) [vI (((ρ 57 ((10 * l5) + l6)) - (oS ρ l6)) + (oS ρ l5))] (toM ρ τ) _ = _
    have q3 := back_bd hT (a := l5) (b := l6) (by omega)
    refine (g_istore d145_51 (by decide) rfl rfl).trans ?_
    refine (g_iload_n d145_53 rfl).trans ?_
    refine (g_iload d145_54 rfl).trans ?_
    refine j_if_ge (tgt := 63) d145_56 (by decide) (by omega) (fun q4 => ?_) (fun q4 => ?_)
    ·
      refine (j_iconst d145_63).trans ?_
      refine (j_iadd d145_64).trans ?_
      refine (g_istore_n d145_65 (by decide) rfl rfl).trans ?_
      refine (g_iload d145_66 rfl).trans ?_
      refine (g_iload d145_68 rfl).trans ?_
      refine j_icmp_ge (tgt := 84) d145_70 (by decide) (by omega) (by omega) (fun q5 => ?_) (fun q5 => ?_)
      ·
        refine (g_iload_n d145_84 rfl).trans ?_
        refine (g_istore_n d145_85 (by decide) rfl rfl).trans ?_
        refine (g_iload d145_86 rfl).trans ?_
        refine (g_iload d145_88 rfl).trans ?_
        refine j_icmp_ge (tgt := 98) d145_90 (by decide) (by omega) (by omega) (fun q6 => ?_) (fun q6 => ?_)
        ·
          refine (g_iload d145_98 rfl).trans ?_
          refine (g_istore d145_100 (by decide) rfl rfl).trans ?_
          refine (j_iinc d145_102 rfl (by decide) rfl rfl).trans ?_
          refine (g_goto (tgt := 34) d145_105 (by decide)).trans ?_
          rfl
        ·
          refine (g_iload d145_93 rfl).trans ?_
          refine (g_goto (tgt := 100) d145_95 (by decide)).trans ?_
          refine (g_istore d145_100 (by decide) rfl rfl).trans ?_
          refine (j_iinc d145_102 rfl (by decide) rfl rfl).trans ?_
          refine (g_goto (tgt := 34) d145_105 (by decide)).trans ?_
          rfl
      ·
        refine (j_bipush d145_73 (by decide)).trans ?_
        refine (g_iload d145_75 rfl).trans ?_
        refine (j_imul d145_77).trans ?_
        refine (g_iload d145_78 rfl).trans ?_
        refine (j_iadd d145_80).trans ?_
        refine (g_goto (tgt := 85) d145_81 (by decide)).trans ?_
        refine (g_istore_n d145_85 (by decide) rfl rfl).trans ?_
        refine (g_iload d145_86 rfl).trans ?_
        refine (g_iload d145_88 rfl).trans ?_
        refine j_icmp_ge (tgt := 98) d145_90 (by decide) (by omega) (by omega) (fun q7 => ?_) (fun q7 => ?_)
        ·
          refine (g_iload d145_98 rfl).trans ?_
          refine (g_istore d145_100 (by decide) rfl rfl).trans ?_
          refine (j_iinc d145_102 rfl (by decide) rfl rfl).trans ?_
          refine (g_goto (tgt := 34) d145_105 (by decide)).trans ?_
          rfl
        ·
          refine (g_iload d145_93 rfl).trans ?_
          refine (g_goto (tgt := 100) d145_95 (by decide)).trans ?_
          refine (g_istore d145_100 (by decide) rfl rfl).trans ?_
          refine (j_iinc d145_102 rfl (by decide) rfl rfl).trans ?_
          refine (g_goto (tgt := 34) d145_105 (by decide)).trans ?_
          rfl
    ·
      refine (j_iconst d145_59).trans ?_
      refine (g_goto (tgt := 64) d145_60 (by decide)).trans ?_
      refine (j_iadd d145_64).trans ?_
      refine (g_istore_n d145_65 (by decide) rfl rfl).trans ?_
      refine (g_iload d145_66 rfl).trans ?_
      refine (g_iload d145_68 rfl).trans ?_
      refine j_icmp_ge (tgt := 84) d145_70 (by decide) (by omega) (by omega) (fun q8 => ?_) (fun q8 => ?_)
      ·
        refine (g_iload_n d145_84 rfl).trans ?_
        refine (g_istore_n d145_85 (by decide) rfl rfl).trans ?_
        refine (g_iload d145_86 rfl).trans ?_
        refine (g_iload d145_88 rfl).trans ?_
        refine j_icmp_ge (tgt := 98) d145_90 (by decide) (by omega) (by omega) (fun q9 => ?_) (fun q9 => ?_)
        ·
          refine (g_iload d145_98 rfl).trans ?_
          refine (g_istore d145_100 (by decide) rfl rfl).trans ?_
          refine (j_iinc d145_102 rfl (by decide) rfl rfl).trans ?_
          refine (g_goto (tgt := 34) d145_105 (by decide)).trans ?_
          rfl
        ·
          refine (g_iload d145_93 rfl).trans ?_
          refine (g_goto (tgt := 100) d145_95 (by decide)).trans ?_
          refine (g_istore d145_100 (by decide) rfl rfl).trans ?_
          refine (j_iinc d145_102 rfl (by decide) rfl rfl).trans ?_
          refine (g_goto (tgt := 34) d145_105 (by decide)).trans ?_
          rfl
      ·
        refine (j_bipush d145_73 (by decide)).trans ?_
        refine (g_iload d145_75 rfl).trans ?_
        refine (j_imul d145_77).trans ?_
        refine (g_iload d145_78 rfl).trans ?_
        refine (j_iadd d145_80).trans ?_
        refine (g_goto (tgt := 85) d145_81 (by decide)).trans ?_
        refine (g_istore_n d145_85 (by decide) rfl rfl).trans ?_
        refine (g_iload d145_86 rfl).trans ?_
        refine (g_iload d145_88 rfl).trans ?_
        refine j_icmp_ge (tgt := 98) d145_90 (by decide) (by omega) (by omega) (fun q10 => ?_) (fun q10 => ?_)
        ·
          refine (g_iload d145_98 rfl).trans ?_
          refine (g_istore d145_100 (by decide) rfl rfl).trans ?_
          refine (j_iinc d145_102 rfl (by decide) rfl rfl).trans ?_
          refine (g_goto (tgt := 34) d145_105 (by decide)).trans ?_
          rfl
        ·
          refine (g_iload d145_93 rfl).trans ?_
          refine (g_goto (tgt := 100) d145_95 (by decide)).trans ?_
          refine (g_istore d145_100 (by decide) rfl rfl).trans ?_
          refine (j_iinc d145_102 rfl (by decide) rfl rfl).trans ?_
          refine (g_goto (tgt := 34) d145_105 (by decide)).trans ?_
          rfl
set_option maxRecDepth 10000 in
theorem s74 {Q : Option Value → mm → Prop} (ρ : rm) (τ : Int64) (a1 : Int) (hT : TI ρ) (h_a1 : SM a1) : G 74 0 (some (.ref 7) :: some (vI a1) :: []) [] (toM ρ τ) Q = G 74 17 (some (.ref 7) :: some (vI a1) :: some (vI 1) :: []) [] (toM (rup (rup (rup ρ 7 1 a1) 7 2 0) 7 3 0) τ) Q := by
  refine (g_aload_n d74_0 rfl rfl).trans ?_
  refine (g_iload_n d74_1 rfl).trans ?_
  refine (j_putI d74_2 f7_23 sh_7 (by decide) rfl).trans ?_
  refine (g_aload_n d74_5 rfl rfl).trans ?_
  refine (j_iconst d74_6).trans ?_
  refine (j_putI d74_7 f7_26 sh_7 (by decide) rfl).trans ?_
  refine (g_aload_n d74_10 rfl rfl).trans ?_
  refine (j_iconst d74_11).trans ?_
  refine (j_putI d74_12 f7_29 sh_7 (by decide) rfl).trans ?_
  refine (j_iconst d74_15).trans ?_
  refine (g_istore_n d74_16 (by decide) rfl rfl).trans ?_
  rfl
set_option maxRecDepth 10000 in
theorem s74_17 {Q : Option Value → mm → Prop} (ρ : rm) (τ : Int64) (l1 : Int) (l2 : Int) (t : List (Option Value)) (hT : TI ρ) (h_l1 : SM l1) (h_l2 : 1 ≤ l2 ∧ l2 ≤ 12) : G 74 17 (some (.ref 7) :: some (vI l1) :: some (vI l2) :: t) [] (toM ρ τ) Q = (if (ρ 7 0) ≤ l2 then Q none (toM ρ τ) else (if (ρ 42 l2) = (ρ 42 (l2 - 1)) then (if ((((ρ 7 1) + 1) - ρ 10 (ρ 42 l2)) / 1440) ≤ (((ρ 7 1) - ρ 10 (ρ 42 (l2 - 1))) / 1440) then (if (((ρ 7 1) - ρ 10 (ρ 42 (l2 - 1))) / 1440) ≤ ((((ρ 7 1) + 1) - ρ 10 (ρ 42 l2)) / 1440) then G 74 17 (some (.ref 7) :: some (vI l1) :: some (vI (l2 + 1)) :: some (vI (((ρ 7 1) - ρ 10 (ρ 42 (l2 - 1))) / 1440)) :: some (vI ((((ρ 7 1) + 1) - ρ 10 (ρ 42 l2)) / 1440)) :: t.tail.tail) [] (toM (rup ρ 7 1 ((ρ 7 1) + 1)) τ) Q else G 74 17 (some (.ref 7) :: some (vI l1) :: some (vI (l2 + 1)) :: some (vI (((ρ 7 1) - ρ 10 (ρ 42 (l2 - 1))) / 1440)) :: some (vI ((((ρ 7 1) + 1) - ρ 10 (ρ 42 l2)) / 1440)) :: t.tail.tail) [] (toM (rup (rup ρ 7 1 ((ρ 7 1) + 1)) 7 3 ((ρ 7 3) + 1)) τ) Q) else G 74 17 (some (.ref 7) :: some (vI l1) :: some (vI (l2 + 1)) :: some (vI (((ρ 7 1) - ρ 10 (ρ 42 (l2 - 1))) / 1440)) :: some (vI ((((ρ 7 1) + 1) - ρ 10 (ρ 42 l2)) / 1440)) :: t.tail.tail) [] (toM (rup (rup ρ 7 1 ((ρ 7 1) + 1)) 7 2 ((ρ 7 2) + 1)) τ) Q) else (if ((((ρ 7 1) + (ρ (17 + (ρ 42 (l2 - 1)).toNat) (ρ 42 l2))) - ρ 10 (ρ 42 l2)) / 1440) ≤ (((ρ 7 1) - ρ 10 (ρ 42 (l2 - 1))) / 1440) then (if (((ρ 7 1) - ρ 10 (ρ 42 (l2 - 1))) / 1440) ≤ ((((ρ 7 1) + (ρ (17 + (ρ 42 (l2 - 1)).toNat) (ρ 42 l2))) - ρ 10 (ρ 42 l2)) / 1440) then G 74 17 (some (.ref 7) :: some (vI l1) :: some (vI (l2 + 1)) :: some (vI (((ρ 7 1) - ρ 10 (ρ 42 (l2 - 1))) / 1440)) :: some (vI ((((ρ 7 1) + (ρ (17 + (ρ 42 (l2 - 1)).toNat) (ρ 42 l2))) - ρ 10 (ρ 42 l2)) / 1440)) :: t.tail.tail) [] (toM (rup ρ 7 1 ((ρ 7 1) + (ρ (17 + (ρ 42 (l2 - 1)).toNat) (ρ 42 l2)))) τ) Q else G 74 17 (some (.ref 7) :: some (vI l1) :: some (vI (l2 + 1)) :: some (vI (((ρ 7 1) - ρ 10 (ρ 42 (l2 - 1))) / 1440)) :: some (vI ((((ρ 7 1) + (ρ (17 + (ρ 42 (l2 - 1)).toNat) (ρ 42 l2))) - ρ 10 (ρ 42 l2)) / 1440)) :: t.tail.tail) [] (toM (rup (rup ρ 7 1 ((ρ 7 1) + (ρ (17 + (ρ 42 (l2 - 1)).toNat) (ρ 42 l2)))) 7 3 ((ρ 7 3) + 1)) τ) Q) else G 74 17 (some (.ref 7) :: some (vI l1) :: some (vI (l2 + 1)) :: some (vI (((ρ 7 1) - ρ 10 (ρ 42 (l2 - 1))) / 1440)) :: some (vI ((((ρ 7 1) + (ρ (17 + (ρ 42 (l2 - 1)).toNat) (ρ 42 l2))) - ρ 10 (ρ 42 l2)) / 1440)) :: t.tail.tail) [] (toM (rup (rup ρ 7 1 ((ρ 7 1) + (ρ (17 + (ρ 42 (l2 - 1)).toNat) (ρ 42 l2)))) 7 2 ((ρ 7 2) + 1)) τ) Q))) := by
  refine (g_iload_n d74_17 rfl).trans ?_
  refine (g_aload_n d74_18 rfl rfl).trans ?_
  refine (j_getI (v := ρ 7 0) d74_19 f7_19 sh_7 (by decide) rfl rfl).trans ?_
  have q1 : 0 ≤ ρ 7 0 ∧ ρ 7 0 ≤ 12 := hT.2 7 0
  refine j_icmp_ge (tgt := 156) d74_22 (by decide) (by omega) (by omega) (fun q2 => ?_) (fun q2 => ?_)
  ·
    exact g_ret d74_156 rfl
  ·
    refine (g_aload_n d74_25 rfl rfl).trans ?_
    refine (g_getR (q := 1) d74_26 f7_15 sh_7 (by decide) rfl).trans ?_
    refine (g_aload_n d74_29 rfl rfl).trans ?_
    refine (g_getR (q := 42) d74_30 f7_9 sh_7 (by decide) rfl).trans ?_
    refine (g_iload_n d74_33 rfl).trans ?_
    refine (j_iconst d74_34).trans ?_
    refine (j_isub d74_35).trans ?_
    refine (j_ialoadB (v := ρ 42 (l2 - 1)) d74_36 sh_42 (by omega) (by decide) rfl).trans ?_
    have q3 : 0 ≤ ρ 42 (l2 - 1) ∧ ρ 42 (l2 - 1) ≤ 9 := hT.2 42 (l2 - 1)
    refine (g_aload_n d74_37 rfl rfl).trans ?_
    refine (j_getI (v := ρ 7 1) d74_38 f7_23 sh_7 (by decide) rfl rfl).trans ?_
    have q4 : 0 ≤ ρ 7 1 ∧ ρ 7 1 ≤ 200000 := hT.2 7 1
    refine (g_cV d74_41 k7_32 rfl rfl rfl).trans ?_
    show G 35 0 [some (.ref 1), some (vI (ρ 42 (l2 - 1))), some (vI (ρ 7 1))] [] (toM ρ τ) _ = _
    refine (c_date hT.1 (by omega) (by omega)).trans ?_
    show G 74 44 (some (.ref 7) :: some (vI l1) :: some (vI l2) :: t) [vI (((ρ 7 1) - ρ 10 (ρ 42 (l2 - 1))) / 1440)] (toM ρ τ) _ = _
    have q5 := hT.1 10 (ρ 42 (l2 - 1)) (by decide)
    refine (g_istore_n d74_44 (by decide) rfl rfl).trans ?_
    refine (g_aload_n d74_45 rfl rfl).trans ?_
    refine (g_dupR d74_46).trans ?_
    refine (j_getI (v := ρ 7 1) d74_47 f7_23 sh_7 (by decide) rfl rfl).trans ?_
    refine (g_aload_n d74_50 rfl rfl).trans ?_
    refine (g_getR (q := 42) d74_51 f7_9 sh_7 (by decide) rfl).trans ?_
    refine (g_iload_n d74_54 rfl).trans ?_
    refine (j_ialoadB (v := ρ 42 l2) d74_55 sh_42 (by omega) (by decide) rfl).trans ?_
    have q6 : 0 ≤ ρ 42 l2 ∧ ρ 42 l2 ≤ 9 := hT.2 42 l2
    refine (g_aload_n d74_56 rfl rfl).trans ?_
    refine (g_getR (q := 42) d74_57 f7_9 sh_7 (by decide) rfl).trans ?_
    refine (g_iload_n d74_60 rfl).trans ?_
    refine (j_iconst d74_61).trans ?_
    refine (j_isub d74_62).trans ?_
    refine (j_ialoadB (v := ρ 42 (l2 - 1)) d74_63 sh_42 (by omega) (by decide) rfl).trans ?_
    refine j_icmp_ne (tgt := 71) d74_64 (by decide) (by omega) (by omega) (fun q7 => ?_) (fun q7 => ?_)
    ·
      refine (j_iconst d74_67).trans ?_
      refine (g_goto (tgt := 92) d74_68 (by decide)).trans ?_
      refine (j_iadd d74_92).trans ?_
      refine (j_putI d74_93 f7_23 sh_7 (by decide) rfl).trans ?_
      refine (g_aload_n d74_96 rfl rfl).trans ?_
      refine (g_getR (q := 1) d74_97 f7_15 sh_7 (by decide) rfl).trans ?_
      refine (g_aload_n d74_100 rfl rfl).trans ?_
      refine (g_getR (q := 42) d74_101 f7_9 sh_7 (by decide) rfl).trans ?_
      refine (g_iload_n d74_104 rfl).trans ?_
      refine (j_ialoadB (v := ρ 42 l2) d74_105 sh_42 (by omega) (by decide) (by simp [rup])).trans ?_
      refine (g_aload_n d74_106 rfl rfl).trans ?_
      refine (j_getI (v := (ρ 7 1) + 1) d74_107 f7_23 sh_7 (by decide) rfl (by simp [rup])).trans ?_
      refine (g_cV d74_110 k7_32 rfl rfl rfl).trans ?_
      show G 35 0 [some (.ref 1), some (vI (ρ 42 l2)), some (vI ((ρ 7 1) + 1))] [] (toM (rup ρ 7 1 ((ρ 7 1) + 1)) τ) _ = _
      refine (c_date (BM_up hT.1 7 1 (x := (ρ 7 1) + 1) (by omega)) (by omega) (by omega)).trans ?_
      show G 74 113 (some (.ref 7) :: some (vI l1) :: some (vI l2) :: some (vI (((ρ 7 1) - ρ 10 (ρ 42 (l2 - 1))) / 1440)) :: t.tail) [vI ((((ρ 7 1) + 1) - ρ 10 (ρ 42 l2)) / 1440)] (toM (rup ρ 7 1 ((ρ 7 1) + 1)) τ) _ = _
      have q8 := hT.1 10 (ρ 42 l2) (by decide)
      refine (g_istore d74_113 (by decide) rfl rfl).trans ?_
      refine (g_iload d74_115 rfl).trans ?_
      refine (g_iload_n d74_117 rfl).trans ?_
      refine j_icmp_le (tgt := 134) d74_118 (by decide) (by omega) (by omega) (fun q9 => ?_) (fun q9 => ?_)
      ·
        refine (g_iload d74_134 rfl).trans ?_
        refine (g_iload_n d74_136 rfl).trans ?_
        refine j_icmp_ge (tgt := 150) d74_137 (by decide) (by omega) (by omega) (fun q10 => ?_) (fun q10 => ?_)
        ·
          refine (j_iinc d74_150 rfl (by decide) rfl rfl).trans ?_
          refine (g_goto (tgt := 17) d74_153 (by decide)).trans ?_
          rfl
        ·
          refine (g_aload_n d74_140 rfl rfl).trans ?_
          refine (g_dupR d74_141).trans ?_
          refine (j_getI (v := ρ 7 3) d74_142 f7_29 sh_7 (by decide) rfl (by simp [rup])).trans ?_
          have q11 : 0 ≤ ρ 7 3 ∧ ρ 7 3 ≤ 12 := hT.2 7 3
          refine (j_iconst d74_145).trans ?_
          refine (j_iadd d74_146).trans ?_
          refine (j_putI d74_147 f7_29 sh_7 (by decide) rfl).trans ?_
          refine (j_iinc d74_150 rfl (by decide) rfl rfl).trans ?_
          refine (g_goto (tgt := 17) d74_153 (by decide)).trans ?_
          rfl
      ·
        refine (g_aload_n d74_121 rfl rfl).trans ?_
        refine (g_dupR d74_122).trans ?_
        refine (j_getI (v := ρ 7 2) d74_123 f7_26 sh_7 (by decide) rfl (by simp [rup])).trans ?_
        have q12 : 0 ≤ ρ 7 2 ∧ ρ 7 2 ≤ 12 := hT.2 7 2
        refine (j_iconst d74_126).trans ?_
        refine (j_iadd d74_127).trans ?_
        refine (j_putI d74_128 f7_26 sh_7 (by decide) rfl).trans ?_
        refine (g_goto (tgt := 150) d74_131 (by decide)).trans ?_
        refine (j_iinc d74_150 rfl (by decide) rfl rfl).trans ?_
        refine (g_goto (tgt := 17) d74_153 (by decide)).trans ?_
        rfl
    ·
      refine (g_aload_n d74_71 rfl rfl).trans ?_
      refine (g_getR (q := 1) d74_72 f7_15 sh_7 (by decide) rfl).trans ?_
      refine (g_aload_n d74_75 rfl rfl).trans ?_
      refine (g_getR (q := 42) d74_76 f7_9 sh_7 (by decide) rfl).trans ?_
      refine (g_iload_n d74_79 rfl).trans ?_
      refine (j_iconst d74_80).trans ?_
      refine (j_isub d74_81).trans ?_
      refine (j_ialoadB (v := ρ 42 (l2 - 1)) d74_82 sh_42 (by omega) (by decide) rfl).trans ?_
      refine (g_aload_n d74_83 rfl rfl).trans ?_
      refine (g_getR (q := 42) d74_84 f7_9 sh_7 (by decide) rfl).trans ?_
      refine (g_iload_n d74_87 rfl).trans ?_
      refine (j_ialoadB (v := ρ 42 l2) d74_88 sh_42 (by omega) (by decide) rfl).trans ?_
      refine (g_cV d74_89 k7_38 rfl rfl rfl).trans ?_
      show G 33 0 [some (.ref 1), some (vI (ρ 42 (l2 - 1))), some (vI (ρ 42 l2))] [] (toM ρ τ) _ = _
      refine (c_dist hT.1 (by omega) (by omega)).trans ?_
      show G 74 92 (some (.ref 7) :: some (vI l1) :: some (vI l2) :: some (vI (((ρ 7 1) - ρ 10 (ρ 42 (l2 - 1))) / 1440)) :: t.tail) [vI (ρ (17 + (ρ 42 (l2 - 1)).toNat) (ρ 42 l2)), vI (ρ 7 1), .ref 7] (toM ρ τ) _ = _
      have q13 := TI.row hT (k := 17 + (ρ 42 (l2 - 1)).toNat) (by omega) (ρ 42 l2)
      refine (j_iadd d74_92).trans ?_
      refine (j_putI d74_93 f7_23 sh_7 (by decide) rfl).trans ?_
      refine (g_aload_n d74_96 rfl rfl).trans ?_
      refine (g_getR (q := 1) d74_97 f7_15 sh_7 (by decide) rfl).trans ?_
      refine (g_aload_n d74_100 rfl rfl).trans ?_
      refine (g_getR (q := 42) d74_101 f7_9 sh_7 (by decide) rfl).trans ?_
      refine (g_iload_n d74_104 rfl).trans ?_
      refine (j_ialoadB (v := ρ 42 l2) d74_105 sh_42 (by omega) (by decide) (by simp [rup])).trans ?_
      refine (g_aload_n d74_106 rfl rfl).trans ?_
      refine (j_getI (v := (ρ 7 1) + (ρ (17 + (ρ 42 (l2 - 1)).toNat) (ρ 42 l2))) d74_107 f7_23 sh_7 (by decide) rfl (by simp [rup])).trans ?_
      refine (g_cV d74_110 k7_32 rfl rfl rfl).trans ?_
      show G 35 0 [some (.ref 1), some (vI (ρ 42 l2)), some (vI ((ρ 7 1) + (ρ (17 + (ρ 42 (l2 - 1)).toNat) (ρ 42 l2))))] [] (toM (rup ρ 7 1 ((ρ 7 1) + (ρ (17 + (ρ 42 (l2 - 1)).toNat) (ρ 42 l2)))) τ) _ = _
      refine (c_date (BM_up hT.1 7 1 (x := (ρ 7 1) + (ρ (17 + (ρ 42 (l2 - 1)).toNat) (ρ 42 l2))) (by omega)) (by omega) (by omega)).trans ?_
      show G 74 113 (some (.ref 7) :: some (vI l1) :: some (vI l2) :: some (vI (((ρ 7 1) - ρ 10 (ρ 42 (l2 - 1))) / 1440)) :: t.tail) [vI ((((ρ 7 1) + (ρ (17 + (ρ 42 (l2 - 1)).toNat) (ρ 42 l2))) - ρ 10 (ρ 42 l2)) / 1440)] (toM (rup ρ 7 1 ((ρ 7 1) + (ρ (17 + (ρ 42 (l2 - 1)).toNat) (ρ 42 l2)))) τ) _ = _
      have q14 := hT.1 10 (ρ 42 l2) (by decide)
      refine (g_istore d74_113 (by decide) rfl rfl).trans ?_
      refine (g_iload d74_115 rfl).trans ?_
      refine (g_iload_n d74_117 rfl).trans ?_
      refine j_icmp_le (tgt := 134) d74_118 (by decide) (by omega) (by omega) (fun q15 => ?_) (fun q15 => ?_)
      ·
        refine (g_iload d74_134 rfl).trans ?_
        refine (g_iload_n d74_136 rfl).trans ?_
        refine j_icmp_ge (tgt := 150) d74_137 (by decide) (by omega) (by omega) (fun q16 => ?_) (fun q16 => ?_)
        ·
          refine (j_iinc d74_150 rfl (by decide) rfl rfl).trans ?_
          refine (g_goto (tgt := 17) d74_153 (by decide)).trans ?_
          rfl
        ·
          refine (g_aload_n d74_140 rfl rfl).trans ?_
          refine (g_dupR d74_141).trans ?_
          refine (j_getI (v := ρ 7 3) d74_142 f7_29 sh_7 (by decide) rfl (by simp [rup])).trans ?_
          have q17 : 0 ≤ ρ 7 3 ∧ ρ 7 3 ≤ 12 := hT.2 7 3
          refine (j_iconst d74_145).trans ?_
          refine (j_iadd d74_146).trans ?_
          refine (j_putI d74_147 f7_29 sh_7 (by decide) rfl).trans ?_
          refine (j_iinc d74_150 rfl (by decide) rfl rfl).trans ?_
          refine (g_goto (tgt := 17) d74_153 (by decide)).trans ?_
          rfl
      ·
        refine (g_aload_n d74_121 rfl rfl).trans ?_
        refine (g_dupR d74_122).trans ?_
        refine (j_getI (v := ρ 7 2) d74_123 f7_26 sh_7 (by decide) rfl (by simp [rup])).trans ?_
        have q18 : 0 ≤ ρ 7 2 ∧ ρ 7 2 ≤ 12 := hT.2 7 2
        refine (j_iconst d74_126).trans ?_
        refine (j_iadd d74_127).trans ?_
        refine (j_putI d74_128 f7_26 sh_7 (by decide) rfl).trans ?_
        refine (g_goto (tgt := 150) d74_131 (by decide)).trans ?_
        refine (j_iinc d74_150 rfl (by decide) rfl rfl).trans ?_
        refine (g_goto (tgt := 17) d74_153 (by decide)).trans ?_
        rfl
set_option maxRecDepth 10000 in
theorem s162 {Q : Option Value → mm → Prop} (ρ : rm) (τ : Int64) (a1 : Int) (a2 : Int) (hT : TI ρ) (h_a1 : SB a1) (h_a2 : SB a2) : G 162 0 (some (.ref 51) :: some (vI a1) :: some (vI a2) :: []) [] (toM ρ τ) Q = (if 0 ≤ a1 ∧ a1 ≤ 9999 then (if 0 ≤ a2 ∧ a2 ≤ 2 then (if (ρ 51 28) = 0 then Q (some (vI (-4))) (toM ρ τ) else G 162 57 (some (.ref 51) :: some (vI a1) :: some (vI a2) :: some (vI a1) :: some (vI (Int.tdiv ((a1 - (oS ρ (ρ 62 0))) + 144000) 1440)) :: some (vI 0) :: some (vI 0) :: some (vI 1) :: []) [] (toM ρ τ) Q) else Q (some (vI (-3))) (toM ρ τ)) else Q (some (vI (-3))) (toM ρ τ)) := by
  refine (g_iload_n d162_0 rfl).trans ?_
  refine (j_iconst d162_1).trans ?_
  refine (j_sipush d162_2 (by decide)).trans ?_
  refine (g_cS d162_5 k10_69 rfl rfl rfl).trans ?_
  show G 117 0 [some (vI a1), some (vI 0), some (vI 9999)] [] (toM ρ τ) _ = _
  refine (m_in hT.1 (by omega) (by omega) (by omega)).trans ?_
  show G 162 8 (some (.ref 51) :: some (vI a1) :: some (vI a2) :: []) [vI (tv (0 ≤ a1 ∧ a1 ≤ 9999))] (toM ρ τ) _ = _
  refine j_ifT_eq (tgt := 20) d162_8 (by decide) (fun q1 => ?_) (fun q1 => ?_)
  ·
    refine (g_iload_n d162_11 rfl).trans ?_
    refine (j_iconst d162_12).trans ?_
    refine (j_iconst d162_13).trans ?_
    refine (g_cS d162_14 k10_69 rfl rfl rfl).trans ?_
    show G 117 0 [some (vI a2), some (vI 0), some (vI 2)] [] (toM ρ τ) _ = _
    refine (m_in hT.1 (by omega) (by omega) (by omega)).trans ?_
    show G 162 17 (some (.ref 51) :: some (vI a1) :: some (vI a2) :: []) [vI (tv (0 ≤ a2 ∧ a2 ≤ 2))] (toM ρ τ) _ = _
    refine j_ifT_ne (tgt := 23) d162_17 (by decide) (fun q2 => ?_) (fun q2 => ?_)
    ·
      refine (g_aload_n d162_23 rfl rfl).trans ?_
      refine (j_getI (v := ρ 51 28) d162_24 f10_187 sh_51 (by decide) rfl rfl).trans ?_
      have q3 : 0 ≤ ρ 51 28 ∧ ρ 51 28 ≤ 12 := hT.2 51 28
      refine j_if_ne (tgt := 33) d162_27 (by decide) (by omega) (fun q4 => ?_) (fun q4 => ?_)
      ·
        refine (j_bipush d162_30 (by decide)).trans ?_
        exact g_iret d162_32 rfl rfl
      ·
        refine (g_iload_n d162_33 rfl).trans ?_
        refine (g_istore_n d162_34 (by decide) rfl rfl).trans ?_
        refine (g_aload_n d162_35 rfl rfl).trans ?_
        refine (g_aload_n d162_36 rfl rfl).trans ?_
        refine (g_getR (q := 62) d162_37 f10_45 sh_51 (by decide) rfl).trans ?_
        refine (j_iconst d162_40).trans ?_
        refine (j_ialoadB (v := ρ 62 0) d162_41 sh_62 (by omega) (by decide) rfl).trans ?_
        have q5 : 0 ≤ ρ 62 0 ∧ ρ 62 0 ≤ 9 := hT.2 62 0
        refine (g_iload_n d162_42 rfl).trans ?_
        refine (g_cV d162_43 k10_209 rfl rfl rfl).trans ?_
        show G 140 0 [some (.ref 51), some (vI (ρ 62 0)), some (vI a1)] [] (toM ρ τ) _ = _
        refine (s140 _ _ _ _ hT (by omega) (by omega)).trans ?_
        show G 162 46 (some (.ref 51) :: some (vI a1) :: some (vI a2) :: some (vI a1) :: []) [vI (Int.tdiv ((a1 - (oS ρ (ρ 62 0))) + 144000) 1440)] (toM ρ τ) _ = _
        have q6 := (And.intro (tdiv_bd ((a1 - (oS ρ (ρ 62 0))) + 144000) (b := 1440) (by omega)) (oS_rg hT (h := ρ 62 0) (by omega)))
        refine (g_istore d162_46 (by decide) rfl rfl).trans ?_
        refine (j_iconst d162_48).trans ?_
        refine (g_istore d162_49 (by decide) rfl rfl).trans ?_
        refine (j_iconst d162_51).trans ?_
        refine (g_istore d162_52 (by decide) rfl rfl).trans ?_
        refine (j_iconst d162_54).trans ?_
        refine (g_istore d162_55 (by decide) rfl rfl).trans ?_
        rfl
    ·
      refine (j_bipush d162_20 (by decide)).trans ?_
      exact g_iret d162_22 rfl rfl
  ·
    refine (j_bipush d162_20 (by decide)).trans ?_
    exact g_iret d162_22 rfl rfl
set_option maxRecDepth 10000 in
theorem s162_57 {Q : Option Value → mm → Prop} (ρ : rm) (τ : Int64) (l1 : Int) (l2 : Int) (l3 : Int) (l4 : Int) (l5 : Int) (l6 : Int) (l7 : Int) (t : List (Option Value)) (hT : TI ρ) (h_l1 : SB l1) (h_l2 : SB l2) (h_l3 : 0 ≤ l3 ∧ l3 ≤ 2000000) (h_l4 : SM l4) (h_l5 : SM l5) (h_l6 : SM l6) (h_l7 : 1 ≤ l7 ∧ l7 ≤ 12) : G 162 57 (some (.ref 51) :: some (vI l1) :: some (vI l2) :: some (vI l3) :: some (vI l4) :: some (vI l5) :: some (vI l6) :: some (vI l7) :: t) [] (toM ρ τ) Q = (if (ρ 51 28) ≤ l7 then (if l2 = 0 then Q (some (vI l3)) (toM ρ τ) else (if l2 = 1 then Q (some (vI l5)) (toM ρ τ) else Q (some (vI l6)) (toM ρ τ))) else (if (ρ 62 l7) = (ρ 62 (l7 - 1)) then (if (Int.tdiv (((l3 + 1) - (oS ρ (ρ 62 l7))) + 144000) 1440) ≤ l4 then (if l4 ≤ (Int.tdiv (((l3 + 1) - (oS ρ (ρ 62 l7))) + 144000) 1440) then G 162 57 (some (.ref 51) :: some (vI l1) :: some (vI l2) :: some (vI (l3 + 1)) :: some (vI (Int.tdiv (((l3 + 1) - (oS ρ (ρ 62 l7))) + 144000) 1440)) :: some (vI (l5 + 0)) :: some (vI (l6 + 0)) :: some (vI (l7 + 1)) :: some (vI (Int.tdiv (((l3 + 1) - (oS ρ (ρ 62 l7))) + 144000) 1440)) :: t.tail) [] (toM ρ τ) Q else G 162 57 (some (.ref 51) :: some (vI l1) :: some (vI l2) :: some (vI (l3 + 1)) :: some (vI (Int.tdiv (((l3 + 1) - (oS ρ (ρ 62 l7))) + 144000) 1440)) :: some (vI (l5 + 0)) :: some (vI (l6 + 1)) :: some (vI (l7 + 1)) :: some (vI (Int.tdiv (((l3 + 1) - (oS ρ (ρ 62 l7))) + 144000) 1440)) :: t.tail) [] (toM ρ τ) Q) else (if l4 ≤ (Int.tdiv (((l3 + 1) - (oS ρ (ρ 62 l7))) + 144000) 1440) then G 162 57 (some (.ref 51) :: some (vI l1) :: some (vI l2) :: some (vI (l3 + 1)) :: some (vI (Int.tdiv (((l3 + 1) - (oS ρ (ρ 62 l7))) + 144000) 1440)) :: some (vI (l5 + 1)) :: some (vI (l6 + 0)) :: some (vI (l7 + 1)) :: some (vI (Int.tdiv (((l3 + 1) - (oS ρ (ρ 62 l7))) + 144000) 1440)) :: t.tail) [] (toM ρ τ) Q else G 162 57 (some (.ref 51) :: some (vI l1) :: some (vI l2) :: some (vI (l3 + 1)) :: some (vI (Int.tdiv (((l3 + 1) - (oS ρ (ρ 62 l7))) + 144000) 1440)) :: some (vI (l5 + 1)) :: some (vI (l6 + 1)) :: some (vI (l7 + 1)) :: some (vI (Int.tdiv (((l3 + 1) - (oS ρ (ρ 62 l7))) + 144000) 1440)) :: t.tail) [] (toM ρ τ) Q)) else (if (Int.tdiv (((l3 + (ρ 57 ((10 * (ρ 62 (l7 - 1))) + (ρ 62 l7)))) - (oS ρ (ρ 62 l7))) + 144000) 1440) ≤ l4 then (if l4 ≤ (Int.tdiv (((l3 + (ρ 57 ((10 * (ρ 62 (l7 - 1))) + (ρ 62 l7)))) - (oS ρ (ρ 62 l7))) + 144000) 1440) then G 162 57 (some (.ref 51) :: some (vI l1) :: some (vI l2) :: some (vI (l3 + (ρ 57 ((10 * (ρ 62 (l7 - 1))) + (ρ 62 l7))))) :: some (vI (Int.tdiv (((l3 + (ρ 57 ((10 * (ρ 62 (l7 - 1))) + (ρ 62 l7)))) - (oS ρ (ρ 62 l7))) + 144000) 1440)) :: some (vI (l5 + 0)) :: some (vI (l6 + 0)) :: some (vI (l7 + 1)) :: some (vI (Int.tdiv (((l3 + (ρ 57 ((10 * (ρ 62 (l7 - 1))) + (ρ 62 l7)))) - (oS ρ (ρ 62 l7))) + 144000) 1440)) :: t.tail) [] (toM ρ τ) Q else G 162 57 (some (.ref 51) :: some (vI l1) :: some (vI l2) :: some (vI (l3 + (ρ 57 ((10 * (ρ 62 (l7 - 1))) + (ρ 62 l7))))) :: some (vI (Int.tdiv (((l3 + (ρ 57 ((10 * (ρ 62 (l7 - 1))) + (ρ 62 l7)))) - (oS ρ (ρ 62 l7))) + 144000) 1440)) :: some (vI (l5 + 0)) :: some (vI (l6 + 1)) :: some (vI (l7 + 1)) :: some (vI (Int.tdiv (((l3 + (ρ 57 ((10 * (ρ 62 (l7 - 1))) + (ρ 62 l7)))) - (oS ρ (ρ 62 l7))) + 144000) 1440)) :: t.tail) [] (toM ρ τ) Q) else (if l4 ≤ (Int.tdiv (((l3 + (ρ 57 ((10 * (ρ 62 (l7 - 1))) + (ρ 62 l7)))) - (oS ρ (ρ 62 l7))) + 144000) 1440) then G 162 57 (some (.ref 51) :: some (vI l1) :: some (vI l2) :: some (vI (l3 + (ρ 57 ((10 * (ρ 62 (l7 - 1))) + (ρ 62 l7))))) :: some (vI (Int.tdiv (((l3 + (ρ 57 ((10 * (ρ 62 (l7 - 1))) + (ρ 62 l7)))) - (oS ρ (ρ 62 l7))) + 144000) 1440)) :: some (vI (l5 + 1)) :: some (vI (l6 + 0)) :: some (vI (l7 + 1)) :: some (vI (Int.tdiv (((l3 + (ρ 57 ((10 * (ρ 62 (l7 - 1))) + (ρ 62 l7)))) - (oS ρ (ρ 62 l7))) + 144000) 1440)) :: t.tail) [] (toM ρ τ) Q else G 162 57 (some (.ref 51) :: some (vI l1) :: some (vI l2) :: some (vI (l3 + (ρ 57 ((10 * (ρ 62 (l7 - 1))) + (ρ 62 l7))))) :: some (vI (Int.tdiv (((l3 + (ρ 57 ((10 * (ρ 62 (l7 - 1))) + (ρ 62 l7)))) - (oS ρ (ρ 62 l7))) + 144000) 1440)) :: some (vI (l5 + 1)) :: some (vI (l6 + 1)) :: some (vI (l7 + 1)) :: some (vI (Int.tdiv (((l3 + (ρ 57 ((10 * (ρ 62 (l7 - 1))) + (ρ 62 l7)))) - (oS ρ (ρ 62 l7))) + 144000) 1440)) :: t.tail) [] (toM ρ τ) Q)))) := by
  refine (g_iload d162_57 rfl).trans ?_
  refine (g_aload_n d162_59 rfl rfl).trans ?_
  refine (j_getI (v := ρ 51 28) d162_60 f10_187 sh_51 (by decide) rfl rfl).trans ?_
  have q1 : 0 ≤ ρ 51 28 ∧ ρ 51 28 ≤ 12 := hT.2 51 28
  refine j_icmp_ge (tgt := 175) d162_63 (by decide) (by omega) (by omega) (fun q2 => ?_) (fun q2 => ?_)
  ·
    refine (g_iload_n d162_175 rfl).trans ?_
    refine j_if_ne (tgt := 183) d162_176 (by decide) (by omega) (fun q3 => ?_) (fun q3 => ?_)
    ·
      refine (g_iload_n d162_179 rfl).trans ?_
      refine (g_goto (tgt := 195) d162_180 (by decide)).trans ?_
      exact g_iret d162_195 rfl rfl
    ·
      refine (g_iload_n d162_183 rfl).trans ?_
      refine (j_iconst d162_184).trans ?_
      refine j_icmp_ne (tgt := 193) d162_185 (by decide) (by omega) (by omega) (fun q4 => ?_) (fun q4 => ?_)
      ·
        refine (g_iload d162_188 rfl).trans ?_
        refine (g_goto (tgt := 195) d162_190 (by decide)).trans ?_
        exact g_iret d162_195 rfl rfl
      ·
        refine (g_iload d162_193 rfl).trans ?_
        exact g_iret d162_195 rfl rfl
  ·
    refine (g_iload_n d162_66 rfl).trans ?_
    refine (g_aload_n d162_67 rfl rfl).trans ?_
    refine (g_getR (q := 62) d162_68 f10_45 sh_51 (by decide) rfl).trans ?_
    refine (g_iload d162_71 rfl).trans ?_
    refine (j_ialoadB (v := ρ 62 l7) d162_73 sh_62 (by omega) (by decide) rfl).trans ?_
    have q5 : 0 ≤ ρ 62 l7 ∧ ρ 62 l7 ≤ 9 := hT.2 62 l7
    refine (g_aload_n d162_74 rfl rfl).trans ?_
    refine (g_getR (q := 62) d162_75 f10_45 sh_51 (by decide) rfl).trans ?_
    refine (g_iload d162_78 rfl).trans ?_
    refine (j_iconst d162_80).trans ?_
    refine (j_isub d162_81).trans ?_
    refine (j_ialoadB (v := ρ 62 (l7 - 1)) d162_82 sh_62 (by omega) (by decide) rfl).trans ?_
    have q6 : 0 ≤ ρ 62 (l7 - 1) ∧ ρ 62 (l7 - 1) ≤ 9 := hT.2 62 (l7 - 1)
    refine j_icmp_ne (tgt := 90) d162_83 (by decide) (by omega) (by omega) (fun q7 => ?_) (fun q7 => ?_)
    ·
      refine (j_iconst d162_86).trans ?_
      refine (g_goto (tgt := 115) d162_87 (by decide)).trans ?_
      refine (j_iadd d162_115).trans ?_
      refine (g_istore_n d162_116 (by decide) rfl rfl).trans ?_
      refine (g_aload_n d162_117 rfl rfl).trans ?_
      refine (g_aload_n d162_118 rfl rfl).trans ?_
      refine (g_getR (q := 62) d162_119 f10_45 sh_51 (by decide) rfl).trans ?_
      refine (g_iload d162_122 rfl).trans ?_
      refine (j_ialoadB (v := ρ 62 l7) d162_124 sh_62 (by omega) (by decide) rfl).trans ?_
      refine (g_iload_n d162_125 rfl).trans ?_
      refine (g_cV d162_126 k10_209 rfl rfl rfl).trans ?_
      show G 140 0 [some (.ref 51), some (vI (ρ 62 l7)), some (vI (l3 + 1))] [] (toM ρ τ) _ = _
      refine (s140 _ _ _ _ hT (by omega) (by omega)).trans ?_
      show G 162 129 (some (.ref 51) :: some (vI l1) :: some (vI l2) :: some (vI (l3 + 1)) :: some (vI l4) :: some (vI l5) :: some (vI l6) :: some (vI l7) :: t) [vI (Int.tdiv (((l3 + 1) - (oS ρ (ρ 62 l7))) + 144000) 1440)] (toM ρ τ) _ = _
      have q8 := (And.intro (tdiv_bd (((l3 + 1) - (oS ρ (ρ 62 l7))) + 144000) (b := 1440) (by omega)) (oS_rg hT (h := ρ 62 l7) (by omega)))
      refine (g_istore d162_129 (by decide) rfl rfl).trans ?_
      refine (g_iload d162_131 rfl).trans ?_
      refine (g_iload d162_133 rfl).trans ?_
      refine (g_iload d162_135 rfl).trans ?_
      refine j_icmp_le (tgt := 144) d162_137 (by decide) (by omega) (by omega) (fun q9 => ?_) (fun q9 => ?_)
      ·
        refine (j_iconst d162_144).trans ?_
        refine (j_iadd d162_145).trans ?_
        refine (g_istore d162_146 (by decide) rfl rfl).trans ?_
        refine (g_iload d162_148 rfl).trans ?_
        refine (g_iload d162_150 rfl).trans ?_
        refine (g_iload d162_152 rfl).trans ?_
        refine j_icmp_ge (tgt := 161) d162_154 (by decide) (by omega) (by omega) (fun q10 => ?_) (fun q10 => ?_)
        ·
          refine (j_iconst d162_161).trans ?_
          refine (j_iadd d162_162).trans ?_
          refine (g_istore d162_163 (by decide) rfl rfl).trans ?_
          refine (g_iload d162_165 rfl).trans ?_
          refine (g_istore d162_167 (by decide) rfl rfl).trans ?_
          refine (j_iinc d162_169 rfl (by decide) rfl rfl).trans ?_
          refine (g_goto (tgt := 57) d162_172 (by decide)).trans ?_
          rfl
        ·
          refine (j_iconst d162_157).trans ?_
          refine (g_goto (tgt := 162) d162_158 (by decide)).trans ?_
          refine (j_iadd d162_162).trans ?_
          refine (g_istore d162_163 (by decide) rfl rfl).trans ?_
          refine (g_iload d162_165 rfl).trans ?_
          refine (g_istore d162_167 (by decide) rfl rfl).trans ?_
          refine (j_iinc d162_169 rfl (by decide) rfl rfl).trans ?_
          refine (g_goto (tgt := 57) d162_172 (by decide)).trans ?_
          rfl
      ·
        refine (j_iconst d162_140).trans ?_
        refine (g_goto (tgt := 145) d162_141 (by decide)).trans ?_
        refine (j_iadd d162_145).trans ?_
        refine (g_istore d162_146 (by decide) rfl rfl).trans ?_
        refine (g_iload d162_148 rfl).trans ?_
        refine (g_iload d162_150 rfl).trans ?_
        refine (g_iload d162_152 rfl).trans ?_
        refine j_icmp_ge (tgt := 161) d162_154 (by decide) (by omega) (by omega) (fun q11 => ?_) (fun q11 => ?_)
        ·
          refine (j_iconst d162_161).trans ?_
          refine (j_iadd d162_162).trans ?_
          refine (g_istore d162_163 (by decide) rfl rfl).trans ?_
          refine (g_iload d162_165 rfl).trans ?_
          refine (g_istore d162_167 (by decide) rfl rfl).trans ?_
          refine (j_iinc d162_169 rfl (by decide) rfl rfl).trans ?_
          refine (g_goto (tgt := 57) d162_172 (by decide)).trans ?_
          rfl
        ·
          refine (j_iconst d162_157).trans ?_
          refine (g_goto (tgt := 162) d162_158 (by decide)).trans ?_
          refine (j_iadd d162_162).trans ?_
          refine (g_istore d162_163 (by decide) rfl rfl).trans ?_
          refine (g_iload d162_165 rfl).trans ?_
          refine (g_istore d162_167 (by decide) rfl rfl).trans ?_
          refine (j_iinc d162_169 rfl (by decide) rfl rfl).trans ?_
          refine (g_goto (tgt := 57) d162_172 (by decide)).trans ?_
          rfl
    ·
      refine (g_aload_n d162_90 rfl rfl).trans ?_
      refine (g_getR (q := 57) d162_91 f10_29 sh_51 (by decide) rfl).trans ?_
      refine (j_bipush d162_94 (by decide)).trans ?_
      refine (g_aload_n d162_96 rfl rfl).trans ?_
      refine (g_getR (q := 62) d162_97 f10_45 sh_51 (by decide) rfl).trans ?_
      refine (g_iload d162_100 rfl).trans ?_
      refine (j_iconst d162_102).trans ?_
      refine (j_isub d162_103).trans ?_
      refine (j_ialoadB (v := ρ 62 (l7 - 1)) d162_104 sh_62 (by omega) (by decide) rfl).trans ?_
      refine (j_imul d162_105).trans ?_
      refine (g_aload_n d162_106 rfl rfl).trans ?_
      refine (g_getR (q := 62) d162_107 f10_45 sh_51 (by decide) rfl).trans ?_
      refine (g_iload d162_110 rfl).trans ?_
      refine (j_ialoadB (v := ρ 62 l7) d162_112 sh_62 (by omega) (by decide) rfl).trans ?_
      refine (j_iadd d162_113).trans ?_
      refine (j_ialoadB (v := ρ 57 ((10 * (ρ 62 (l7 - 1))) + (ρ 62 l7))) d162_114 sh_57 (by omega) (by decide) rfl).trans ?_
      have q12 : 0 ≤ ρ 57 ((10 * (ρ 62 (l7 - 1))) + (ρ 62 l7)) ∧ ρ 57 ((10 * (ρ 62 (l7 - 1))) + (ρ 62 l7)) ≤ 100000 := hT.2 57 ((10 * (ρ 62 (l7 - 1))) + (ρ 62 l7))
      refine (j_iadd d162_115).trans ?_
      refine (g_istore_n d162_116 (by decide) rfl rfl).trans ?_
      refine (g_aload_n d162_117 rfl rfl).trans ?_
      refine (g_aload_n d162_118 rfl rfl).trans ?_
      refine (g_getR (q := 62) d162_119 f10_45 sh_51 (by decide) rfl).trans ?_
      refine (g_iload d162_122 rfl).trans ?_
      refine (j_ialoadB (v := ρ 62 l7) d162_124 sh_62 (by omega) (by decide) rfl).trans ?_
      refine (g_iload_n d162_125 rfl).trans ?_
      refine (g_cV d162_126 k10_209 rfl rfl rfl).trans ?_
      show G 140 0 [some (.ref 51), some (vI (ρ 62 l7)), some (vI (l3 + (ρ 57 ((10 * (ρ 62 (l7 - 1))) + (ρ 62 l7)))))] [] (toM ρ τ) _ = _
      refine (s140 _ _ _ _ hT (by omega) (by omega)).trans ?_
      show G 162 129 (some (.ref 51) :: some (vI l1) :: some (vI l2) :: some (vI (l3 + (ρ 57 ((10 * (ρ 62 (l7 - 1))) + (ρ 62 l7))))) :: some (vI l4) :: some (vI l5) :: some (vI l6) :: some (vI l7) :: t) [vI (Int.tdiv (((l3 + (ρ 57 ((10 * (ρ 62 (l7 - 1))) + (ρ 62 l7)))) - (oS ρ (ρ 62 l7))) + 144000) 1440)] (toM ρ τ) _ = _
      have q13 := (And.intro (tdiv_bd (((l3 + (ρ 57 ((10 * (ρ 62 (l7 - 1))) + (ρ 62 l7)))) - (oS ρ (ρ 62 l7))) + 144000) (b := 1440) (by omega)) (oS_rg hT (h := ρ 62 l7) (by omega)))
      refine (g_istore d162_129 (by decide) rfl rfl).trans ?_
      refine (g_iload d162_131 rfl).trans ?_
      refine (g_iload d162_133 rfl).trans ?_
      refine (g_iload d162_135 rfl).trans ?_
      refine j_icmp_le (tgt := 144) d162_137 (by decide) (by omega) (by omega) (fun q14 => ?_) (fun q14 => ?_)
      ·
        refine (j_iconst d162_144).trans ?_
        refine (j_iadd d162_145).trans ?_
        refine (g_istore d162_146 (by decide) rfl rfl).trans ?_
        refine (g_iload d162_148 rfl).trans ?_
        refine (g_iload d162_150 rfl).trans ?_
        refine (g_iload d162_152 rfl).trans ?_
        refine j_icmp_ge (tgt := 161) d162_154 (by decide) (by omega) (by omega) (fun q15 => ?_) (fun q15 => ?_)
        ·
          refine (j_iconst d162_161).trans ?_
          refine (j_iadd d162_162).trans ?_
          refine (g_istore d162_163 (by decide) rfl rfl).trans ?_
          refine (g_iload d162_165 rfl).trans ?_
          refine (g_istore d162_167 (by decide) rfl rfl).trans ?_
          refine (j_iinc d162_169 rfl (by decide) rfl rfl).trans ?_
          refine (g_goto (tgt := 57) d162_172 (by decide)).trans ?_
          rfl
        ·
          refine (j_iconst d162_157).trans ?_
          refine (g_goto (tgt := 162) d162_158 (by decide)).trans ?_
          refine (j_iadd d162_162).trans ?_
          refine (g_istore d162_163 (by decide) rfl rfl).trans ?_
          refine (g_iload d162_165 rfl).trans ?_
          refine (g_istore d162_167 (by decide) rfl rfl).trans ?_
          refine (j_iinc d162_169 rfl (by decide) rfl rfl).trans ?_
          refine (g_goto (tgt := 57) d162_172 (by decide)).trans ?_
          rfl
      ·
        refine (j_iconst d162_140).trans ?_
        refine (g_goto (tgt := 145) d162_141 (by decide)).trans ?_
        refine (j_iadd d162_145).trans ?_
        refine (g_istore d162_146 (by decide) rfl rfl).trans ?_
        refine (g_iload d162_148 rfl).trans ?_
        refine (g_iload d162_150 rfl).trans ?_
        refine (g_iload d162_152 rfl).trans ?_
        refine j_icmp_ge (tgt := 161) d162_154 (by decide) (by omega) (by omega) (fun q16 => ?_) (fun q16 => ?_)
        ·
          refine (j_iconst d162_161).trans ?_
          refine (j_iadd d162_162).trans ?_
          refine (g_istore d162_163 (by decide) rfl rfl).trans ?_
          refine (g_iload d162_165 rfl).trans ?_
          refine (g_istore d162_167 (by decide) rfl rfl).trans ?_
          refine (j_iinc d162_169 rfl (by decide) rfl rfl).trans ?_
          refine (g_goto (tgt := 57) d162_172 (by decide)).trans ?_
          rfl
        ·
          refine (j_iconst d162_157).trans ?_
          refine (g_goto (tgt := 162) d162_158 (by decide)).trans ?_
          refine (j_iadd d162_162).trans ?_
          refine (g_istore d162_163 (by decide) rfl rfl).trans ?_
          refine (g_iload d162_165 rfl).trans ?_
          refine (g_istore d162_167 (by decide) rfl rfl).trans ?_
          refine (j_iinc d162_169 rfl (by decide) rfl rfl).trans ?_
          refine (g_goto (tgt := 57) d162_172 (by decide)).trans ?_
          rfl
