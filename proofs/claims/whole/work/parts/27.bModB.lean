/-! blocks of the small machine (wip/gen/gen_blocks.py) -/
theorem d138_0 : ins 138 0 = some (.aload_n 0) := by decide +kernel
theorem d138_1 : ins 138 1 = some (.iload_n 1) := by decide +kernel
theorem d138_2 : ins 138 2 = some (.invokevirtual 196) := by decide +kernel
theorem d138_5 : ins 138 5 = some (.ifCond .eq 11) := by decide +kernel
theorem d138_8 : ins 138 8 = some (.aload_n 0) := by decide +kernel
theorem d138_9 : ins 138 9 = some (.iload_n 1) := by decide +kernel
theorem d138_10 : ins 138 10 = some (.invokevirtual 199) := by decide +kernel
theorem d138_13 : ins 138 13 = some (.goto 5) := by decide +kernel
theorem d138_16 : ins 138 16 = some (.bipush (-2)) := by decide +kernel
theorem d138_18 : ins 138 18 = some (.ireturn) := by decide +kernel
set_option maxRecDepth 10000 in
theorem b138_0 {Q : Option Value → mm → Prop} (ρ : rm) (τ : Int64) (a1 : Int) (hB : BM ρ) (h_a1 : SB a1) : G 138 0 (some (.ref 51) :: some (vI a1) :: []) [] (toM ρ τ) Q = G 119 0 [some (.ref 51), some (vI a1)] [] (toM ρ τ) (fun v μ2 => G 138 5 (some (.ref 51) :: some (vI a1) :: []) (v.toList ++ []) μ2 Q) := by
  refine (g_aload_n d138_0 rfl rfl).trans ?_
  refine (g_iload_n d138_1 rfl).trans ?_
  exact g_cV d138_2 k10_196 rfl rfl rfl
set_option maxRecDepth 10000 in
theorem b138_5 {Q : Option Value → mm → Prop} (ρ : rm) (τ : Int64) (l1 : Int) (t : List (Option Value)) (r : Int) (hB : BM ρ) (h_l1 : SB l1) (h_in1 : r = 0 ∨ SM l1) (h_r : SM r) : G 138 5 (some (.ref 51) :: some (vI l1) :: t) ((some (vI r)).toList ++ []) (toM ρ τ) Q = (if r = 0 then Q (some (vI (-2))) (toM ρ τ) else G 137 0 [some (.ref 51), some (vI l1)] [] (toM ρ τ) (fun v μ2 => G 138 13 (some (.ref 51) :: some (vI l1) :: t) (v.toList ++ []) μ2 Q)) := by
  refine j_if_eq (tgt := 16) d138_5 (by decide) (by omega) (fun q1 => ?_) (fun q1 => ?_)
  ·
    refine (j_bipush d138_16 (by decide)).trans ?_
    exact g_iret d138_18 rfl rfl
  ·
    refine (g_aload_n d138_8 rfl rfl).trans ?_
    refine (g_iload_n d138_9 rfl).trans ?_
    exact g_cV d138_10 k10_199 rfl rfl rfl
set_option maxRecDepth 10000 in
theorem b138_13 {Q : Option Value → mm → Prop} (ρ : rm) (τ : Int64) (l1 : Int) (t : List (Option Value)) (r : Int) (hB : BM ρ) (h_l1 : SM l1) (h_r : SM r) : G 138 13 (some (.ref 51) :: some (vI l1) :: t) ((some (vI r)).toList ++ []) (toM ρ τ) Q = Q (some (vI r)) (toM ρ τ) := by
  refine (g_goto (tgt := 18) d138_13 (by decide)).trans ?_
  exact g_iret d138_18 rfl rfl
theorem d139_0 : ins 139 0 = some (.aload_n 0) := by decide +kernel
theorem d139_1 : ins 139 1 = some (.iload_n 1) := by decide +kernel
theorem d139_2 : ins 139 2 = some (.invokevirtual 196) := by decide +kernel
theorem d139_5 : ins 139 5 = some (.ifCond .eq 25) := by decide +kernel
theorem d139_8 : ins 139 8 = some (.aload_n 0) := by decide +kernel
theorem d139_9 : ins 139 9 = some (.iload_n 2) := by decide +kernel
theorem d139_10 : ins 139 10 = some (.invokevirtual 196) := by decide +kernel
theorem d139_13 : ins 139 13 = some (.ifCond .eq 17) := by decide +kernel
theorem d139_16 : ins 139 16 = some (.aload_n 0) := by decide +kernel
theorem d139_17 : ins 139 17 = some (.getfield 29) := by decide +kernel
theorem d139_20 : ins 139 20 = some (.bipush 10) := by decide +kernel
theorem d139_22 : ins 139 22 = some (.iload_n 1) := by decide +kernel
theorem d139_23 : ins 139 23 = some (.imul) := by decide +kernel
theorem d139_24 : ins 139 24 = some (.iload_n 2) := by decide +kernel
theorem d139_25 : ins 139 25 = some (.iadd) := by decide +kernel
theorem d139_26 : ins 139 26 = some (.iaload) := by decide +kernel
theorem d139_27 : ins 139 27 = some (.goto 5) := by decide +kernel
theorem d139_30 : ins 139 30 = some (.bipush (-2)) := by decide +kernel
theorem d139_32 : ins 139 32 = some (.ireturn) := by decide +kernel
set_option maxRecDepth 10000 in
theorem b139_0 {Q : Option Value → mm → Prop} (ρ : rm) (τ : Int64) (a1 : Int) (a2 : Int) (hB : BM ρ) (h_a1 : SB a1) (h_a2 : SB a2) : G 139 0 (some (.ref 51) :: some (vI a1) :: some (vI a2) :: []) [] (toM ρ τ) Q = G 119 0 [some (.ref 51), some (vI a1)] [] (toM ρ τ) (fun v μ2 => G 139 5 (some (.ref 51) :: some (vI a1) :: some (vI a2) :: []) (v.toList ++ []) μ2 Q) := by
  refine (g_aload_n d139_0 rfl rfl).trans ?_
  refine (g_iload_n d139_1 rfl).trans ?_
  exact g_cV d139_2 k10_196 rfl rfl rfl
set_option maxRecDepth 10000 in
theorem b139_5 {Q : Option Value → mm → Prop} (ρ : rm) (τ : Int64) (l1 : Int) (l2 : Int) (t : List (Option Value)) (r : Int) (hB : BM ρ) (h_l1 : SB l1) (h_in1 : r = 0 ∨ SM l1) (h_l2 : SB l2) (h_r : SM r) : G 139 5 (some (.ref 51) :: some (vI l1) :: some (vI l2) :: t) ((some (vI r)).toList ++ []) (toM ρ τ) Q = (if r = 0 then Q (some (vI (-2))) (toM ρ τ) else G 119 0 [some (.ref 51), some (vI l2)] [] (toM ρ τ) (fun v μ2 => G 139 13 (some (.ref 51) :: some (vI l1) :: some (vI l2) :: t) (v.toList ++ []) μ2 Q)) := by
  refine j_if_eq (tgt := 30) d139_5 (by decide) (by omega) (fun q1 => ?_) (fun q1 => ?_)
  ·
    refine (j_bipush d139_30 (by decide)).trans ?_
    exact g_iret d139_32 rfl rfl
  ·
    refine (g_aload_n d139_8 rfl rfl).trans ?_
    refine (g_iload_n d139_9 rfl).trans ?_
    exact g_cV d139_10 k10_196 rfl rfl rfl
set_option maxRecDepth 10000 in
theorem b139_13 {Q : Option Value → mm → Prop} (ρ : rm) (τ : Int64) (l1 : Int) (l2 : Int) (t : List (Option Value)) (r : Int) (hB : BM ρ) (h_l1 : SM l1) (h_l2 : SB l2) (h_in2 : r = 0 ∨ SM l2) (h_r : SM r) : G 139 13 (some (.ref 51) :: some (vI l1) :: some (vI l2) :: t) ((some (vI r)).toList ++ []) (toM ρ τ) Q = (if r = 0 then Q (some (vI (-2))) (toM ρ τ) else (if 0 ≤ ((10 * l1) + l2) ∧ ((10 * l1) + l2) < 100 then Q (some (vI (ρ 57 ((10 * l1) + l2)))) (toM ρ τ) else False)) := by
  refine j_if_eq (tgt := 30) d139_13 (by decide) (by omega) (fun q1 => ?_) (fun q1 => ?_)
  ·
    refine (j_bipush d139_30 (by decide)).trans ?_
    exact g_iret d139_32 rfl rfl
  ·
    refine (g_aload_n d139_16 rfl rfl).trans ?_
    refine (g_getR (q := 57) d139_17 f10_29 sh_51 (by decide) rfl).trans ?_
    refine (j_bipush d139_20 (by decide)).trans ?_
    refine (g_iload_n d139_22 rfl).trans ?_
    refine (j_imul d139_23).trans ?_
    refine (g_iload_n d139_24 rfl).trans ?_
    refine (j_iadd d139_25).trans ?_
    refine j_iaload (v := ρ 57 ((10 * l1) + l2)) d139_26 sh_57 (by omega) rfl (fun q2 => ?_)
    have q3 := hB 57 ((10 * l1) + l2) (by omega)
    refine (g_goto (tgt := 32) d139_27 (by decide)).trans ?_
    exact g_iret d139_32 rfl rfl
theorem d140_0 : ins 140 0 = some (.iload_n 2) := by decide +kernel
theorem d140_1 : ins 140 1 = some (.aload_n 0) := by decide +kernel
theorem d140_2 : ins 140 2 = some (.iload_n 1) := by decide +kernel
theorem d140_3 : ins 140 3 = some (.invokevirtual 199) := by decide +kernel
theorem d140_6 : ins 140 6 = some (.isub) := by decide +kernel
theorem d140_7 : ins 140 7 = some (.ldc 203) := by decide +kernel
theorem d140_9 : ins 140 9 = some (.iadd) := by decide +kernel
theorem d140_10 : ins 140 10 = some (.sipush 1440) := by decide +kernel
theorem d140_13 : ins 140 13 = some (.idiv) := by decide +kernel
theorem d140_14 : ins 140 14 = some (.ireturn) := by decide +kernel
set_option maxRecDepth 10000 in
theorem b140_0 {Q : Option Value → mm → Prop} (ρ : rm) (τ : Int64) (a1 : Int) (a2 : Int) (hB : BM ρ) (h_a1 : SM a1) (h_a2 : SM a2) : G 140 0 (some (.ref 51) :: some (vI a1) :: some (vI a2) :: []) [] (toM ρ τ) Q = G 137 0 [some (.ref 51), some (vI a1)] [] (toM ρ τ) (fun v μ2 => G 140 6 (some (.ref 51) :: some (vI a1) :: some (vI a2) :: []) (v.toList ++ [vI a2]) μ2 Q) := by
  refine (g_iload_n d140_0 rfl).trans ?_
  refine (g_aload_n d140_1 rfl rfl).trans ?_
  refine (g_iload_n d140_2 rfl).trans ?_
  exact g_cV d140_3 k10_199 rfl rfl rfl
set_option maxRecDepth 10000 in
theorem b140_6 {Q : Option Value → mm → Prop} (ρ : rm) (τ : Int64) (l1 : Int) (l2 : Int) (t : List (Option Value)) (s0 : Int) (r : Int) (hB : BM ρ) (h_l1 : SM l1) (h_l2 : SM l2) (h_s0 : SM s0) (h_r : SM r) : G 140 6 (some (.ref 51) :: some (vI l1) :: some (vI l2) :: t) ((some (vI r)).toList ++ [vI s0]) (toM ρ τ) Q = Q (some (vI (Int.tdiv ((s0 - r) + 144000) 1440))) (toM ρ τ) := by
  refine (j_isub d140_6).trans ?_
  refine (j_ldc (n := 144000) d140_7 cs10_203 (by decide)).trans ?_
  refine (j_iadd d140_9).trans ?_
  refine (j_sipush d140_10 (by decide)).trans ?_
  refine (j_idiv d140_13 (by omega) (by omega) (by omega)).trans ?_
  have q1 := tdiv_bd ((s0 - r) + 144000) (b := 1440) (by omega)
  exact g_iret d140_14 rfl rfl
theorem d141_0 : ins 141 0 = some (.iload_n 2) := by decide +kernel
theorem d141_1 : ins 141 1 = some (.aload_n 0) := by decide +kernel
theorem d141_2 : ins 141 2 = some (.iload_n 1) := by decide +kernel
theorem d141_3 : ins 141 3 = some (.invokevirtual 199) := by decide +kernel
theorem d141_6 : ins 141 6 = some (.isub) := by decide +kernel
theorem d141_7 : ins 141 7 = some (.ldc 203) := by decide +kernel
theorem d141_9 : ins 141 9 = some (.iadd) := by decide +kernel
theorem d141_10 : ins 141 10 = some (.sipush 1440) := by decide +kernel
theorem d141_13 : ins 141 13 = some (.irem) := by decide +kernel
theorem d141_14 : ins 141 14 = some (.ireturn) := by decide +kernel
set_option maxRecDepth 10000 in
theorem b141_0 {Q : Option Value → mm → Prop} (ρ : rm) (τ : Int64) (a1 : Int) (a2 : Int) (hB : BM ρ) (h_a1 : SM a1) (h_a2 : SM a2) : G 141 0 (some (.ref 51) :: some (vI a1) :: some (vI a2) :: []) [] (toM ρ τ) Q = G 137 0 [some (.ref 51), some (vI a1)] [] (toM ρ τ) (fun v μ2 => G 141 6 (some (.ref 51) :: some (vI a1) :: some (vI a2) :: []) (v.toList ++ [vI a2]) μ2 Q) := by
  refine (g_iload_n d141_0 rfl).trans ?_
  refine (g_aload_n d141_1 rfl rfl).trans ?_
  refine (g_iload_n d141_2 rfl).trans ?_
  exact g_cV d141_3 k10_199 rfl rfl rfl
set_option maxRecDepth 10000 in
theorem b141_6 {Q : Option Value → mm → Prop} (ρ : rm) (τ : Int64) (l1 : Int) (l2 : Int) (t : List (Option Value)) (s0 : Int) (r : Int) (hB : BM ρ) (h_l1 : SM l1) (h_l2 : SM l2) (h_s0 : SM s0) (h_r : SM r) : G 141 6 (some (.ref 51) :: some (vI l1) :: some (vI l2) :: t) ((some (vI r)).toList ++ [vI s0]) (toM ρ τ) Q = Q (some (vI (Int.tmod ((s0 - r) + 144000) 1440))) (toM ρ τ) := by
  refine (j_isub d141_6).trans ?_
  refine (j_ldc (n := 144000) d141_7 cs10_203 (by decide)).trans ?_
  refine (j_iadd d141_9).trans ?_
  refine (j_sipush d141_10 (by decide)).trans ?_
  refine (j_irem d141_13 (by omega) (by omega) (by omega)).trans ?_
  have q1 := tmod_bd ((s0 - r) + 144000) (b := 1440) (by omega)
  exact g_iret d141_14 rfl rfl
theorem d142_0 : ins 142 0 = some (.aload_n 0) := by decide +kernel
theorem d142_1 : ins 142 1 = some (.iload_n 1) := by decide +kernel
theorem d142_2 : ins 142 2 = some (.invokevirtual 196) := by decide +kernel
theorem d142_5 : ins 142 5 = some (.ifCond .ne 6) := by decide +kernel
theorem d142_8 : ins 142 8 = some (.bipush (-2)) := by decide +kernel
theorem d142_10 : ins 142 10 = some (.ireturn) := by decide +kernel
theorem d142_11 : ins 142 11 = some (.iload_n 2) := by decide +kernel
theorem d142_12 : ins 142 12 = some (.iconst 0) := by decide +kernel
theorem d142_13 : ins 142 13 = some (.ldc 204) := by decide +kernel
theorem d142_15 : ins 142 15 = some (.invokestatic 69) := by decide +kernel
theorem d142_18 : ins 142 18 = some (.ifCond .ne 6) := by decide +kernel
theorem d142_21 : ins 142 21 = some (.bipush (-3)) := by decide +kernel
theorem d142_23 : ins 142 23 = some (.ireturn) := by decide +kernel
theorem d142_24 : ins 142 24 = some (.iload_n 3) := by decide +kernel
theorem d142_25 : ins 142 25 = some (.ifCond .ne 12) := by decide +kernel
theorem d142_28 : ins 142 28 = some (.aload_n 0) := by decide +kernel
theorem d142_29 : ins 142 29 = some (.iload_n 1) := by decide +kernel
theorem d142_30 : ins 142 30 = some (.iload_n 2) := by decide +kernel
theorem d142_31 : ins 142 31 = some (.invokevirtual 205) := by decide +kernel
theorem d142_34 : ins 142 34 = some (.goto 19) := by decide +kernel
theorem d142_37 : ins 142 37 = some (.iload_n 3) := by decide +kernel
theorem d142_38 : ins 142 38 = some (.iconst 1) := by decide +kernel
theorem d142_39 : ins 142 39 = some (.if_icmp .ne 12) := by decide +kernel
theorem d142_42 : ins 142 42 = some (.aload_n 0) := by decide +kernel
theorem d142_43 : ins 142 43 = some (.iload_n 1) := by decide +kernel
theorem d142_44 : ins 142 44 = some (.iload_n 2) := by decide +kernel
theorem d142_45 : ins 142 45 = some (.invokevirtual 209) := by decide +kernel
theorem d142_48 : ins 142 48 = some (.goto 5) := by decide +kernel
theorem d142_51 : ins 142 51 = some (.bipush (-3)) := by decide +kernel
theorem d142_53 : ins 142 53 = some (.ireturn) := by decide +kernel
set_option maxRecDepth 10000 in
theorem b142_0 {Q : Option Value → mm → Prop} (ρ : rm) (τ : Int64) (a1 : Int) (a2 : Int) (a3 : Int) (hB : BM ρ) (h_a1 : SB a1) (h_a2 : SB a2) (h_a3 : SB a3) : G 142 0 (some (.ref 51) :: some (vI a1) :: some (vI a2) :: some (vI a3) :: []) [] (toM ρ τ) Q = G 119 0 [some (.ref 51), some (vI a1)] [] (toM ρ τ) (fun v μ2 => G 142 5 (some (.ref 51) :: some (vI a1) :: some (vI a2) :: some (vI a3) :: []) (v.toList ++ []) μ2 Q) := by
  refine (g_aload_n d142_0 rfl rfl).trans ?_
  refine (g_iload_n d142_1 rfl).trans ?_
  exact g_cV d142_2 k10_196 rfl rfl rfl
set_option maxRecDepth 10000 in
theorem b142_5 {Q : Option Value → mm → Prop} (ρ : rm) (τ : Int64) (l1 : Int) (l2 : Int) (l3 : Int) (t : List (Option Value)) (r : Int) (hB : BM ρ) (h_l1 : SB l1) (h_in1 : r = 0 ∨ SM l1) (h_l2 : SB l2) (h_l3 : SB l3) (h_r : SM r) : G 142 5 (some (.ref 51) :: some (vI l1) :: some (vI l2) :: some (vI l3) :: t) ((some (vI r)).toList ++ []) (toM ρ τ) Q = (if r = 0 then Q (some (vI (-2))) (toM ρ τ) else G 117 0 [some (vI l2), some (vI 0), some (vI 99999)] [] (toM ρ τ) (fun v μ2 => G 142 18 (some (.ref 51) :: some (vI l1) :: some (vI l2) :: some (vI l3) :: t) (v.toList ++ []) μ2 Q)) := by
  refine j_if_ne (tgt := 11) d142_5 (by decide) (by omega) (fun q1 => ?_) (fun q1 => ?_)
  ·
    refine (j_bipush d142_8 (by decide)).trans ?_
    exact g_iret d142_10 rfl rfl
  ·
    refine (g_iload_n d142_11 rfl).trans ?_
    refine (j_iconst d142_12).trans ?_
    refine (j_ldc (n := 99999) d142_13 cs10_204 (by decide)).trans ?_
    exact g_cS d142_15 k10_69 rfl rfl rfl
set_option maxRecDepth 10000 in
theorem b142_18 {Q : Option Value → mm → Prop} (ρ : rm) (τ : Int64) (l1 : Int) (l2 : Int) (l3 : Int) (t : List (Option Value)) (r : Int) (hB : BM ρ) (h_l1 : SM l1) (h_l2 : SB l2) (h_in2 : r = 0 ∨ SM l2) (h_l3 : SB l3) (h_r : SM r) : G 142 18 (some (.ref 51) :: some (vI l1) :: some (vI l2) :: some (vI l3) :: t) ((some (vI r)).toList ++ []) (toM ρ τ) Q = (if r = 0 then Q (some (vI (-3))) (toM ρ τ) else (if l3 = 0 then G 141 0 [some (.ref 51), some (vI l1), some (vI l2)] [] (toM ρ τ) (fun v μ2 => G 142 34 (some (.ref 51) :: some (vI l1) :: some (vI l2) :: some (vI l3) :: t) (v.toList ++ []) μ2 Q) else (if l3 = 1 then G 140 0 [some (.ref 51), some (vI l1), some (vI l2)] [] (toM ρ τ) (fun v μ2 => G 142 48 (some (.ref 51) :: some (vI l1) :: some (vI l2) :: some (vI l3) :: t) (v.toList ++ []) μ2 Q) else Q (some (vI (-3))) (toM ρ τ)))) := by
  refine j_if_ne (tgt := 24) d142_18 (by decide) (by omega) (fun q1 => ?_) (fun q1 => ?_)
  ·
    refine (j_bipush d142_21 (by decide)).trans ?_
    exact g_iret d142_23 rfl rfl
  ·
    refine (g_iload_n d142_24 rfl).trans ?_
    refine j_if_ne (tgt := 37) d142_25 (by decide) (by omega) (fun q2 => ?_) (fun q2 => ?_)
    ·
      refine (g_aload_n d142_28 rfl rfl).trans ?_
      refine (g_iload_n d142_29 rfl).trans ?_
      refine (g_iload_n d142_30 rfl).trans ?_
      exact g_cV d142_31 k10_205 rfl rfl rfl
    ·
      refine (g_iload_n d142_37 rfl).trans ?_
      refine (j_iconst d142_38).trans ?_
      refine j_icmp_ne (tgt := 51) d142_39 (by decide) (by omega) (by omega) (fun q3 => ?_) (fun q3 => ?_)
      ·
        refine (g_aload_n d142_42 rfl rfl).trans ?_
        refine (g_iload_n d142_43 rfl).trans ?_
        refine (g_iload_n d142_44 rfl).trans ?_
        exact g_cV d142_45 k10_209 rfl rfl rfl
      ·
        refine (j_bipush d142_51 (by decide)).trans ?_
        exact g_iret d142_53 rfl rfl
set_option maxRecDepth 10000 in
theorem b142_34 {Q : Option Value → mm → Prop} (ρ : rm) (τ : Int64) (l1 : Int) (l2 : Int) (l3 : Int) (t : List (Option Value)) (r : Int) (hB : BM ρ) (h_l1 : SM l1) (h_l2 : SM l2) (h_l3 : SB l3) (h_r : SM r) : G 142 34 (some (.ref 51) :: some (vI l1) :: some (vI l2) :: some (vI l3) :: t) ((some (vI r)).toList ++ []) (toM ρ τ) Q = Q (some (vI r)) (toM ρ τ) := by
  refine (g_goto (tgt := 53) d142_34 (by decide)).trans ?_
  exact g_iret d142_53 rfl rfl
set_option maxRecDepth 10000 in
theorem b142_48 {Q : Option Value → mm → Prop} (ρ : rm) (τ : Int64) (l1 : Int) (l2 : Int) (l3 : Int) (t : List (Option Value)) (r : Int) (hB : BM ρ) (h_l1 : SM l1) (h_l2 : SM l2) (h_l3 : SB l3) (h_r : SM r) : G 142 48 (some (.ref 51) :: some (vI l1) :: some (vI l2) :: some (vI l3) :: t) ((some (vI r)).toList ++ []) (toM ρ τ) Q = Q (some (vI r)) (toM ρ τ) := by
  refine (g_goto (tgt := 53) d142_48 (by decide)).trans ?_
  exact g_iret d142_53 rfl rfl
theorem d143_0 : ins 143 0 = some (.aload_n 0) := by decide +kernel
theorem d143_1 : ins 143 1 = some (.getfield 29) := by decide +kernel
theorem d143_4 : ins 143 4 = some (.bipush 10) := by decide +kernel
theorem d143_6 : ins 143 6 = some (.iload_n 1) := by decide +kernel
theorem d143_7 : ins 143 7 = some (.imul) := by decide +kernel
theorem d143_8 : ins 143 8 = some (.iload_n 2) := by decide +kernel
theorem d143_9 : ins 143 9 = some (.iadd) := by decide +kernel
theorem d143_10 : ins 143 10 = some (.iaload) := by decide +kernel
theorem d143_11 : ins 143 11 = some (.aload_n 0) := by decide +kernel
theorem d143_12 : ins 143 12 = some (.iload_n 2) := by decide +kernel
theorem d143_13 : ins 143 13 = some (.invokevirtual 199) := by decide +kernel
theorem d143_16 : ins 143 16 = some (.isub) := by decide +kernel
theorem d143_17 : ins 143 17 = some (.aload_n 0) := by decide +kernel
theorem d143_18 : ins 143 18 = some (.iload_n 1) := by decide +kernel
theorem d143_19 : ins 143 19 = some (.invokevirtual 199) := by decide +kernel
theorem d143_22 : ins 143 22 = some (.iadd) := by decide +kernel
theorem d143_23 : ins 143 23 = some (.ireturn) := by decide +kernel
set_option maxRecDepth 10000 in
theorem b143_0 {Q : Option Value → mm → Prop} (ρ : rm) (τ : Int64) (a1 : Int) (a2 : Int) (hB : BM ρ) (h_a1 : SM a1) (h_a2 : SM a2) : G 143 0 (some (.ref 51) :: some (vI a1) :: some (vI a2) :: []) [] (toM ρ τ) Q = (if 0 ≤ ((10 * a1) + a2) ∧ ((10 * a1) + a2) < 100 then G 137 0 [some (.ref 51), some (vI a2)] [] (toM ρ τ) (fun v μ2 => G 143 16 (some (.ref 51) :: some (vI a1) :: some (vI a2) :: []) (v.toList ++ [vI (ρ 57 ((10 * a1) + a2))]) μ2 Q) else False) := by
  refine (g_aload_n d143_0 rfl rfl).trans ?_
  refine (g_getR (q := 57) d143_1 f10_29 sh_51 (by decide) rfl).trans ?_
  refine (j_bipush d143_4 (by decide)).trans ?_
  refine (g_iload_n d143_6 rfl).trans ?_
  refine (j_imul d143_7).trans ?_
  refine (g_iload_n d143_8 rfl).trans ?_
  refine (j_iadd d143_9).trans ?_
  refine j_iaload (v := ρ 57 ((10 * a1) + a2)) d143_10 sh_57 (by omega) rfl (fun q1 => ?_)
  have q2 := hB 57 ((10 * a1) + a2) (by omega)
  refine (g_aload_n d143_11 rfl rfl).trans ?_
  refine (g_iload_n d143_12 rfl).trans ?_
  exact g_cV d143_13 k10_199 rfl rfl rfl
set_option maxRecDepth 10000 in
theorem b143_16 {Q : Option Value → mm → Prop} (ρ : rm) (τ : Int64) (l1 : Int) (l2 : Int) (t : List (Option Value)) (s0 : Int) (r : Int) (hB : BM ρ) (h_l1 : SM l1) (h_l2 : SM l2) (h_s0 : SM s0) (h_r : SM r) : G 143 16 (some (.ref 51) :: some (vI l1) :: some (vI l2) :: t) ((some (vI r)).toList ++ [vI s0]) (toM ρ τ) Q = G 137 0 [some (.ref 51), some (vI l1)] [] (toM ρ τ) (fun v μ2 => G 143 22 (some (.ref 51) :: some (vI l1) :: some (vI l2) :: t) (v.toList ++ [vI (s0 - r)]) μ2 Q) := by
  refine (j_isub d143_16).trans ?_
  refine (g_aload_n d143_17 rfl rfl).trans ?_
  refine (g_iload_n d143_18 rfl).trans ?_
  exact g_cV d143_19 k10_199 rfl rfl rfl
set_option maxRecDepth 10000 in
theorem b143_22 {Q : Option Value → mm → Prop} (ρ : rm) (τ : Int64) (l1 : Int) (l2 : Int) (t : List (Option Value)) (s0 : Int) (r : Int) (hB : BM ρ) (h_l1 : SM l1) (h_l2 : SM l2) (h_s0 : SM s0) (h_r : SM r) : G 143 22 (some (.ref 51) :: some (vI l1) :: some (vI l2) :: t) ((some (vI r)).toList ++ [vI s0]) (toM ρ τ) Q = Q (some (vI (s0 + r))) (toM ρ τ) := by
  refine (j_iadd d143_22).trans ?_
  exact g_iret d143_23 rfl rfl
theorem d144_0 : ins 144 0 = some (.aload_n 0) := by decide +kernel
theorem d144_1 : ins 144 1 = some (.iload_n 1) := by decide +kernel
theorem d144_2 : ins 144 2 = some (.invokevirtual 196) := by decide +kernel
theorem d144_5 : ins 144 5 = some (.ifCond .eq 23) := by decide +kernel
theorem d144_8 : ins 144 8 = some (.aload_n 0) := by decide +kernel
theorem d144_9 : ins 144 9 = some (.iload_n 2) := by decide +kernel
theorem d144_10 : ins 144 10 = some (.invokevirtual 196) := by decide +kernel
theorem d144_13 : ins 144 13 = some (.ifCond .eq 15) := by decide +kernel
theorem d144_16 : ins 144 16 = some (.aload_n 0) := by decide +kernel
theorem d144_17 : ins 144 17 = some (.iload_n 1) := by decide +kernel
theorem d144_18 : ins 144 18 = some (.iload_n 2) := by decide +kernel
theorem d144_19 : ins 144 19 = some (.invokevirtual 212) := by decide +kernel
theorem d144_22 : ins 144 22 = some (.ldc 82) := by decide +kernel
theorem d144_24 : ins 144 24 = some (.iadd) := by decide +kernel
theorem d144_25 : ins 144 25 = some (.goto 5) := by decide +kernel
theorem d144_28 : ins 144 28 = some (.bipush (-2)) := by decide +kernel
theorem d144_30 : ins 144 30 = some (.ireturn) := by decide +kernel
set_option maxRecDepth 10000 in
theorem b144_0 {Q : Option Value → mm → Prop} (ρ : rm) (τ : Int64) (a1 : Int) (a2 : Int) (hB : BM ρ) (h_a1 : SB a1) (h_a2 : SB a2) : G 144 0 (some (.ref 51) :: some (vI a1) :: some (vI a2) :: []) [] (toM ρ τ) Q = G 119 0 [some (.ref 51), some (vI a1)] [] (toM ρ τ) (fun v μ2 => G 144 5 (some (.ref 51) :: some (vI a1) :: some (vI a2) :: []) (v.toList ++ []) μ2 Q) := by
  refine (g_aload_n d144_0 rfl rfl).trans ?_
  refine (g_iload_n d144_1 rfl).trans ?_
  exact g_cV d144_2 k10_196 rfl rfl rfl
set_option maxRecDepth 10000 in
theorem b144_5 {Q : Option Value → mm → Prop} (ρ : rm) (τ : Int64) (l1 : Int) (l2 : Int) (t : List (Option Value)) (r : Int) (hB : BM ρ) (h_l1 : SB l1) (h_in1 : r = 0 ∨ SM l1) (h_l2 : SB l2) (h_r : SM r) : G 144 5 (some (.ref 51) :: some (vI l1) :: some (vI l2) :: t) ((some (vI r)).toList ++ []) (toM ρ τ) Q = (if r = 0 then Q (some (vI (-2))) (toM ρ τ) else G 119 0 [some (.ref 51), some (vI l2)] [] (toM ρ τ) (fun v μ2 => G 144 13 (some (.ref 51) :: some (vI l1) :: some (vI l2) :: t) (v.toList ++ []) μ2 Q)) := by
  refine j_if_eq (tgt := 28) d144_5 (by decide) (by omega) (fun q1 => ?_) (fun q1 => ?_)
  ·
    refine (j_bipush d144_28 (by decide)).trans ?_
    exact g_iret d144_30 rfl rfl
  ·
    refine (g_aload_n d144_8 rfl rfl).trans ?_
    refine (g_iload_n d144_9 rfl).trans ?_
    exact g_cV d144_10 k10_196 rfl rfl rfl
set_option maxRecDepth 10000 in
theorem b144_13 {Q : Option Value → mm → Prop} (ρ : rm) (τ : Int64) (l1 : Int) (l2 : Int) (t : List (Option Value)) (r : Int) (hB : BM ρ) (h_l1 : SM l1) (h_l2 : SB l2) (h_in2 : r = 0 ∨ SM l2) (h_r : SM r) : G 144 13 (some (.ref 51) :: some (vI l1) :: some (vI l2) :: t) ((some (vI r)).toList ++ []) (toM ρ τ) Q = (if r = 0 then Q (some (vI (-2))) (toM ρ τ) else G 143 0 [some (.ref 51), some (vI l1), some (vI l2)] [] (toM ρ τ) (fun v μ2 => G 144 22 (some (.ref 51) :: some (vI l1) :: some (vI l2) :: t) (v.toList ++ []) μ2 Q)) := by
  refine j_if_eq (tgt := 28) d144_13 (by decide) (by omega) (fun q1 => ?_) (fun q1 => ?_)
  ·
    refine (j_bipush d144_28 (by decide)).trans ?_
    exact g_iret d144_30 rfl rfl
  ·
    refine (g_aload_n d144_16 rfl rfl).trans ?_
    refine (g_iload_n d144_17 rfl).trans ?_
    refine (g_iload_n d144_18 rfl).trans ?_
    exact g_cV d144_19 k10_212 rfl rfl rfl
set_option maxRecDepth 10000 in
theorem b144_22 {Q : Option Value → mm → Prop} (ρ : rm) (τ : Int64) (l1 : Int) (l2 : Int) (t : List (Option Value)) (r : Int) (hB : BM ρ) (h_l1 : SM l1) (h_l2 : SM l2) (h_r : SM r) : G 144 22 (some (.ref 51) :: some (vI l1) :: some (vI l2) :: t) ((some (vI r)).toList ++ []) (toM ρ τ) Q = Q (some (vI (r + 100000))) (toM ρ τ) := by
  refine (j_ldc (n := 100000) d144_22 cs10_82 (by decide)).trans ?_
  refine (j_iadd d144_24).trans ?_
  refine (g_goto (tgt := 30) d144_25 (by decide)).trans ?_
  exact g_iret d144_30 rfl rfl
theorem d145_0 : ins 145 0 = some (.iload_n 1) := by decide +kernel
theorem d145_1 : ins 145 1 = some (.iconst 0) := by decide +kernel
theorem d145_2 : ins 145 2 = some (.iconst 1) := by decide +kernel
theorem d145_3 : ins 145 3 = some (.invokestatic 69) := by decide +kernel
theorem d145_6 : ins 145 6 = some (.ifCond .ne 6) := by decide +kernel
theorem d145_9 : ins 145 9 = some (.bipush (-3)) := by decide +kernel
theorem d145_11 : ins 145 11 = some (.ireturn) := by decide +kernel
theorem d145_12 : ins 145 12 = some (.iconst 0) := by decide +kernel
theorem d145_13 : ins 145 13 = some (.istore_n 2) := by decide +kernel
theorem d145_14 : ins 145 14 = some (.iconst (-1)) := by decide +kernel
theorem d145_15 : ins 145 15 = some (.istore_n 3) := by decide +kernel
theorem d145_16 : ins 145 16 = some (.iconst 0) := by decide +kernel
theorem d145_17 : ins 145 17 = some (.istore 4) := by decide +kernel
theorem d145_19 : ins 145 19 = some (.iconst 0) := by decide +kernel
theorem d145_20 : ins 145 20 = some (.istore 5) := by decide +kernel
theorem d145_22 : ins 145 22 = some (.iload 5) := by decide +kernel
theorem d145_24 : ins 145 24 = some (.aload_n 0) := by decide +kernel
theorem d145_25 : ins 145 25 = some (.getfield 7) := by decide +kernel
theorem d145_28 : ins 145 28 = some (.if_icmp .ge 86) := by decide +kernel
theorem d145_31 : ins 145 31 = some (.iconst 0) := by decide +kernel
theorem d145_32 : ins 145 32 = some (.istore 6) := by decide +kernel
theorem d145_34 : ins 145 34 = some (.iload 6) := by decide +kernel
theorem d145_36 : ins 145 36 = some (.aload_n 0) := by decide +kernel
theorem d145_37 : ins 145 37 = some (.getfield 7) := by decide +kernel
theorem d145_40 : ins 145 40 = some (.if_icmp .ge 68) := by decide +kernel
theorem d145_43 : ins 145 43 = some (.aload_n 0) := by decide +kernel
theorem d145_44 : ins 145 44 = some (.iload 5) := by decide +kernel
theorem d145_46 : ins 145 46 = some (.iload 6) := by decide +kernel
theorem d145_48 : ins 145 48 = some (.invokevirtual 212) := by decide +kernel
theorem d145_51 : ins 145 51 = some (.istore 7) := by decide +kernel
theorem d145_53 : ins 145 53 = some (.iload_n 2) := by decide +kernel
theorem d145_54 : ins 145 54 = some (.iload 7) := by decide +kernel
theorem d145_56 : ins 145 56 = some (.ifCond .ge 7) := by decide +kernel
theorem d145_59 : ins 145 59 = some (.iconst 1) := by decide +kernel
theorem d145_60 : ins 145 60 = some (.goto 4) := by decide +kernel
theorem d145_63 : ins 145 63 = some (.iconst 0) := by decide +kernel
theorem d145_64 : ins 145 64 = some (.iadd) := by decide +kernel
theorem d145_65 : ins 145 65 = some (.istore_n 2) := by decide +kernel
theorem d145_66 : ins 145 66 = some (.iload 7) := by decide +kernel
theorem d145_68 : ins 145 68 = some (.iload 4) := by decide +kernel
theorem d145_70 : ins 145 70 = some (.if_icmp .ge 14) := by decide +kernel
theorem d145_73 : ins 145 73 = some (.bipush 20) := by decide +kernel
theorem d145_75 : ins 145 75 = some (.iload 5) := by decide +kernel
theorem d145_77 : ins 145 77 = some (.imul) := by decide +kernel
theorem d145_78 : ins 145 78 = some (.iload 6) := by decide +kernel
theorem d145_80 : ins 145 80 = some (.iadd) := by decide +kernel
theorem d145_81 : ins 145 81 = some (.goto 4) := by decide +kernel
theorem d145_84 : ins 145 84 = some (.iload_n 3) := by decide +kernel
theorem d145_85 : ins 145 85 = some (.istore_n 3) := by decide +kernel
theorem d145_86 : ins 145 86 = some (.iload 7) := by decide +kernel
theorem d145_88 : ins 145 88 = some (.iload 4) := by decide +kernel
theorem d145_90 : ins 145 90 = some (.if_icmp .ge 8) := by decide +kernel
theorem d145_93 : ins 145 93 = some (.iload 7) := by decide +kernel
theorem d145_95 : ins 145 95 = some (.goto 5) := by decide +kernel
theorem d145_98 : ins 145 98 = some (.iload 4) := by decide +kernel
theorem d145_100 : ins 145 100 = some (.istore 4) := by decide +kernel
theorem d145_102 : ins 145 102 = some (.iinc 6 1) := by decide +kernel
theorem d145_105 : ins 145 105 = some (.goto (-71)) := by decide +kernel
theorem d145_108 : ins 145 108 = some (.iinc 5 1) := by decide +kernel
theorem d145_111 : ins 145 111 = some (.goto (-89)) := by decide +kernel
theorem d145_114 : ins 145 114 = some (.iload_n 1) := by decide +kernel
theorem d145_115 : ins 145 115 = some (.ifCond .ne 7) := by decide +kernel
theorem d145_118 : ins 145 118 = some (.iload_n 2) := by decide +kernel
theorem d145_119 : ins 145 119 = some (.goto 4) := by decide +kernel
theorem d145_122 : ins 145 122 = some (.iload_n 3) := by decide +kernel
theorem d145_123 : ins 145 123 = some (.ireturn) := by decide +kernel
set_option maxRecDepth 10000 in
theorem b145_0 {Q : Option Value → mm → Prop} (ρ : rm) (τ : Int64) (a1 : Int) (hB : BM ρ) (h_a1 : SB a1) : G 145 0 (some (.ref 51) :: some (vI a1) :: []) [] (toM ρ τ) Q = G 117 0 [some (vI a1), some (vI 0), some (vI 1)] [] (toM ρ τ) (fun v μ2 => G 145 6 (some (.ref 51) :: some (vI a1) :: []) (v.toList ++ []) μ2 Q) := by
  refine (g_iload_n d145_0 rfl).trans ?_
  refine (j_iconst d145_1).trans ?_
  refine (j_iconst d145_2).trans ?_
  exact g_cS d145_3 k10_69 rfl rfl rfl
set_option maxRecDepth 10000 in
theorem b145_6 {Q : Option Value → mm → Prop} (ρ : rm) (τ : Int64) (l1 : Int) (t : List (Option Value)) (r : Int) (hB : BM ρ) (h_l1 : SB l1) (h_in1 : r = 0 ∨ SM l1) (h_r : SM r) : G 145 6 (some (.ref 51) :: some (vI l1) :: t) ((some (vI r)).toList ++ []) (toM ρ τ) Q = (if r = 0 then Q (some (vI (-3))) (toM ρ τ) else G 145 22 (some (.ref 51) :: some (vI l1) :: some (vI 0) :: some (vI (-1)) :: some (vI 0) :: some (vI 0) :: t.tail.tail.tail.tail) [] (toM ρ τ) Q) := by
  refine j_if_ne (tgt := 12) d145_6 (by decide) (by omega) (fun q1 => ?_) (fun q1 => ?_)
  ·
    refine (j_bipush d145_9 (by decide)).trans ?_
    exact g_iret d145_11 rfl rfl
  ·
    refine (j_iconst d145_12).trans ?_
    refine (g_istore_n d145_13 (by decide) rfl rfl).trans ?_
    refine (j_iconst d145_14).trans ?_
    refine (g_istore_n d145_15 (by decide) rfl rfl).trans ?_
    refine (j_iconst d145_16).trans ?_
    refine (g_istore d145_17 (by decide) rfl rfl).trans ?_
    refine (j_iconst d145_19).trans ?_
    refine (g_istore d145_20 (by decide) rfl rfl).trans ?_
    rfl
set_option maxRecDepth 10000 in
theorem b145_22 {Q : Option Value → mm → Prop} (ρ : rm) (τ : Int64) (l1 : Int) (l2 : Int) (l3 : Int) (l4 : Int) (l5 : Int) (t : List (Option Value)) (hB : BM ρ) (h_l1 : SM l1) (h_l2 : SM l2) (h_l3 : SM l3) (h_l4 : SM l4) (h_l5 : SM l5) : G 145 22 (some (.ref 51) :: some (vI l1) :: some (vI l2) :: some (vI l3) :: some (vI l4) :: some (vI l5) :: t) [] (toM ρ τ) Q = (if (ρ 51 0) ≤ l5 then (if l1 = 0 then Q (some (vI l2)) (toM ρ τ) else Q (some (vI l3)) (toM ρ τ)) else G 145 34 (some (.ref 51) :: some (vI l1) :: some (vI l2) :: some (vI l3) :: some (vI l4) :: some (vI l5) :: some (vI 0) :: t.tail) [] (toM ρ τ) Q) := by
  refine (g_iload d145_22 rfl).trans ?_
  refine (g_aload_n d145_24 rfl rfl).trans ?_
  refine (j_getI (v := ρ 51 0) d145_25 f10_7 sh_51 (by decide) rfl rfl).trans ?_
  have q1 := hB 51 0 (by decide)
  refine j_icmp_ge (tgt := 114) d145_28 (by decide) (by omega) (by omega) (fun q2 => ?_) (fun q2 => ?_)
  ·
    refine (g_iload_n d145_114 rfl).trans ?_
    refine j_if_ne (tgt := 122) d145_115 (by decide) (by omega) (fun q3 => ?_) (fun q3 => ?_)
    ·
      refine (g_iload_n d145_118 rfl).trans ?_
      refine (g_goto (tgt := 123) d145_119 (by decide)).trans ?_
      exact g_iret d145_123 rfl rfl
    ·
      refine (g_iload_n d145_122 rfl).trans ?_
      exact g_iret d145_123 rfl rfl
  ·
    refine (j_iconst d145_31).trans ?_
    refine (g_istore d145_32 (by decide) rfl rfl).trans ?_
    rfl
set_option maxRecDepth 10000 in
theorem b145_34 {Q : Option Value → mm → Prop} (ρ : rm) (τ : Int64) (l1 : Int) (l2 : Int) (l3 : Int) (l4 : Int) (l5 : Int) (l6 : Int) (t : List (Option Value)) (hB : BM ρ) (h_l1 : SM l1) (h_l2 : SM l2) (h_l3 : SM l3) (h_l4 : SM l4) (h_l5 : SM l5) (h_l6 : SM l6) : G 145 34 (some (.ref 51) :: some (vI l1) :: some (vI l2) :: some (vI l3) :: some (vI l4) :: some (vI l5) :: some (vI l6) :: t) [] (toM ρ τ) Q = (if (ρ 51 0) ≤ l6 then G 145 22 (some (.ref 51) :: some (vI l1) :: some (vI l2) :: some (vI l3) :: some (vI l4) :: some (vI (l5 + 1)) :: some (vI l6) :: t) [] (toM ρ τ) Q else G 143 0 [some (.ref 51), some (vI l5), some (vI l6)] [] (toM ρ τ) (fun v μ2 => G 145 51 (some (.ref 51) :: some (vI l1) :: some (vI l2) :: some (vI l3) :: some (vI l4) :: some (vI l5) :: some (vI l6) :: t) (v.toList ++ []) μ2 Q)) := by
  refine (g_iload d145_34 rfl).trans ?_
  refine (g_aload_n d145_36 rfl rfl).trans ?_
  refine (j_getI (v := ρ 51 0) d145_37 f10_7 sh_51 (by decide) rfl rfl).trans ?_
  have q1 := hB 51 0 (by decide)
  refine j_icmp_ge (tgt := 108) d145_40 (by decide) (by omega) (by omega) (fun q2 => ?_) (fun q2 => ?_)
  ·
    refine (j_iinc d145_108 rfl (by decide) rfl rfl).trans ?_
    refine (g_goto (tgt := 22) d145_111 (by decide)).trans ?_
    rfl
  ·
    refine (g_aload_n d145_43 rfl rfl).trans ?_
    refine (g_iload d145_44 rfl).trans ?_
    refine (g_iload d145_46 rfl).trans ?_
    exact g_cV d145_48 k10_212 rfl rfl rfl
set_option maxRecDepth 10000 in
theorem b145_51 {Q : Option Value → mm → Prop} (ρ : rm) (τ : Int64) (l1 : Int) (l2 : Int) (l3 : Int) (l4 : Int) (l5 : Int) (l6 : Int) (t : List (Option Value)) (r : Int) (hB : BM ρ) (h_l1 : SM l1) (h_l2 : SM l2) (h_l3 : SM l3) (h_l4 : SM l4) (h_l5 : SM l5) (h_l6 : SM l6) (h_r : SM r) : G 145 51 (some (.ref 51) :: some (vI l1) :: some (vI l2) :: some (vI l3) :: some (vI l4) :: some (vI l5) :: some (vI l6) :: t) ((some (vI r)).toList ++ []) (toM ρ τ) Q = (if 0 ≤ r then (if l4 ≤ r then (if l4 ≤ r then G 145 34 (some (.ref 51) :: some (vI l1) :: some (vI (l2 + 0)) :: some (vI l3) :: some (vI l4) :: some (vI l5) :: some (vI (l6 + 1)) :: some (vI r) :: t.tail) [] (toM ρ τ) Q else G 145 34 (some (.ref 51) :: some (vI l1) :: some (vI (l2 + 0)) :: some (vI l3) :: some (vI r) :: some (vI l5) :: some (vI (l6 + 1)) :: some (vI r) :: t.tail) [] (toM ρ τ) Q) else (if l4 ≤ r then G 145 34 (some (.ref 51) :: some (vI l1) :: some (vI (l2 + 0)) :: some (vI ((20 * l5) + l6)) :: some (vI l4) :: some (vI l5) :: some (vI (l6 + 1)) :: some (vI r) :: t.tail) [] (toM ρ τ) Q else G 145 34 (some (.ref 51) :: some (vI l1) :: some (vI (l2 + 0)) :: some (vI ((20 * l5) + l6)) :: some (vI r) :: some (vI l5) :: some (vI (l6 + 1)) :: some (vI r) :: t.tail) [] (toM ρ τ) Q)) else (if l4 ≤ r then (if l4 ≤ r then G 145 34 (some (.ref 51) :: some (vI l1) :: some (vI (l2 + 1)) :: some (vI l3) :: some (vI l4) :: some (vI l5) :: some (vI (l6 + 1)) :: some (vI r) :: t.tail) [] (toM ρ τ) Q else G 145 34 (some (.ref 51) :: some (vI l1) :: some (vI (l2 + 1)) :: some (vI l3) :: some (vI r) :: some (vI l5) :: some (vI (l6 + 1)) :: some (vI r) :: t.tail) [] (toM ρ τ) Q) else (if l4 ≤ r then G 145 34 (some (.ref 51) :: some (vI l1) :: some (vI (l2 + 1)) :: some (vI ((20 * l5) + l6)) :: some (vI l4) :: some (vI l5) :: some (vI (l6 + 1)) :: some (vI r) :: t.tail) [] (toM ρ τ) Q else G 145 34 (some (.ref 51) :: some (vI l1) :: some (vI (l2 + 1)) :: some (vI ((20 * l5) + l6)) :: some (vI r) :: some (vI l5) :: some (vI (l6 + 1)) :: some (vI r) :: t.tail) [] (toM ρ τ) Q))) := by
  refine (g_istore d145_51 (by decide) rfl rfl).trans ?_
  refine (g_iload_n d145_53 rfl).trans ?_
  refine (g_iload d145_54 rfl).trans ?_
  refine j_if_ge (tgt := 63) d145_56 (by decide) (by omega) (fun q1 => ?_) (fun q1 => ?_)
  ·
    refine (j_iconst d145_63).trans ?_
    refine (j_iadd d145_64).trans ?_
    refine (g_istore_n d145_65 (by decide) rfl rfl).trans ?_
    refine (g_iload d145_66 rfl).trans ?_
    refine (g_iload d145_68 rfl).trans ?_
    refine j_icmp_ge (tgt := 84) d145_70 (by decide) (by omega) (by omega) (fun q2 => ?_) (fun q2 => ?_)
    ·
      refine (g_iload_n d145_84 rfl).trans ?_
      refine (g_istore_n d145_85 (by decide) rfl rfl).trans ?_
      refine (g_iload d145_86 rfl).trans ?_
      refine (g_iload d145_88 rfl).trans ?_
      refine j_icmp_ge (tgt := 98) d145_90 (by decide) (by omega) (by omega) (fun q3 => ?_) (fun q3 => ?_)
      ·
        refine (g_iload d145_98 rfl).trans ?_
        refine (g_istore d145_100 (by decide) rfl rfl).trans ?_
        refine (j_iinc d145_102 rfl (by decide) rfl rfl).trans ?_
        refine (g_goto (tgt := 34) d145_105 (by decide)).trans ?_
        rfl
      ·
        refine (g_iload d145_93 rfl).trans ?_
        refine (g_goto (tgt := 100) d145_95 (by decide)).trans ?_
        refine (g_istore d145_100 (by decide) rfl rfl).trans ?_
        refine (j_iinc d145_102 rfl (by decide) rfl rfl).trans ?_
        refine (g_goto (tgt := 34) d145_105 (by decide)).trans ?_
        rfl
    ·
      refine (j_bipush d145_73 (by decide)).trans ?_
      refine (g_iload d145_75 rfl).trans ?_
      refine (j_imul d145_77).trans ?_
      refine (g_iload d145_78 rfl).trans ?_
      refine (j_iadd d145_80).trans ?_
      refine (g_goto (tgt := 85) d145_81 (by decide)).trans ?_
      refine (g_istore_n d145_85 (by decide) rfl rfl).trans ?_
      refine (g_iload d145_86 rfl).trans ?_
      refine (g_iload d145_88 rfl).trans ?_
      refine j_icmp_ge (tgt := 98) d145_90 (by decide) (by omega) (by omega) (fun q4 => ?_) (fun q4 => ?_)
      ·
        refine (g_iload d145_98 rfl).trans ?_
        refine (g_istore d145_100 (by decide) rfl rfl).trans ?_
        refine (j_iinc d145_102 rfl (by decide) rfl rfl).trans ?_
        refine (g_goto (tgt := 34) d145_105 (by decide)).trans ?_
        rfl
      ·
        refine (g_iload d145_93 rfl).trans ?_
        refine (g_goto (tgt := 100) d145_95 (by decide)).trans ?_
        refine (g_istore d145_100 (by decide) rfl rfl).trans ?_
        refine (j_iinc d145_102 rfl (by decide) rfl rfl).trans ?_
        refine (g_goto (tgt := 34) d145_105 (by decide)).trans ?_
        rfl
  ·
    refine (j_iconst d145_59).trans ?_
    refine (g_goto (tgt := 64) d145_60 (by decide)).trans ?_
    refine (j_iadd d145_64).trans ?_
    refine (g_istore_n d145_65 (by decide) rfl rfl).trans ?_
    refine (g_iload d145_66 rfl).trans ?_
    refine (g_iload d145_68 rfl).trans ?_
    refine j_icmp_ge (tgt := 84) d145_70 (by decide) (by omega) (by omega) (fun q5 => ?_) (fun q5 => ?_)
    ·
      refine (g_iload_n d145_84 rfl).trans ?_
      refine (g_istore_n d145_85 (by decide) rfl rfl).trans ?_
      refine (g_iload d145_86 rfl).trans ?_
      refine (g_iload d145_88 rfl).trans ?_
      refine j_icmp_ge (tgt := 98) d145_90 (by decide) (by omega) (by omega) (fun q6 => ?_) (fun q6 => ?_)
      ·
        refine (g_iload d145_98 rfl).trans ?_
        refine (g_istore d145_100 (by decide) rfl rfl).trans ?_
        refine (j_iinc d145_102 rfl (by decide) rfl rfl).trans ?_
        refine (g_goto (tgt := 34) d145_105 (by decide)).trans ?_
        rfl
      ·
        refine (g_iload d145_93 rfl).trans ?_
        refine (g_goto (tgt := 100) d145_95 (by decide)).trans ?_
        refine (g_istore d145_100 (by decide) rfl rfl).trans ?_
        refine (j_iinc d145_102 rfl (by decide) rfl rfl).trans ?_
        refine (g_goto (tgt := 34) d145_105 (by decide)).trans ?_
        rfl
    ·
      refine (j_bipush d145_73 (by decide)).trans ?_
      refine (g_iload d145_75 rfl).trans ?_
      refine (j_imul d145_77).trans ?_
      refine (g_iload d145_78 rfl).trans ?_
      refine (j_iadd d145_80).trans ?_
      refine (g_goto (tgt := 85) d145_81 (by decide)).trans ?_
      refine (g_istore_n d145_85 (by decide) rfl rfl).trans ?_
      refine (g_iload d145_86 rfl).trans ?_
      refine (g_iload d145_88 rfl).trans ?_
      refine j_icmp_ge (tgt := 98) d145_90 (by decide) (by omega) (by omega) (fun q7 => ?_) (fun q7 => ?_)
      ·
        refine (g_iload d145_98 rfl).trans ?_
        refine (g_istore d145_100 (by decide) rfl rfl).trans ?_
        refine (j_iinc d145_102 rfl (by decide) rfl rfl).trans ?_
        refine (g_goto (tgt := 34) d145_105 (by decide)).trans ?_
        rfl
      ·
        refine (g_iload d145_93 rfl).trans ?_
        refine (g_goto (tgt := 100) d145_95 (by decide)).trans ?_
        refine (g_istore d145_100 (by decide) rfl rfl).trans ?_
        refine (j_iinc d145_102 rfl (by decide) rfl rfl).trans ?_
        refine (g_goto (tgt := 34) d145_105 (by decide)).trans ?_
        rfl
theorem d146_0 : ins 146 0 = some (.aload_n 0) := by decide +kernel
theorem d146_1 : ins 146 1 = some (.getfield 23) := by decide +kernel
theorem d146_4 : ins 146 4 = some (.iconst 3) := by decide +kernel
theorem d146_5 : ins 146 5 = some (.iload_n 1) := by decide +kernel
theorem d146_6 : ins 146 6 = some (.imul) := by decide +kernel
theorem d146_7 : ins 146 7 = some (.iconst 1) := by decide +kernel
theorem d146_8 : ins 146 8 = some (.iadd) := by decide +kernel
theorem d146_9 : ins 146 9 = some (.iaload) := by decide +kernel
theorem d146_10 : ins 146 10 = some (.aload_n 0) := by decide +kernel
theorem d146_11 : ins 146 11 = some (.aload_n 0) := by decide +kernel
theorem d146_12 : ins 146 12 = some (.getfield 23) := by decide +kernel
theorem d146_15 : ins 146 15 = some (.iconst 3) := by decide +kernel
theorem d146_16 : ins 146 16 = some (.iload_n 1) := by decide +kernel
theorem d146_17 : ins 146 17 = some (.imul) := by decide +kernel
theorem d146_18 : ins 146 18 = some (.iaload) := by decide +kernel
theorem d146_19 : ins 146 19 = some (.invokevirtual 199) := by decide +kernel
theorem d146_22 : ins 146 22 = some (.iadd) := by decide +kernel
theorem d146_23 : ins 146 23 = some (.ireturn) := by decide +kernel
set_option maxRecDepth 10000 in
theorem b146_0 {Q : Option Value → mm → Prop} (ρ : rm) (τ : Int64) (a1 : Int) (hB : BM ρ) (h_a1 : SM a1) : G 146 0 (some (.ref 51) :: some (vI a1) :: []) [] (toM ρ τ) Q = (if 0 ≤ ((3 * a1) + 1) ∧ ((3 * a1) + 1) < 30 then (if 0 ≤ (3 * a1) ∧ (3 * a1) < 30 then G 137 0 [some (.ref 51), some (vI (ρ 55 (3 * a1)))] [] (toM ρ τ) (fun v μ2 => G 146 22 (some (.ref 51) :: some (vI a1) :: []) (v.toList ++ [vI (ρ 55 ((3 * a1) + 1))]) μ2 Q) else False) else False) := by
  refine (g_aload_n d146_0 rfl rfl).trans ?_
  refine (g_getR (q := 55) d146_1 f10_23 sh_51 (by decide) rfl).trans ?_
  refine (j_iconst d146_4).trans ?_
  refine (g_iload_n d146_5 rfl).trans ?_
  refine (j_imul d146_6).trans ?_
  refine (j_iconst d146_7).trans ?_
  refine (j_iadd d146_8).trans ?_
  refine j_iaload (v := ρ 55 ((3 * a1) + 1)) d146_9 sh_55 (by omega) rfl (fun q1 => ?_)
  have q2 := hB 55 ((3 * a1) + 1) (by omega)
  refine (g_aload_n d146_10 rfl rfl).trans ?_
  refine (g_aload_n d146_11 rfl rfl).trans ?_
  refine (g_getR (q := 55) d146_12 f10_23 sh_51 (by decide) rfl).trans ?_
  refine (j_iconst d146_15).trans ?_
  refine (g_iload_n d146_16 rfl).trans ?_
  refine (j_imul d146_17).trans ?_
  refine j_iaload (v := ρ 55 (3 * a1)) d146_18 sh_55 (by omega) rfl (fun q3 => ?_)
  have q4 := hB 55 (3 * a1) (by omega)
  exact g_cV d146_19 k10_199 rfl rfl rfl
set_option maxRecDepth 10000 in
theorem b146_22 {Q : Option Value → mm → Prop} (ρ : rm) (τ : Int64) (l1 : Int) (t : List (Option Value)) (s0 : Int) (r : Int) (hB : BM ρ) (h_l1 : SM l1) (h_s0 : SM s0) (h_r : SM r) : G 146 22 (some (.ref 51) :: some (vI l1) :: t) ((some (vI r)).toList ++ [vI s0]) (toM ρ τ) Q = Q (some (vI (s0 + r))) (toM ρ τ) := by
  refine (j_iadd d146_22).trans ?_
  exact g_iret d146_23 rfl rfl
theorem d147_0 : ins 147 0 = some (.aload_n 0) := by decide +kernel
theorem d147_1 : ins 147 1 = some (.iload_n 1) := by decide +kernel
theorem d147_2 : ins 147 2 = some (.invokevirtual 215) := by decide +kernel
theorem d147_5 : ins 147 5 = some (.ifCond .ne 6) := by decide +kernel
theorem d147_8 : ins 147 8 = some (.bipush (-2)) := by decide +kernel
theorem d147_10 : ins 147 10 = some (.ireturn) := by decide +kernel
theorem d147_11 : ins 147 11 = some (.iload_n 2) := by decide +kernel
theorem d147_12 : ins 147 12 = some (.iconst 0) := by decide +kernel
theorem d147_13 : ins 147 13 = some (.iconst 2) := by decide +kernel
theorem d147_14 : ins 147 14 = some (.invokestatic 69) := by decide +kernel
theorem d147_17 : ins 147 17 = some (.ifCond .eq 16) := by decide +kernel
theorem d147_20 : ins 147 20 = some (.aload_n 0) := by decide +kernel
theorem d147_21 : ins 147 21 = some (.getfield 23) := by decide +kernel
theorem d147_24 : ins 147 24 = some (.iconst 3) := by decide +kernel
theorem d147_25 : ins 147 25 = some (.iload_n 1) := by decide +kernel
theorem d147_26 : ins 147 26 = some (.imul) := by decide +kernel
theorem d147_27 : ins 147 27 = some (.iload_n 2) := by decide +kernel
theorem d147_28 : ins 147 28 = some (.iadd) := by decide +kernel
theorem d147_29 : ins 147 29 = some (.iaload) := by decide +kernel
theorem d147_30 : ins 147 30 = some (.goto 18) := by decide +kernel
theorem d147_33 : ins 147 33 = some (.iload_n 2) := by decide +kernel
theorem d147_34 : ins 147 34 = some (.iconst 3) := by decide +kernel
theorem d147_35 : ins 147 35 = some (.if_icmp .ne 11) := by decide +kernel
theorem d147_38 : ins 147 38 = some (.aload_n 0) := by decide +kernel
theorem d147_39 : ins 147 39 = some (.iload_n 1) := by decide +kernel
theorem d147_40 : ins 147 40 = some (.invokevirtual 218) := by decide +kernel
theorem d147_43 : ins 147 43 = some (.goto 5) := by decide +kernel
theorem d147_46 : ins 147 46 = some (.bipush (-3)) := by decide +kernel
theorem d147_48 : ins 147 48 = some (.ireturn) := by decide +kernel
set_option maxRecDepth 10000 in
theorem b147_0 {Q : Option Value → mm → Prop} (ρ : rm) (τ : Int64) (a1 : Int) (a2 : Int) (hB : BM ρ) (h_a1 : SB a1) (h_a2 : SB a2) : G 147 0 (some (.ref 51) :: some (vI a1) :: some (vI a2) :: []) [] (toM ρ τ) Q = G 120 0 [some (.ref 51), some (vI a1)] [] (toM ρ τ) (fun v μ2 => G 147 5 (some (.ref 51) :: some (vI a1) :: some (vI a2) :: []) (v.toList ++ []) μ2 Q) := by
  refine (g_aload_n d147_0 rfl rfl).trans ?_
  refine (g_iload_n d147_1 rfl).trans ?_
  exact g_cV d147_2 k10_215 rfl rfl rfl
set_option maxRecDepth 10000 in
theorem b147_5 {Q : Option Value → mm → Prop} (ρ : rm) (τ : Int64) (l1 : Int) (l2 : Int) (t : List (Option Value)) (r : Int) (hB : BM ρ) (h_l1 : SB l1) (h_in1 : r = 0 ∨ SM l1) (h_l2 : SB l2) (h_r : SM r) : G 147 5 (some (.ref 51) :: some (vI l1) :: some (vI l2) :: t) ((some (vI r)).toList ++ []) (toM ρ τ) Q = (if r = 0 then Q (some (vI (-2))) (toM ρ τ) else G 117 0 [some (vI l2), some (vI 0), some (vI 2)] [] (toM ρ τ) (fun v μ2 => G 147 17 (some (.ref 51) :: some (vI l1) :: some (vI l2) :: t) (v.toList ++ []) μ2 Q)) := by
  refine j_if_ne (tgt := 11) d147_5 (by decide) (by omega) (fun q1 => ?_) (fun q1 => ?_)
  ·
    refine (j_bipush d147_8 (by decide)).trans ?_
    exact g_iret d147_10 rfl rfl
  ·
    refine (g_iload_n d147_11 rfl).trans ?_
    refine (j_iconst d147_12).trans ?_
    refine (j_iconst d147_13).trans ?_
    exact g_cS d147_14 k10_69 rfl rfl rfl
set_option maxRecDepth 10000 in
theorem b147_17 {Q : Option Value → mm → Prop} (ρ : rm) (τ : Int64) (l1 : Int) (l2 : Int) (t : List (Option Value)) (r : Int) (hB : BM ρ) (h_l1 : SM l1) (h_l2 : SB l2) (h_in2 : r = 0 ∨ SM l2) (h_r : SM r) : G 147 17 (some (.ref 51) :: some (vI l1) :: some (vI l2) :: t) ((some (vI r)).toList ++ []) (toM ρ τ) Q = (if r = 0 then (if l2 = 3 then G 146 0 [some (.ref 51), some (vI l1)] [] (toM ρ τ) (fun v μ2 => G 147 43 (some (.ref 51) :: some (vI l1) :: some (vI l2) :: t) (v.toList ++ []) μ2 Q) else Q (some (vI (-3))) (toM ρ τ)) else (if 0 ≤ ((3 * l1) + l2) ∧ ((3 * l1) + l2) < 30 then Q (some (vI (ρ 55 ((3 * l1) + l2)))) (toM ρ τ) else False)) := by
  refine j_if_eq (tgt := 33) d147_17 (by decide) (by omega) (fun q1 => ?_) (fun q1 => ?_)
  ·
    refine (g_iload_n d147_33 rfl).trans ?_
    refine (j_iconst d147_34).trans ?_
    refine j_icmp_ne (tgt := 46) d147_35 (by decide) (by omega) (by omega) (fun q2 => ?_) (fun q2 => ?_)
    ·
      refine (g_aload_n d147_38 rfl rfl).trans ?_
      refine (g_iload_n d147_39 rfl).trans ?_
      exact g_cV d147_40 k10_218 rfl rfl rfl
    ·
      refine (j_bipush d147_46 (by decide)).trans ?_
      exact g_iret d147_48 rfl rfl
  ·
    refine (g_aload_n d147_20 rfl rfl).trans ?_
    refine (g_getR (q := 55) d147_21 f10_23 sh_51 (by decide) rfl).trans ?_
    refine (j_iconst d147_24).trans ?_
    refine (g_iload_n d147_25 rfl).trans ?_
    refine (j_imul d147_26).trans ?_
    refine (g_iload_n d147_27 rfl).trans ?_
    refine (j_iadd d147_28).trans ?_
    refine j_iaload (v := ρ 55 ((3 * l1) + l2)) d147_29 sh_55 (by omega) rfl (fun q3 => ?_)
    have q4 := hB 55 ((3 * l1) + l2) (by omega)
    refine (g_goto (tgt := 48) d147_30 (by decide)).trans ?_
    exact g_iret d147_48 rfl rfl
set_option maxRecDepth 10000 in
theorem b147_43 {Q : Option Value → mm → Prop} (ρ : rm) (τ : Int64) (l1 : Int) (l2 : Int) (t : List (Option Value)) (r : Int) (hB : BM ρ) (h_l1 : SM l1) (h_l2 : SM l2) (h_r : SM r) : G 147 43 (some (.ref 51) :: some (vI l1) :: some (vI l2) :: t) ((some (vI r)).toList ++ []) (toM ρ τ) Q = Q (some (vI r)) (toM ρ τ) := by
  refine (g_goto (tgt := 48) d147_43 (by decide)).trans ?_
  exact g_iret d147_48 rfl rfl
theorem d148_0 : ins 148 0 = some (.aload_n 0) := by decide +kernel
theorem d148_1 : ins 148 1 = some (.iload_n 1) := by decide +kernel
theorem d148_2 : ins 148 2 = some (.invokevirtual 196) := by decide +kernel
theorem d148_5 : ins 148 5 = some (.ifCond .ne 6) := by decide +kernel
theorem d148_8 : ins 148 8 = some (.bipush (-2)) := by decide +kernel
theorem d148_10 : ins 148 10 = some (.ireturn) := by decide +kernel
theorem d148_11 : ins 148 11 = some (.iload_n 1) := by decide +kernel
theorem d148_12 : ins 148 12 = some (.aload_n 0) := by decide +kernel
theorem d148_13 : ins 148 13 = some (.getfield 181) := by decide +kernel
theorem d148_16 : ins 148 16 = some (.if_icmp .ne 6) := by decide +kernel
theorem d148_19 : ins 148 19 = some (.bipush (-4)) := by decide +kernel
theorem d148_21 : ins 148 21 = some (.ireturn) := by decide +kernel
theorem d148_22 : ins 148 22 = some (.aload_n 0) := by decide +kernel
theorem d148_23 : ins 148 23 = some (.getfield 184) := by decide +kernel
theorem d148_26 : ins 148 26 = some (.aload_n 0) := by decide +kernel
theorem d148_27 : ins 148 27 = some (.getfield 29) := by decide +kernel
theorem d148_30 : ins 148 30 = some (.bipush 10) := by decide +kernel
theorem d148_32 : ins 148 32 = some (.aload_n 0) := by decide +kernel
theorem d148_33 : ins 148 33 = some (.getfield 181) := by decide +kernel
theorem d148_36 : ins 148 36 = some (.imul) := by decide +kernel
theorem d148_37 : ins 148 37 = some (.iload_n 1) := by decide +kernel
theorem d148_38 : ins 148 38 = some (.iadd) := by decide +kernel
theorem d148_39 : ins 148 39 = some (.iaload) := by decide +kernel
theorem d148_40 : ins 148 40 = some (.iadd) := by decide +kernel
theorem d148_41 : ins 148 41 = some (.ldc 204) := by decide +kernel
theorem d148_43 : ins 148 43 = some (.if_icmp .le 6) := by decide +kernel
theorem d148_46 : ins 148 46 = some (.bipush (-5)) := by decide +kernel
theorem d148_48 : ins 148 48 = some (.ireturn) := by decide +kernel
theorem d148_49 : ins 148 49 = some (.aload_n 0) := by decide +kernel
theorem d148_50 : ins 148 50 = some (.dup) := by decide +kernel
theorem d148_51 : ins 148 51 = some (.getfield 184) := by decide +kernel
theorem d148_54 : ins 148 54 = some (.aload_n 0) := by decide +kernel
theorem d148_55 : ins 148 55 = some (.getfield 29) := by decide +kernel
theorem d148_58 : ins 148 58 = some (.bipush 10) := by decide +kernel
theorem d148_60 : ins 148 60 = some (.aload_n 0) := by decide +kernel
theorem d148_61 : ins 148 61 = some (.getfield 181) := by decide +kernel
theorem d148_64 : ins 148 64 = some (.imul) := by decide +kernel
theorem d148_65 : ins 148 65 = some (.iload_n 1) := by decide +kernel
theorem d148_66 : ins 148 66 = some (.iadd) := by decide +kernel
theorem d148_67 : ins 148 67 = some (.iaload) := by decide +kernel
theorem d148_68 : ins 148 68 = some (.iadd) := by decide +kernel
theorem d148_69 : ins 148 69 = some (.putfield 184) := by decide +kernel
theorem d148_72 : ins 148 72 = some (.aload_n 0) := by decide +kernel
theorem d148_73 : ins 148 73 = some (.iload_n 1) := by decide +kernel
theorem d148_74 : ins 148 74 = some (.putfield 181) := by decide +kernel
theorem d148_77 : ins 148 77 = some (.aload_n 0) := by decide +kernel
theorem d148_78 : ins 148 78 = some (.getfield 184) := by decide +kernel
theorem d148_81 : ins 148 81 = some (.ireturn) := by decide +kernel
set_option maxRecDepth 10000 in
theorem b148_0 {Q : Option Value → mm → Prop} (ρ : rm) (τ : Int64) (a1 : Int) (hB : BM ρ) (h_a1 : SB a1) : G 148 0 (some (.ref 51) :: some (vI a1) :: []) [] (toM ρ τ) Q = G 119 0 [some (.ref 51), some (vI a1)] [] (toM ρ τ) (fun v μ2 => G 148 5 (some (.ref 51) :: some (vI a1) :: []) (v.toList ++ []) μ2 Q) := by
  refine (g_aload_n d148_0 rfl rfl).trans ?_
  refine (g_iload_n d148_1 rfl).trans ?_
  exact g_cV d148_2 k10_196 rfl rfl rfl
set_option maxRecDepth 10000 in
theorem b148_5 {Q : Option Value → mm → Prop} (ρ : rm) (τ : Int64) (l1 : Int) (t : List (Option Value)) (r : Int) (hB : BM ρ) (h_l1 : SB l1) (h_in1 : r = 0 ∨ SM l1) (h_r : SM r) : G 148 5 (some (.ref 51) :: some (vI l1) :: t) ((some (vI r)).toList ++ []) (toM ρ τ) Q = (if r = 0 then Q (some (vI (-2))) (toM ρ τ) else (if l1 = (ρ 51 24) then Q (some (vI (-4))) (toM ρ τ) else (if 0 ≤ ((10 * (ρ 51 24)) + l1) ∧ ((10 * (ρ 51 24)) + l1) < 100 then (if ((ρ 51 25) + (ρ 57 ((10 * (ρ 51 24)) + l1))) ≤ 99999 then (if 0 ≤ ((10 * (ρ 51 24)) + l1) ∧ ((10 * (ρ 51 24)) + l1) < 100 then Q (some (vI ((ρ 51 25) + (ρ 57 ((10 * (ρ 51 24)) + l1))))) (toM (rup (rup ρ 51 25 ((ρ 51 25) + (ρ 57 ((10 * (ρ 51 24)) + l1)))) 51 24 l1) τ) else False) else Q (some (vI (-5))) (toM ρ τ)) else False))) := by
  refine j_if_ne (tgt := 11) d148_5 (by decide) (by omega) (fun q1 => ?_) (fun q1 => ?_)
  ·
    refine (j_bipush d148_8 (by decide)).trans ?_
    exact g_iret d148_10 rfl rfl
  ·
    refine (g_iload_n d148_11 rfl).trans ?_
    refine (g_aload_n d148_12 rfl rfl).trans ?_
    refine (j_getI (v := ρ 51 24) d148_13 f10_181 sh_51 (by decide) rfl rfl).trans ?_
    have q2 := hB 51 24 (by decide)
    refine j_icmp_ne (tgt := 22) d148_16 (by decide) (by omega) (by omega) (fun q3 => ?_) (fun q3 => ?_)
    ·
      refine (j_bipush d148_19 (by decide)).trans ?_
      exact g_iret d148_21 rfl rfl
    ·
      refine (g_aload_n d148_22 rfl rfl).trans ?_
      refine (j_getI (v := ρ 51 25) d148_23 f10_184 sh_51 (by decide) rfl rfl).trans ?_
      have q4 := hB 51 25 (by decide)
      refine (g_aload_n d148_26 rfl rfl).trans ?_
      refine (g_getR (q := 57) d148_27 f10_29 sh_51 (by decide) rfl).trans ?_
      refine (j_bipush d148_30 (by decide)).trans ?_
      refine (g_aload_n d148_32 rfl rfl).trans ?_
      refine (j_getI (v := ρ 51 24) d148_33 f10_181 sh_51 (by decide) rfl rfl).trans ?_
      refine (j_imul d148_36).trans ?_
      refine (g_iload_n d148_37 rfl).trans ?_
      refine (j_iadd d148_38).trans ?_
      refine j_iaload (v := ρ 57 ((10 * (ρ 51 24)) + l1)) d148_39 sh_57 (by omega) rfl (fun q5 => ?_)
      have q6 := hB 57 ((10 * (ρ 51 24)) + l1) (by omega)
      refine (j_iadd d148_40).trans ?_
      refine (j_ldc (n := 99999) d148_41 cs10_204 (by decide)).trans ?_
      refine j_icmp_le (tgt := 49) d148_43 (by decide) (by omega) (by omega) (fun q7 => ?_) (fun q7 => ?_)
      ·
        refine (g_aload_n d148_49 rfl rfl).trans ?_
        refine (g_dupR d148_50).trans ?_
        refine (j_getI (v := ρ 51 25) d148_51 f10_184 sh_51 (by decide) rfl rfl).trans ?_
        refine (g_aload_n d148_54 rfl rfl).trans ?_
        refine (g_getR (q := 57) d148_55 f10_29 sh_51 (by decide) rfl).trans ?_
        refine (j_bipush d148_58 (by decide)).trans ?_
        refine (g_aload_n d148_60 rfl rfl).trans ?_
        refine (j_getI (v := ρ 51 24) d148_61 f10_181 sh_51 (by decide) rfl rfl).trans ?_
        refine (j_imul d148_64).trans ?_
        refine (g_iload_n d148_65 rfl).trans ?_
        refine (j_iadd d148_66).trans ?_
        refine j_iaload (v := ρ 57 ((10 * (ρ 51 24)) + l1)) d148_67 sh_57 (by omega) rfl (fun q8 => ?_)
        refine (j_iadd d148_68).trans ?_
        refine (j_putI d148_69 f10_184 sh_51 (by decide) rfl).trans ?_
        refine (g_aload_n d148_72 rfl rfl).trans ?_
        refine (g_iload_n d148_73 rfl).trans ?_
        refine (j_putI d148_74 f10_181 sh_51 (by decide) rfl).trans ?_
        refine (g_aload_n d148_77 rfl rfl).trans ?_
        refine (j_getI (v := (ρ 51 25) + (ρ 57 ((10 * (ρ 51 24)) + l1))) d148_78 f10_184 sh_51 (by decide) rfl (by simp [rup])).trans ?_
        exact g_iret d148_81 rfl rfl
      ·
        refine (j_bipush d148_46 (by decide)).trans ?_
        exact g_iret d148_48 rfl rfl
theorem d149_0 : ins 149 0 = some (.iload_n 1) := by decide +kernel
theorem d149_1 : ins 149 1 = some (.iconst 1) := by decide +kernel
theorem d149_2 : ins 149 2 = some (.sipush 9999) := by decide +kernel
theorem d149_5 : ins 149 5 = some (.invokestatic 69) := by decide +kernel
theorem d149_8 : ins 149 8 = some (.ifCond .ne 6) := by decide +kernel
theorem d149_11 : ins 149 11 = some (.bipush (-3)) := by decide +kernel
theorem d149_13 : ins 149 13 = some (.ireturn) := by decide +kernel
theorem d149_14 : ins 149 14 = some (.aload_n 0) := by decide +kernel
theorem d149_15 : ins 149 15 = some (.getfield 184) := by decide +kernel
theorem d149_18 : ins 149 18 = some (.iload_n 1) := by decide +kernel
theorem d149_19 : ins 149 19 = some (.iadd) := by decide +kernel
theorem d149_20 : ins 149 20 = some (.ldc 204) := by decide +kernel
theorem d149_22 : ins 149 22 = some (.if_icmp .le 6) := by decide +kernel
theorem d149_25 : ins 149 25 = some (.bipush (-5)) := by decide +kernel
theorem d149_27 : ins 149 27 = some (.ireturn) := by decide +kernel
theorem d149_28 : ins 149 28 = some (.aload_n 0) := by decide +kernel
theorem d149_29 : ins 149 29 = some (.dup) := by decide +kernel
theorem d149_30 : ins 149 30 = some (.getfield 184) := by decide +kernel
theorem d149_33 : ins 149 33 = some (.iload_n 1) := by decide +kernel
theorem d149_34 : ins 149 34 = some (.iadd) := by decide +kernel
theorem d149_35 : ins 149 35 = some (.putfield 184) := by decide +kernel
theorem d149_38 : ins 149 38 = some (.aload_n 0) := by decide +kernel
theorem d149_39 : ins 149 39 = some (.getfield 184) := by decide +kernel
theorem d149_42 : ins 149 42 = some (.ireturn) := by decide +kernel
set_option maxRecDepth 10000 in
theorem b149_0 {Q : Option Value → mm → Prop} (ρ : rm) (τ : Int64) (a1 : Int) (hB : BM ρ) (h_a1 : SB a1) : G 149 0 (some (.ref 51) :: some (vI a1) :: []) [] (toM ρ τ) Q = G 117 0 [some (vI a1), some (vI 1), some (vI 9999)] [] (toM ρ τ) (fun v μ2 => G 149 8 (some (.ref 51) :: some (vI a1) :: []) (v.toList ++ []) μ2 Q) := by
  refine (g_iload_n d149_0 rfl).trans ?_
  refine (j_iconst d149_1).trans ?_
  refine (j_sipush d149_2 (by decide)).trans ?_
  exact g_cS d149_5 k10_69 rfl rfl rfl
set_option maxRecDepth 10000 in
theorem b149_8 {Q : Option Value → mm → Prop} (ρ : rm) (τ : Int64) (l1 : Int) (t : List (Option Value)) (r : Int) (hB : BM ρ) (h_l1 : SB l1) (h_in1 : r = 0 ∨ SM l1) (h_r : SM r) : G 149 8 (some (.ref 51) :: some (vI l1) :: t) ((some (vI r)).toList ++ []) (toM ρ τ) Q = (if r = 0 then Q (some (vI (-3))) (toM ρ τ) else (if ((ρ 51 25) + l1) ≤ 99999 then Q (some (vI ((ρ 51 25) + l1))) (toM (rup ρ 51 25 ((ρ 51 25) + l1)) τ) else Q (some (vI (-5))) (toM ρ τ))) := by
  refine j_if_ne (tgt := 14) d149_8 (by decide) (by omega) (fun q1 => ?_) (fun q1 => ?_)
  ·
    refine (j_bipush d149_11 (by decide)).trans ?_
    exact g_iret d149_13 rfl rfl
  ·
    refine (g_aload_n d149_14 rfl rfl).trans ?_
    refine (j_getI (v := ρ 51 25) d149_15 f10_184 sh_51 (by decide) rfl rfl).trans ?_
    have q2 := hB 51 25 (by decide)
    refine (g_iload_n d149_18 rfl).trans ?_
    refine (j_iadd d149_19).trans ?_
    refine (j_ldc (n := 99999) d149_20 cs10_204 (by decide)).trans ?_
    refine j_icmp_le (tgt := 28) d149_22 (by decide) (by omega) (by omega) (fun q3 => ?_) (fun q3 => ?_)
    ·
      refine (g_aload_n d149_28 rfl rfl).trans ?_
      refine (g_dupR d149_29).trans ?_
      refine (j_getI (v := ρ 51 25) d149_30 f10_184 sh_51 (by decide) rfl rfl).trans ?_
      refine (g_iload_n d149_33 rfl).trans ?_
      refine (j_iadd d149_34).trans ?_
      refine (j_putI d149_35 f10_184 sh_51 (by decide) rfl).trans ?_
      refine (g_aload_n d149_38 rfl rfl).trans ?_
      refine (j_getI (v := (ρ 51 25) + l1) d149_39 f10_184 sh_51 (by decide) rfl (by simp [rup])).trans ?_
      exact g_iret d149_42 rfl rfl
    ·
      refine (j_bipush d149_25 (by decide)).trans ?_
      exact g_iret d149_27 rfl rfl
theorem d150_0 : ins 150 0 = some (.iload_n 1) := by decide +kernel
theorem d150_1 : ins 150 1 = some (.tableswitch 67 0 3 #[31, 36, 41, 54]) := by decide +kernel
theorem d150_32 : ins 150 32 = some (.aload_n 0) := by decide +kernel
theorem d150_33 : ins 150 33 = some (.getfield 181) := by decide +kernel
theorem d150_36 : ins 150 36 = some (.ireturn) := by decide +kernel
theorem d150_37 : ins 150 37 = some (.aload_n 0) := by decide +kernel
theorem d150_38 : ins 150 38 = some (.getfield 184) := by decide +kernel
theorem d150_41 : ins 150 41 = some (.ireturn) := by decide +kernel
theorem d150_42 : ins 150 42 = some (.aload_n 0) := by decide +kernel
theorem d150_43 : ins 150 43 = some (.aload_n 0) := by decide +kernel
theorem d150_44 : ins 150 44 = some (.getfield 181) := by decide +kernel
theorem d150_47 : ins 150 47 = some (.aload_n 0) := by decide +kernel
theorem d150_48 : ins 150 48 = some (.getfield 184) := by decide +kernel
theorem d150_51 : ins 150 51 = some (.invokevirtual 205) := by decide +kernel
theorem d150_54 : ins 150 54 = some (.ireturn) := by decide +kernel
theorem d150_55 : ins 150 55 = some (.aload_n 0) := by decide +kernel
theorem d150_56 : ins 150 56 = some (.aload_n 0) := by decide +kernel
theorem d150_57 : ins 150 57 = some (.getfield 181) := by decide +kernel
theorem d150_60 : ins 150 60 = some (.aload_n 0) := by decide +kernel
theorem d150_61 : ins 150 61 = some (.getfield 184) := by decide +kernel
theorem d150_64 : ins 150 64 = some (.invokevirtual 209) := by decide +kernel
theorem d150_67 : ins 150 67 = some (.ireturn) := by decide +kernel
theorem d150_68 : ins 150 68 = some (.bipush (-3)) := by decide +kernel
theorem d150_70 : ins 150 70 = some (.ireturn) := by decide +kernel
set_option maxRecDepth 10000 in
theorem b150_0 {Q : Option Value → mm → Prop} (ρ : rm) (τ : Int64) (a1 : Int) (hB : BM ρ) (h_a1 : SB a1) : G 150 0 (some (.ref 51) :: some (vI a1) :: []) [] (toM ρ τ) Q = (if a1 = 0 then Q (some (vI (ρ 51 24))) (toM ρ τ) else (if a1 = 1 then Q (some (vI (ρ 51 25))) (toM ρ τ) else (if a1 = 2 then G 141 0 [some (.ref 51), some (vI (ρ 51 24)), some (vI (ρ 51 25))] [] (toM ρ τ) (fun v μ2 => G 150 54 (some (.ref 51) :: some (vI a1) :: []) (v.toList ++ []) μ2 Q) else (if a1 = 3 then G 140 0 [some (.ref 51), some (vI (ρ 51 24)), some (vI (ρ 51 25))] [] (toM ρ τ) (fun v μ2 => G 150 67 (some (.ref 51) :: some (vI a1) :: []) (v.toList ++ []) μ2 Q) else Q (some (vI (-3))) (toM ρ τ))))) := by
  refine (g_iload_n d150_0 rfl).trans ?_
  refine sw_case (c := 0) (fun q1 => ?_) (fun q1 => ?_)
  ·
    refine (g_tableIn (off := 31) (tgt := 32) d150_1 (by rw [iI_toInt (by omega)]; omega) (by rw [iI_toInt (by omega), q1]; rfl) (by decide)).trans ?_
    refine (g_aload_n d150_32 rfl rfl).trans ?_
    refine (j_getI (v := ρ 51 24) d150_33 f10_181 sh_51 (by decide) rfl rfl).trans ?_
    have q2 := hB 51 24 (by decide)
    exact g_iret d150_36 rfl rfl
  ·
    refine sw_case (c := 1) (fun q3 => ?_) (fun q3 => ?_)
    ·
      refine (g_tableIn (off := 36) (tgt := 37) d150_1 (by rw [iI_toInt (by omega)]; omega) (by rw [iI_toInt (by omega), q3]; rfl) (by decide)).trans ?_
      refine (g_aload_n d150_37 rfl rfl).trans ?_
      refine (j_getI (v := ρ 51 25) d150_38 f10_184 sh_51 (by decide) rfl rfl).trans ?_
      have q4 := hB 51 25 (by decide)
      exact g_iret d150_41 rfl rfl
    ·
      refine sw_case (c := 2) (fun q5 => ?_) (fun q5 => ?_)
      ·
        refine (g_tableIn (off := 41) (tgt := 42) d150_1 (by rw [iI_toInt (by omega)]; omega) (by rw [iI_toInt (by omega), q5]; rfl) (by decide)).trans ?_
        refine (g_aload_n d150_42 rfl rfl).trans ?_
        refine (g_aload_n d150_43 rfl rfl).trans ?_
        refine (j_getI (v := ρ 51 24) d150_44 f10_181 sh_51 (by decide) rfl rfl).trans ?_
        have q6 := hB 51 24 (by decide)
        refine (g_aload_n d150_47 rfl rfl).trans ?_
        refine (j_getI (v := ρ 51 25) d150_48 f10_184 sh_51 (by decide) rfl rfl).trans ?_
        have q7 := hB 51 25 (by decide)
        exact g_cV d150_51 k10_205 rfl rfl rfl
      ·
        refine sw_case (c := 3) (fun q8 => ?_) (fun q8 => ?_)
        ·
          refine (g_tableIn (off := 54) (tgt := 55) d150_1 (by rw [iI_toInt (by omega)]; omega) (by rw [iI_toInt (by omega), q8]; rfl) (by decide)).trans ?_
          refine (g_aload_n d150_55 rfl rfl).trans ?_
          refine (g_aload_n d150_56 rfl rfl).trans ?_
          refine (j_getI (v := ρ 51 24) d150_57 f10_181 sh_51 (by decide) rfl rfl).trans ?_
          have q9 := hB 51 24 (by decide)
          refine (g_aload_n d150_60 rfl rfl).trans ?_
          refine (j_getI (v := ρ 51 25) d150_61 f10_184 sh_51 (by decide) rfl rfl).trans ?_
          have q10 := hB 51 25 (by decide)
          exact g_cV d150_64 k10_209 rfl rfl rfl
        ·
          refine (g_tableOut (tgt := 68) d150_1 (by rw [iI_toInt (by omega)]; omega) (by decide)).trans ?_
          refine (j_bipush d150_68 (by decide)).trans ?_
          exact g_iret d150_70 rfl rfl
set_option maxRecDepth 10000 in
theorem b150_54 {Q : Option Value → mm → Prop} (ρ : rm) (τ : Int64) (l1 : Int) (t : List (Option Value)) (r : Int) (hB : BM ρ) (h_l1 : SB l1) (h_r : SM r) : G 150 54 (some (.ref 51) :: some (vI l1) :: t) ((some (vI r)).toList ++ []) (toM ρ τ) Q = Q (some (vI r)) (toM ρ τ) := by
  exact g_iret d150_54 rfl rfl
set_option maxRecDepth 10000 in
theorem b150_67 {Q : Option Value → mm → Prop} (ρ : rm) (τ : Int64) (l1 : Int) (t : List (Option Value)) (r : Int) (hB : BM ρ) (h_l1 : SB l1) (h_r : SM r) : G 150 67 (some (.ref 51) :: some (vI l1) :: t) ((some (vI r)).toList ++ []) (toM ρ τ) Q = Q (some (vI r)) (toM ρ τ) := by
  exact g_iret d150_67 rfl rfl
theorem d151_0 : ins 151 0 = some (.iload_n 1) := by decide +kernel
theorem d151_1 : ins 151 1 = some (.iconst 0) := by decide +kernel
theorem d151_2 : ins 151 2 = some (.iconst 1) := by decide +kernel
theorem d151_3 : ins 151 3 = some (.invokestatic 69) := by decide +kernel
theorem d151_6 : ins 151 6 = some (.ifCond .ne 6) := by decide +kernel
theorem d151_9 : ins 151 9 = some (.bipush (-2)) := by decide +kernel
theorem d151_11 : ins 151 11 = some (.ireturn) := by decide +kernel
theorem d151_12 : ins 151 12 = some (.aload_n 0) := by decide +kernel
theorem d151_13 : ins 151 13 = some (.getfield 38) := by decide +kernel
theorem d151_16 : ins 151 16 = some (.iconst 2) := by decide +kernel
theorem d151_17 : ins 151 17 = some (.iload_n 1) := by decide +kernel
theorem d151_18 : ins 151 18 = some (.imul) := by decide +kernel
theorem d151_19 : ins 151 19 = some (.aload_n 0) := by decide +kernel
theorem d151_20 : ins 151 20 = some (.getfield 181) := by decide +kernel
theorem d151_23 : ins 151 23 = some (.iastore) := by decide +kernel
theorem d151_24 : ins 151 24 = some (.aload_n 0) := by decide +kernel
theorem d151_25 : ins 151 25 = some (.getfield 38) := by decide +kernel
theorem d151_28 : ins 151 28 = some (.iconst 2) := by decide +kernel
theorem d151_29 : ins 151 29 = some (.iload_n 1) := by decide +kernel
theorem d151_30 : ins 151 30 = some (.imul) := by decide +kernel
theorem d151_31 : ins 151 31 = some (.iconst 1) := by decide +kernel
theorem d151_32 : ins 151 32 = some (.iadd) := by decide +kernel
theorem d151_33 : ins 151 33 = some (.aload_n 0) := by decide +kernel
theorem d151_34 : ins 151 34 = some (.getfield 184) := by decide +kernel
theorem d151_37 : ins 151 37 = some (.iastore) := by decide +kernel
theorem d151_38 : ins 151 38 = some (.aload_n 0) := by decide +kernel
theorem d151_39 : ins 151 39 = some (.getfield 41) := by decide +kernel
theorem d151_42 : ins 151 42 = some (.iload_n 1) := by decide +kernel
theorem d151_43 : ins 151 43 = some (.iconst 1) := by decide +kernel
theorem d151_44 : ins 151 44 = some (.bastore) := by decide +kernel
theorem d151_45 : ins 151 45 = some (.aload_n 0) := by decide +kernel
theorem d151_46 : ins 151 46 = some (.getfield 184) := by decide +kernel
theorem d151_49 : ins 151 49 = some (.ireturn) := by decide +kernel
set_option maxRecDepth 10000 in
theorem b151_0 {Q : Option Value → mm → Prop} (ρ : rm) (τ : Int64) (a1 : Int) (hB : BM ρ) (h_a1 : SB a1) : G 151 0 (some (.ref 51) :: some (vI a1) :: []) [] (toM ρ τ) Q = G 117 0 [some (vI a1), some (vI 0), some (vI 1)] [] (toM ρ τ) (fun v μ2 => G 151 6 (some (.ref 51) :: some (vI a1) :: []) (v.toList ++ []) μ2 Q) := by
  refine (g_iload_n d151_0 rfl).trans ?_
  refine (j_iconst d151_1).trans ?_
  refine (j_iconst d151_2).trans ?_
  exact g_cS d151_3 k10_69 rfl rfl rfl
set_option maxRecDepth 10000 in
theorem b151_6 {Q : Option Value → mm → Prop} (ρ : rm) (τ : Int64) (l1 : Int) (t : List (Option Value)) (r : Int) (hB : BM ρ) (h_l1 : SB l1) (h_in1 : r = 0 ∨ SM l1) (h_r : SM r) : G 151 6 (some (.ref 51) :: some (vI l1) :: t) ((some (vI r)).toList ++ []) (toM ρ τ) Q = (if r = 0 then Q (some (vI (-2))) (toM ρ τ) else (if 0 ≤ (2 * l1) ∧ (2 * l1) < 4 then (if 0 ≤ ((2 * l1) + 1) ∧ ((2 * l1) + 1) < 4 then (if 0 ≤ l1 ∧ l1 < 2 then Q (some (vI (ρ 51 25))) (toM (rup (rup (rup ρ 60 (2 * l1) (ρ 51 24)) 60 ((2 * l1) + 1) (ρ 51 25)) 61 l1 1) τ) else False) else False) else False)) := by
  refine j_if_ne (tgt := 12) d151_6 (by decide) (by omega) (fun q1 => ?_) (fun q1 => ?_)
  ·
    refine (j_bipush d151_9 (by decide)).trans ?_
    exact g_iret d151_11 rfl rfl
  ·
    refine (g_aload_n d151_12 rfl rfl).trans ?_
    refine (g_getR (q := 60) d151_13 f10_38 sh_51 (by decide) rfl).trans ?_
    refine (j_iconst d151_16).trans ?_
    refine (g_iload_n d151_17 rfl).trans ?_
    refine (j_imul d151_18).trans ?_
    refine (g_aload_n d151_19 rfl rfl).trans ?_
    refine (j_getI (v := ρ 51 24) d151_20 f10_181 sh_51 (by decide) rfl rfl).trans ?_
    have q2 := hB 51 24 (by decide)
    refine j_iastore d151_23 sh_60 (by omega) (fun q3 => ?_)
    refine (g_aload_n d151_24 rfl rfl).trans ?_
    refine (g_getR (q := 60) d151_25 f10_38 sh_51 (by decide) rfl).trans ?_
    refine (j_iconst d151_28).trans ?_
    refine (g_iload_n d151_29 rfl).trans ?_
    refine (j_imul d151_30).trans ?_
    refine (j_iconst d151_31).trans ?_
    refine (j_iadd d151_32).trans ?_
    refine (g_aload_n d151_33 rfl rfl).trans ?_
    refine (j_getI (v := ρ 51 25) d151_34 f10_184 sh_51 (by decide) rfl (by simp [rup])).trans ?_
    have q4 := hB 51 25 (by decide)
    refine j_iastore d151_37 sh_60 (by omega) (fun q5 => ?_)
    refine (g_aload_n d151_38 rfl rfl).trans ?_
    refine (g_getR (q := 61) d151_39 f10_41 sh_51 (by decide) rfl).trans ?_
    refine (g_iload_n d151_42 rfl).trans ?_
    refine (j_iconst d151_43).trans ?_
    refine j_bastore d151_44 sh_61 (by omega) rfl (fun q6 => ?_)
    refine (g_aload_n d151_45 rfl rfl).trans ?_
    refine (j_getI (v := ρ 51 25) d151_46 f10_184 sh_51 (by decide) rfl (by simp [rup])).trans ?_
    exact g_iret d151_49 rfl rfl
theorem d152_0 : ins 152 0 = some (.iload_n 1) := by decide +kernel
theorem d152_1 : ins 152 1 = some (.iconst 0) := by decide +kernel
theorem d152_2 : ins 152 2 = some (.iconst 1) := by decide +kernel
theorem d152_3 : ins 152 3 = some (.invokestatic 69) := by decide +kernel
theorem d152_6 : ins 152 6 = some (.ifCond .ne 6) := by decide +kernel
theorem d152_9 : ins 152 9 = some (.bipush (-2)) := by decide +kernel
theorem d152_11 : ins 152 11 = some (.ireturn) := by decide +kernel
theorem d152_12 : ins 152 12 = some (.aload_n 0) := by decide +kernel
theorem d152_13 : ins 152 13 = some (.getfield 41) := by decide +kernel
theorem d152_16 : ins 152 16 = some (.iload_n 1) := by decide +kernel
theorem d152_17 : ins 152 17 = some (.baload) := by decide +kernel
theorem d152_18 : ins 152 18 = some (.ifCond .ne 6) := by decide +kernel
theorem d152_21 : ins 152 21 = some (.bipush (-4)) := by decide +kernel
theorem d152_23 : ins 152 23 = some (.ireturn) := by decide +kernel
theorem d152_24 : ins 152 24 = some (.aload_n 0) := by decide +kernel
theorem d152_25 : ins 152 25 = some (.aload_n 0) := by decide +kernel
theorem d152_26 : ins 152 26 = some (.getfield 38) := by decide +kernel
theorem d152_29 : ins 152 29 = some (.iconst 2) := by decide +kernel
theorem d152_30 : ins 152 30 = some (.iload_n 1) := by decide +kernel
theorem d152_31 : ins 152 31 = some (.imul) := by decide +kernel
theorem d152_32 : ins 152 32 = some (.iaload) := by decide +kernel
theorem d152_33 : ins 152 33 = some (.putfield 181) := by decide +kernel
theorem d152_36 : ins 152 36 = some (.aload_n 0) := by decide +kernel
theorem d152_37 : ins 152 37 = some (.aload_n 0) := by decide +kernel
theorem d152_38 : ins 152 38 = some (.getfield 38) := by decide +kernel
theorem d152_41 : ins 152 41 = some (.iconst 2) := by decide +kernel
theorem d152_42 : ins 152 42 = some (.iload_n 1) := by decide +kernel
theorem d152_43 : ins 152 43 = some (.imul) := by decide +kernel
theorem d152_44 : ins 152 44 = some (.iconst 1) := by decide +kernel
theorem d152_45 : ins 152 45 = some (.iadd) := by decide +kernel
theorem d152_46 : ins 152 46 = some (.iaload) := by decide +kernel
theorem d152_47 : ins 152 47 = some (.putfield 184) := by decide +kernel
theorem d152_50 : ins 152 50 = some (.aload_n 0) := by decide +kernel
theorem d152_51 : ins 152 51 = some (.getfield 184) := by decide +kernel
theorem d152_54 : ins 152 54 = some (.ireturn) := by decide +kernel
set_option maxRecDepth 10000 in
theorem b152_0 {Q : Option Value → mm → Prop} (ρ : rm) (τ : Int64) (a1 : Int) (hB : BM ρ) (h_a1 : SB a1) : G 152 0 (some (.ref 51) :: some (vI a1) :: []) [] (toM ρ τ) Q = G 117 0 [some (vI a1), some (vI 0), some (vI 1)] [] (toM ρ τ) (fun v μ2 => G 152 6 (some (.ref 51) :: some (vI a1) :: []) (v.toList ++ []) μ2 Q) := by
  refine (g_iload_n d152_0 rfl).trans ?_
  refine (j_iconst d152_1).trans ?_
  refine (j_iconst d152_2).trans ?_
  exact g_cS d152_3 k10_69 rfl rfl rfl
set_option maxRecDepth 10000 in
theorem b152_6 {Q : Option Value → mm → Prop} (ρ : rm) (τ : Int64) (l1 : Int) (t : List (Option Value)) (r : Int) (hB : BM ρ) (h_l1 : SB l1) (h_in1 : r = 0 ∨ SM l1) (h_r : SM r) : G 152 6 (some (.ref 51) :: some (vI l1) :: t) ((some (vI r)).toList ++ []) (toM ρ τ) Q = (if r = 0 then Q (some (vI (-2))) (toM ρ τ) else (if 0 ≤ l1 ∧ l1 < 2 then (if (ρ 61 l1) = 0 then Q (some (vI (-4))) (toM ρ τ) else (if 0 ≤ (2 * l1) ∧ (2 * l1) < 4 then (if 0 ≤ ((2 * l1) + 1) ∧ ((2 * l1) + 1) < 4 then Q (some (vI (ρ 60 ((2 * l1) + 1)))) (toM (rup (rup ρ 51 24 (ρ 60 (2 * l1))) 51 25 (ρ 60 ((2 * l1) + 1))) τ) else False) else False)) else False)) := by
  refine j_if_ne (tgt := 12) d152_6 (by decide) (by omega) (fun q1 => ?_) (fun q1 => ?_)
  ·
    refine (j_bipush d152_9 (by decide)).trans ?_
    exact g_iret d152_11 rfl rfl
  ·
    refine (g_aload_n d152_12 rfl rfl).trans ?_
    refine (g_getR (q := 61) d152_13 f10_41 sh_51 (by decide) rfl).trans ?_
    refine (g_iload_n d152_16 rfl).trans ?_
    refine j_baload (v := ρ 61 l1) d152_17 sh_61 (by omega) rfl (fun q2 => ?_)
    have q3 := hB 61 l1 (by omega)
    refine j_if_ne (tgt := 24) d152_18 (by decide) (by omega) (fun q4 => ?_) (fun q4 => ?_)
    ·
      refine (j_bipush d152_21 (by decide)).trans ?_
      exact g_iret d152_23 rfl rfl
    ·
      refine (g_aload_n d152_24 rfl rfl).trans ?_
      refine (g_aload_n d152_25 rfl rfl).trans ?_
      refine (g_getR (q := 60) d152_26 f10_38 sh_51 (by decide) rfl).trans ?_
      refine (j_iconst d152_29).trans ?_
      refine (g_iload_n d152_30 rfl).trans ?_
      refine (j_imul d152_31).trans ?_
      refine j_iaload (v := ρ 60 (2 * l1)) d152_32 sh_60 (by omega) rfl (fun q5 => ?_)
      have q6 := hB 60 (2 * l1) (by omega)
      refine (j_putI d152_33 f10_181 sh_51 (by decide) rfl).trans ?_
      refine (g_aload_n d152_36 rfl rfl).trans ?_
      refine (g_aload_n d152_37 rfl rfl).trans ?_
      refine (g_getR (q := 60) d152_38 f10_38 sh_51 (by decide) rfl).trans ?_
      refine (j_iconst d152_41).trans ?_
      refine (g_iload_n d152_42 rfl).trans ?_
      refine (j_imul d152_43).trans ?_
      refine (j_iconst d152_44).trans ?_
      refine (j_iadd d152_45).trans ?_
      refine j_iaload (v := ρ 60 ((2 * l1) + 1)) d152_46 sh_60 (by omega) (by simp [rup]) (fun q7 => ?_)
      have q8 := hB 60 ((2 * l1) + 1) (by omega)
      refine (j_putI d152_47 f10_184 sh_51 (by decide) rfl).trans ?_
      refine (g_aload_n d152_50 rfl rfl).trans ?_
      refine (j_getI (v := ρ 60 ((2 * l1) + 1)) d152_51 f10_184 sh_51 (by decide) rfl (by simp [rup])).trans ?_
      have q9 := hB 51 25 (by decide)
      exact g_iret d152_54 rfl rfl
theorem d153_0 : ins 153 0 = some (.aload_n 0) := by decide +kernel
theorem d153_1 : ins 153 1 = some (.iload_n 1) := by decide +kernel
theorem d153_2 : ins 153 2 = some (.invokevirtual 218) := by decide +kernel
theorem d153_5 : ins 153 5 = some (.aload_n 0) := by decide +kernel
theorem d153_6 : ins 153 6 = some (.iload_n 2) := by decide +kernel
theorem d153_7 : ins 153 7 = some (.invokevirtual 218) := by decide +kernel
theorem d153_10 : ins 153 10 = some (.if_icmp .lt 21) := by decide +kernel
theorem d153_13 : ins 153 13 = some (.aload_n 0) := by decide +kernel
theorem d153_14 : ins 153 14 = some (.iload_n 1) := by decide +kernel
theorem d153_15 : ins 153 15 = some (.invokevirtual 218) := by decide +kernel
theorem d153_18 : ins 153 18 = some (.aload_n 0) := by decide +kernel
theorem d153_19 : ins 153 19 = some (.iload_n 2) := by decide +kernel
theorem d153_20 : ins 153 20 = some (.invokevirtual 218) := by decide +kernel
theorem d153_23 : ins 153 23 = some (.if_icmp .ne 12) := by decide +kernel
theorem d153_26 : ins 153 26 = some (.iload_n 1) := by decide +kernel
theorem d153_27 : ins 153 27 = some (.iload_n 2) := by decide +kernel
theorem d153_28 : ins 153 28 = some (.if_icmp .ge 7) := by decide +kernel
theorem d153_31 : ins 153 31 = some (.iconst 1) := by decide +kernel
theorem d153_32 : ins 153 32 = some (.goto 4) := by decide +kernel
theorem d153_35 : ins 153 35 = some (.iconst 0) := by decide +kernel
theorem d153_36 : ins 153 36 = some (.ireturn) := by decide +kernel
set_option maxRecDepth 10000 in
theorem b153_0 {Q : Option Value → mm → Prop} (ρ : rm) (τ : Int64) (a1 : Int) (a2 : Int) (hB : BM ρ) (h_a1 : SM a1) (h_a2 : SM a2) : G 153 0 (some (.ref 51) :: some (vI a1) :: some (vI a2) :: []) [] (toM ρ τ) Q = G 146 0 [some (.ref 51), some (vI a1)] [] (toM ρ τ) (fun v μ2 => G 153 5 (some (.ref 51) :: some (vI a1) :: some (vI a2) :: []) (v.toList ++ []) μ2 Q) := by
  refine (g_aload_n d153_0 rfl rfl).trans ?_
  refine (g_iload_n d153_1 rfl).trans ?_
  exact g_cV d153_2 k10_218 rfl rfl rfl
set_option maxRecDepth 10000 in
theorem b153_5 {Q : Option Value → mm → Prop} (ρ : rm) (τ : Int64) (l1 : Int) (l2 : Int) (t : List (Option Value)) (r : Int) (hB : BM ρ) (h_l1 : SM l1) (h_l2 : SM l2) (h_r : SM r) : G 153 5 (some (.ref 51) :: some (vI l1) :: some (vI l2) :: t) ((some (vI r)).toList ++ []) (toM ρ τ) Q = G 146 0 [some (.ref 51), some (vI l2)] [] (toM ρ τ) (fun v μ2 => G 153 10 (some (.ref 51) :: some (vI l1) :: some (vI l2) :: t) (v.toList ++ [vI r]) μ2 Q) := by
  refine (g_aload_n d153_5 rfl rfl).trans ?_
  refine (g_iload_n d153_6 rfl).trans ?_
  exact g_cV d153_7 k10_218 rfl rfl rfl
set_option maxRecDepth 10000 in
theorem b153_10 {Q : Option Value → mm → Prop} (ρ : rm) (τ : Int64) (l1 : Int) (l2 : Int) (t : List (Option Value)) (s0 : Int) (r : Int) (hB : BM ρ) (h_l1 : SM l1) (h_l2 : SM l2) (h_s0 : SM s0) (h_r : SM r) : G 153 10 (some (.ref 51) :: some (vI l1) :: some (vI l2) :: t) ((some (vI r)).toList ++ [vI s0]) (toM ρ τ) Q = (if s0 < r then Q (some (vI 1)) (toM ρ τ) else G 146 0 [some (.ref 51), some (vI l1)] [] (toM ρ τ) (fun v μ2 => G 153 18 (some (.ref 51) :: some (vI l1) :: some (vI l2) :: t) (v.toList ++ []) μ2 Q)) := by
  refine j_icmp_lt (tgt := 31) d153_10 (by decide) (by omega) (by omega) (fun q1 => ?_) (fun q1 => ?_)
  ·
    refine (j_iconst d153_31).trans ?_
    refine (g_goto (tgt := 36) d153_32 (by decide)).trans ?_
    exact g_iret d153_36 rfl rfl
  ·
    refine (g_aload_n d153_13 rfl rfl).trans ?_
    refine (g_iload_n d153_14 rfl).trans ?_
    exact g_cV d153_15 k10_218 rfl rfl rfl
set_option maxRecDepth 10000 in
theorem b153_18 {Q : Option Value → mm → Prop} (ρ : rm) (τ : Int64) (l1 : Int) (l2 : Int) (t : List (Option Value)) (r : Int) (hB : BM ρ) (h_l1 : SM l1) (h_l2 : SM l2) (h_r : SM r) : G 153 18 (some (.ref 51) :: some (vI l1) :: some (vI l2) :: t) ((some (vI r)).toList ++ []) (toM ρ τ) Q = G 146 0 [some (.ref 51), some (vI l2)] [] (toM ρ τ) (fun v μ2 => G 153 23 (some (.ref 51) :: some (vI l1) :: some (vI l2) :: t) (v.toList ++ [vI r]) μ2 Q) := by
  refine (g_aload_n d153_18 rfl rfl).trans ?_
  refine (g_iload_n d153_19 rfl).trans ?_
  exact g_cV d153_20 k10_218 rfl rfl rfl
set_option maxRecDepth 10000 in
theorem b153_23 {Q : Option Value → mm → Prop} (ρ : rm) (τ : Int64) (l1 : Int) (l2 : Int) (t : List (Option Value)) (s0 : Int) (r : Int) (hB : BM ρ) (h_l1 : SM l1) (h_l2 : SM l2) (h_s0 : SM s0) (h_r : SM r) : G 153 23 (some (.ref 51) :: some (vI l1) :: some (vI l2) :: t) ((some (vI r)).toList ++ [vI s0]) (toM ρ τ) Q = (if s0 = r then (if l2 ≤ l1 then Q (some (vI 0)) (toM ρ τ) else Q (some (vI 1)) (toM ρ τ)) else Q (some (vI 0)) (toM ρ τ)) := by
  refine j_icmp_ne (tgt := 35) d153_23 (by decide) (by omega) (by omega) (fun q1 => ?_) (fun q1 => ?_)
  ·
    refine (g_iload_n d153_26 rfl).trans ?_
    refine (g_iload_n d153_27 rfl).trans ?_
    refine j_icmp_ge (tgt := 35) d153_28 (by decide) (by omega) (by omega) (fun q2 => ?_) (fun q2 => ?_)
    ·
      refine (j_iconst d153_35).trans ?_
      exact g_iret d153_36 rfl rfl
    ·
      refine (j_iconst d153_31).trans ?_
      refine (g_goto (tgt := 36) d153_32 (by decide)).trans ?_
      exact g_iret d153_36 rfl rfl
  ·
    refine (j_iconst d153_35).trans ?_
    exact g_iret d153_36 rfl rfl
theorem d154_0 : ins 154 0 = some (.iload_n 1) := by decide +kernel
theorem d154_1 : ins 154 1 = some (.ifCond .ge 6) := by decide +kernel
theorem d154_4 : ins 154 4 = some (.bipush (-3)) := by decide +kernel
theorem d154_6 : ins 154 6 = some (.ireturn) := by decide +kernel
theorem d154_7 : ins 154 7 = some (.iconst 0) := by decide +kernel
theorem d154_8 : ins 154 8 = some (.istore_n 2) := by decide +kernel
theorem d154_9 : ins 154 9 = some (.iload_n 2) := by decide +kernel
theorem d154_10 : ins 154 10 = some (.aload_n 0) := by decide +kernel
theorem d154_11 : ins 154 11 = some (.getfield 73) := by decide +kernel
theorem d154_14 : ins 154 14 = some (.if_icmp .ge 54) := by decide +kernel
theorem d154_17 : ins 154 17 = some (.iconst 0) := by decide +kernel
theorem d154_18 : ins 154 18 = some (.istore_n 3) := by decide +kernel
theorem d154_19 : ins 154 19 = some (.iconst 0) := by decide +kernel
theorem d154_20 : ins 154 20 = some (.istore 4) := by decide +kernel
theorem d154_22 : ins 154 22 = some (.iload 4) := by decide +kernel
theorem d154_24 : ins 154 24 = some (.aload_n 0) := by decide +kernel
theorem d154_25 : ins 154 25 = some (.getfield 73) := by decide +kernel
theorem d154_28 : ins 154 28 = some (.if_icmp .ge 27) := by decide +kernel
theorem d154_31 : ins 154 31 = some (.iload_n 3) := by decide +kernel
theorem d154_32 : ins 154 32 = some (.aload_n 0) := by decide +kernel
theorem d154_33 : ins 154 33 = some (.iload 4) := by decide +kernel
theorem d154_35 : ins 154 35 = some (.iload_n 2) := by decide +kernel
theorem d154_36 : ins 154 36 = some (.invokevirtual 221) := by decide +kernel
theorem d154_39 : ins 154 39 = some (.ifCond .eq 7) := by decide +kernel
theorem d154_42 : ins 154 42 = some (.iconst 1) := by decide +kernel
theorem d154_43 : ins 154 43 = some (.goto 4) := by decide +kernel
theorem d154_46 : ins 154 46 = some (.iconst 0) := by decide +kernel
theorem d154_47 : ins 154 47 = some (.iadd) := by decide +kernel
theorem d154_48 : ins 154 48 = some (.istore_n 3) := by decide +kernel
theorem d154_49 : ins 154 49 = some (.iinc 4 1) := by decide +kernel
theorem d154_52 : ins 154 52 = some (.goto (-30)) := by decide +kernel
theorem d154_55 : ins 154 55 = some (.iload_n 3) := by decide +kernel
theorem d154_56 : ins 154 56 = some (.iload_n 1) := by decide +kernel
theorem d154_57 : ins 154 57 = some (.if_icmp .ne 5) := by decide +kernel
theorem d154_60 : ins 154 60 = some (.iload_n 2) := by decide +kernel
theorem d154_61 : ins 154 61 = some (.ireturn) := by decide +kernel
theorem d154_62 : ins 154 62 = some (.iinc 2 1) := by decide +kernel
theorem d154_65 : ins 154 65 = some (.goto (-56)) := by decide +kernel
theorem d154_68 : ins 154 68 = some (.iconst (-1)) := by decide +kernel
theorem d154_69 : ins 154 69 = some (.ireturn) := by decide +kernel
set_option maxRecDepth 10000 in
theorem b154_0 {Q : Option Value → mm → Prop} (ρ : rm) (τ : Int64) (a1 : Int) (hB : BM ρ) (h_a1 : SB a1) : G 154 0 (some (.ref 51) :: some (vI a1) :: []) [] (toM ρ τ) Q = (if 0 ≤ a1 then G 154 9 (some (.ref 51) :: some (vI a1) :: some (vI 0) :: []) [] (toM ρ τ) Q else Q (some (vI (-3))) (toM ρ τ)) := by
  refine (g_iload_n d154_0 rfl).trans ?_
  refine j_if_ge (tgt := 7) d154_1 (by decide) (by omega) (fun q1 => ?_) (fun q1 => ?_)
  ·
    refine (j_iconst d154_7).trans ?_
    refine (g_istore_n d154_8 (by decide) rfl rfl).trans ?_
    rfl
  ·
    refine (j_bipush d154_4 (by decide)).trans ?_
    exact g_iret d154_6 rfl rfl
set_option maxRecDepth 10000 in
theorem b154_9 {Q : Option Value → mm → Prop} (ρ : rm) (τ : Int64) (l1 : Int) (l2 : Int) (t : List (Option Value)) (hB : BM ρ) (h_l1 : SB l1) (h_l2 : SM l2) : G 154 9 (some (.ref 51) :: some (vI l1) :: some (vI l2) :: t) [] (toM ρ τ) Q = (if (ρ 51 5) ≤ l2 then Q (some (vI (-1))) (toM ρ τ) else G 154 22 (some (.ref 51) :: some (vI l1) :: some (vI l2) :: some (vI 0) :: some (vI 0) :: t.tail.tail) [] (toM ρ τ) Q) := by
  refine (g_iload_n d154_9 rfl).trans ?_
  refine (g_aload_n d154_10 rfl rfl).trans ?_
  refine (j_getI (v := ρ 51 5) d154_11 f10_73 sh_51 (by decide) rfl rfl).trans ?_
  have q1 := hB 51 5 (by decide)
  refine j_icmp_ge (tgt := 68) d154_14 (by decide) (by omega) (by omega) (fun q2 => ?_) (fun q2 => ?_)
  ·
    refine (j_iconst d154_68).trans ?_
    exact g_iret d154_69 rfl rfl
  ·
    refine (j_iconst d154_17).trans ?_
    refine (g_istore_n d154_18 (by decide) rfl rfl).trans ?_
    refine (j_iconst d154_19).trans ?_
    refine (g_istore d154_20 (by decide) rfl rfl).trans ?_
    rfl
set_option maxRecDepth 10000 in
theorem b154_22 {Q : Option Value → mm → Prop} (ρ : rm) (τ : Int64) (l1 : Int) (l2 : Int) (l3 : Int) (l4 : Int) (t : List (Option Value)) (hB : BM ρ) (h_l1 : SB l1) (h_l2 : SM l2) (h_l3 : SM l3) (h_l4 : SM l4) : G 154 22 (some (.ref 51) :: some (vI l1) :: some (vI l2) :: some (vI l3) :: some (vI l4) :: t) [] (toM ρ τ) Q = (if (ρ 51 5) ≤ l4 then (if l3 = l1 then Q (some (vI l2)) (toM ρ τ) else G 154 9 (some (.ref 51) :: some (vI l1) :: some (vI (l2 + 1)) :: some (vI l3) :: some (vI l4) :: t) [] (toM ρ τ) Q) else G 153 0 [some (.ref 51), some (vI l4), some (vI l2)] [] (toM ρ τ) (fun v μ2 => G 154 39 (some (.ref 51) :: some (vI l1) :: some (vI l2) :: some (vI l3) :: some (vI l4) :: t) (v.toList ++ [vI l3]) μ2 Q)) := by
  refine (g_iload d154_22 rfl).trans ?_
  refine (g_aload_n d154_24 rfl rfl).trans ?_
  refine (j_getI (v := ρ 51 5) d154_25 f10_73 sh_51 (by decide) rfl rfl).trans ?_
  have q1 := hB 51 5 (by decide)
  refine j_icmp_ge (tgt := 55) d154_28 (by decide) (by omega) (by omega) (fun q2 => ?_) (fun q2 => ?_)
  ·
    refine (g_iload_n d154_55 rfl).trans ?_
    refine (g_iload_n d154_56 rfl).trans ?_
    refine j_icmp_ne (tgt := 62) d154_57 (by decide) (by omega) (by omega) (fun q3 => ?_) (fun q3 => ?_)
    ·
      refine (g_iload_n d154_60 rfl).trans ?_
      exact g_iret d154_61 rfl rfl
    ·
      refine (j_iinc d154_62 rfl (by decide) rfl rfl).trans ?_
      refine (g_goto (tgt := 9) d154_65 (by decide)).trans ?_
      rfl
  ·
    refine (g_iload_n d154_31 rfl).trans ?_
    refine (g_aload_n d154_32 rfl rfl).trans ?_
    refine (g_iload d154_33 rfl).trans ?_
    refine (g_iload_n d154_35 rfl).trans ?_
    exact g_cV d154_36 k10_221 rfl rfl rfl
set_option maxRecDepth 10000 in
theorem b154_39 {Q : Option Value → mm → Prop} (ρ : rm) (τ : Int64) (l1 : Int) (l2 : Int) (l3 : Int) (l4 : Int) (t : List (Option Value)) (s0 : Int) (r : Int) (hB : BM ρ) (h_l1 : SB l1) (h_l2 : SM l2) (h_l3 : SM l3) (h_l4 : SM l4) (h_s0 : SM s0) (h_r : SM r) : G 154 39 (some (.ref 51) :: some (vI l1) :: some (vI l2) :: some (vI l3) :: some (vI l4) :: t) ((some (vI r)).toList ++ [vI s0]) (toM ρ τ) Q = (if r = 0 then G 154 22 (some (.ref 51) :: some (vI l1) :: some (vI l2) :: some (vI (s0 + 0)) :: some (vI (l4 + 1)) :: t) [] (toM ρ τ) Q else G 154 22 (some (.ref 51) :: some (vI l1) :: some (vI l2) :: some (vI (s0 + 1)) :: some (vI (l4 + 1)) :: t) [] (toM ρ τ) Q) := by
  refine j_if_eq (tgt := 46) d154_39 (by decide) (by omega) (fun q1 => ?_) (fun q1 => ?_)
  ·
    refine (j_iconst d154_46).trans ?_
    refine (j_iadd d154_47).trans ?_
    refine (g_istore_n d154_48 (by decide) rfl rfl).trans ?_
    refine (j_iinc d154_49 rfl (by decide) rfl rfl).trans ?_
    refine (g_goto (tgt := 22) d154_52 (by decide)).trans ?_
    rfl
  ·
    refine (j_iconst d154_42).trans ?_
    refine (g_goto (tgt := 47) d154_43 (by decide)).trans ?_
    refine (j_iadd d154_47).trans ?_
    refine (g_istore_n d154_48 (by decide) rfl rfl).trans ?_
    refine (j_iinc d154_49 rfl (by decide) rfl rfl).trans ?_
    refine (g_goto (tgt := 22) d154_52 (by decide)).trans ?_
    rfl
theorem d155_0 : ins 155 0 = some (.aload_n 0) := by decide +kernel
theorem d155_1 : ins 155 1 = some (.iload_n 2) := by decide +kernel
theorem d155_2 : ins 155 2 = some (.invokevirtual 218) := by decide +kernel
theorem d155_5 : ins 155 5 = some (.aload_n 0) := by decide +kernel
theorem d155_6 : ins 155 6 = some (.iload_n 1) := by decide +kernel
theorem d155_7 : ins 155 7 = some (.invokevirtual 218) := by decide +kernel
theorem d155_10 : ins 155 10 = some (.isub) := by decide +kernel
theorem d155_11 : ins 155 11 = some (.aload_n 0) := by decide +kernel
theorem d155_12 : ins 155 12 = some (.getfield 23) := by decide +kernel
theorem d155_15 : ins 155 15 = some (.iconst 3) := by decide +kernel
theorem d155_16 : ins 155 16 = some (.iload_n 1) := by decide +kernel
theorem d155_17 : ins 155 17 = some (.imul) := by decide +kernel
theorem d155_18 : ins 155 18 = some (.iconst 2) := by decide +kernel
theorem d155_19 : ins 155 19 = some (.iadd) := by decide +kernel
theorem d155_20 : ins 155 20 = some (.iaload) := by decide +kernel
theorem d155_21 : ins 155 21 = some (.isub) := by decide +kernel
theorem d155_22 : ins 155 22 = some (.aload_n 0) := by decide +kernel
theorem d155_23 : ins 155 23 = some (.getfield 29) := by decide +kernel
theorem d155_26 : ins 155 26 = some (.bipush 10) := by decide +kernel
theorem d155_28 : ins 155 28 = some (.aload_n 0) := by decide +kernel
theorem d155_29 : ins 155 29 = some (.getfield 23) := by decide +kernel
theorem d155_32 : ins 155 32 = some (.iconst 3) := by decide +kernel
theorem d155_33 : ins 155 33 = some (.iload_n 1) := by decide +kernel
theorem d155_34 : ins 155 34 = some (.imul) := by decide +kernel
theorem d155_35 : ins 155 35 = some (.iaload) := by decide +kernel
theorem d155_36 : ins 155 36 = some (.imul) := by decide +kernel
theorem d155_37 : ins 155 37 = some (.aload_n 0) := by decide +kernel
theorem d155_38 : ins 155 38 = some (.getfield 23) := by decide +kernel
theorem d155_41 : ins 155 41 = some (.iconst 3) := by decide +kernel
theorem d155_42 : ins 155 42 = some (.iload_n 2) := by decide +kernel
theorem d155_43 : ins 155 43 = some (.imul) := by decide +kernel
theorem d155_44 : ins 155 44 = some (.iaload) := by decide +kernel
theorem d155_45 : ins 155 45 = some (.iadd) := by decide +kernel
theorem d155_46 : ins 155 46 = some (.iaload) := by decide +kernel
theorem d155_47 : ins 155 47 = some (.isub) := by decide +kernel
theorem d155_48 : ins 155 48 = some (.ireturn) := by decide +kernel
set_option maxRecDepth 10000 in
theorem b155_0 {Q : Option Value → mm → Prop} (ρ : rm) (τ : Int64) (a1 : Int) (a2 : Int) (hB : BM ρ) (h_a1 : SM a1) (h_a2 : SM a2) : G 155 0 (some (.ref 51) :: some (vI a1) :: some (vI a2) :: []) [] (toM ρ τ) Q = G 146 0 [some (.ref 51), some (vI a2)] [] (toM ρ τ) (fun v μ2 => G 155 5 (some (.ref 51) :: some (vI a1) :: some (vI a2) :: []) (v.toList ++ []) μ2 Q) := by
  refine (g_aload_n d155_0 rfl rfl).trans ?_
  refine (g_iload_n d155_1 rfl).trans ?_
  exact g_cV d155_2 k10_218 rfl rfl rfl
set_option maxRecDepth 10000 in
theorem b155_5 {Q : Option Value → mm → Prop} (ρ : rm) (τ : Int64) (l1 : Int) (l2 : Int) (t : List (Option Value)) (r : Int) (hB : BM ρ) (h_l1 : SM l1) (h_l2 : SM l2) (h_r : SM r) : G 155 5 (some (.ref 51) :: some (vI l1) :: some (vI l2) :: t) ((some (vI r)).toList ++ []) (toM ρ τ) Q = G 146 0 [some (.ref 51), some (vI l1)] [] (toM ρ τ) (fun v μ2 => G 155 10 (some (.ref 51) :: some (vI l1) :: some (vI l2) :: t) (v.toList ++ [vI r]) μ2 Q) := by
  refine (g_aload_n d155_5 rfl rfl).trans ?_
  refine (g_iload_n d155_6 rfl).trans ?_
  exact g_cV d155_7 k10_218 rfl rfl rfl
set_option maxRecDepth 10000 in
theorem b155_10 {Q : Option Value → mm → Prop} (ρ : rm) (τ : Int64) (l1 : Int) (l2 : Int) (t : List (Option Value)) (s0 : Int) (r : Int) (hB : BM ρ) (h_l1 : SM l1) (h_l2 : SM l2) (h_s0 : SM s0) (h_r : SM r) : G 155 10 (some (.ref 51) :: some (vI l1) :: some (vI l2) :: t) ((some (vI r)).toList ++ [vI s0]) (toM ρ τ) Q = (if 0 ≤ ((3 * l1) + 2) ∧ ((3 * l1) + 2) < 30 then (if 0 ≤ (3 * l1) ∧ (3 * l1) < 30 then (if 0 ≤ (3 * l2) ∧ (3 * l2) < 30 then (if 0 ≤ ((10 * (ρ 55 (3 * l1))) + (ρ 55 (3 * l2))) ∧ ((10 * (ρ 55 (3 * l1))) + (ρ 55 (3 * l2))) < 100 then Q (some (vI (((s0 - r) - (ρ 55 ((3 * l1) + 2))) - (ρ 57 ((10 * (ρ 55 (3 * l1))) + (ρ 55 (3 * l2))))))) (toM ρ τ) else False) else False) else False) else False) := by
  refine (j_isub d155_10).trans ?_
  refine (g_aload_n d155_11 rfl rfl).trans ?_
  refine (g_getR (q := 55) d155_12 f10_23 sh_51 (by decide) rfl).trans ?_
  refine (j_iconst d155_15).trans ?_
  refine (g_iload_n d155_16 rfl).trans ?_
  refine (j_imul d155_17).trans ?_
  refine (j_iconst d155_18).trans ?_
  refine (j_iadd d155_19).trans ?_
  refine j_iaload (v := ρ 55 ((3 * l1) + 2)) d155_20 sh_55 (by omega) rfl (fun q1 => ?_)
  have q2 := hB 55 ((3 * l1) + 2) (by omega)
  refine (j_isub d155_21).trans ?_
  refine (g_aload_n d155_22 rfl rfl).trans ?_
  refine (g_getR (q := 57) d155_23 f10_29 sh_51 (by decide) rfl).trans ?_
  refine (j_bipush d155_26 (by decide)).trans ?_
  refine (g_aload_n d155_28 rfl rfl).trans ?_
  refine (g_getR (q := 55) d155_29 f10_23 sh_51 (by decide) rfl).trans ?_
  refine (j_iconst d155_32).trans ?_
  refine (g_iload_n d155_33 rfl).trans ?_
  refine (j_imul d155_34).trans ?_
  refine j_iaload (v := ρ 55 (3 * l1)) d155_35 sh_55 (by omega) rfl (fun q3 => ?_)
  have q4 := hB 55 (3 * l1) (by omega)
  refine (j_imul d155_36).trans ?_
  refine (g_aload_n d155_37 rfl rfl).trans ?_
  refine (g_getR (q := 55) d155_38 f10_23 sh_51 (by decide) rfl).trans ?_
  refine (j_iconst d155_41).trans ?_
  refine (g_iload_n d155_42 rfl).trans ?_
  refine (j_imul d155_43).trans ?_
  refine j_iaload (v := ρ 55 (3 * l2)) d155_44 sh_55 (by omega) rfl (fun q5 => ?_)
  have q6 := hB 55 (3 * l2) (by omega)
  refine (j_iadd d155_45).trans ?_
  refine j_iaload (v := ρ 57 ((10 * (ρ 55 (3 * l1))) + (ρ 55 (3 * l2)))) d155_46 sh_57 (by omega) rfl (fun q7 => ?_)
  have q8 := hB 57 ((10 * (ρ 55 (3 * l1))) + (ρ 55 (3 * l2))) (by omega)
  refine (j_isub d155_47).trans ?_
  exact g_iret d155_48 rfl rfl
theorem d156_0 : ins 156 0 = some (.aload_n 0) := by decide +kernel
theorem d156_1 : ins 156 1 = some (.iload_n 1) := by decide +kernel
theorem d156_2 : ins 156 2 = some (.iload_n 2) := by decide +kernel
theorem d156_3 : ins 156 3 = some (.invokevirtual 221) := by decide +kernel
theorem d156_6 : ins 156 6 = some (.ifCond .eq 16) := by decide +kernel
theorem d156_9 : ins 156 9 = some (.aload_n 0) := by decide +kernel
theorem d156_10 : ins 156 10 = some (.iload_n 1) := by decide +kernel
theorem d156_11 : ins 156 11 = some (.iload_n 2) := by decide +kernel
theorem d156_12 : ins 156 12 = some (.invokevirtual 225) := by decide +kernel
theorem d156_15 : ins 156 15 = some (.ifCond .lt 7) := by decide +kernel
theorem d156_18 : ins 156 18 = some (.iconst 1) := by decide +kernel
theorem d156_19 : ins 156 19 = some (.goto 4) := by decide +kernel
theorem d156_22 : ins 156 22 = some (.iconst 0) := by decide +kernel
theorem d156_23 : ins 156 23 = some (.ireturn) := by decide +kernel
set_option maxRecDepth 10000 in
theorem b156_0 {Q : Option Value → mm → Prop} (ρ : rm) (τ : Int64) (a1 : Int) (a2 : Int) (hB : BM ρ) (h_a1 : SM a1) (h_a2 : SM a2) : G 156 0 (some (.ref 51) :: some (vI a1) :: some (vI a2) :: []) [] (toM ρ τ) Q = G 153 0 [some (.ref 51), some (vI a1), some (vI a2)] [] (toM ρ τ) (fun v μ2 => G 156 6 (some (.ref 51) :: some (vI a1) :: some (vI a2) :: []) (v.toList ++ []) μ2 Q) := by
  refine (g_aload_n d156_0 rfl rfl).trans ?_
  refine (g_iload_n d156_1 rfl).trans ?_
  refine (g_iload_n d156_2 rfl).trans ?_
  exact g_cV d156_3 k10_221 rfl rfl rfl
set_option maxRecDepth 10000 in
theorem b156_6 {Q : Option Value → mm → Prop} (ρ : rm) (τ : Int64) (l1 : Int) (l2 : Int) (t : List (Option Value)) (r : Int) (hB : BM ρ) (h_l1 : SM l1) (h_l2 : SM l2) (h_r : SM r) : G 156 6 (some (.ref 51) :: some (vI l1) :: some (vI l2) :: t) ((some (vI r)).toList ++ []) (toM ρ τ) Q = (if r = 0 then Q (some (vI 0)) (toM ρ τ) else G 155 0 [some (.ref 51), some (vI l1), some (vI l2)] [] (toM ρ τ) (fun v μ2 => G 156 15 (some (.ref 51) :: some (vI l1) :: some (vI l2) :: t) (v.toList ++ []) μ2 Q)) := by
  refine j_if_eq (tgt := 22) d156_6 (by decide) (by omega) (fun q1 => ?_) (fun q1 => ?_)
  ·
    refine (j_iconst d156_22).trans ?_
    exact g_iret d156_23 rfl rfl
  ·
    refine (g_aload_n d156_9 rfl rfl).trans ?_
    refine (g_iload_n d156_10 rfl).trans ?_
    refine (g_iload_n d156_11 rfl).trans ?_
    exact g_cV d156_12 k10_225 rfl rfl rfl
set_option maxRecDepth 10000 in
theorem b156_15 {Q : Option Value → mm → Prop} (ρ : rm) (τ : Int64) (l1 : Int) (l2 : Int) (t : List (Option Value)) (r : Int) (hB : BM ρ) (h_l1 : SM l1) (h_l2 : SM l2) (h_r : SM r) : G 156 15 (some (.ref 51) :: some (vI l1) :: some (vI l2) :: t) ((some (vI r)).toList ++ []) (toM ρ τ) Q = (if r < 0 then Q (some (vI 0)) (toM ρ τ) else Q (some (vI 1)) (toM ρ τ)) := by
  refine j_if_lt (tgt := 22) d156_15 (by decide) (by omega) (fun q1 => ?_) (fun q1 => ?_)
  ·
    refine (j_iconst d156_22).trans ?_
    exact g_iret d156_23 rfl rfl
  ·
    refine (j_iconst d156_18).trans ?_
    refine (g_goto (tgt := 23) d156_19 (by decide)).trans ?_
    exact g_iret d156_23 rfl rfl
theorem d157_0 : ins 157 0 = some (.aload_n 0) := by decide +kernel
theorem d157_1 : ins 157 1 = some (.iload_n 1) := by decide +kernel
theorem d157_2 : ins 157 2 = some (.invokevirtual 215) := by decide +kernel
theorem d157_5 : ins 157 5 = some (.ifCond .eq 11) := by decide +kernel
theorem d157_8 : ins 157 8 = some (.aload_n 0) := by decide +kernel
theorem d157_9 : ins 157 9 = some (.iload_n 2) := by decide +kernel
theorem d157_10 : ins 157 10 = some (.invokevirtual 215) := by decide +kernel
theorem d157_13 : ins 157 13 = some (.ifCond .ne 6) := by decide +kernel
theorem d157_16 : ins 157 16 = some (.bipush (-2)) := by decide +kernel
theorem d157_18 : ins 157 18 = some (.ireturn) := by decide +kernel
theorem d157_19 : ins 157 19 = some (.aload_n 0) := by decide +kernel
theorem d157_20 : ins 157 20 = some (.iload_n 1) := by decide +kernel
theorem d157_21 : ins 157 21 = some (.iload_n 2) := by decide +kernel
theorem d157_22 : ins 157 22 = some (.invokevirtual 228) := by decide +kernel
theorem d157_25 : ins 157 25 = some (.ifCond .eq 15) := by decide +kernel
theorem d157_28 : ins 157 28 = some (.aload_n 0) := by decide +kernel
theorem d157_29 : ins 157 29 = some (.iload_n 1) := by decide +kernel
theorem d157_30 : ins 157 30 = some (.iload_n 2) := by decide +kernel
theorem d157_31 : ins 157 31 = some (.invokevirtual 225) := by decide +kernel
theorem d157_34 : ins 157 34 = some (.ldc 82) := by decide +kernel
theorem d157_36 : ins 157 36 = some (.iadd) := by decide +kernel
theorem d157_37 : ins 157 37 = some (.goto 4) := by decide +kernel
theorem d157_40 : ins 157 40 = some (.iconst (-1)) := by decide +kernel
theorem d157_41 : ins 157 41 = some (.ireturn) := by decide +kernel
set_option maxRecDepth 10000 in
theorem b157_0 {Q : Option Value → mm → Prop} (ρ : rm) (τ : Int64) (a1 : Int) (a2 : Int) (hB : BM ρ) (h_a1 : SB a1) (h_a2 : SB a2) : G 157 0 (some (.ref 51) :: some (vI a1) :: some (vI a2) :: []) [] (toM ρ τ) Q = G 120 0 [some (.ref 51), some (vI a1)] [] (toM ρ τ) (fun v μ2 => G 157 5 (some (.ref 51) :: some (vI a1) :: some (vI a2) :: []) (v.toList ++ []) μ2 Q) := by
  refine (g_aload_n d157_0 rfl rfl).trans ?_
  refine (g_iload_n d157_1 rfl).trans ?_
  exact g_cV d157_2 k10_215 rfl rfl rfl
set_option maxRecDepth 10000 in
theorem b157_5 {Q : Option Value → mm → Prop} (ρ : rm) (τ : Int64) (l1 : Int) (l2 : Int) (t : List (Option Value)) (r : Int) (hB : BM ρ) (h_l1 : SB l1) (h_in1 : r = 0 ∨ SM l1) (h_l2 : SB l2) (h_r : SM r) : G 157 5 (some (.ref 51) :: some (vI l1) :: some (vI l2) :: t) ((some (vI r)).toList ++ []) (toM ρ τ) Q = (if r = 0 then Q (some (vI (-2))) (toM ρ τ) else G 120 0 [some (.ref 51), some (vI l2)] [] (toM ρ τ) (fun v μ2 => G 157 13 (some (.ref 51) :: some (vI l1) :: some (vI l2) :: t) (v.toList ++ []) μ2 Q)) := by
  refine j_if_eq (tgt := 16) d157_5 (by decide) (by omega) (fun q1 => ?_) (fun q1 => ?_)
  ·
    refine (j_bipush d157_16 (by decide)).trans ?_
    exact g_iret d157_18 rfl rfl
  ·
    refine (g_aload_n d157_8 rfl rfl).trans ?_
    refine (g_iload_n d157_9 rfl).trans ?_
    exact g_cV d157_10 k10_215 rfl rfl rfl
set_option maxRecDepth 10000 in
theorem b157_13 {Q : Option Value → mm → Prop} (ρ : rm) (τ : Int64) (l1 : Int) (l2 : Int) (t : List (Option Value)) (r : Int) (hB : BM ρ) (h_l1 : SM l1) (h_l2 : SB l2) (h_in2 : r = 0 ∨ SM l2) (h_r : SM r) : G 157 13 (some (.ref 51) :: some (vI l1) :: some (vI l2) :: t) ((some (vI r)).toList ++ []) (toM ρ τ) Q = (if r = 0 then Q (some (vI (-2))) (toM ρ τ) else G 156 0 [some (.ref 51), some (vI l1), some (vI l2)] [] (toM ρ τ) (fun v μ2 => G 157 25 (some (.ref 51) :: some (vI l1) :: some (vI l2) :: t) (v.toList ++ []) μ2 Q)) := by
  refine j_if_ne (tgt := 19) d157_13 (by decide) (by omega) (fun q1 => ?_) (fun q1 => ?_)
  ·
    refine (j_bipush d157_16 (by decide)).trans ?_
    exact g_iret d157_18 rfl rfl
  ·
    refine (g_aload_n d157_19 rfl rfl).trans ?_
    refine (g_iload_n d157_20 rfl).trans ?_
    refine (g_iload_n d157_21 rfl).trans ?_
    exact g_cV d157_22 k10_228 rfl rfl rfl
set_option maxRecDepth 10000 in
theorem b157_25 {Q : Option Value → mm → Prop} (ρ : rm) (τ : Int64) (l1 : Int) (l2 : Int) (t : List (Option Value)) (r : Int) (hB : BM ρ) (h_l1 : SM l1) (h_l2 : SM l2) (h_r : SM r) : G 157 25 (some (.ref 51) :: some (vI l1) :: some (vI l2) :: t) ((some (vI r)).toList ++ []) (toM ρ τ) Q = (if r = 0 then Q (some (vI (-1))) (toM ρ τ) else G 155 0 [some (.ref 51), some (vI l1), some (vI l2)] [] (toM ρ τ) (fun v μ2 => G 157 34 (some (.ref 51) :: some (vI l1) :: some (vI l2) :: t) (v.toList ++ []) μ2 Q)) := by
  refine j_if_eq (tgt := 40) d157_25 (by decide) (by omega) (fun q1 => ?_) (fun q1 => ?_)
  ·
    refine (j_iconst d157_40).trans ?_
    exact g_iret d157_41 rfl rfl
  ·
    refine (g_aload_n d157_28 rfl rfl).trans ?_
    refine (g_iload_n d157_29 rfl).trans ?_
    refine (g_iload_n d157_30 rfl).trans ?_
    exact g_cV d157_31 k10_225 rfl rfl rfl
set_option maxRecDepth 10000 in
theorem b157_34 {Q : Option Value → mm → Prop} (ρ : rm) (τ : Int64) (l1 : Int) (l2 : Int) (t : List (Option Value)) (r : Int) (hB : BM ρ) (h_l1 : SM l1) (h_l2 : SM l2) (h_r : SM r) : G 157 34 (some (.ref 51) :: some (vI l1) :: some (vI l2) :: t) ((some (vI r)).toList ++ []) (toM ρ τ) Q = Q (some (vI (r + 100000))) (toM ρ τ) := by
  refine (j_ldc (n := 100000) d157_34 cs10_82 (by decide)).trans ?_
  refine (j_iadd d157_36).trans ?_
  refine (g_goto (tgt := 41) d157_37 (by decide)).trans ?_
  exact g_iret d157_41 rfl rfl
theorem d158_0 : ins 158 0 = some (.iconst 0) := by decide +kernel
theorem d158_1 : ins 158 1 = some (.istore_n 2) := by decide +kernel
theorem d158_2 : ins 158 2 = some (.iload_n 2) := by decide +kernel
theorem d158_3 : ins 158 3 = some (.aload_n 0) := by decide +kernel
theorem d158_4 : ins 158 4 = some (.getfield 73) := by decide +kernel
theorem d158_7 : ins 158 7 = some (.if_icmp .ge 30) := by decide +kernel
theorem d158_10 : ins 158 10 = some (.aload_n 0) := by decide +kernel
theorem d158_11 : ins 158 11 = some (.getfield 54) := by decide +kernel
theorem d158_14 : ins 158 14 = some (.iload_n 2) := by decide +kernel
theorem d158_15 : ins 158 15 = some (.iload_n 1) := by decide +kernel
theorem d158_16 : ins 158 16 = some (.iconst (-1)) := by decide +kernel
theorem d158_17 : ins 158 17 = some (.if_icmp .eq 8) := by decide +kernel
theorem d158_20 : ins 158 20 = some (.iload_n 2) := by decide +kernel
theorem d158_21 : ins 158 21 = some (.iload_n 1) := by decide +kernel
theorem d158_22 : ins 158 22 = some (.if_icmp .ne 7) := by decide +kernel
theorem d158_25 : ins 158 25 = some (.iconst 1) := by decide +kernel
theorem d158_26 : ins 158 26 = some (.goto 4) := by decide +kernel
theorem d158_29 : ins 158 29 = some (.iconst (-1)) := by decide +kernel
theorem d158_30 : ins 158 30 = some (.iastore) := by decide +kernel
theorem d158_31 : ins 158 31 = some (.iinc 2 1) := by decide +kernel
theorem d158_34 : ins 158 34 = some (.goto (-32)) := by decide +kernel
theorem d158_37 : ins 158 37 = some (.iconst 0) := by decide +kernel
theorem d158_38 : ins 158 38 = some (.istore_n 2) := by decide +kernel
theorem d158_39 : ins 158 39 = some (.iload_n 2) := by decide +kernel
theorem d158_40 : ins 158 40 = some (.aload_n 0) := by decide +kernel
theorem d158_41 : ins 158 41 = some (.getfield 73) := by decide +kernel
theorem d158_44 : ins 158 44 = some (.if_icmp .ge 101) := by decide +kernel
theorem d158_47 : ins 158 47 = some (.iconst 0) := by decide +kernel
theorem d158_48 : ins 158 48 = some (.istore_n 3) := by decide +kernel
theorem d158_49 : ins 158 49 = some (.iload_n 3) := by decide +kernel
theorem d158_50 : ins 158 50 = some (.aload_n 0) := by decide +kernel
theorem d158_51 : ins 158 51 = some (.getfield 73) := by decide +kernel
theorem d158_54 : ins 158 54 = some (.if_icmp .ge 85) := by decide +kernel
theorem d158_57 : ins 158 57 = some (.iconst 0) := by decide +kernel
theorem d158_58 : ins 158 58 = some (.istore 4) := by decide +kernel
theorem d158_60 : ins 158 60 = some (.iload 4) := by decide +kernel
theorem d158_62 : ins 158 62 = some (.aload_n 0) := by decide +kernel
theorem d158_63 : ins 158 63 = some (.getfield 73) := by decide +kernel
theorem d158_66 : ins 158 66 = some (.if_icmp .ge 67) := by decide +kernel
theorem d158_69 : ins 158 69 = some (.iload_n 3) := by decide +kernel
theorem d158_70 : ins 158 70 = some (.iload_n 1) := by decide +kernel
theorem d158_71 : ins 158 71 = some (.if_icmp .eq 56) := by decide +kernel
theorem d158_74 : ins 158 74 = some (.aload_n 0) := by decide +kernel
theorem d158_75 : ins 158 75 = some (.getfield 54) := by decide +kernel
theorem d158_78 : ins 158 78 = some (.iload 4) := by decide +kernel
theorem d158_80 : ins 158 80 = some (.iaload) := by decide +kernel
theorem d158_81 : ins 158 81 = some (.ifCond .le 46) := by decide +kernel
theorem d158_84 : ins 158 84 = some (.aload_n 0) := by decide +kernel
theorem d158_85 : ins 158 85 = some (.iload_n 3) := by decide +kernel
theorem d158_86 : ins 158 86 = some (.iload 4) := by decide +kernel
theorem d158_88 : ins 158 88 = some (.invokevirtual 228) := by decide +kernel
theorem d158_91 : ins 158 91 = some (.ifCond .eq 36) := by decide +kernel
theorem d158_94 : ins 158 94 = some (.aload_n 0) := by decide +kernel
theorem d158_95 : ins 158 95 = some (.getfield 54) := by decide +kernel
theorem d158_98 : ins 158 98 = some (.iload 4) := by decide +kernel
theorem d158_100 : ins 158 100 = some (.iaload) := by decide +kernel
theorem d158_101 : ins 158 101 = some (.iconst 1) := by decide +kernel
theorem d158_102 : ins 158 102 = some (.iadd) := by decide +kernel
theorem d158_103 : ins 158 103 = some (.aload_n 0) := by decide +kernel
theorem d158_104 : ins 158 104 = some (.getfield 54) := by decide +kernel
theorem d158_107 : ins 158 107 = some (.iload_n 3) := by decide +kernel
theorem d158_108 : ins 158 108 = some (.iaload) := by decide +kernel
theorem d158_109 : ins 158 109 = some (.if_icmp .le 18) := by decide +kernel
theorem d158_112 : ins 158 112 = some (.aload_n 0) := by decide +kernel
theorem d158_113 : ins 158 113 = some (.getfield 54) := by decide +kernel
theorem d158_116 : ins 158 116 = some (.iload_n 3) := by decide +kernel
theorem d158_117 : ins 158 117 = some (.aload_n 0) := by decide +kernel
theorem d158_118 : ins 158 118 = some (.getfield 54) := by decide +kernel
theorem d158_121 : ins 158 121 = some (.iload 4) := by decide +kernel
theorem d158_123 : ins 158 123 = some (.iaload) := by decide +kernel
theorem d158_124 : ins 158 124 = some (.iconst 1) := by decide +kernel
theorem d158_125 : ins 158 125 = some (.iadd) := by decide +kernel
theorem d158_126 : ins 158 126 = some (.iastore) := by decide +kernel
theorem d158_127 : ins 158 127 = some (.iinc 4 1) := by decide +kernel
theorem d158_130 : ins 158 130 = some (.goto (-70)) := by decide +kernel
theorem d158_133 : ins 158 133 = some (.iinc 3 1) := by decide +kernel
theorem d158_136 : ins 158 136 = some (.goto (-87)) := by decide +kernel
theorem d158_139 : ins 158 139 = some (.iinc 2 1) := by decide +kernel
theorem d158_142 : ins 158 142 = some (.goto (-103)) := by decide +kernel
theorem d158_145 : ins 158 145 = some (.return_) := by decide +kernel
set_option maxRecDepth 10000 in
theorem b158_0 {Q : Option Value → mm → Prop} (ρ : rm) (τ : Int64) (a1 : Int) (hB : BM ρ) (h_a1 : SM a1) : G 158 0 (some (.ref 51) :: some (vI a1) :: []) [] (toM ρ τ) Q = G 158 2 (some (.ref 51) :: some (vI a1) :: some (vI 0) :: []) [] (toM ρ τ) Q := by
  refine (j_iconst d158_0).trans ?_
  refine (g_istore_n d158_1 (by decide) rfl rfl).trans ?_
  rfl
set_option maxRecDepth 10000 in
theorem b158_2 {Q : Option Value → mm → Prop} (ρ : rm) (τ : Int64) (l1 : Int) (l2 : Int) (t : List (Option Value)) (hB : BM ρ) (h_l1 : SM l1) (h_l2 : SM l2) : G 158 2 (some (.ref 51) :: some (vI l1) :: some (vI l2) :: t) [] (toM ρ τ) Q = (if (ρ 51 5) ≤ l2 then G 158 39 (some (.ref 51) :: some (vI l1) :: some (vI 0) :: t) [] (toM ρ τ) Q else (if l1 = (-1) then (if 0 ≤ l2 ∧ l2 < 10 then G 158 2 (some (.ref 51) :: some (vI l1) :: some (vI (l2 + 1)) :: t) [] (toM (rup ρ 65 l2 1) τ) Q else False) else (if l2 = l1 then (if 0 ≤ l2 ∧ l2 < 10 then G 158 2 (some (.ref 51) :: some (vI l1) :: some (vI (l2 + 1)) :: t) [] (toM (rup ρ 65 l2 1) τ) Q else False) else (if 0 ≤ l2 ∧ l2 < 10 then G 158 2 (some (.ref 51) :: some (vI l1) :: some (vI (l2 + 1)) :: t) [] (toM (rup ρ 65 l2 (-1)) τ) Q else False)))) := by
  refine (g_iload_n d158_2 rfl).trans ?_
  refine (g_aload_n d158_3 rfl rfl).trans ?_
  refine (j_getI (v := ρ 51 5) d158_4 f10_73 sh_51 (by decide) rfl rfl).trans ?_
  have q1 := hB 51 5 (by decide)
  refine j_icmp_ge (tgt := 37) d158_7 (by decide) (by omega) (by omega) (fun q2 => ?_) (fun q2 => ?_)
  ·
    refine (j_iconst d158_37).trans ?_
    refine (g_istore_n d158_38 (by decide) rfl rfl).trans ?_
    rfl
  ·
    refine (g_aload_n d158_10 rfl rfl).trans ?_
    refine (g_getR (q := 65) d158_11 f10_54 sh_51 (by decide) rfl).trans ?_
    refine (g_iload_n d158_14 rfl).trans ?_
    refine (g_iload_n d158_15 rfl).trans ?_
    refine (j_iconst d158_16).trans ?_
    refine j_icmp_eq (tgt := 25) d158_17 (by decide) (by omega) (by omega) (fun q3 => ?_) (fun q3 => ?_)
    ·
      refine (j_iconst d158_25).trans ?_
      refine (g_goto (tgt := 30) d158_26 (by decide)).trans ?_
      refine j_iastore d158_30 sh_65 (by omega) (fun q4 => ?_)
      refine (j_iinc d158_31 rfl (by decide) rfl rfl).trans ?_
      refine (g_goto (tgt := 2) d158_34 (by decide)).trans ?_
      rfl
    ·
      refine (g_iload_n d158_20 rfl).trans ?_
      refine (g_iload_n d158_21 rfl).trans ?_
      refine j_icmp_ne (tgt := 29) d158_22 (by decide) (by omega) (by omega) (fun q5 => ?_) (fun q5 => ?_)
      ·
        refine (j_iconst d158_25).trans ?_
        refine (g_goto (tgt := 30) d158_26 (by decide)).trans ?_
        refine j_iastore d158_30 sh_65 (by omega) (fun q6 => ?_)
        refine (j_iinc d158_31 rfl (by decide) rfl rfl).trans ?_
        refine (g_goto (tgt := 2) d158_34 (by decide)).trans ?_
        rfl
      ·
        refine (j_iconst d158_29).trans ?_
        refine j_iastore d158_30 sh_65 (by omega) (fun q7 => ?_)
        refine (j_iinc d158_31 rfl (by decide) rfl rfl).trans ?_
        refine (g_goto (tgt := 2) d158_34 (by decide)).trans ?_
        rfl
set_option maxRecDepth 10000 in
theorem b158_39 {Q : Option Value → mm → Prop} (ρ : rm) (τ : Int64) (l1 : Int) (l2 : Int) (t : List (Option Value)) (hB : BM ρ) (h_l1 : SM l1) (h_l2 : SM l2) : G 158 39 (some (.ref 51) :: some (vI l1) :: some (vI l2) :: t) [] (toM ρ τ) Q = (if (ρ 51 5) ≤ l2 then Q none (toM ρ τ) else G 158 49 (some (.ref 51) :: some (vI l1) :: some (vI l2) :: some (vI 0) :: t.tail) [] (toM ρ τ) Q) := by
  refine (g_iload_n d158_39 rfl).trans ?_
  refine (g_aload_n d158_40 rfl rfl).trans ?_
  refine (j_getI (v := ρ 51 5) d158_41 f10_73 sh_51 (by decide) rfl rfl).trans ?_
  have q1 := hB 51 5 (by decide)
  refine j_icmp_ge (tgt := 145) d158_44 (by decide) (by omega) (by omega) (fun q2 => ?_) (fun q2 => ?_)
  ·
    exact g_ret d158_145 rfl
  ·
    refine (j_iconst d158_47).trans ?_
    refine (g_istore_n d158_48 (by decide) rfl rfl).trans ?_
    rfl
set_option maxRecDepth 10000 in
theorem b158_49 {Q : Option Value → mm → Prop} (ρ : rm) (τ : Int64) (l1 : Int) (l2 : Int) (l3 : Int) (t : List (Option Value)) (hB : BM ρ) (h_l1 : SM l1) (h_l2 : SM l2) (h_l3 : SM l3) : G 158 49 (some (.ref 51) :: some (vI l1) :: some (vI l2) :: some (vI l3) :: t) [] (toM ρ τ) Q = (if (ρ 51 5) ≤ l3 then G 158 39 (some (.ref 51) :: some (vI l1) :: some (vI (l2 + 1)) :: some (vI l3) :: t) [] (toM ρ τ) Q else G 158 60 (some (.ref 51) :: some (vI l1) :: some (vI l2) :: some (vI l3) :: some (vI 0) :: t.tail) [] (toM ρ τ) Q) := by
  refine (g_iload_n d158_49 rfl).trans ?_
  refine (g_aload_n d158_50 rfl rfl).trans ?_
  refine (j_getI (v := ρ 51 5) d158_51 f10_73 sh_51 (by decide) rfl rfl).trans ?_
  have q1 := hB 51 5 (by decide)
  refine j_icmp_ge (tgt := 139) d158_54 (by decide) (by omega) (by omega) (fun q2 => ?_) (fun q2 => ?_)
  ·
    refine (j_iinc d158_139 rfl (by decide) rfl rfl).trans ?_
    refine (g_goto (tgt := 39) d158_142 (by decide)).trans ?_
    rfl
  ·
    refine (j_iconst d158_57).trans ?_
    refine (g_istore d158_58 (by decide) rfl rfl).trans ?_
    rfl
set_option maxRecDepth 10000 in
theorem b158_60 {Q : Option Value → mm → Prop} (ρ : rm) (τ : Int64) (l1 : Int) (l2 : Int) (l3 : Int) (l4 : Int) (t : List (Option Value)) (hB : BM ρ) (h_l1 : SM l1) (h_l2 : SM l2) (h_l3 : SM l3) (h_l4 : SM l4) : G 158 60 (some (.ref 51) :: some (vI l1) :: some (vI l2) :: some (vI l3) :: some (vI l4) :: t) [] (toM ρ τ) Q = (if (ρ 51 5) ≤ l4 then G 158 49 (some (.ref 51) :: some (vI l1) :: some (vI l2) :: some (vI (l3 + 1)) :: some (vI l4) :: t) [] (toM ρ τ) Q else (if l3 = l1 then G 158 60 (some (.ref 51) :: some (vI l1) :: some (vI l2) :: some (vI l3) :: some (vI (l4 + 1)) :: t) [] (toM ρ τ) Q else (if 0 ≤ l4 ∧ l4 < 10 then (if (ρ 65 l4) ≤ 0 then G 158 60 (some (.ref 51) :: some (vI l1) :: some (vI l2) :: some (vI l3) :: some (vI (l4 + 1)) :: t) [] (toM ρ τ) Q else G 156 0 [some (.ref 51), some (vI l3), some (vI l4)] [] (toM ρ τ) (fun v μ2 => G 158 91 (some (.ref 51) :: some (vI l1) :: some (vI l2) :: some (vI l3) :: some (vI l4) :: t) (v.toList ++ []) μ2 Q)) else False))) := by
  refine (g_iload d158_60 rfl).trans ?_
  refine (g_aload_n d158_62 rfl rfl).trans ?_
  refine (j_getI (v := ρ 51 5) d158_63 f10_73 sh_51 (by decide) rfl rfl).trans ?_
  have q1 := hB 51 5 (by decide)
  refine j_icmp_ge (tgt := 133) d158_66 (by decide) (by omega) (by omega) (fun q2 => ?_) (fun q2 => ?_)
  ·
    refine (j_iinc d158_133 rfl (by decide) rfl rfl).trans ?_
    refine (g_goto (tgt := 49) d158_136 (by decide)).trans ?_
    rfl
  ·
    refine (g_iload_n d158_69 rfl).trans ?_
    refine (g_iload_n d158_70 rfl).trans ?_
    refine j_icmp_eq (tgt := 127) d158_71 (by decide) (by omega) (by omega) (fun q3 => ?_) (fun q3 => ?_)
    ·
      refine (j_iinc d158_127 rfl (by decide) rfl rfl).trans ?_
      refine (g_goto (tgt := 60) d158_130 (by decide)).trans ?_
      rfl
    ·
      refine (g_aload_n d158_74 rfl rfl).trans ?_
      refine (g_getR (q := 65) d158_75 f10_54 sh_51 (by decide) rfl).trans ?_
      refine (g_iload d158_78 rfl).trans ?_
      refine j_iaload (v := ρ 65 l4) d158_80 sh_65 (by omega) rfl (fun q4 => ?_)
      have q5 := hB 65 l4 (by omega)
      refine j_if_le (tgt := 127) d158_81 (by decide) (by omega) (fun q6 => ?_) (fun q6 => ?_)
      ·
        refine (j_iinc d158_127 rfl (by decide) rfl rfl).trans ?_
        refine (g_goto (tgt := 60) d158_130 (by decide)).trans ?_
        rfl
      ·
        refine (g_aload_n d158_84 rfl rfl).trans ?_
        refine (g_iload_n d158_85 rfl).trans ?_
        refine (g_iload d158_86 rfl).trans ?_
        exact g_cV d158_88 k10_228 rfl rfl rfl
set_option maxRecDepth 10000 in
theorem b158_91 {Q : Option Value → mm → Prop} (ρ : rm) (τ : Int64) (l1 : Int) (l2 : Int) (l3 : Int) (l4 : Int) (t : List (Option Value)) (r : Int) (hB : BM ρ) (h_l1 : SM l1) (h_l2 : SM l2) (h_l3 : SM l3) (h_l4 : SM l4) (h_r : SM r) : G 158 91 (some (.ref 51) :: some (vI l1) :: some (vI l2) :: some (vI l3) :: some (vI l4) :: t) ((some (vI r)).toList ++ []) (toM ρ τ) Q = (if r = 0 then G 158 60 (some (.ref 51) :: some (vI l1) :: some (vI l2) :: some (vI l3) :: some (vI (l4 + 1)) :: t) [] (toM ρ τ) Q else (if 0 ≤ l4 ∧ l4 < 10 then (if 0 ≤ l3 ∧ l3 < 10 then (if ((ρ 65 l4) + 1) ≤ (ρ 65 l3) then G 158 60 (some (.ref 51) :: some (vI l1) :: some (vI l2) :: some (vI l3) :: some (vI (l4 + 1)) :: t) [] (toM ρ τ) Q else (if 0 ≤ l4 ∧ l4 < 10 then (if 0 ≤ l3 ∧ l3 < 10 then G 158 60 (some (.ref 51) :: some (vI l1) :: some (vI l2) :: some (vI l3) :: some (vI (l4 + 1)) :: t) [] (toM (rup ρ 65 l3 ((ρ 65 l4) + 1)) τ) Q else False) else False)) else False) else False)) := by
  refine j_if_eq (tgt := 127) d158_91 (by decide) (by omega) (fun q1 => ?_) (fun q1 => ?_)
  ·
    refine (j_iinc d158_127 rfl (by decide) rfl rfl).trans ?_
    refine (g_goto (tgt := 60) d158_130 (by decide)).trans ?_
    rfl
  ·
    refine (g_aload_n d158_94 rfl rfl).trans ?_
    refine (g_getR (q := 65) d158_95 f10_54 sh_51 (by decide) rfl).trans ?_
    refine (g_iload d158_98 rfl).trans ?_
    refine j_iaload (v := ρ 65 l4) d158_100 sh_65 (by omega) rfl (fun q2 => ?_)
    have q3 := hB 65 l4 (by omega)
    refine (j_iconst d158_101).trans ?_
    refine (j_iadd d158_102).trans ?_
    refine (g_aload_n d158_103 rfl rfl).trans ?_
    refine (g_getR (q := 65) d158_104 f10_54 sh_51 (by decide) rfl).trans ?_
    refine (g_iload_n d158_107 rfl).trans ?_
    refine j_iaload (v := ρ 65 l3) d158_108 sh_65 (by omega) rfl (fun q4 => ?_)
    have q5 := hB 65 l3 (by omega)
    refine j_icmp_le (tgt := 127) d158_109 (by decide) (by omega) (by omega) (fun q6 => ?_) (fun q6 => ?_)
    ·
      refine (j_iinc d158_127 rfl (by decide) rfl rfl).trans ?_
      refine (g_goto (tgt := 60) d158_130 (by decide)).trans ?_
      rfl
    ·
      refine (g_aload_n d158_112 rfl rfl).trans ?_
      refine (g_getR (q := 65) d158_113 f10_54 sh_51 (by decide) rfl).trans ?_
      refine (g_iload_n d158_116 rfl).trans ?_
      refine (g_aload_n d158_117 rfl rfl).trans ?_
      refine (g_getR (q := 65) d158_118 f10_54 sh_51 (by decide) rfl).trans ?_
      refine (g_iload d158_121 rfl).trans ?_
      refine j_iaload (v := ρ 65 l4) d158_123 sh_65 (by omega) rfl (fun q7 => ?_)
      refine (j_iconst d158_124).trans ?_
      refine (j_iadd d158_125).trans ?_
      refine j_iastore d158_126 sh_65 (by omega) (fun q8 => ?_)
      refine (j_iinc d158_127 rfl (by decide) rfl rfl).trans ?_
      refine (g_goto (tgt := 60) d158_130 (by decide)).trans ?_
      rfl
theorem d159_0 : ins 159 0 = some (.iload_n 1) := by decide +kernel
theorem d159_1 : ins 159 1 = some (.iconst (-1)) := by decide +kernel
theorem d159_2 : ins 159 2 = some (.if_icmp .eq 14) := by decide +kernel
theorem d159_5 : ins 159 5 = some (.aload_n 0) := by decide +kernel
theorem d159_6 : ins 159 6 = some (.iload_n 1) := by decide +kernel
theorem d159_7 : ins 159 7 = some (.invokevirtual 215) := by decide +kernel
theorem d159_10 : ins 159 10 = some (.ifCond .ne 6) := by decide +kernel
theorem d159_13 : ins 159 13 = some (.bipush (-2)) := by decide +kernel
theorem d159_15 : ins 159 15 = some (.ireturn) := by decide +kernel
theorem d159_16 : ins 159 16 = some (.iload_n 2) := by decide +kernel
theorem d159_17 : ins 159 17 = some (.iconst (-1)) := by decide +kernel
theorem d159_18 : ins 159 18 = some (.if_icmp .ge 6) := by decide +kernel
theorem d159_21 : ins 159 21 = some (.bipush (-3)) := by decide +kernel
theorem d159_23 : ins 159 23 = some (.ireturn) := by decide +kernel
theorem d159_24 : ins 159 24 = some (.aload_n 0) := by decide +kernel
theorem d159_25 : ins 159 25 = some (.iload_n 1) := by decide +kernel
theorem d159_26 : ins 159 26 = some (.invokevirtual 231) := by decide +kernel
theorem d159_29 : ins 159 29 = some (.iconst 0) := by decide +kernel
theorem d159_30 : ins 159 30 = some (.istore_n 3) := by decide +kernel
theorem d159_31 : ins 159 31 = some (.iconst 0) := by decide +kernel
theorem d159_32 : ins 159 32 = some (.istore 4) := by decide +kernel
theorem d159_34 : ins 159 34 = some (.iload 4) := by decide +kernel
theorem d159_36 : ins 159 36 = some (.aload_n 0) := by decide +kernel
theorem d159_37 : ins 159 37 = some (.getfield 73) := by decide +kernel
theorem d159_40 : ins 159 40 = some (.if_icmp .ge 32) := by decide +kernel
theorem d159_43 : ins 159 43 = some (.aload_n 0) := by decide +kernel
theorem d159_44 : ins 159 44 = some (.getfield 54) := by decide +kernel
theorem d159_47 : ins 159 47 = some (.iload 4) := by decide +kernel
theorem d159_49 : ins 159 49 = some (.iaload) := by decide +kernel
theorem d159_50 : ins 159 50 = some (.iload_n 3) := by decide +kernel
theorem d159_51 : ins 159 51 = some (.if_icmp .le 13) := by decide +kernel
theorem d159_54 : ins 159 54 = some (.aload_n 0) := by decide +kernel
theorem d159_55 : ins 159 55 = some (.getfield 54) := by decide +kernel
theorem d159_58 : ins 159 58 = some (.iload 4) := by decide +kernel
theorem d159_60 : ins 159 60 = some (.iaload) := by decide +kernel
theorem d159_61 : ins 159 61 = some (.goto 4) := by decide +kernel
theorem d159_64 : ins 159 64 = some (.iload_n 3) := by decide +kernel
theorem d159_65 : ins 159 65 = some (.istore_n 3) := by decide +kernel
theorem d159_66 : ins 159 66 = some (.iinc 4 1) := by decide +kernel
theorem d159_69 : ins 159 69 = some (.goto (-35)) := by decide +kernel
theorem d159_72 : ins 159 72 = some (.iload_n 2) := by decide +kernel
theorem d159_73 : ins 159 73 = some (.iconst (-1)) := by decide +kernel
theorem d159_74 : ins 159 74 = some (.if_icmp .eq 8) := by decide +kernel
theorem d159_77 : ins 159 77 = some (.iload_n 2) := by decide +kernel
theorem d159_78 : ins 159 78 = some (.iload_n 3) := by decide +kernel
theorem d159_79 : ins 159 79 = some (.if_icmp .lt 14) := by decide +kernel
theorem d159_82 : ins 159 82 = some (.iload_n 2) := by decide +kernel
theorem d159_83 : ins 159 83 = some (.iconst (-1)) := by decide +kernel
theorem d159_84 : ins 159 84 = some (.if_icmp .ne 7) := by decide +kernel
theorem d159_87 : ins 159 87 = some (.iload_n 3) := by decide +kernel
theorem d159_88 : ins 159 88 = some (.goto 4) := by decide +kernel
theorem d159_91 : ins 159 91 = some (.iconst (-1)) := by decide +kernel
theorem d159_92 : ins 159 92 = some (.ireturn) := by decide +kernel
theorem d159_93 : ins 159 93 = some (.iconst (-1)) := by decide +kernel
theorem d159_94 : ins 159 94 = some (.istore 4) := by decide +kernel
theorem d159_96 : ins 159 96 = some (.iconst 0) := by decide +kernel
theorem d159_97 : ins 159 97 = some (.istore 5) := by decide +kernel
theorem d159_99 : ins 159 99 = some (.iload 5) := by decide +kernel
theorem d159_101 : ins 159 101 = some (.iload_n 2) := by decide +kernel
theorem d159_102 : ins 159 102 = some (.if_icmp .gt 75) := by decide +kernel
theorem d159_105 : ins 159 105 = some (.iconst (-1)) := by decide +kernel
theorem d159_106 : ins 159 106 = some (.istore 6) := by decide +kernel
theorem d159_108 : ins 159 108 = some (.aload_n 0) := by decide +kernel
theorem d159_109 : ins 159 109 = some (.getfield 73) := by decide +kernel
theorem d159_112 : ins 159 112 = some (.iconst 1) := by decide +kernel
theorem d159_113 : ins 159 113 = some (.isub) := by decide +kernel
theorem d159_114 : ins 159 114 = some (.istore 7) := by decide +kernel
theorem d159_116 : ins 159 116 = some (.iload 7) := by decide +kernel
theorem d159_118 : ins 159 118 = some (.ifCond .lt 49) := by decide +kernel
theorem d159_121 : ins 159 121 = some (.aload_n 0) := by decide +kernel
theorem d159_122 : ins 159 122 = some (.getfield 54) := by decide +kernel
theorem d159_125 : ins 159 125 = some (.iload 7) := by decide +kernel
theorem d159_127 : ins 159 127 = some (.iaload) := by decide +kernel
theorem d159_128 : ins 159 128 = some (.iload_n 3) := by decide +kernel
theorem d159_129 : ins 159 129 = some (.iload 5) := by decide +kernel
theorem d159_131 : ins 159 131 = some (.isub) := by decide +kernel
theorem d159_132 : ins 159 132 = some (.if_icmp .ne 25) := by decide +kernel
theorem d159_135 : ins 159 135 = some (.iload 4) := by decide +kernel
theorem d159_137 : ins 159 137 = some (.iconst (-1)) := by decide +kernel
theorem d159_138 : ins 159 138 = some (.if_icmp .eq 14) := by decide +kernel
theorem d159_141 : ins 159 141 = some (.aload_n 0) := by decide +kernel
theorem d159_142 : ins 159 142 = some (.iload 4) := by decide +kernel
theorem d159_144 : ins 159 144 = some (.iload 7) := by decide +kernel
theorem d159_146 : ins 159 146 = some (.invokevirtual 228) := by decide +kernel
theorem d159_149 : ins 159 149 = some (.ifCond .eq 8) := by decide +kernel
theorem d159_152 : ins 159 152 = some (.iload 7) := by decide +kernel
theorem d159_154 : ins 159 154 = some (.goto 5) := by decide +kernel
theorem d159_157 : ins 159 157 = some (.iload 6) := by decide +kernel
theorem d159_159 : ins 159 159 = some (.istore 6) := by decide +kernel
theorem d159_161 : ins 159 161 = some (.iinc 7 (-1)) := by decide +kernel
theorem d159_164 : ins 159 164 = some (.goto (-48)) := by decide +kernel
theorem d159_167 : ins 159 167 = some (.iload 6) := by decide +kernel
theorem d159_169 : ins 159 169 = some (.istore 4) := by decide +kernel
theorem d159_171 : ins 159 171 = some (.iinc 5 1) := by decide +kernel
theorem d159_174 : ins 159 174 = some (.goto (-75)) := by decide +kernel
theorem d159_177 : ins 159 177 = some (.iload 4) := by decide +kernel
theorem d159_179 : ins 159 179 = some (.ireturn) := by decide +kernel
set_option maxRecDepth 10000 in
theorem b159_0 {Q : Option Value → mm → Prop} (ρ : rm) (τ : Int64) (a1 : Int) (a2 : Int) (hB : BM ρ) (h_a1 : SB a1) (h_a2 : SB a2) : G 159 0 (some (.ref 51) :: some (vI a1) :: some (vI a2) :: []) [] (toM ρ τ) Q = (if a1 = (-1) then (if (-1) ≤ a2 then G 158 0 [some (.ref 51), some (vI a1)] [] (toM ρ τ) (fun v μ2 => G 159 29 (some (.ref 51) :: some (vI a1) :: some (vI a2) :: []) (v.toList ++ []) μ2 Q) else Q (some (vI (-3))) (toM ρ τ)) else G 120 0 [some (.ref 51), some (vI a1)] [] (toM ρ τ) (fun v μ2 => G 159 10 (some (.ref 51) :: some (vI a1) :: some (vI a2) :: []) (v.toList ++ []) μ2 Q)) := by
  refine (g_iload_n d159_0 rfl).trans ?_
  refine (j_iconst d159_1).trans ?_
  refine j_icmp_eq (tgt := 16) d159_2 (by decide) (by omega) (by omega) (fun q1 => ?_) (fun q1 => ?_)
  ·
    refine (g_iload_n d159_16 rfl).trans ?_
    refine (j_iconst d159_17).trans ?_
    refine j_icmp_ge (tgt := 24) d159_18 (by decide) (by omega) (by omega) (fun q2 => ?_) (fun q2 => ?_)
    ·
      refine (g_aload_n d159_24 rfl rfl).trans ?_
      refine (g_iload_n d159_25 rfl).trans ?_
      exact g_cV d159_26 k10_231 rfl rfl rfl
    ·
      refine (j_bipush d159_21 (by decide)).trans ?_
      exact g_iret d159_23 rfl rfl
  ·
    refine (g_aload_n d159_5 rfl rfl).trans ?_
    refine (g_iload_n d159_6 rfl).trans ?_
    exact g_cV d159_7 k10_215 rfl rfl rfl
set_option maxRecDepth 10000 in
theorem b159_29 {Q : Option Value → mm → Prop} (ρ : rm) (τ : Int64) (l1 : Int) (l2 : Int) (t : List (Option Value)) (hB : BM ρ) (h_l1 : SM l1) (h_l2 : SB l2) : G 159 29 (some (.ref 51) :: some (vI l1) :: some (vI l2) :: t) ((none : Option Value).toList ++ []) (toM ρ τ) Q = G 159 34 (some (.ref 51) :: some (vI l1) :: some (vI l2) :: some (vI 0) :: some (vI 0) :: t.tail.tail) [] (toM ρ τ) Q := by
  refine (j_iconst d159_29).trans ?_
  refine (g_istore_n d159_30 (by decide) rfl rfl).trans ?_
  refine (j_iconst d159_31).trans ?_
  refine (g_istore d159_32 (by decide) rfl rfl).trans ?_
  rfl
set_option maxRecDepth 10000 in
theorem b159_10 {Q : Option Value → mm → Prop} (ρ : rm) (τ : Int64) (l1 : Int) (l2 : Int) (t : List (Option Value)) (r : Int) (hB : BM ρ) (h_l1 : SB l1) (h_in1 : r = 0 ∨ SM l1) (h_l2 : SB l2) (h_r : SM r) : G 159 10 (some (.ref 51) :: some (vI l1) :: some (vI l2) :: t) ((some (vI r)).toList ++ []) (toM ρ τ) Q = (if r = 0 then Q (some (vI (-2))) (toM ρ τ) else (if (-1) ≤ l2 then G 158 0 [some (.ref 51), some (vI l1)] [] (toM ρ τ) (fun v μ2 => G 159 29 (some (.ref 51) :: some (vI l1) :: some (vI l2) :: t) (v.toList ++ []) μ2 Q) else Q (some (vI (-3))) (toM ρ τ))) := by
  refine j_if_ne (tgt := 16) d159_10 (by decide) (by omega) (fun q1 => ?_) (fun q1 => ?_)
  ·
    refine (j_bipush d159_13 (by decide)).trans ?_
    exact g_iret d159_15 rfl rfl
  ·
    refine (g_iload_n d159_16 rfl).trans ?_
    refine (j_iconst d159_17).trans ?_
    refine j_icmp_ge (tgt := 24) d159_18 (by decide) (by omega) (by omega) (fun q2 => ?_) (fun q2 => ?_)
    ·
      refine (g_aload_n d159_24 rfl rfl).trans ?_
      refine (g_iload_n d159_25 rfl).trans ?_
      exact g_cV d159_26 k10_231 rfl rfl rfl
    ·
      refine (j_bipush d159_21 (by decide)).trans ?_
      exact g_iret d159_23 rfl rfl
set_option maxRecDepth 10000 in
theorem b159_34 {Q : Option Value → mm → Prop} (ρ : rm) (τ : Int64) (l1 : Int) (l2 : Int) (l3 : Int) (l4 : Int) (t : List (Option Value)) (hB : BM ρ) (h_l1 : SM l1) (h_l2 : SB l2) (h_l3 : SM l3) (h_l4 : SM l4) : G 159 34 (some (.ref 51) :: some (vI l1) :: some (vI l2) :: some (vI l3) :: some (vI l4) :: t) [] (toM ρ τ) Q = (if (ρ 51 5) ≤ l4 then (if l2 = (-1) then (if l2 = (-1) then Q (some (vI l3)) (toM ρ τ) else Q (some (vI (-1))) (toM ρ τ)) else (if l2 < l3 then G 159 99 (some (.ref 51) :: some (vI l1) :: some (vI l2) :: some (vI l3) :: some (vI (-1)) :: some (vI 0) :: t.tail) [] (toM ρ τ) Q else (if l2 = (-1) then Q (some (vI l3)) (toM ρ τ) else Q (some (vI (-1))) (toM ρ τ)))) else (if 0 ≤ l4 ∧ l4 < 10 then (if (ρ 65 l4) ≤ l3 then G 159 34 (some (.ref 51) :: some (vI l1) :: some (vI l2) :: some (vI l3) :: some (vI (l4 + 1)) :: t) [] (toM ρ τ) Q else (if 0 ≤ l4 ∧ l4 < 10 then G 159 34 (some (.ref 51) :: some (vI l1) :: some (vI l2) :: some (vI (ρ 65 l4)) :: some (vI (l4 + 1)) :: t) [] (toM ρ τ) Q else False)) else False)) := by
  refine (g_iload d159_34 rfl).trans ?_
  refine (g_aload_n d159_36 rfl rfl).trans ?_
  refine (j_getI (v := ρ 51 5) d159_37 f10_73 sh_51 (by decide) rfl rfl).trans ?_
  have q1 := hB 51 5 (by decide)
  refine j_icmp_ge (tgt := 72) d159_40 (by decide) (by omega) (by omega) (fun q2 => ?_) (fun q2 => ?_)
  ·
    refine (g_iload_n d159_72 rfl).trans ?_
    refine (j_iconst d159_73).trans ?_
    refine j_icmp_eq (tgt := 82) d159_74 (by decide) (by omega) (by omega) (fun q3 => ?_) (fun q3 => ?_)
    ·
      refine (g_iload_n d159_82 rfl).trans ?_
      refine (j_iconst d159_83).trans ?_
      refine j_icmp_ne (tgt := 91) d159_84 (by decide) (by omega) (by omega) (fun q4 => ?_) (fun q4 => ?_)
      ·
        refine (g_iload_n d159_87 rfl).trans ?_
        refine (g_goto (tgt := 92) d159_88 (by decide)).trans ?_
        exact g_iret d159_92 rfl rfl
      ·
        refine (j_iconst d159_91).trans ?_
        exact g_iret d159_92 rfl rfl
    ·
      refine (g_iload_n d159_77 rfl).trans ?_
      refine (g_iload_n d159_78 rfl).trans ?_
      refine j_icmp_lt (tgt := 93) d159_79 (by decide) (by omega) (by omega) (fun q5 => ?_) (fun q5 => ?_)
      ·
        refine (j_iconst d159_93).trans ?_
        refine (g_istore d159_94 (by decide) rfl rfl).trans ?_
        refine (j_iconst d159_96).trans ?_
        refine (g_istore d159_97 (by decide) rfl rfl).trans ?_
        rfl
      ·
        refine (g_iload_n d159_82 rfl).trans ?_
        refine (j_iconst d159_83).trans ?_
        refine j_icmp_ne (tgt := 91) d159_84 (by decide) (by omega) (by omega) (fun q6 => ?_) (fun q6 => ?_)
        ·
          refine (g_iload_n d159_87 rfl).trans ?_
          refine (g_goto (tgt := 92) d159_88 (by decide)).trans ?_
          exact g_iret d159_92 rfl rfl
        ·
          refine (j_iconst d159_91).trans ?_
          exact g_iret d159_92 rfl rfl
  ·
    refine (g_aload_n d159_43 rfl rfl).trans ?_
    refine (g_getR (q := 65) d159_44 f10_54 sh_51 (by decide) rfl).trans ?_
    refine (g_iload d159_47 rfl).trans ?_
    refine j_iaload (v := ρ 65 l4) d159_49 sh_65 (by omega) rfl (fun q7 => ?_)
    have q8 := hB 65 l4 (by omega)
    refine (g_iload_n d159_50 rfl).trans ?_
    refine j_icmp_le (tgt := 64) d159_51 (by decide) (by omega) (by omega) (fun q9 => ?_) (fun q9 => ?_)
    ·
      refine (g_iload_n d159_64 rfl).trans ?_
      refine (g_istore_n d159_65 (by decide) rfl rfl).trans ?_
      refine (j_iinc d159_66 rfl (by decide) rfl rfl).trans ?_
      refine (g_goto (tgt := 34) d159_69 (by decide)).trans ?_
      rfl
    ·
      refine (g_aload_n d159_54 rfl rfl).trans ?_
      refine (g_getR (q := 65) d159_55 f10_54 sh_51 (by decide) rfl).trans ?_
      refine (g_iload d159_58 rfl).trans ?_
      refine j_iaload (v := ρ 65 l4) d159_60 sh_65 (by omega) rfl (fun q10 => ?_)
      refine (g_goto (tgt := 65) d159_61 (by decide)).trans ?_
      refine (g_istore_n d159_65 (by decide) rfl rfl).trans ?_
      refine (j_iinc d159_66 rfl (by decide) rfl rfl).trans ?_
      refine (g_goto (tgt := 34) d159_69 (by decide)).trans ?_
      rfl
set_option maxRecDepth 10000 in
theorem b159_99 {Q : Option Value → mm → Prop} (ρ : rm) (τ : Int64) (l1 : Int) (l2 : Int) (l3 : Int) (l4 : Int) (l5 : Int) (t : List (Option Value)) (hB : BM ρ) (h_l1 : SM l1) (h_l2 : SB l2) (h_l3 : SM l3) (h_l4 : SM l4) (h_l5 : SM l5) : G 159 99 (some (.ref 51) :: some (vI l1) :: some (vI l2) :: some (vI l3) :: some (vI l4) :: some (vI l5) :: t) [] (toM ρ τ) Q = (if l2 < l5 then Q (some (vI l4)) (toM ρ τ) else G 159 116 (some (.ref 51) :: some (vI l1) :: some (vI l2) :: some (vI l3) :: some (vI l4) :: some (vI l5) :: some (vI (-1)) :: some (vI ((ρ 51 5) - 1)) :: t.tail.tail) [] (toM ρ τ) Q) := by
  refine (g_iload d159_99 rfl).trans ?_
  refine (g_iload_n d159_101 rfl).trans ?_
  refine j_icmp_gt (tgt := 177) d159_102 (by decide) (by omega) (by omega) (fun q1 => ?_) (fun q1 => ?_)
  ·
    refine (g_iload d159_177 rfl).trans ?_
    exact g_iret d159_179 rfl rfl
  ·
    refine (j_iconst d159_105).trans ?_
    refine (g_istore d159_106 (by decide) rfl rfl).trans ?_
    refine (g_aload_n d159_108 rfl rfl).trans ?_
    refine (j_getI (v := ρ 51 5) d159_109 f10_73 sh_51 (by decide) rfl rfl).trans ?_
    have q2 := hB 51 5 (by decide)
    refine (j_iconst d159_112).trans ?_
    refine (j_isub d159_113).trans ?_
    refine (g_istore d159_114 (by decide) rfl rfl).trans ?_
    rfl
set_option maxRecDepth 10000 in
theorem b159_116 {Q : Option Value → mm → Prop} (ρ : rm) (τ : Int64) (l1 : Int) (l2 : Int) (l3 : Int) (l4 : Int) (l5 : Int) (l6 : Int) (l7 : Int) (t : List (Option Value)) (hB : BM ρ) (h_l1 : SM l1) (h_l2 : SB l2) (h_l3 : SM l3) (h_l4 : SM l4) (h_l5 : SM l5) (h_l6 : SM l6) (h_l7 : SM l7) : G 159 116 (some (.ref 51) :: some (vI l1) :: some (vI l2) :: some (vI l3) :: some (vI l4) :: some (vI l5) :: some (vI l6) :: some (vI l7) :: t) [] (toM ρ τ) Q = (if l7 < 0 then G 159 99 (some (.ref 51) :: some (vI l1) :: some (vI l2) :: some (vI l3) :: some (vI l6) :: some (vI (l5 + 1)) :: some (vI l6) :: some (vI l7) :: t) [] (toM ρ τ) Q else (if 0 ≤ l7 ∧ l7 < 10 then (if (ρ 65 l7) = (l3 - l5) then (if l4 = (-1) then G 159 116 (some (.ref 51) :: some (vI l1) :: some (vI l2) :: some (vI l3) :: some (vI l4) :: some (vI l5) :: some (vI l7) :: some (vI (l7 + (-1))) :: t) [] (toM ρ τ) Q else G 156 0 [some (.ref 51), some (vI l4), some (vI l7)] [] (toM ρ τ) (fun v μ2 => G 159 149 (some (.ref 51) :: some (vI l1) :: some (vI l2) :: some (vI l3) :: some (vI l4) :: some (vI l5) :: some (vI l6) :: some (vI l7) :: t) (v.toList ++ []) μ2 Q)) else G 159 116 (some (.ref 51) :: some (vI l1) :: some (vI l2) :: some (vI l3) :: some (vI l4) :: some (vI l5) :: some (vI l6) :: some (vI (l7 + (-1))) :: t) [] (toM ρ τ) Q) else False)) := by
  refine (g_iload d159_116 rfl).trans ?_
  refine j_if_lt (tgt := 167) d159_118 (by decide) (by omega) (fun q1 => ?_) (fun q1 => ?_)
  ·
    refine (g_iload d159_167 rfl).trans ?_
    refine (g_istore d159_169 (by decide) rfl rfl).trans ?_
    refine (j_iinc d159_171 rfl (by decide) rfl rfl).trans ?_
    refine (g_goto (tgt := 99) d159_174 (by decide)).trans ?_
    rfl
  ·
    refine (g_aload_n d159_121 rfl rfl).trans ?_
    refine (g_getR (q := 65) d159_122 f10_54 sh_51 (by decide) rfl).trans ?_
    refine (g_iload d159_125 rfl).trans ?_
    refine j_iaload (v := ρ 65 l7) d159_127 sh_65 (by omega) rfl (fun q2 => ?_)
    have q3 := hB 65 l7 (by omega)
    refine (g_iload_n d159_128 rfl).trans ?_
    refine (g_iload d159_129 rfl).trans ?_
    refine (j_isub d159_131).trans ?_
    refine j_icmp_ne (tgt := 157) d159_132 (by decide) (by omega) (by omega) (fun q4 => ?_) (fun q4 => ?_)
    ·
      refine (g_iload d159_135 rfl).trans ?_
      refine (j_iconst d159_137).trans ?_
      refine j_icmp_eq (tgt := 152) d159_138 (by decide) (by omega) (by omega) (fun q5 => ?_) (fun q5 => ?_)
      ·
        refine (g_iload d159_152 rfl).trans ?_
        refine (g_goto (tgt := 159) d159_154 (by decide)).trans ?_
        refine (g_istore d159_159 (by decide) rfl rfl).trans ?_
        refine (j_iinc d159_161 rfl (by decide) rfl rfl).trans ?_
        refine (g_goto (tgt := 116) d159_164 (by decide)).trans ?_
        rfl
      ·
        refine (g_aload_n d159_141 rfl rfl).trans ?_
        refine (g_iload d159_142 rfl).trans ?_
        refine (g_iload d159_144 rfl).trans ?_
        exact g_cV d159_146 k10_228 rfl rfl rfl
    ·
      refine (g_iload d159_157 rfl).trans ?_
      refine (g_istore d159_159 (by decide) rfl rfl).trans ?_
      refine (j_iinc d159_161 rfl (by decide) rfl rfl).trans ?_
      refine (g_goto (tgt := 116) d159_164 (by decide)).trans ?_
      rfl
set_option maxRecDepth 10000 in
theorem b159_149 {Q : Option Value → mm → Prop} (ρ : rm) (τ : Int64) (l1 : Int) (l2 : Int) (l3 : Int) (l4 : Int) (l5 : Int) (l6 : Int) (l7 : Int) (t : List (Option Value)) (r : Int) (hB : BM ρ) (h_l1 : SM l1) (h_l2 : SB l2) (h_l3 : SM l3) (h_l4 : SM l4) (h_l5 : SM l5) (h_l6 : SM l6) (h_l7 : SM l7) (h_r : SM r) : G 159 149 (some (.ref 51) :: some (vI l1) :: some (vI l2) :: some (vI l3) :: some (vI l4) :: some (vI l5) :: some (vI l6) :: some (vI l7) :: t) ((some (vI r)).toList ++ []) (toM ρ τ) Q = (if r = 0 then G 159 116 (some (.ref 51) :: some (vI l1) :: some (vI l2) :: some (vI l3) :: some (vI l4) :: some (vI l5) :: some (vI l6) :: some (vI (l7 + (-1))) :: t) [] (toM ρ τ) Q else G 159 116 (some (.ref 51) :: some (vI l1) :: some (vI l2) :: some (vI l3) :: some (vI l4) :: some (vI l5) :: some (vI l7) :: some (vI (l7 + (-1))) :: t) [] (toM ρ τ) Q) := by
  refine j_if_eq (tgt := 157) d159_149 (by decide) (by omega) (fun q1 => ?_) (fun q1 => ?_)
  ·
    refine (g_iload d159_157 rfl).trans ?_
    refine (g_istore d159_159 (by decide) rfl rfl).trans ?_
    refine (j_iinc d159_161 rfl (by decide) rfl rfl).trans ?_
    refine (g_goto (tgt := 116) d159_164 (by decide)).trans ?_
    rfl
  ·
    refine (g_iload d159_152 rfl).trans ?_
    refine (g_goto (tgt := 159) d159_154 (by decide)).trans ?_
    refine (g_istore d159_159 (by decide) rfl rfl).trans ?_
    refine (j_iinc d159_161 rfl (by decide) rfl rfl).trans ?_
    refine (g_goto (tgt := 116) d159_164 (by decide)).trans ?_
    rfl
