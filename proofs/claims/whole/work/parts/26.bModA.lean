/-! blocks of the small machine (wip/gen/gen_blocks.py) -/
theorem d117_0 : ins 117 0 = some (.iload_n 0) := by decide +kernel
theorem d117_1 : ins 117 1 = some (.iload_n 1) := by decide +kernel
theorem d117_2 : ins 117 2 = some (.if_icmp .lt 12) := by decide +kernel
theorem d117_5 : ins 117 5 = some (.iload_n 0) := by decide +kernel
theorem d117_6 : ins 117 6 = some (.iload_n 2) := by decide +kernel
theorem d117_7 : ins 117 7 = some (.if_icmp .gt 7) := by decide +kernel
theorem d117_10 : ins 117 10 = some (.iconst 1) := by decide +kernel
theorem d117_11 : ins 117 11 = some (.goto 4) := by decide +kernel
theorem d117_14 : ins 117 14 = some (.iconst 0) := by decide +kernel
theorem d117_15 : ins 117 15 = some (.ireturn) := by decide +kernel
set_option maxRecDepth 10000 in
theorem b117_0 {Q : Option Value → mm → Prop} (ρ : rm) (τ : Int64) (a1 : Int) (a2 : Int) (a3 : Int) (hB : BM ρ) (h_a1 : SB a1) (h_a2 : SB a2) (h_a3 : SB a3) : G 117 0 (some (vI a1) :: some (vI a2) :: some (vI a3) :: []) [] (toM ρ τ) Q = (if a1 < a2 then Q (some (vI 0)) (toM ρ τ) else (if a3 < a1 then Q (some (vI 0)) (toM ρ τ) else Q (some (vI 1)) (toM ρ τ))) := by
  refine (g_iload_n d117_0 rfl).trans ?_
  refine (g_iload_n d117_1 rfl).trans ?_
  refine j_icmp_lt (tgt := 14) d117_2 (by decide) (by omega) (by omega) (fun q1 => ?_) (fun q1 => ?_)
  ·
    refine (j_iconst d117_14).trans ?_
    exact g_iret d117_15 rfl rfl
  ·
    refine (g_iload_n d117_5 rfl).trans ?_
    refine (g_iload_n d117_6 rfl).trans ?_
    refine j_icmp_gt (tgt := 14) d117_7 (by decide) (by omega) (by omega) (fun q2 => ?_) (fun q2 => ?_)
    ·
      refine (j_iconst d117_14).trans ?_
      exact g_iret d117_15 rfl rfl
    ·
      refine (j_iconst d117_10).trans ?_
      refine (g_goto (tgt := 15) d117_11 (by decide)).trans ?_
      exact g_iret d117_15 rfl rfl
theorem d118_0 : ins 118 0 = some (.iload_n 0) := by decide +kernel
theorem d118_1 : ins 118 1 = some (.iload_n 1) := by decide +kernel
theorem d118_2 : ins 118 2 = some (.ishr) := by decide +kernel
theorem d118_3 : ins 118 3 = some (.iconst 1) := by decide +kernel
theorem d118_4 : ins 118 4 = some (.iand) := by decide +kernel
theorem d118_5 : ins 118 5 = some (.iconst 1) := by decide +kernel
theorem d118_6 : ins 118 6 = some (.if_icmp .ne 7) := by decide +kernel
theorem d118_9 : ins 118 9 = some (.iconst 1) := by decide +kernel
theorem d118_10 : ins 118 10 = some (.goto 4) := by decide +kernel
theorem d118_13 : ins 118 13 = some (.iconst 0) := by decide +kernel
theorem d118_14 : ins 118 14 = some (.ireturn) := by decide +kernel
set_option maxRecDepth 10000 in
theorem b118_0 {Q : Option Value → mm → Prop} (ρ : rm) (τ : Int64) (a1 : Int) (a2 : Int) (hB : BM ρ) (h_a1 : SB a1) (h_a2 : SB a2) : G 118 0 (some (vI a1) :: some (vI a2) :: []) [] (toM ρ τ) Q = (if ((iI ((iI a1 >>> (iI a2 &&& 31)).toInt) &&& iI 1).toInt) = 1 then Q (some (vI 1)) (toM ρ τ) else Q (some (vI 0)) (toM ρ τ)) := by
  refine (g_iload_n d118_0 rfl).trans ?_
  refine (g_iload_n d118_1 rfl).trans ?_
  refine (j_ishr d118_2).trans ?_
  have q1 := SB_of (iI a1 >>> (iI a2 &&& 31))
  refine (j_iconst d118_3).trans ?_
  refine (j_iand d118_4).trans ?_
  have q2 := SB_of (iI ((iI a1 >>> (iI a2 &&& 31)).toInt) &&& iI 1)
  refine (j_iconst d118_5).trans ?_
  refine j_icmp_ne (tgt := 13) d118_6 (by decide) (by omega) (by omega) (fun q3 => ?_) (fun q3 => ?_)
  ·
    refine (j_iconst d118_9).trans ?_
    refine (g_goto (tgt := 14) d118_10 (by decide)).trans ?_
    exact g_iret d118_14 rfl rfl
  ·
    refine (j_iconst d118_13).trans ?_
    exact g_iret d118_14 rfl rfl
theorem d119_0 : ins 119 0 = some (.iload_n 1) := by decide +kernel
theorem d119_1 : ins 119 1 = some (.iconst 0) := by decide +kernel
theorem d119_2 : ins 119 2 = some (.aload_n 0) := by decide +kernel
theorem d119_3 : ins 119 3 = some (.getfield 7) := by decide +kernel
theorem d119_6 : ins 119 6 = some (.iconst 1) := by decide +kernel
theorem d119_7 : ins 119 7 = some (.isub) := by decide +kernel
theorem d119_8 : ins 119 8 = some (.invokestatic 69) := by decide +kernel
theorem d119_11 : ins 119 11 = some (.ireturn) := by decide +kernel
set_option maxRecDepth 10000 in
theorem b119_0 {Q : Option Value → mm → Prop} (ρ : rm) (τ : Int64) (a1 : Int) (hB : BM ρ) (h_a1 : SB a1) : G 119 0 (some (.ref 51) :: some (vI a1) :: []) [] (toM ρ τ) Q = G 117 0 [some (vI a1), some (vI 0), some (vI ((ρ 51 0) - 1))] [] (toM ρ τ) (fun v μ2 => G 119 11 (some (.ref 51) :: some (vI a1) :: []) (v.toList ++ []) μ2 Q) := by
  refine (g_iload_n d119_0 rfl).trans ?_
  refine (j_iconst d119_1).trans ?_
  refine (g_aload_n d119_2 rfl rfl).trans ?_
  refine (j_getI (v := ρ 51 0) d119_3 f10_7 sh_51 (by decide) rfl rfl).trans ?_
  have q1 := hB 51 0 (by decide)
  refine (j_iconst d119_6).trans ?_
  refine (j_isub d119_7).trans ?_
  exact g_cS d119_8 k10_69 rfl rfl rfl
set_option maxRecDepth 10000 in
theorem b119_11 {Q : Option Value → mm → Prop} (ρ : rm) (τ : Int64) (l1 : Int) (t : List (Option Value)) (r : Int) (hB : BM ρ) (h_l1 : SB l1) (h_in1 : r = 0 ∨ SM l1) (h_r : SM r) (h01_r : r = 0 ∨ r = 1) : G 119 11 (some (.ref 51) :: some (vI l1) :: t) ((some (vI r)).toList ++ []) (toM ρ τ) Q = Q (some (vI r)) (toM ρ τ) := by
  exact g_iret d119_11 rfl (nar_01 h01_r)
theorem d120_0 : ins 120 0 = some (.iload_n 1) := by decide +kernel
theorem d120_1 : ins 120 1 = some (.iconst 0) := by decide +kernel
theorem d120_2 : ins 120 2 = some (.aload_n 0) := by decide +kernel
theorem d120_3 : ins 120 3 = some (.getfield 73) := by decide +kernel
theorem d120_6 : ins 120 6 = some (.iconst 1) := by decide +kernel
theorem d120_7 : ins 120 7 = some (.isub) := by decide +kernel
theorem d120_8 : ins 120 8 = some (.invokestatic 69) := by decide +kernel
theorem d120_11 : ins 120 11 = some (.ireturn) := by decide +kernel
set_option maxRecDepth 10000 in
theorem b120_0 {Q : Option Value → mm → Prop} (ρ : rm) (τ : Int64) (a1 : Int) (hB : BM ρ) (h_a1 : SB a1) : G 120 0 (some (.ref 51) :: some (vI a1) :: []) [] (toM ρ τ) Q = G 117 0 [some (vI a1), some (vI 0), some (vI ((ρ 51 5) - 1))] [] (toM ρ τ) (fun v μ2 => G 120 11 (some (.ref 51) :: some (vI a1) :: []) (v.toList ++ []) μ2 Q) := by
  refine (g_iload_n d120_0 rfl).trans ?_
  refine (j_iconst d120_1).trans ?_
  refine (g_aload_n d120_2 rfl rfl).trans ?_
  refine (j_getI (v := ρ 51 5) d120_3 f10_73 sh_51 (by decide) rfl rfl).trans ?_
  have q1 := hB 51 5 (by decide)
  refine (j_iconst d120_6).trans ?_
  refine (j_isub d120_7).trans ?_
  exact g_cS d120_8 k10_69 rfl rfl rfl
set_option maxRecDepth 10000 in
theorem b120_11 {Q : Option Value → mm → Prop} (ρ : rm) (τ : Int64) (l1 : Int) (t : List (Option Value)) (r : Int) (hB : BM ρ) (h_l1 : SB l1) (h_in1 : r = 0 ∨ SM l1) (h_r : SM r) (h01_r : r = 0 ∨ r = 1) : G 120 11 (some (.ref 51) :: some (vI l1) :: t) ((some (vI r)).toList ++ []) (toM ρ τ) Q = Q (some (vI r)) (toM ρ τ) := by
  exact g_iret d120_11 rfl (nar_01 h01_r)
theorem d121_0 : ins 121 0 = some (.iconst 0) := by decide +kernel
theorem d121_1 : ins 121 1 = some (.istore_n 1) := by decide +kernel
theorem d121_2 : ins 121 2 = some (.iload_n 1) := by decide +kernel
theorem d121_3 : ins 121 3 = some (.bipush 10) := by decide +kernel
theorem d121_5 : ins 121 5 = some (.if_icmp .ge 23) := by decide +kernel
theorem d121_8 : ins 121 8 = some (.aload_n 0) := by decide +kernel
theorem d121_9 : ins 121 9 = some (.getfield 13) := by decide +kernel
theorem d121_12 : ins 121 12 = some (.iload_n 1) := by decide +kernel
theorem d121_13 : ins 121 13 = some (.iconst 1) := by decide +kernel
theorem d121_14 : ins 121 14 = some (.iastore) := by decide +kernel
theorem d121_15 : ins 121 15 = some (.aload_n 0) := by decide +kernel
theorem d121_16 : ins 121 16 = some (.getfield 17) := by decide +kernel
theorem d121_19 : ins 121 19 = some (.iload_n 1) := by decide +kernel
theorem d121_20 : ins 121 20 = some (.iconst 1) := by decide +kernel
theorem d121_21 : ins 121 21 = some (.iastore) := by decide +kernel
theorem d121_22 : ins 121 22 = some (.iinc 1 1) := by decide +kernel
theorem d121_25 : ins 121 25 = some (.goto (-23)) := by decide +kernel
theorem d121_28 : ins 121 28 = some (.aload_n 0) := by decide +kernel
theorem d121_29 : ins 121 29 = some (.iconst 0) := by decide +kernel
theorem d121_30 : ins 121 30 = some (.putfield 76) := by decide +kernel
theorem d121_33 : ins 121 33 = some (.aload_n 0) := by decide +kernel
theorem d121_34 : ins 121 34 = some (.iconst 0) := by decide +kernel
theorem d121_35 : ins 121 35 = some (.putfield 73) := by decide +kernel
theorem d121_38 : ins 121 38 = some (.aload_n 0) := by decide +kernel
theorem d121_39 : ins 121 39 = some (.iconst 0) := by decide +kernel
theorem d121_40 : ins 121 40 = some (.putfield 79) := by decide +kernel
theorem d121_43 : ins 121 43 = some (.return_) := by decide +kernel
set_option maxRecDepth 10000 in
theorem b121_0 {Q : Option Value → mm → Prop} (ρ : rm) (τ : Int64)  (hB : BM ρ)  : G 121 0 (some (.ref 51) :: []) [] (toM ρ τ) Q = G 121 2 (some (.ref 51) :: some (vI 0) :: []) [] (toM ρ τ) Q := by
  refine (j_iconst d121_0).trans ?_
  refine (g_istore_n d121_1 (by decide) rfl rfl).trans ?_
  rfl
set_option maxRecDepth 10000 in
theorem b121_2 {Q : Option Value → mm → Prop} (ρ : rm) (τ : Int64) (l1 : Int) (t : List (Option Value)) (hB : BM ρ) (h_l1 : SM l1) : G 121 2 (some (.ref 51) :: some (vI l1) :: t) [] (toM ρ τ) Q = (if 10 ≤ l1 then Q none (toM (rup (rup (rup ρ 51 3 0) 51 5 0) 51 7 0) τ) else (if 0 ≤ l1 ∧ l1 < 10 then (if 0 ≤ l1 ∧ l1 < 10 then G 121 2 (some (.ref 51) :: some (vI (l1 + 1)) :: t) [] (toM (rup (rup ρ 52 l1 1) 53 l1 1) τ) Q else False) else False)) := by
  refine (g_iload_n d121_2 rfl).trans ?_
  refine (j_bipush d121_3 (by decide)).trans ?_
  refine j_icmp_ge (tgt := 28) d121_5 (by decide) (by omega) (by omega) (fun q1 => ?_) (fun q1 => ?_)
  ·
    refine (g_aload_n d121_28 rfl rfl).trans ?_
    refine (j_iconst d121_29).trans ?_
    refine (j_putI d121_30 f10_76 sh_51 (by decide) rfl).trans ?_
    refine (g_aload_n d121_33 rfl rfl).trans ?_
    refine (j_iconst d121_34).trans ?_
    refine (j_putI d121_35 f10_73 sh_51 (by decide) rfl).trans ?_
    refine (g_aload_n d121_38 rfl rfl).trans ?_
    refine (j_iconst d121_39).trans ?_
    refine (j_putI d121_40 f10_79 sh_51 (by decide) rfl).trans ?_
    exact g_ret d121_43 rfl
  ·
    refine (g_aload_n d121_8 rfl rfl).trans ?_
    refine (g_getR (q := 52) d121_9 f10_13 sh_51 (by decide) rfl).trans ?_
    refine (g_iload_n d121_12 rfl).trans ?_
    refine (j_iconst d121_13).trans ?_
    refine j_iastore d121_14 sh_52 (by omega) (fun q2 => ?_)
    refine (g_aload_n d121_15 rfl rfl).trans ?_
    refine (g_getR (q := 53) d121_16 f10_17 sh_51 (by decide) rfl).trans ?_
    refine (g_iload_n d121_19 rfl).trans ?_
    refine (j_iconst d121_20).trans ?_
    refine j_iastore d121_21 sh_53 (by omega) (fun q3 => ?_)
    refine (j_iinc d121_22 rfl (by decide) rfl rfl).trans ?_
    refine (g_goto (tgt := 2) d121_25 (by decide)).trans ?_
    rfl
theorem d122_0 : ins 122 0 = some (.iconst 0) := by decide +kernel
theorem d122_1 : ins 122 1 = some (.istore_n 1) := by decide +kernel
theorem d122_2 : ins 122 2 = some (.iload_n 1) := by decide +kernel
theorem d122_3 : ins 122 3 = some (.aload_n 0) := by decide +kernel
theorem d122_4 : ins 122 4 = some (.getfield 7) := by decide +kernel
theorem d122_7 : ins 122 7 = some (.if_icmp .ge 79) := by decide +kernel
theorem d122_10 : ins 122 10 = some (.iconst 0) := by decide +kernel
theorem d122_11 : ins 122 11 = some (.istore_n 2) := by decide +kernel
theorem d122_12 : ins 122 12 = some (.iload_n 2) := by decide +kernel
theorem d122_13 : ins 122 13 = some (.aload_n 0) := by decide +kernel
theorem d122_14 : ins 122 14 = some (.getfield 7) := by decide +kernel
theorem d122_17 : ins 122 17 = some (.if_icmp .ge 63) := by decide +kernel
theorem d122_20 : ins 122 20 = some (.aload_n 0) := by decide +kernel
theorem d122_21 : ins 122 21 = some (.getfield 29) := by decide +kernel
theorem d122_24 : ins 122 24 = some (.bipush 10) := by decide +kernel
theorem d122_26 : ins 122 26 = some (.iload_n 1) := by decide +kernel
theorem d122_27 : ins 122 27 = some (.imul) := by decide +kernel
theorem d122_28 : ins 122 28 = some (.iload_n 2) := by decide +kernel
theorem d122_29 : ins 122 29 = some (.iadd) := by decide +kernel
theorem d122_30 : ins 122 30 = some (.iload_n 1) := by decide +kernel
theorem d122_31 : ins 122 31 = some (.iload_n 2) := by decide +kernel
theorem d122_32 : ins 122 32 = some (.if_icmp .ne 7) := by decide +kernel
theorem d122_35 : ins 122 35 = some (.iconst 0) := by decide +kernel
theorem d122_36 : ins 122 36 = some (.goto 37) := by decide +kernel
theorem d122_39 : ins 122 39 = some (.iload_n 2) := by decide +kernel
theorem d122_40 : ins 122 40 = some (.iload_n 1) := by decide +kernel
theorem d122_41 : ins 122 41 = some (.iconst 1) := by decide +kernel
theorem d122_42 : ins 122 42 = some (.iadd) := by decide +kernel
theorem d122_43 : ins 122 43 = some (.if_icmp .ne 12) := by decide +kernel
theorem d122_46 : ins 122 46 = some (.aload_n 0) := by decide +kernel
theorem d122_47 : ins 122 47 = some (.getfield 17) := by decide +kernel
theorem d122_50 : ins 122 50 = some (.iload_n 1) := by decide +kernel
theorem d122_51 : ins 122 51 = some (.iaload) := by decide +kernel
theorem d122_52 : ins 122 52 = some (.goto 21) := by decide +kernel
theorem d122_55 : ins 122 55 = some (.iload_n 1) := by decide +kernel
theorem d122_56 : ins 122 56 = some (.iload_n 2) := by decide +kernel
theorem d122_57 : ins 122 57 = some (.iconst 1) := by decide +kernel
theorem d122_58 : ins 122 58 = some (.iadd) := by decide +kernel
theorem d122_59 : ins 122 59 = some (.if_icmp .ne 12) := by decide +kernel
theorem d122_62 : ins 122 62 = some (.aload_n 0) := by decide +kernel
theorem d122_63 : ins 122 63 = some (.getfield 17) := by decide +kernel
theorem d122_66 : ins 122 66 = some (.iload_n 2) := by decide +kernel
theorem d122_67 : ins 122 67 = some (.iaload) := by decide +kernel
theorem d122_68 : ins 122 68 = some (.goto 5) := by decide +kernel
theorem d122_71 : ins 122 71 = some (.ldc 82) := by decide +kernel
theorem d122_73 : ins 122 73 = some (.iastore) := by decide +kernel
theorem d122_74 : ins 122 74 = some (.iinc 2 1) := by decide +kernel
theorem d122_77 : ins 122 77 = some (.goto (-65)) := by decide +kernel
theorem d122_80 : ins 122 80 = some (.iinc 1 1) := by decide +kernel
theorem d122_83 : ins 122 83 = some (.goto (-81)) := by decide +kernel
theorem d122_86 : ins 122 86 = some (.iconst 0) := by decide +kernel
theorem d122_87 : ins 122 87 = some (.istore_n 1) := by decide +kernel
theorem d122_88 : ins 122 88 = some (.iload_n 1) := by decide +kernel
theorem d122_89 : ins 122 89 = some (.aload_n 0) := by decide +kernel
theorem d122_90 : ins 122 90 = some (.getfield 76) := by decide +kernel
theorem d122_93 : ins 122 93 = some (.if_icmp .ge 105) := by decide +kernel
theorem d122_96 : ins 122 96 = some (.aload_n 0) := by decide +kernel
theorem d122_97 : ins 122 97 = some (.getfield 20) := by decide +kernel
theorem d122_100 : ins 122 100 = some (.iconst 3) := by decide +kernel
theorem d122_101 : ins 122 101 = some (.iload_n 1) := by decide +kernel
theorem d122_102 : ins 122 102 = some (.imul) := by decide +kernel
theorem d122_103 : ins 122 103 = some (.iaload) := by decide +kernel
theorem d122_104 : ins 122 104 = some (.istore_n 2) := by decide +kernel
theorem d122_105 : ins 122 105 = some (.aload_n 0) := by decide +kernel
theorem d122_106 : ins 122 106 = some (.getfield 20) := by decide +kernel
theorem d122_109 : ins 122 109 = some (.iconst 3) := by decide +kernel
theorem d122_110 : ins 122 110 = some (.iload_n 1) := by decide +kernel
theorem d122_111 : ins 122 111 = some (.imul) := by decide +kernel
theorem d122_112 : ins 122 112 = some (.iconst 1) := by decide +kernel
theorem d122_113 : ins 122 113 = some (.iadd) := by decide +kernel
theorem d122_114 : ins 122 114 = some (.iaload) := by decide +kernel
theorem d122_115 : ins 122 115 = some (.istore_n 3) := by decide +kernel
theorem d122_116 : ins 122 116 = some (.aload_n 0) := by decide +kernel
theorem d122_117 : ins 122 117 = some (.getfield 20) := by decide +kernel
theorem d122_120 : ins 122 120 = some (.iconst 3) := by decide +kernel
theorem d122_121 : ins 122 121 = some (.iload_n 1) := by decide +kernel
theorem d122_122 : ins 122 122 = some (.imul) := by decide +kernel
theorem d122_123 : ins 122 123 = some (.iconst 2) := by decide +kernel
theorem d122_124 : ins 122 124 = some (.iadd) := by decide +kernel
theorem d122_125 : ins 122 125 = some (.iaload) := by decide +kernel
theorem d122_126 : ins 122 126 = some (.aload_n 0) := by decide +kernel
theorem d122_127 : ins 122 127 = some (.getfield 29) := by decide +kernel
theorem d122_130 : ins 122 130 = some (.bipush 10) := by decide +kernel
theorem d122_132 : ins 122 132 = some (.iload_n 2) := by decide +kernel
theorem d122_133 : ins 122 133 = some (.imul) := by decide +kernel
theorem d122_134 : ins 122 134 = some (.iload_n 3) := by decide +kernel
theorem d122_135 : ins 122 135 = some (.iadd) := by decide +kernel
theorem d122_136 : ins 122 136 = some (.iaload) := by decide +kernel
theorem d122_137 : ins 122 137 = some (.if_icmp .ge 16) := by decide +kernel
theorem d122_140 : ins 122 140 = some (.aload_n 0) := by decide +kernel
theorem d122_141 : ins 122 141 = some (.getfield 20) := by decide +kernel
theorem d122_144 : ins 122 144 = some (.iconst 3) := by decide +kernel
theorem d122_145 : ins 122 145 = some (.iload_n 1) := by decide +kernel
theorem d122_146 : ins 122 146 = some (.imul) := by decide +kernel
theorem d122_147 : ins 122 147 = some (.iconst 2) := by decide +kernel
theorem d122_148 : ins 122 148 = some (.iadd) := by decide +kernel
theorem d122_149 : ins 122 149 = some (.iaload) := by decide +kernel
theorem d122_150 : ins 122 150 = some (.goto 14) := by decide +kernel
theorem d122_153 : ins 122 153 = some (.aload_n 0) := by decide +kernel
theorem d122_154 : ins 122 154 = some (.getfield 29) := by decide +kernel
theorem d122_157 : ins 122 157 = some (.bipush 10) := by decide +kernel
theorem d122_159 : ins 122 159 = some (.iload_n 2) := by decide +kernel
theorem d122_160 : ins 122 160 = some (.imul) := by decide +kernel
theorem d122_161 : ins 122 161 = some (.iload_n 3) := by decide +kernel
theorem d122_162 : ins 122 162 = some (.iadd) := by decide +kernel
theorem d122_163 : ins 122 163 = some (.iaload) := by decide +kernel
theorem d122_164 : ins 122 164 = some (.istore 4) := by decide +kernel
theorem d122_166 : ins 122 166 = some (.aload_n 0) := by decide +kernel
theorem d122_167 : ins 122 167 = some (.getfield 29) := by decide +kernel
theorem d122_170 : ins 122 170 = some (.bipush 10) := by decide +kernel
theorem d122_172 : ins 122 172 = some (.iload_n 2) := by decide +kernel
theorem d122_173 : ins 122 173 = some (.imul) := by decide +kernel
theorem d122_174 : ins 122 174 = some (.iload_n 3) := by decide +kernel
theorem d122_175 : ins 122 175 = some (.iadd) := by decide +kernel
theorem d122_176 : ins 122 176 = some (.iload 4) := by decide +kernel
theorem d122_178 : ins 122 178 = some (.iastore) := by decide +kernel
theorem d122_179 : ins 122 179 = some (.aload_n 0) := by decide +kernel
theorem d122_180 : ins 122 180 = some (.getfield 29) := by decide +kernel
theorem d122_183 : ins 122 183 = some (.bipush 10) := by decide +kernel
theorem d122_185 : ins 122 185 = some (.iload_n 3) := by decide +kernel
theorem d122_186 : ins 122 186 = some (.imul) := by decide +kernel
theorem d122_187 : ins 122 187 = some (.iload_n 2) := by decide +kernel
theorem d122_188 : ins 122 188 = some (.iadd) := by decide +kernel
theorem d122_189 : ins 122 189 = some (.iload 4) := by decide +kernel
theorem d122_191 : ins 122 191 = some (.iastore) := by decide +kernel
theorem d122_192 : ins 122 192 = some (.iinc 1 1) := by decide +kernel
theorem d122_195 : ins 122 195 = some (.goto (-107)) := by decide +kernel
theorem d122_198 : ins 122 198 = some (.iconst 0) := by decide +kernel
theorem d122_199 : ins 122 199 = some (.istore_n 1) := by decide +kernel
theorem d122_200 : ins 122 200 = some (.iload_n 1) := by decide +kernel
theorem d122_201 : ins 122 201 = some (.aload_n 0) := by decide +kernel
theorem d122_202 : ins 122 202 = some (.getfield 7) := by decide +kernel
theorem d122_205 : ins 122 205 = some (.if_icmp .ge 109) := by decide +kernel
theorem d122_208 : ins 122 208 = some (.iconst 0) := by decide +kernel
theorem d122_209 : ins 122 209 = some (.istore_n 2) := by decide +kernel
theorem d122_210 : ins 122 210 = some (.iload_n 2) := by decide +kernel
theorem d122_211 : ins 122 211 = some (.aload_n 0) := by decide +kernel
theorem d122_212 : ins 122 212 = some (.getfield 7) := by decide +kernel
theorem d122_215 : ins 122 215 = some (.if_icmp .ge 93) := by decide +kernel
theorem d122_218 : ins 122 218 = some (.iconst 0) := by decide +kernel
theorem d122_219 : ins 122 219 = some (.istore_n 3) := by decide +kernel
theorem d122_220 : ins 122 220 = some (.iload_n 3) := by decide +kernel
theorem d122_221 : ins 122 221 = some (.aload_n 0) := by decide +kernel
theorem d122_222 : ins 122 222 = some (.getfield 7) := by decide +kernel
theorem d122_225 : ins 122 225 = some (.if_icmp .ge 77) := by decide +kernel
theorem d122_228 : ins 122 228 = some (.aload_n 0) := by decide +kernel
theorem d122_229 : ins 122 229 = some (.getfield 29) := by decide +kernel
theorem d122_232 : ins 122 232 = some (.bipush 10) := by decide +kernel
theorem d122_234 : ins 122 234 = some (.iload_n 2) := by decide +kernel
theorem d122_235 : ins 122 235 = some (.imul) := by decide +kernel
theorem d122_236 : ins 122 236 = some (.iload_n 1) := by decide +kernel
theorem d122_237 : ins 122 237 = some (.iadd) := by decide +kernel
theorem d122_238 : ins 122 238 = some (.iaload) := by decide +kernel
theorem d122_239 : ins 122 239 = some (.aload_n 0) := by decide +kernel
theorem d122_240 : ins 122 240 = some (.getfield 29) := by decide +kernel
theorem d122_243 : ins 122 243 = some (.bipush 10) := by decide +kernel
theorem d122_245 : ins 122 245 = some (.iload_n 1) := by decide +kernel
theorem d122_246 : ins 122 246 = some (.imul) := by decide +kernel
theorem d122_247 : ins 122 247 = some (.iload_n 3) := by decide +kernel
theorem d122_248 : ins 122 248 = some (.iadd) := by decide +kernel
theorem d122_249 : ins 122 249 = some (.iaload) := by decide +kernel
theorem d122_250 : ins 122 250 = some (.iadd) := by decide +kernel
theorem d122_251 : ins 122 251 = some (.istore 4) := by decide +kernel
theorem d122_253 : ins 122 253 = some (.aload_n 0) := by decide +kernel
theorem d122_254 : ins 122 254 = some (.getfield 29) := by decide +kernel
theorem d122_257 : ins 122 257 = some (.bipush 10) := by decide +kernel
theorem d122_259 : ins 122 259 = some (.iload_n 2) := by decide +kernel
theorem d122_260 : ins 122 260 = some (.imul) := by decide +kernel
theorem d122_261 : ins 122 261 = some (.iload_n 3) := by decide +kernel
theorem d122_262 : ins 122 262 = some (.iadd) := by decide +kernel
theorem d122_263 : ins 122 263 = some (.iload 4) := by decide +kernel
theorem d122_265 : ins 122 265 = some (.aload_n 0) := by decide +kernel
theorem d122_266 : ins 122 266 = some (.getfield 29) := by decide +kernel
theorem d122_269 : ins 122 269 = some (.bipush 10) := by decide +kernel
theorem d122_271 : ins 122 271 = some (.iload_n 2) := by decide +kernel
theorem d122_272 : ins 122 272 = some (.imul) := by decide +kernel
theorem d122_273 : ins 122 273 = some (.iload_n 3) := by decide +kernel
theorem d122_274 : ins 122 274 = some (.iadd) := by decide +kernel
theorem d122_275 : ins 122 275 = some (.iaload) := by decide +kernel
theorem d122_276 : ins 122 276 = some (.if_icmp .ge 8) := by decide +kernel
theorem d122_279 : ins 122 279 = some (.iload 4) := by decide +kernel
theorem d122_281 : ins 122 281 = some (.goto 14) := by decide +kernel
theorem d122_284 : ins 122 284 = some (.aload_n 0) := by decide +kernel
theorem d122_285 : ins 122 285 = some (.getfield 29) := by decide +kernel
theorem d122_288 : ins 122 288 = some (.bipush 10) := by decide +kernel
theorem d122_290 : ins 122 290 = some (.iload_n 2) := by decide +kernel
theorem d122_291 : ins 122 291 = some (.imul) := by decide +kernel
theorem d122_292 : ins 122 292 = some (.iload_n 3) := by decide +kernel
theorem d122_293 : ins 122 293 = some (.iadd) := by decide +kernel
theorem d122_294 : ins 122 294 = some (.iaload) := by decide +kernel
theorem d122_295 : ins 122 295 = some (.iastore) := by decide +kernel
theorem d122_296 : ins 122 296 = some (.iinc 3 1) := by decide +kernel
theorem d122_299 : ins 122 299 = some (.goto (-79)) := by decide +kernel
theorem d122_302 : ins 122 302 = some (.iinc 2 1) := by decide +kernel
theorem d122_305 : ins 122 305 = some (.goto (-95)) := by decide +kernel
theorem d122_308 : ins 122 308 = some (.iinc 1 1) := by decide +kernel
theorem d122_311 : ins 122 311 = some (.goto (-111)) := by decide +kernel
theorem d122_314 : ins 122 314 = some (.return_) := by decide +kernel
set_option maxRecDepth 10000 in
theorem b122_0 {Q : Option Value → mm → Prop} (ρ : rm) (τ : Int64)  (hB : BM ρ)  : G 122 0 (some (.ref 51) :: []) [] (toM ρ τ) Q = G 122 2 (some (.ref 51) :: some (vI 0) :: []) [] (toM ρ τ) Q := by
  refine (j_iconst d122_0).trans ?_
  refine (g_istore_n d122_1 (by decide) rfl rfl).trans ?_
  rfl
set_option maxRecDepth 10000 in
theorem b122_2 {Q : Option Value → mm → Prop} (ρ : rm) (τ : Int64) (l1 : Int) (t : List (Option Value)) (hB : BM ρ) (h_l1 : SM l1) : G 122 2 (some (.ref 51) :: some (vI l1) :: t) [] (toM ρ τ) Q = (if (ρ 51 0) ≤ l1 then G 122 88 (some (.ref 51) :: some (vI 0) :: t) [] (toM ρ τ) Q else G 122 12 (some (.ref 51) :: some (vI l1) :: some (vI 0) :: t.tail) [] (toM ρ τ) Q) := by
  refine (g_iload_n d122_2 rfl).trans ?_
  refine (g_aload_n d122_3 rfl rfl).trans ?_
  refine (j_getI (v := ρ 51 0) d122_4 f10_7 sh_51 (by decide) rfl rfl).trans ?_
  have q1 := hB 51 0 (by decide)
  refine j_icmp_ge (tgt := 86) d122_7 (by decide) (by omega) (by omega) (fun q2 => ?_) (fun q2 => ?_)
  ·
    refine (j_iconst d122_86).trans ?_
    refine (g_istore_n d122_87 (by decide) rfl rfl).trans ?_
    rfl
  ·
    refine (j_iconst d122_10).trans ?_
    refine (g_istore_n d122_11 (by decide) rfl rfl).trans ?_
    rfl
set_option maxRecDepth 10000 in
theorem b122_88 {Q : Option Value → mm → Prop} (ρ : rm) (τ : Int64) (l1 : Int) (t : List (Option Value)) (hB : BM ρ) (h_l1 : SM l1) : G 122 88 (some (.ref 51) :: some (vI l1) :: t) [] (toM ρ τ) Q = (if (ρ 51 3) ≤ l1 then G 122 200 (some (.ref 51) :: some (vI 0) :: t) [] (toM ρ τ) Q else (if 0 ≤ (3 * l1) ∧ (3 * l1) < 24 then (if 0 ≤ ((3 * l1) + 1) ∧ ((3 * l1) + 1) < 24 then (if 0 ≤ ((3 * l1) + 2) ∧ ((3 * l1) + 2) < 24 then (if 0 ≤ ((10 * (ρ 54 (3 * l1))) + (ρ 54 ((3 * l1) + 1))) ∧ ((10 * (ρ 54 (3 * l1))) + (ρ 54 ((3 * l1) + 1))) < 100 then (if (ρ 57 ((10 * (ρ 54 (3 * l1))) + (ρ 54 ((3 * l1) + 1)))) ≤ (ρ 54 ((3 * l1) + 2)) then (if 0 ≤ ((10 * (ρ 54 (3 * l1))) + (ρ 54 ((3 * l1) + 1))) ∧ ((10 * (ρ 54 (3 * l1))) + (ρ 54 ((3 * l1) + 1))) < 100 then (if 0 ≤ ((10 * (ρ 54 (3 * l1))) + (ρ 54 ((3 * l1) + 1))) ∧ ((10 * (ρ 54 (3 * l1))) + (ρ 54 ((3 * l1) + 1))) < 100 then (if 0 ≤ ((10 * (ρ 54 ((3 * l1) + 1))) + (ρ 54 (3 * l1))) ∧ ((10 * (ρ 54 ((3 * l1) + 1))) + (ρ 54 (3 * l1))) < 100 then G 122 88 (some (.ref 51) :: some (vI (l1 + 1)) :: some (vI (ρ 54 (3 * l1))) :: some (vI (ρ 54 ((3 * l1) + 1))) :: some (vI (ρ 57 ((10 * (ρ 54 (3 * l1))) + (ρ 54 ((3 * l1) + 1))))) :: t.tail.tail.tail) [] (toM (rup (rup ρ 57 ((10 * (ρ 54 (3 * l1))) + (ρ 54 ((3 * l1) + 1))) (ρ 57 ((10 * (ρ 54 (3 * l1))) + (ρ 54 ((3 * l1) + 1))))) 57 ((10 * (ρ 54 ((3 * l1) + 1))) + (ρ 54 (3 * l1))) (ρ 57 ((10 * (ρ 54 (3 * l1))) + (ρ 54 ((3 * l1) + 1))))) τ) Q else False) else False) else False) else (if 0 ≤ ((3 * l1) + 2) ∧ ((3 * l1) + 2) < 24 then (if 0 ≤ ((10 * (ρ 54 (3 * l1))) + (ρ 54 ((3 * l1) + 1))) ∧ ((10 * (ρ 54 (3 * l1))) + (ρ 54 ((3 * l1) + 1))) < 100 then (if 0 ≤ ((10 * (ρ 54 ((3 * l1) + 1))) + (ρ 54 (3 * l1))) ∧ ((10 * (ρ 54 ((3 * l1) + 1))) + (ρ 54 (3 * l1))) < 100 then G 122 88 (some (.ref 51) :: some (vI (l1 + 1)) :: some (vI (ρ 54 (3 * l1))) :: some (vI (ρ 54 ((3 * l1) + 1))) :: some (vI (ρ 54 ((3 * l1) + 2))) :: t.tail.tail.tail) [] (toM (rup (rup ρ 57 ((10 * (ρ 54 (3 * l1))) + (ρ 54 ((3 * l1) + 1))) (ρ 54 ((3 * l1) + 2))) 57 ((10 * (ρ 54 ((3 * l1) + 1))) + (ρ 54 (3 * l1))) (ρ 54 ((3 * l1) + 2))) τ) Q else False) else False) else False)) else False) else False) else False) else False)) := by
  refine (g_iload_n d122_88 rfl).trans ?_
  refine (g_aload_n d122_89 rfl rfl).trans ?_
  refine (j_getI (v := ρ 51 3) d122_90 f10_76 sh_51 (by decide) rfl rfl).trans ?_
  have q1 := hB 51 3 (by decide)
  refine j_icmp_ge (tgt := 198) d122_93 (by decide) (by omega) (by omega) (fun q2 => ?_) (fun q2 => ?_)
  ·
    refine (j_iconst d122_198).trans ?_
    refine (g_istore_n d122_199 (by decide) rfl rfl).trans ?_
    rfl
  ·
    refine (g_aload_n d122_96 rfl rfl).trans ?_
    refine (g_getR (q := 54) d122_97 f10_20 sh_51 (by decide) rfl).trans ?_
    refine (j_iconst d122_100).trans ?_
    refine (g_iload_n d122_101 rfl).trans ?_
    refine (j_imul d122_102).trans ?_
    refine j_iaload (v := ρ 54 (3 * l1)) d122_103 sh_54 (by omega) rfl (fun q3 => ?_)
    have q4 := hB 54 (3 * l1) (by omega)
    refine (g_istore_n d122_104 (by decide) rfl rfl).trans ?_
    refine (g_aload_n d122_105 rfl rfl).trans ?_
    refine (g_getR (q := 54) d122_106 f10_20 sh_51 (by decide) rfl).trans ?_
    refine (j_iconst d122_109).trans ?_
    refine (g_iload_n d122_110 rfl).trans ?_
    refine (j_imul d122_111).trans ?_
    refine (j_iconst d122_112).trans ?_
    refine (j_iadd d122_113).trans ?_
    refine j_iaload (v := ρ 54 ((3 * l1) + 1)) d122_114 sh_54 (by omega) rfl (fun q5 => ?_)
    have q6 := hB 54 ((3 * l1) + 1) (by omega)
    refine (g_istore_n d122_115 (by decide) rfl rfl).trans ?_
    refine (g_aload_n d122_116 rfl rfl).trans ?_
    refine (g_getR (q := 54) d122_117 f10_20 sh_51 (by decide) rfl).trans ?_
    refine (j_iconst d122_120).trans ?_
    refine (g_iload_n d122_121 rfl).trans ?_
    refine (j_imul d122_122).trans ?_
    refine (j_iconst d122_123).trans ?_
    refine (j_iadd d122_124).trans ?_
    refine j_iaload (v := ρ 54 ((3 * l1) + 2)) d122_125 sh_54 (by omega) rfl (fun q7 => ?_)
    have q8 := hB 54 ((3 * l1) + 2) (by omega)
    refine (g_aload_n d122_126 rfl rfl).trans ?_
    refine (g_getR (q := 57) d122_127 f10_29 sh_51 (by decide) rfl).trans ?_
    refine (j_bipush d122_130 (by decide)).trans ?_
    refine (g_iload_n d122_132 rfl).trans ?_
    refine (j_imul d122_133).trans ?_
    refine (g_iload_n d122_134 rfl).trans ?_
    refine (j_iadd d122_135).trans ?_
    refine j_iaload (v := ρ 57 ((10 * (ρ 54 (3 * l1))) + (ρ 54 ((3 * l1) + 1)))) d122_136 sh_57 (by omega) rfl (fun q9 => ?_)
    have q10 := hB 57 ((10 * (ρ 54 (3 * l1))) + (ρ 54 ((3 * l1) + 1))) (by omega)
    refine j_icmp_ge (tgt := 153) d122_137 (by decide) (by omega) (by omega) (fun q11 => ?_) (fun q11 => ?_)
    ·
      refine (g_aload_n d122_153 rfl rfl).trans ?_
      refine (g_getR (q := 57) d122_154 f10_29 sh_51 (by decide) rfl).trans ?_
      refine (j_bipush d122_157 (by decide)).trans ?_
      refine (g_iload_n d122_159 rfl).trans ?_
      refine (j_imul d122_160).trans ?_
      refine (g_iload_n d122_161 rfl).trans ?_
      refine (j_iadd d122_162).trans ?_
      refine j_iaload (v := ρ 57 ((10 * (ρ 54 (3 * l1))) + (ρ 54 ((3 * l1) + 1)))) d122_163 sh_57 (by omega) rfl (fun q12 => ?_)
      refine (g_istore d122_164 (by decide) rfl rfl).trans ?_
      refine (g_aload_n d122_166 rfl rfl).trans ?_
      refine (g_getR (q := 57) d122_167 f10_29 sh_51 (by decide) rfl).trans ?_
      refine (j_bipush d122_170 (by decide)).trans ?_
      refine (g_iload_n d122_172 rfl).trans ?_
      refine (j_imul d122_173).trans ?_
      refine (g_iload_n d122_174 rfl).trans ?_
      refine (j_iadd d122_175).trans ?_
      refine (g_iload d122_176 rfl).trans ?_
      refine j_iastore d122_178 sh_57 (by omega) (fun q13 => ?_)
      refine (g_aload_n d122_179 rfl rfl).trans ?_
      refine (g_getR (q := 57) d122_180 f10_29 sh_51 (by decide) rfl).trans ?_
      refine (j_bipush d122_183 (by decide)).trans ?_
      refine (g_iload_n d122_185 rfl).trans ?_
      refine (j_imul d122_186).trans ?_
      refine (g_iload_n d122_187 rfl).trans ?_
      refine (j_iadd d122_188).trans ?_
      refine (g_iload d122_189 rfl).trans ?_
      refine j_iastore d122_191 sh_57 (by omega) (fun q14 => ?_)
      refine (j_iinc d122_192 rfl (by decide) rfl rfl).trans ?_
      refine (g_goto (tgt := 88) d122_195 (by decide)).trans ?_
      rfl
    ·
      refine (g_aload_n d122_140 rfl rfl).trans ?_
      refine (g_getR (q := 54) d122_141 f10_20 sh_51 (by decide) rfl).trans ?_
      refine (j_iconst d122_144).trans ?_
      refine (g_iload_n d122_145 rfl).trans ?_
      refine (j_imul d122_146).trans ?_
      refine (j_iconst d122_147).trans ?_
      refine (j_iadd d122_148).trans ?_
      refine j_iaload (v := ρ 54 ((3 * l1) + 2)) d122_149 sh_54 (by omega) rfl (fun q15 => ?_)
      refine (g_goto (tgt := 164) d122_150 (by decide)).trans ?_
      refine (g_istore d122_164 (by decide) rfl rfl).trans ?_
      refine (g_aload_n d122_166 rfl rfl).trans ?_
      refine (g_getR (q := 57) d122_167 f10_29 sh_51 (by decide) rfl).trans ?_
      refine (j_bipush d122_170 (by decide)).trans ?_
      refine (g_iload_n d122_172 rfl).trans ?_
      refine (j_imul d122_173).trans ?_
      refine (g_iload_n d122_174 rfl).trans ?_
      refine (j_iadd d122_175).trans ?_
      refine (g_iload d122_176 rfl).trans ?_
      refine j_iastore d122_178 sh_57 (by omega) (fun q16 => ?_)
      refine (g_aload_n d122_179 rfl rfl).trans ?_
      refine (g_getR (q := 57) d122_180 f10_29 sh_51 (by decide) rfl).trans ?_
      refine (j_bipush d122_183 (by decide)).trans ?_
      refine (g_iload_n d122_185 rfl).trans ?_
      refine (j_imul d122_186).trans ?_
      refine (g_iload_n d122_187 rfl).trans ?_
      refine (j_iadd d122_188).trans ?_
      refine (g_iload d122_189 rfl).trans ?_
      refine j_iastore d122_191 sh_57 (by omega) (fun q17 => ?_)
      refine (j_iinc d122_192 rfl (by decide) rfl rfl).trans ?_
      refine (g_goto (tgt := 88) d122_195 (by decide)).trans ?_
      rfl
set_option maxRecDepth 10000 in
theorem b122_12 {Q : Option Value → mm → Prop} (ρ : rm) (τ : Int64) (l1 : Int) (l2 : Int) (t : List (Option Value)) (hB : BM ρ) (h_l1 : SM l1) (h_l2 : SM l2) : G 122 12 (some (.ref 51) :: some (vI l1) :: some (vI l2) :: t) [] (toM ρ τ) Q = (if (ρ 51 0) ≤ l2 then G 122 2 (some (.ref 51) :: some (vI (l1 + 1)) :: some (vI l2) :: t) [] (toM ρ τ) Q else (if l1 = l2 then (if 0 ≤ ((10 * l1) + l2) ∧ ((10 * l1) + l2) < 100 then G 122 12 (some (.ref 51) :: some (vI l1) :: some (vI (l2 + 1)) :: t) [] (toM (rup ρ 57 ((10 * l1) + l2) 0) τ) Q else False) else (if l2 = (l1 + 1) then (if 0 ≤ l1 ∧ l1 < 10 then (if 0 ≤ ((10 * l1) + l2) ∧ ((10 * l1) + l2) < 100 then G 122 12 (some (.ref 51) :: some (vI l1) :: some (vI (l2 + 1)) :: t) [] (toM (rup ρ 57 ((10 * l1) + l2) (ρ 53 l1)) τ) Q else False) else False) else (if l1 = (l2 + 1) then (if 0 ≤ l2 ∧ l2 < 10 then (if 0 ≤ ((10 * l1) + l2) ∧ ((10 * l1) + l2) < 100 then G 122 12 (some (.ref 51) :: some (vI l1) :: some (vI (l2 + 1)) :: t) [] (toM (rup ρ 57 ((10 * l1) + l2) (ρ 53 l2)) τ) Q else False) else False) else (if 0 ≤ ((10 * l1) + l2) ∧ ((10 * l1) + l2) < 100 then G 122 12 (some (.ref 51) :: some (vI l1) :: some (vI (l2 + 1)) :: t) [] (toM (rup ρ 57 ((10 * l1) + l2) 100000) τ) Q else False))))) := by
  refine (g_iload_n d122_12 rfl).trans ?_
  refine (g_aload_n d122_13 rfl rfl).trans ?_
  refine (j_getI (v := ρ 51 0) d122_14 f10_7 sh_51 (by decide) rfl rfl).trans ?_
  have q1 := hB 51 0 (by decide)
  refine j_icmp_ge (tgt := 80) d122_17 (by decide) (by omega) (by omega) (fun q2 => ?_) (fun q2 => ?_)
  ·
    refine (j_iinc d122_80 rfl (by decide) rfl rfl).trans ?_
    refine (g_goto (tgt := 2) d122_83 (by decide)).trans ?_
    rfl
  ·
    refine (g_aload_n d122_20 rfl rfl).trans ?_
    refine (g_getR (q := 57) d122_21 f10_29 sh_51 (by decide) rfl).trans ?_
    refine (j_bipush d122_24 (by decide)).trans ?_
    refine (g_iload_n d122_26 rfl).trans ?_
    refine (j_imul d122_27).trans ?_
    refine (g_iload_n d122_28 rfl).trans ?_
    refine (j_iadd d122_29).trans ?_
    refine (g_iload_n d122_30 rfl).trans ?_
    refine (g_iload_n d122_31 rfl).trans ?_
    refine j_icmp_ne (tgt := 39) d122_32 (by decide) (by omega) (by omega) (fun q3 => ?_) (fun q3 => ?_)
    ·
      refine (j_iconst d122_35).trans ?_
      refine (g_goto (tgt := 73) d122_36 (by decide)).trans ?_
      refine j_iastore d122_73 sh_57 (by omega) (fun q4 => ?_)
      refine (j_iinc d122_74 rfl (by decide) rfl rfl).trans ?_
      refine (g_goto (tgt := 12) d122_77 (by decide)).trans ?_
      rfl
    ·
      refine (g_iload_n d122_39 rfl).trans ?_
      refine (g_iload_n d122_40 rfl).trans ?_
      refine (j_iconst d122_41).trans ?_
      refine (j_iadd d122_42).trans ?_
      refine j_icmp_ne (tgt := 55) d122_43 (by decide) (by omega) (by omega) (fun q5 => ?_) (fun q5 => ?_)
      ·
        refine (g_aload_n d122_46 rfl rfl).trans ?_
        refine (g_getR (q := 53) d122_47 f10_17 sh_51 (by decide) rfl).trans ?_
        refine (g_iload_n d122_50 rfl).trans ?_
        refine j_iaload (v := ρ 53 l1) d122_51 sh_53 (by omega) rfl (fun q6 => ?_)
        have q7 := hB 53 l1 (by omega)
        refine (g_goto (tgt := 73) d122_52 (by decide)).trans ?_
        refine j_iastore d122_73 sh_57 (by omega) (fun q8 => ?_)
        refine (j_iinc d122_74 rfl (by decide) rfl rfl).trans ?_
        refine (g_goto (tgt := 12) d122_77 (by decide)).trans ?_
        rfl
      ·
        refine (g_iload_n d122_55 rfl).trans ?_
        refine (g_iload_n d122_56 rfl).trans ?_
        refine (j_iconst d122_57).trans ?_
        refine (j_iadd d122_58).trans ?_
        refine j_icmp_ne (tgt := 71) d122_59 (by decide) (by omega) (by omega) (fun q9 => ?_) (fun q9 => ?_)
        ·
          refine (g_aload_n d122_62 rfl rfl).trans ?_
          refine (g_getR (q := 53) d122_63 f10_17 sh_51 (by decide) rfl).trans ?_
          refine (g_iload_n d122_66 rfl).trans ?_
          refine j_iaload (v := ρ 53 l2) d122_67 sh_53 (by omega) rfl (fun q10 => ?_)
          have q11 := hB 53 l2 (by omega)
          refine (g_goto (tgt := 73) d122_68 (by decide)).trans ?_
          refine j_iastore d122_73 sh_57 (by omega) (fun q12 => ?_)
          refine (j_iinc d122_74 rfl (by decide) rfl rfl).trans ?_
          refine (g_goto (tgt := 12) d122_77 (by decide)).trans ?_
          rfl
        ·
          refine (j_ldc (n := 100000) d122_71 cs10_82 (by decide)).trans ?_
          refine j_iastore d122_73 sh_57 (by omega) (fun q13 => ?_)
          refine (j_iinc d122_74 rfl (by decide) rfl rfl).trans ?_
          refine (g_goto (tgt := 12) d122_77 (by decide)).trans ?_
          rfl
set_option maxRecDepth 10000 in
theorem b122_200 {Q : Option Value → mm → Prop} (ρ : rm) (τ : Int64) (l1 : Int) (t : List (Option Value)) (hB : BM ρ) (h_l1 : SM l1) : G 122 200 (some (.ref 51) :: some (vI l1) :: t) [] (toM ρ τ) Q = (if (ρ 51 0) ≤ l1 then Q none (toM ρ τ) else G 122 210 (some (.ref 51) :: some (vI l1) :: some (vI 0) :: t.tail) [] (toM ρ τ) Q) := by
  refine (g_iload_n d122_200 rfl).trans ?_
  refine (g_aload_n d122_201 rfl rfl).trans ?_
  refine (j_getI (v := ρ 51 0) d122_202 f10_7 sh_51 (by decide) rfl rfl).trans ?_
  have q1 := hB 51 0 (by decide)
  refine j_icmp_ge (tgt := 314) d122_205 (by decide) (by omega) (by omega) (fun q2 => ?_) (fun q2 => ?_)
  ·
    exact g_ret d122_314 rfl
  ·
    refine (j_iconst d122_208).trans ?_
    refine (g_istore_n d122_209 (by decide) rfl rfl).trans ?_
    rfl
set_option maxRecDepth 10000 in
theorem b122_210 {Q : Option Value → mm → Prop} (ρ : rm) (τ : Int64) (l1 : Int) (l2 : Int) (t : List (Option Value)) (hB : BM ρ) (h_l1 : SM l1) (h_l2 : SM l2) : G 122 210 (some (.ref 51) :: some (vI l1) :: some (vI l2) :: t) [] (toM ρ τ) Q = (if (ρ 51 0) ≤ l2 then G 122 200 (some (.ref 51) :: some (vI (l1 + 1)) :: some (vI l2) :: t) [] (toM ρ τ) Q else G 122 220 (some (.ref 51) :: some (vI l1) :: some (vI l2) :: some (vI 0) :: t.tail) [] (toM ρ τ) Q) := by
  refine (g_iload_n d122_210 rfl).trans ?_
  refine (g_aload_n d122_211 rfl rfl).trans ?_
  refine (j_getI (v := ρ 51 0) d122_212 f10_7 sh_51 (by decide) rfl rfl).trans ?_
  have q1 := hB 51 0 (by decide)
  refine j_icmp_ge (tgt := 308) d122_215 (by decide) (by omega) (by omega) (fun q2 => ?_) (fun q2 => ?_)
  ·
    refine (j_iinc d122_308 rfl (by decide) rfl rfl).trans ?_
    refine (g_goto (tgt := 200) d122_311 (by decide)).trans ?_
    rfl
  ·
    refine (j_iconst d122_218).trans ?_
    refine (g_istore_n d122_219 (by decide) rfl rfl).trans ?_
    rfl
set_option maxRecDepth 10000 in
theorem b122_220 {Q : Option Value → mm → Prop} (ρ : rm) (τ : Int64) (l1 : Int) (l2 : Int) (l3 : Int) (t : List (Option Value)) (hB : BM ρ) (h_l1 : SM l1) (h_l2 : SM l2) (h_l3 : SM l3) : G 122 220 (some (.ref 51) :: some (vI l1) :: some (vI l2) :: some (vI l3) :: t) [] (toM ρ τ) Q = (if (ρ 51 0) ≤ l3 then G 122 210 (some (.ref 51) :: some (vI l1) :: some (vI (l2 + 1)) :: some (vI l3) :: t) [] (toM ρ τ) Q else (if 0 ≤ ((10 * l2) + l1) ∧ ((10 * l2) + l1) < 100 then (if 0 ≤ ((10 * l1) + l3) ∧ ((10 * l1) + l3) < 100 then (if 0 ≤ ((10 * l2) + l3) ∧ ((10 * l2) + l3) < 100 then (if (ρ 57 ((10 * l2) + l3)) ≤ ((ρ 57 ((10 * l2) + l1)) + (ρ 57 ((10 * l1) + l3))) then (if 0 ≤ ((10 * l2) + l3) ∧ ((10 * l2) + l3) < 100 then (if 0 ≤ ((10 * l2) + l3) ∧ ((10 * l2) + l3) < 100 then G 122 220 (some (.ref 51) :: some (vI l1) :: some (vI l2) :: some (vI (l3 + 1)) :: some (vI ((ρ 57 ((10 * l2) + l1)) + (ρ 57 ((10 * l1) + l3)))) :: t.tail) [] (toM (rup ρ 57 ((10 * l2) + l3) (ρ 57 ((10 * l2) + l3))) τ) Q else False) else False) else (if 0 ≤ ((10 * l2) + l3) ∧ ((10 * l2) + l3) < 100 then G 122 220 (some (.ref 51) :: some (vI l1) :: some (vI l2) :: some (vI (l3 + 1)) :: some (vI ((ρ 57 ((10 * l2) + l1)) + (ρ 57 ((10 * l1) + l3)))) :: t.tail) [] (toM (rup ρ 57 ((10 * l2) + l3) ((ρ 57 ((10 * l2) + l1)) + (ρ 57 ((10 * l1) + l3)))) τ) Q else False)) else False) else False) else False)) := by
  refine (g_iload_n d122_220 rfl).trans ?_
  refine (g_aload_n d122_221 rfl rfl).trans ?_
  refine (j_getI (v := ρ 51 0) d122_222 f10_7 sh_51 (by decide) rfl rfl).trans ?_
  have q1 := hB 51 0 (by decide)
  refine j_icmp_ge (tgt := 302) d122_225 (by decide) (by omega) (by omega) (fun q2 => ?_) (fun q2 => ?_)
  ·
    refine (j_iinc d122_302 rfl (by decide) rfl rfl).trans ?_
    refine (g_goto (tgt := 210) d122_305 (by decide)).trans ?_
    rfl
  ·
    refine (g_aload_n d122_228 rfl rfl).trans ?_
    refine (g_getR (q := 57) d122_229 f10_29 sh_51 (by decide) rfl).trans ?_
    refine (j_bipush d122_232 (by decide)).trans ?_
    refine (g_iload_n d122_234 rfl).trans ?_
    refine (j_imul d122_235).trans ?_
    refine (g_iload_n d122_236 rfl).trans ?_
    refine (j_iadd d122_237).trans ?_
    refine j_iaload (v := ρ 57 ((10 * l2) + l1)) d122_238 sh_57 (by omega) rfl (fun q3 => ?_)
    have q4 := hB 57 ((10 * l2) + l1) (by omega)
    refine (g_aload_n d122_239 rfl rfl).trans ?_
    refine (g_getR (q := 57) d122_240 f10_29 sh_51 (by decide) rfl).trans ?_
    refine (j_bipush d122_243 (by decide)).trans ?_
    refine (g_iload_n d122_245 rfl).trans ?_
    refine (j_imul d122_246).trans ?_
    refine (g_iload_n d122_247 rfl).trans ?_
    refine (j_iadd d122_248).trans ?_
    refine j_iaload (v := ρ 57 ((10 * l1) + l3)) d122_249 sh_57 (by omega) rfl (fun q5 => ?_)
    have q6 := hB 57 ((10 * l1) + l3) (by omega)
    refine (j_iadd d122_250).trans ?_
    refine (g_istore d122_251 (by decide) rfl rfl).trans ?_
    refine (g_aload_n d122_253 rfl rfl).trans ?_
    refine (g_getR (q := 57) d122_254 f10_29 sh_51 (by decide) rfl).trans ?_
    refine (j_bipush d122_257 (by decide)).trans ?_
    refine (g_iload_n d122_259 rfl).trans ?_
    refine (j_imul d122_260).trans ?_
    refine (g_iload_n d122_261 rfl).trans ?_
    refine (j_iadd d122_262).trans ?_
    refine (g_iload d122_263 rfl).trans ?_
    refine (g_aload_n d122_265 rfl rfl).trans ?_
    refine (g_getR (q := 57) d122_266 f10_29 sh_51 (by decide) rfl).trans ?_
    refine (j_bipush d122_269 (by decide)).trans ?_
    refine (g_iload_n d122_271 rfl).trans ?_
    refine (j_imul d122_272).trans ?_
    refine (g_iload_n d122_273 rfl).trans ?_
    refine (j_iadd d122_274).trans ?_
    refine j_iaload (v := ρ 57 ((10 * l2) + l3)) d122_275 sh_57 (by omega) rfl (fun q7 => ?_)
    have q8 := hB 57 ((10 * l2) + l3) (by omega)
    refine j_icmp_ge (tgt := 284) d122_276 (by decide) (by omega) (by omega) (fun q9 => ?_) (fun q9 => ?_)
    ·
      refine (g_aload_n d122_284 rfl rfl).trans ?_
      refine (g_getR (q := 57) d122_285 f10_29 sh_51 (by decide) rfl).trans ?_
      refine (j_bipush d122_288 (by decide)).trans ?_
      refine (g_iload_n d122_290 rfl).trans ?_
      refine (j_imul d122_291).trans ?_
      refine (g_iload_n d122_292 rfl).trans ?_
      refine (j_iadd d122_293).trans ?_
      refine j_iaload (v := ρ 57 ((10 * l2) + l3)) d122_294 sh_57 (by omega) rfl (fun q10 => ?_)
      refine j_iastore d122_295 sh_57 (by omega) (fun q11 => ?_)
      refine (j_iinc d122_296 rfl (by decide) rfl rfl).trans ?_
      refine (g_goto (tgt := 220) d122_299 (by decide)).trans ?_
      rfl
    ·
      refine (g_iload d122_279 rfl).trans ?_
      refine (g_goto (tgt := 295) d122_281 (by decide)).trans ?_
      refine j_iastore d122_295 sh_57 (by omega) (fun q12 => ?_)
      refine (j_iinc d122_296 rfl (by decide) rfl rfl).trans ?_
      refine (g_goto (tgt := 220) d122_299 (by decide)).trans ?_
      rfl
theorem d123_0 : ins 123 0 = some (.iload_n 3) := by decide +kernel
theorem d123_1 : ins 123 1 = some (.iconst 1) := by decide +kernel
theorem d123_2 : ins 123 2 = some (.bipush 8) := by decide +kernel
theorem d123_4 : ins 123 4 = some (.invokestatic 69) := by decide +kernel
theorem d123_7 : ins 123 7 = some (.ifCond .ne 6) := by decide +kernel
theorem d123_10 : ins 123 10 = some (.bipush (-3)) := by decide +kernel
theorem d123_12 : ins 123 12 = some (.ireturn) := by decide +kernel
theorem d123_13 : ins 123 13 = some (.aload_n 0) := by decide +kernel
theorem d123_14 : ins 123 14 = some (.getfield 83) := by decide +kernel
theorem d123_17 : ins 123 17 = some (.iload_n 3) := by decide +kernel
theorem d123_18 : ins 123 18 = some (.iadd) := by decide +kernel
theorem d123_19 : ins 123 19 = some (.sipush 200) := by decide +kernel
theorem d123_22 : ins 123 22 = some (.if_icmp .le 6) := by decide +kernel
theorem d123_25 : ins 123 25 = some (.bipush (-5)) := by decide +kernel
theorem d123_27 : ins 123 27 = some (.ireturn) := by decide +kernel
theorem d123_28 : ins 123 28 = some (.iconst 0) := by decide +kernel
theorem d123_29 : ins 123 29 = some (.istore 4) := by decide +kernel
theorem d123_31 : ins 123 31 = some (.iload 4) := by decide +kernel
theorem d123_33 : ins 123 33 = some (.iload_n 3) := by decide +kernel
theorem d123_34 : ins 123 34 = some (.if_icmp .ge 33) := by decide +kernel
theorem d123_37 : ins 123 37 = some (.aload_n 0) := by decide +kernel
theorem d123_38 : ins 123 38 = some (.getfield 32) := by decide +kernel
theorem d123_41 : ins 123 41 = some (.aload_n 0) := by decide +kernel
theorem d123_42 : ins 123 42 = some (.getfield 83) := by decide +kernel
theorem d123_45 : ins 123 45 = some (.iload 4) := by decide +kernel
theorem d123_47 : ins 123 47 = some (.iadd) := by decide +kernel
theorem d123_48 : ins 123 48 = some (.lload_n 1) := by decide +kernel
theorem d123_49 : ins 123 49 = some (.bipush 8) := by decide +kernel
theorem d123_51 : ins 123 51 = some (.iload 4) := by decide +kernel
theorem d123_53 : ins 123 53 = some (.imul) := by decide +kernel
theorem d123_54 : ins 123 54 = some (.lshr) := by decide +kernel
theorem d123_55 : ins 123 55 = some (.ldc2_w 86) := by decide +kernel
theorem d123_58 : ins 123 58 = some (.land) := by decide +kernel
theorem d123_59 : ins 123 59 = some (.l2i) := by decide +kernel
theorem d123_60 : ins 123 60 = some (.iastore) := by decide +kernel
theorem d123_61 : ins 123 61 = some (.iinc 4 1) := by decide +kernel
theorem d123_64 : ins 123 64 = some (.goto (-33)) := by decide +kernel
theorem d123_67 : ins 123 67 = some (.aload_n 0) := by decide +kernel
theorem d123_68 : ins 123 68 = some (.dup) := by decide +kernel
theorem d123_69 : ins 123 69 = some (.getfield 83) := by decide +kernel
theorem d123_72 : ins 123 72 = some (.iload_n 3) := by decide +kernel
theorem d123_73 : ins 123 73 = some (.iadd) := by decide +kernel
theorem d123_74 : ins 123 74 = some (.putfield 83) := by decide +kernel
theorem d123_77 : ins 123 77 = some (.aload_n 0) := by decide +kernel
theorem d123_78 : ins 123 78 = some (.getfield 83) := by decide +kernel
theorem d123_81 : ins 123 81 = some (.ireturn) := by decide +kernel
set_option maxRecDepth 10000 in
theorem b123_0 {Q : Option Value → mm → Prop} (ρ : rm) (τ : Int64) (a1 : Int64) (a2 : Int) (hB : BM ρ) (h_a2 : SB a2) : G 123 0 (some (.ref 51) :: some (.long a1) :: none :: some (vI a2) :: []) [] (toM ρ τ) Q = G 117 0 [some (vI a2), some (vI 1), some (vI 8)] [] (toM ρ τ) (fun v μ2 => G 123 7 (some (.ref 51) :: some (.long a1) :: none :: some (vI a2) :: []) (v.toList ++ []) μ2 Q) := by
  refine (g_iload_n d123_0 rfl).trans ?_
  refine (j_iconst d123_1).trans ?_
  refine (j_bipush d123_2 (by decide)).trans ?_
  exact g_cS d123_4 k10_69 rfl rfl rfl
set_option maxRecDepth 10000 in
theorem b123_7 {Q : Option Value → mm → Prop} (ρ : rm) (τ : Int64) (l1 : Int64) (l3 : Int) (t : List (Option Value)) (r : Int) (hB : BM ρ) (h_l3 : SB l3) (h_in3 : r = 0 ∨ SM l3) (h_r : SM r) : G 123 7 (some (.ref 51) :: some (.long l1) :: none :: some (vI l3) :: t) ((some (vI r)).toList ++ []) (toM ρ τ) Q = (if r = 0 then Q (some (vI (-3))) (toM ρ τ) else (if ((ρ 51 10) + l3) ≤ 200 then G 123 31 (some (.ref 51) :: some (.long l1) :: none :: some (vI l3) :: some (vI 0) :: t.tail) [] (toM ρ τ) Q else Q (some (vI (-5))) (toM ρ τ))) := by
  refine j_if_ne (tgt := 13) d123_7 (by decide) (by omega) (fun q1 => ?_) (fun q1 => ?_)
  ·
    refine (j_bipush d123_10 (by decide)).trans ?_
    exact g_iret d123_12 rfl rfl
  ·
    refine (g_aload_n d123_13 rfl rfl).trans ?_
    refine (j_getI (v := ρ 51 10) d123_14 f10_83 sh_51 (by decide) rfl rfl).trans ?_
    have q2 := hB 51 10 (by decide)
    refine (g_iload_n d123_17 rfl).trans ?_
    refine (j_iadd d123_18).trans ?_
    refine (j_sipush d123_19 (by decide)).trans ?_
    refine j_icmp_le (tgt := 28) d123_22 (by decide) (by omega) (by omega) (fun q3 => ?_) (fun q3 => ?_)
    ·
      refine (j_iconst d123_28).trans ?_
      refine (g_istore d123_29 (by decide) rfl rfl).trans ?_
      rfl
    ·
      refine (j_bipush d123_25 (by decide)).trans ?_
      exact g_iret d123_27 rfl rfl
set_option maxRecDepth 10000 in
theorem b123_31 {Q : Option Value → mm → Prop} (ρ : rm) (τ : Int64) (l1 : Int64) (l3 : Int) (l4 : Int) (t : List (Option Value)) (hB : BM ρ) (h_l3 : SM l3) (h_l4 : SM l4) : G 123 31 (some (.ref 51) :: some (.long l1) :: none :: some (vI l3) :: some (vI l4) :: t) [] (toM ρ τ) Q = (if l3 ≤ l4 then Q (some (vI ((ρ 51 10) + l3))) (toM (rup ρ 51 10 ((ρ 51 10) + l3)) τ) else (if 0 ≤ ((ρ 51 10) + l4) ∧ ((ρ 51 10) + l4) < 200 then G 123 31 (some (.ref 51) :: some (.long l1) :: none :: some (vI l3) :: some (vI (l4 + 1)) :: t) [] (toM (rup ρ 58 ((ρ 51 10) + l4) (((l1 >>> ((iI (8 * l4)).toInt64 &&& 63)) &&& (255 : Int64)).toInt32.toInt)) τ) Q else False)) := by
  refine (g_iload d123_31 rfl).trans ?_
  refine (g_iload_n d123_33 rfl).trans ?_
  refine j_icmp_ge (tgt := 67) d123_34 (by decide) (by omega) (by omega) (fun q1 => ?_) (fun q1 => ?_)
  ·
    refine (g_aload_n d123_67 rfl rfl).trans ?_
    refine (g_dupR d123_68).trans ?_
    refine (j_getI (v := ρ 51 10) d123_69 f10_83 sh_51 (by decide) rfl rfl).trans ?_
    have q2 := hB 51 10 (by decide)
    refine (g_iload_n d123_72 rfl).trans ?_
    refine (j_iadd d123_73).trans ?_
    refine (j_putI d123_74 f10_83 sh_51 (by decide) rfl).trans ?_
    refine (g_aload_n d123_77 rfl rfl).trans ?_
    refine (j_getI (v := (ρ 51 10) + l3) d123_78 f10_83 sh_51 (by decide) rfl (by simp [rup])).trans ?_
    exact g_iret d123_81 rfl rfl
  ·
    refine (g_aload_n d123_37 rfl rfl).trans ?_
    refine (g_getR (q := 58) d123_38 f10_32 sh_51 (by decide) rfl).trans ?_
    refine (g_aload_n d123_41 rfl rfl).trans ?_
    refine (j_getI (v := ρ 51 10) d123_42 f10_83 sh_51 (by decide) rfl rfl).trans ?_
    have q3 := hB 51 10 (by decide)
    refine (g_iload d123_45 rfl).trans ?_
    refine (j_iadd d123_47).trans ?_
    refine (g_lload_n d123_48 rfl).trans ?_
    refine (j_bipush d123_49 (by decide)).trans ?_
    refine (g_iload d123_51 rfl).trans ?_
    refine (j_imul d123_53).trans ?_
    refine (g_lshr d123_54).trans ?_
    refine (g_ldc2_w d123_55 cs10_86).trans ?_
    refine (g_land d123_58).trans ?_
    refine (j_l2i d123_59).trans ?_
    have q4 := SB_of ((l1 >>> ((iI (8 * l4)).toInt64 &&& 63)) &&& (255 : Int64)).toInt32
    refine j_iastore d123_60 sh_58 (by omega) (fun q5 => ?_)
    refine (j_iinc d123_61 rfl (by decide) rfl rfl).trans ?_
    refine (g_goto (tgt := 31) d123_64 (by decide)).trans ?_
    rfl
theorem d124_0 : ins 124 0 = some (.aload_n 0) := by decide +kernel
theorem d124_1 : ins 124 1 = some (.getfield 83) := by decide +kernel
theorem d124_4 : ins 124 4 = some (.istore_n 1) := by decide +kernel
theorem d124_5 : ins 124 5 = some (.aload_n 0) := by decide +kernel
theorem d124_6 : ins 124 6 = some (.iconst 0) := by decide +kernel
theorem d124_7 : ins 124 7 = some (.putfield 83) := by decide +kernel
theorem d124_10 : ins 124 10 = some (.iload_n 1) := by decide +kernel
theorem d124_11 : ins 124 11 = some (.ireturn) := by decide +kernel
set_option maxRecDepth 10000 in
theorem b124_0 {Q : Option Value → mm → Prop} (ρ : rm) (τ : Int64)  (hB : BM ρ)  : G 124 0 (some (.ref 51) :: []) [] (toM ρ τ) Q = Q (some (vI (ρ 51 10))) (toM (rup ρ 51 10 0) τ) := by
  refine (g_aload_n d124_0 rfl rfl).trans ?_
  refine (j_getI (v := ρ 51 10) d124_1 f10_83 sh_51 (by decide) rfl rfl).trans ?_
  have q1 := hB 51 10 (by decide)
  refine (g_istore_n d124_4 (by decide) rfl rfl).trans ?_
  refine (g_aload_n d124_5 rfl rfl).trans ?_
  refine (j_iconst d124_6).trans ?_
  refine (j_putI d124_7 f10_83 sh_51 (by decide) rfl).trans ?_
  refine (g_iload_n d124_10 rfl).trans ?_
  exact g_iret d124_11 rfl rfl
theorem d125_0 : ins 125 0 = some (.aload_n 0) := by decide +kernel
theorem d125_1 : ins 125 1 = some (.getfield 88) := by decide +kernel
theorem d125_4 : ins 125 4 = some (.aload_n 0) := by decide +kernel
theorem d125_5 : ins 125 5 = some (.getfield 83) := by decide +kernel
theorem d125_8 : ins 125 8 = some (.if_icmp .ge 30) := by decide +kernel
theorem d125_11 : ins 125 11 = some (.aload_n 0) := by decide +kernel
theorem d125_12 : ins 125 12 = some (.getfield 32) := by decide +kernel
theorem d125_15 : ins 125 15 = some (.aload_n 0) := by decide +kernel
theorem d125_16 : ins 125 16 = some (.getfield 88) := by decide +kernel
theorem d125_19 : ins 125 19 = some (.iaload) := by decide +kernel
theorem d125_20 : ins 125 20 = some (.bipush 32) := by decide +kernel
theorem d125_22 : ins 125 22 = some (.if_icmp .ne 16) := by decide +kernel
theorem d125_25 : ins 125 25 = some (.aload_n 0) := by decide +kernel
theorem d125_26 : ins 125 26 = some (.dup) := by decide +kernel
theorem d125_27 : ins 125 27 = some (.getfield 88) := by decide +kernel
theorem d125_30 : ins 125 30 = some (.iconst 1) := by decide +kernel
theorem d125_31 : ins 125 31 = some (.iadd) := by decide +kernel
theorem d125_32 : ins 125 32 = some (.putfield 88) := by decide +kernel
theorem d125_35 : ins 125 35 = some (.goto (-35)) := by decide +kernel
theorem d125_38 : ins 125 38 = some (.aload_n 0) := by decide +kernel
theorem d125_39 : ins 125 39 = some (.aload_n 0) := by decide +kernel
theorem d125_40 : ins 125 40 = some (.getfield 88) := by decide +kernel
theorem d125_43 : ins 125 43 = some (.putfield 91) := by decide +kernel
theorem d125_46 : ins 125 46 = some (.aload_n 0) := by decide +kernel
theorem d125_47 : ins 125 47 = some (.iconst 0) := by decide +kernel
theorem d125_48 : ins 125 48 = some (.putfield 94) := by decide +kernel
theorem d125_51 : ins 125 51 = some (.aload_n 0) := by decide +kernel
theorem d125_52 : ins 125 52 = some (.iconst 0) := by decide +kernel
theorem d125_53 : ins 125 53 = some (.putfield 97) := by decide +kernel
theorem d125_56 : ins 125 56 = some (.aload_n 0) := by decide +kernel
theorem d125_57 : ins 125 57 = some (.getfield 88) := by decide +kernel
theorem d125_60 : ins 125 60 = some (.aload_n 0) := by decide +kernel
theorem d125_61 : ins 125 61 = some (.getfield 83) := by decide +kernel
theorem d125_64 : ins 125 64 = some (.if_icmp .ne 13) := by decide +kernel
theorem d125_67 : ins 125 67 = some (.aload_n 0) := by decide +kernel
theorem d125_68 : ins 125 68 = some (.ldc2_w 100) := by decide +kernel
theorem d125_71 : ins 125 71 = some (.putfield 102) := by decide +kernel
theorem d125_74 : ins 125 74 = some (.goto 320) := by decide +kernel
theorem d125_77 : ins 125 77 = some (.aload_n 0) := by decide +kernel
theorem d125_78 : ins 125 78 = some (.getfield 32) := by decide +kernel
theorem d125_81 : ins 125 81 = some (.aload_n 0) := by decide +kernel
theorem d125_82 : ins 125 82 = some (.getfield 88) := by decide +kernel
theorem d125_85 : ins 125 85 = some (.iaload) := by decide +kernel
theorem d125_86 : ins 125 86 = some (.bipush 97) := by decide +kernel
theorem d125_88 : ins 125 88 = some (.bipush 122) := by decide +kernel
theorem d125_90 : ins 125 90 = some (.invokestatic 69) := by decide +kernel
theorem d125_93 : ins 125 93 = some (.ifCond .eq 129) := by decide +kernel
theorem d125_96 : ins 125 96 = some (.aload_n 0) := by decide +kernel
theorem d125_97 : ins 125 97 = some (.lconst 0) := by decide +kernel
theorem d125_98 : ins 125 98 = some (.putfield 102) := by decide +kernel
theorem d125_101 : ins 125 101 = some (.aload_n 0) := by decide +kernel
theorem d125_102 : ins 125 102 = some (.getfield 88) := by decide +kernel
theorem d125_105 : ins 125 105 = some (.aload_n 0) := by decide +kernel
theorem d125_106 : ins 125 106 = some (.getfield 83) := by decide +kernel
theorem d125_109 : ins 125 109 = some (.if_icmp .ge 82) := by decide +kernel
theorem d125_112 : ins 125 112 = some (.aload_n 0) := by decide +kernel
theorem d125_113 : ins 125 113 = some (.getfield 32) := by decide +kernel
theorem d125_116 : ins 125 116 = some (.aload_n 0) := by decide +kernel
theorem d125_117 : ins 125 117 = some (.getfield 88) := by decide +kernel
theorem d125_120 : ins 125 120 = some (.iaload) := by decide +kernel
theorem d125_121 : ins 125 121 = some (.bipush 97) := by decide +kernel
theorem d125_123 : ins 125 123 = some (.bipush 122) := by decide +kernel
theorem d125_125 : ins 125 125 = some (.invokestatic 69) := by decide +kernel
theorem d125_128 : ins 125 128 = some (.ifCond .eq 63) := by decide +kernel
theorem d125_131 : ins 125 131 = some (.aload_n 0) := by decide +kernel
theorem d125_132 : ins 125 132 = some (.aload_n 0) := by decide +kernel
theorem d125_133 : ins 125 133 = some (.getfield 88) := by decide +kernel
theorem d125_136 : ins 125 136 = some (.aload_n 0) := by decide +kernel
theorem d125_137 : ins 125 137 = some (.getfield 91) := by decide +kernel
theorem d125_140 : ins 125 140 = some (.isub) := by decide +kernel
theorem d125_141 : ins 125 141 = some (.bipush 9) := by decide +kernel
theorem d125_143 : ins 125 143 = some (.if_icmp .ge 29) := by decide +kernel
theorem d125_146 : ins 125 146 = some (.ldc2_w 106) := by decide +kernel
theorem d125_149 : ins 125 149 = some (.aload_n 0) := by decide +kernel
theorem d125_150 : ins 125 150 = some (.getfield 102) := by decide +kernel
theorem d125_153 : ins 125 153 = some (.lmul) := by decide +kernel
theorem d125_154 : ins 125 154 = some (.aload_n 0) := by decide +kernel
theorem d125_155 : ins 125 155 = some (.getfield 32) := by decide +kernel
theorem d125_158 : ins 125 158 = some (.aload_n 0) := by decide +kernel
theorem d125_159 : ins 125 159 = some (.getfield 88) := by decide +kernel
theorem d125_162 : ins 125 162 = some (.iaload) := by decide +kernel
theorem d125_163 : ins 125 163 = some (.i2l) := by decide +kernel
theorem d125_164 : ins 125 164 = some (.ladd) := by decide +kernel
theorem d125_165 : ins 125 165 = some (.ldc2_w 108) := by decide +kernel
theorem d125_168 : ins 125 168 = some (.lsub) := by decide +kernel
theorem d125_169 : ins 125 169 = some (.goto 6) := by decide +kernel
theorem d125_172 : ins 125 172 = some (.ldc2_w 110) := by decide +kernel
theorem d125_175 : ins 125 175 = some (.putfield 102) := by decide +kernel
theorem d125_178 : ins 125 178 = some (.aload_n 0) := by decide +kernel
theorem d125_179 : ins 125 179 = some (.dup) := by decide +kernel
theorem d125_180 : ins 125 180 = some (.getfield 88) := by decide +kernel
theorem d125_183 : ins 125 183 = some (.iconst 1) := by decide +kernel
theorem d125_184 : ins 125 184 = some (.iadd) := by decide +kernel
theorem d125_185 : ins 125 185 = some (.putfield 88) := by decide +kernel
theorem d125_188 : ins 125 188 = some (.goto (-87)) := by decide +kernel
theorem d125_191 : ins 125 191 = some (.aload_n 0) := by decide +kernel
theorem d125_192 : ins 125 192 = some (.aload_n 0) := by decide +kernel
theorem d125_193 : ins 125 193 = some (.getfield 88) := by decide +kernel
theorem d125_196 : ins 125 196 = some (.aload_n 0) := by decide +kernel
theorem d125_197 : ins 125 197 = some (.getfield 91) := by decide +kernel
theorem d125_200 : ins 125 200 = some (.isub) := by decide +kernel
theorem d125_201 : ins 125 201 = some (.bipush 9) := by decide +kernel
theorem d125_203 : ins 125 203 = some (.if_icmp .le 9) := by decide +kernel
theorem d125_206 : ins 125 206 = some (.ldc2_w 110) := by decide +kernel
theorem d125_209 : ins 125 209 = some (.goto 7) := by decide +kernel
theorem d125_212 : ins 125 212 = some (.aload_n 0) := by decide +kernel
theorem d125_213 : ins 125 213 = some (.getfield 102) := by decide +kernel
theorem d125_216 : ins 125 216 = some (.putfield 102) := by decide +kernel
theorem d125_219 : ins 125 219 = some (.goto 175) := by decide +kernel
theorem d125_222 : ins 125 222 = some (.aload_n 0) := by decide +kernel
theorem d125_223 : ins 125 223 = some (.getfield 32) := by decide +kernel
theorem d125_226 : ins 125 226 = some (.aload_n 0) := by decide +kernel
theorem d125_227 : ins 125 227 = some (.getfield 88) := by decide +kernel
theorem d125_230 : ins 125 230 = some (.iaload) := by decide +kernel
theorem d125_231 : ins 125 231 = some (.bipush 48) := by decide +kernel
theorem d125_233 : ins 125 233 = some (.bipush 57) := by decide +kernel
theorem d125_235 : ins 125 235 = some (.invokestatic 69) := by decide +kernel
theorem d125_238 : ins 125 238 = some (.ifCond .eq 119) := by decide +kernel
theorem d125_241 : ins 125 241 = some (.aload_n 0) := by decide +kernel
theorem d125_242 : ins 125 242 = some (.getfield 88) := by decide +kernel
theorem d125_245 : ins 125 245 = some (.aload_n 0) := by decide +kernel
theorem d125_246 : ins 125 246 = some (.getfield 83) := by decide +kernel
theorem d125_249 : ins 125 249 = some (.if_icmp .ge 84) := by decide +kernel
theorem d125_252 : ins 125 252 = some (.aload_n 0) := by decide +kernel
theorem d125_253 : ins 125 253 = some (.getfield 32) := by decide +kernel
theorem d125_256 : ins 125 256 = some (.aload_n 0) := by decide +kernel
theorem d125_257 : ins 125 257 = some (.getfield 88) := by decide +kernel
theorem d125_260 : ins 125 260 = some (.iaload) := by decide +kernel
theorem d125_261 : ins 125 261 = some (.bipush 48) := by decide +kernel
theorem d125_263 : ins 125 263 = some (.bipush 57) := by decide +kernel
theorem d125_265 : ins 125 265 = some (.invokestatic 69) := by decide +kernel
theorem d125_268 : ins 125 268 = some (.ifCond .eq 65) := by decide +kernel
theorem d125_271 : ins 125 271 = some (.aload_n 0) := by decide +kernel
theorem d125_272 : ins 125 272 = some (.aload_n 0) := by decide +kernel
theorem d125_273 : ins 125 273 = some (.getfield 94) := by decide +kernel
theorem d125_276 : ins 125 276 = some (.iconst 4) := by decide +kernel
theorem d125_277 : ins 125 277 = some (.if_icmp .ge 26) := by decide +kernel
theorem d125_280 : ins 125 280 = some (.bipush 10) := by decide +kernel
theorem d125_282 : ins 125 282 = some (.aload_n 0) := by decide +kernel
theorem d125_283 : ins 125 283 = some (.getfield 97) := by decide +kernel
theorem d125_286 : ins 125 286 = some (.imul) := by decide +kernel
theorem d125_287 : ins 125 287 = some (.aload_n 0) := by decide +kernel
theorem d125_288 : ins 125 288 = some (.getfield 32) := by decide +kernel
theorem d125_291 : ins 125 291 = some (.aload_n 0) := by decide +kernel
theorem d125_292 : ins 125 292 = some (.getfield 88) := by decide +kernel
theorem d125_295 : ins 125 295 = some (.iaload) := by decide +kernel
theorem d125_296 : ins 125 296 = some (.iadd) := by decide +kernel
theorem d125_297 : ins 125 297 = some (.bipush 48) := by decide +kernel
theorem d125_299 : ins 125 299 = some (.isub) := by decide +kernel
theorem d125_300 : ins 125 300 = some (.goto 7) := by decide +kernel
theorem d125_303 : ins 125 303 = some (.aload_n 0) := by decide +kernel
theorem d125_304 : ins 125 304 = some (.getfield 97) := by decide +kernel
theorem d125_307 : ins 125 307 = some (.putfield 97) := by decide +kernel
theorem d125_310 : ins 125 310 = some (.aload_n 0) := by decide +kernel
theorem d125_311 : ins 125 311 = some (.dup) := by decide +kernel
theorem d125_312 : ins 125 312 = some (.getfield 94) := by decide +kernel
theorem d125_315 : ins 125 315 = some (.iconst 1) := by decide +kernel
theorem d125_316 : ins 125 316 = some (.iadd) := by decide +kernel
theorem d125_317 : ins 125 317 = some (.putfield 94) := by decide +kernel
theorem d125_320 : ins 125 320 = some (.aload_n 0) := by decide +kernel
theorem d125_321 : ins 125 321 = some (.dup) := by decide +kernel
theorem d125_322 : ins 125 322 = some (.getfield 88) := by decide +kernel
theorem d125_325 : ins 125 325 = some (.iconst 1) := by decide +kernel
theorem d125_326 : ins 125 326 = some (.iadd) := by decide +kernel
theorem d125_327 : ins 125 327 = some (.putfield 88) := by decide +kernel
theorem d125_330 : ins 125 330 = some (.goto (-89)) := by decide +kernel
theorem d125_333 : ins 125 333 = some (.aload_n 0) := by decide +kernel
theorem d125_334 : ins 125 334 = some (.aload_n 0) := by decide +kernel
theorem d125_335 : ins 125 335 = some (.getfield 94) := by decide +kernel
theorem d125_338 : ins 125 338 = some (.iconst 4) := by decide +kernel
theorem d125_339 : ins 125 339 = some (.if_icmp .le 9) := by decide +kernel
theorem d125_342 : ins 125 342 = some (.ldc2_w 110) := by decide +kernel
theorem d125_345 : ins 125 345 = some (.goto 6) := by decide +kernel
theorem d125_348 : ins 125 348 = some (.ldc2_w 112) := by decide +kernel
theorem d125_351 : ins 125 351 = some (.putfield 102) := by decide +kernel
theorem d125_354 : ins 125 354 = some (.goto 40) := by decide +kernel
theorem d125_357 : ins 125 357 = some (.aload_n 0) := by decide +kernel
theorem d125_358 : ins 125 358 = some (.aload_n 0) := by decide +kernel
theorem d125_359 : ins 125 359 = some (.getfield 32) := by decide +kernel
theorem d125_362 : ins 125 362 = some (.aload_n 0) := by decide +kernel
theorem d125_363 : ins 125 363 = some (.getfield 88) := by decide +kernel
theorem d125_366 : ins 125 366 = some (.iaload) := by decide +kernel
theorem d125_367 : ins 125 367 = some (.bipush 59) := by decide +kernel
theorem d125_369 : ins 125 369 = some (.if_icmp .ne 9) := by decide +kernel
theorem d125_372 : ins 125 372 = some (.ldc2_w 114) := by decide +kernel
theorem d125_375 : ins 125 375 = some (.goto 6) := by decide +kernel
theorem d125_378 : ins 125 378 = some (.ldc2_w 110) := by decide +kernel
theorem d125_381 : ins 125 381 = some (.putfield 102) := by decide +kernel
theorem d125_384 : ins 125 384 = some (.aload_n 0) := by decide +kernel
theorem d125_385 : ins 125 385 = some (.dup) := by decide +kernel
theorem d125_386 : ins 125 386 = some (.getfield 88) := by decide +kernel
theorem d125_389 : ins 125 389 = some (.iconst 1) := by decide +kernel
theorem d125_390 : ins 125 390 = some (.iadd) := by decide +kernel
theorem d125_391 : ins 125 391 = some (.putfield 88) := by decide +kernel
theorem d125_394 : ins 125 394 = some (.return_) := by decide +kernel
set_option maxRecDepth 10000 in
theorem b125_0 {Q : Option Value → mm → Prop} (ρ : rm) (τ : Int64)  (hB : BM ρ)  : G 125 0 (some (.ref 51) :: []) [] (toM ρ τ) Q = (if (ρ 51 10) ≤ (ρ 51 12) then (if (ρ 51 12) = (ρ 51 10) then Q none (toM (rup (rup (rup ρ 51 13 (ρ 51 12)) 51 15 0) 51 16 0) (-2 : Int64)) else (if 0 ≤ (ρ 51 12) ∧ (ρ 51 12) < 200 then G 117 0 [some (vI (ρ 58 (ρ 51 12))), some (vI 97), some (vI 122)] [] (toM (rup (rup (rup ρ 51 13 (ρ 51 12)) 51 15 0) 51 16 0) τ) (fun v μ2 => G 125 93 (some (.ref 51) :: []) (v.toList ++ []) μ2 Q) else False)) else (if 0 ≤ (ρ 51 12) ∧ (ρ 51 12) < 200 then (if (ρ 58 (ρ 51 12)) = 32 then G 125 0 (some (.ref 51) :: []) [] (toM (rup ρ 51 12 ((ρ 51 12) + 1)) τ) Q else (if (ρ 51 12) = (ρ 51 10) then Q none (toM (rup (rup (rup ρ 51 13 (ρ 51 12)) 51 15 0) 51 16 0) (-2 : Int64)) else (if 0 ≤ (ρ 51 12) ∧ (ρ 51 12) < 200 then G 117 0 [some (vI (ρ 58 (ρ 51 12))), some (vI 97), some (vI 122)] [] (toM (rup (rup (rup ρ 51 13 (ρ 51 12)) 51 15 0) 51 16 0) τ) (fun v μ2 => G 125 93 (some (.ref 51) :: []) (v.toList ++ []) μ2 Q) else False))) else False)) := by
  refine (g_aload_n d125_0 rfl rfl).trans ?_
  refine (j_getI (v := ρ 51 12) d125_1 f10_88 sh_51 (by decide) rfl rfl).trans ?_
  have q1 := hB 51 12 (by decide)
  refine (g_aload_n d125_4 rfl rfl).trans ?_
  refine (j_getI (v := ρ 51 10) d125_5 f10_83 sh_51 (by decide) rfl rfl).trans ?_
  have q2 := hB 51 10 (by decide)
  refine j_icmp_ge (tgt := 38) d125_8 (by decide) (by omega) (by omega) (fun q3 => ?_) (fun q3 => ?_)
  ·
    refine (g_aload_n d125_38 rfl rfl).trans ?_
    refine (g_aload_n d125_39 rfl rfl).trans ?_
    refine (j_getI (v := ρ 51 12) d125_40 f10_88 sh_51 (by decide) rfl rfl).trans ?_
    refine (j_putI d125_43 f10_91 sh_51 (by decide) rfl).trans ?_
    refine (g_aload_n d125_46 rfl rfl).trans ?_
    refine (j_iconst d125_47).trans ?_
    refine (j_putI d125_48 f10_94 sh_51 (by decide) rfl).trans ?_
    refine (g_aload_n d125_51 rfl rfl).trans ?_
    refine (j_iconst d125_52).trans ?_
    refine (j_putI d125_53 f10_97 sh_51 (by decide) rfl).trans ?_
    refine (g_aload_n d125_56 rfl rfl).trans ?_
    refine (j_getI (v := ρ 51 12) d125_57 f10_88 sh_51 (by decide) rfl (by simp [rup])).trans ?_
    refine (g_aload_n d125_60 rfl rfl).trans ?_
    refine (j_getI (v := ρ 51 10) d125_61 f10_83 sh_51 (by decide) rfl (by simp [rup])).trans ?_
    refine j_icmp_ne (tgt := 77) d125_64 (by decide) (by omega) (by omega) (fun q4 => ?_) (fun q4 => ?_)
    ·
      refine (g_aload_n d125_67 rfl rfl).trans ?_
      refine (g_ldc2_w d125_68 cs10_100).trans ?_
      refine (j_putL d125_71 f10_102 sh_51 (by decide) rfl).trans ?_
      refine (g_goto (tgt := 394) d125_74 (by decide)).trans ?_
      exact g_ret d125_394 rfl
    ·
      refine (g_aload_n d125_77 rfl rfl).trans ?_
      refine (g_getR (q := 58) d125_78 f10_32 sh_51 (by decide) rfl).trans ?_
      refine (g_aload_n d125_81 rfl rfl).trans ?_
      refine (j_getI (v := ρ 51 12) d125_82 f10_88 sh_51 (by decide) rfl (by simp [rup])).trans ?_
      refine j_iaload (v := ρ 58 (ρ 51 12)) d125_85 sh_58 (by omega) (by simp [rup]) (fun q5 => ?_)
      have q6 := hB 58 (ρ 51 12) (by omega)
      refine (j_bipush d125_86 (by decide)).trans ?_
      refine (j_bipush d125_88 (by decide)).trans ?_
      exact g_cS d125_90 k10_69 rfl rfl rfl
  ·
    refine (g_aload_n d125_11 rfl rfl).trans ?_
    refine (g_getR (q := 58) d125_12 f10_32 sh_51 (by decide) rfl).trans ?_
    refine (g_aload_n d125_15 rfl rfl).trans ?_
    refine (j_getI (v := ρ 51 12) d125_16 f10_88 sh_51 (by decide) rfl rfl).trans ?_
    refine j_iaload (v := ρ 58 (ρ 51 12)) d125_19 sh_58 (by omega) rfl (fun q7 => ?_)
    have q8 := hB 58 (ρ 51 12) (by omega)
    refine (j_bipush d125_20 (by decide)).trans ?_
    refine j_icmp_ne (tgt := 38) d125_22 (by decide) (by omega) (by omega) (fun q9 => ?_) (fun q9 => ?_)
    ·
      refine (g_aload_n d125_25 rfl rfl).trans ?_
      refine (g_dupR d125_26).trans ?_
      refine (j_getI (v := ρ 51 12) d125_27 f10_88 sh_51 (by decide) rfl rfl).trans ?_
      refine (j_iconst d125_30).trans ?_
      refine (j_iadd d125_31).trans ?_
      refine (j_putI d125_32 f10_88 sh_51 (by decide) rfl).trans ?_
      refine (g_goto (tgt := 0) d125_35 (by decide)).trans ?_
      rfl
    ·
      refine (g_aload_n d125_38 rfl rfl).trans ?_
      refine (g_aload_n d125_39 rfl rfl).trans ?_
      refine (j_getI (v := ρ 51 12) d125_40 f10_88 sh_51 (by decide) rfl rfl).trans ?_
      refine (j_putI d125_43 f10_91 sh_51 (by decide) rfl).trans ?_
      refine (g_aload_n d125_46 rfl rfl).trans ?_
      refine (j_iconst d125_47).trans ?_
      refine (j_putI d125_48 f10_94 sh_51 (by decide) rfl).trans ?_
      refine (g_aload_n d125_51 rfl rfl).trans ?_
      refine (j_iconst d125_52).trans ?_
      refine (j_putI d125_53 f10_97 sh_51 (by decide) rfl).trans ?_
      refine (g_aload_n d125_56 rfl rfl).trans ?_
      refine (j_getI (v := ρ 51 12) d125_57 f10_88 sh_51 (by decide) rfl (by simp [rup])).trans ?_
      refine (g_aload_n d125_60 rfl rfl).trans ?_
      refine (j_getI (v := ρ 51 10) d125_61 f10_83 sh_51 (by decide) rfl (by simp [rup])).trans ?_
      refine j_icmp_ne (tgt := 77) d125_64 (by decide) (by omega) (by omega) (fun q10 => ?_) (fun q10 => ?_)
      ·
        refine (g_aload_n d125_67 rfl rfl).trans ?_
        refine (g_ldc2_w d125_68 cs10_100).trans ?_
        refine (j_putL d125_71 f10_102 sh_51 (by decide) rfl).trans ?_
        refine (g_goto (tgt := 394) d125_74 (by decide)).trans ?_
        exact g_ret d125_394 rfl
      ·
        refine (g_aload_n d125_77 rfl rfl).trans ?_
        refine (g_getR (q := 58) d125_78 f10_32 sh_51 (by decide) rfl).trans ?_
        refine (g_aload_n d125_81 rfl rfl).trans ?_
        refine (j_getI (v := ρ 51 12) d125_82 f10_88 sh_51 (by decide) rfl (by simp [rup])).trans ?_
        refine j_iaload (v := ρ 58 (ρ 51 12)) d125_85 sh_58 (by omega) (by simp [rup]) (fun q11 => ?_)
        refine (j_bipush d125_86 (by decide)).trans ?_
        refine (j_bipush d125_88 (by decide)).trans ?_
        exact g_cS d125_90 k10_69 rfl rfl rfl
set_option maxRecDepth 10000 in
theorem b125_93 {Q : Option Value → mm → Prop} (ρ : rm) (τ : Int64) (t : List (Option Value)) (r : Int) (hB : BM ρ) (h_r : SM r) : G 125 93 (some (.ref 51) :: t) ((some (vI r)).toList ++ []) (toM ρ τ) Q = (if r = 0 then (if 0 ≤ (ρ 51 12) ∧ (ρ 51 12) < 200 then G 117 0 [some (vI (ρ 58 (ρ 51 12))), some (vI 48), some (vI 57)] [] (toM ρ τ) (fun v μ2 => G 125 238 (some (.ref 51) :: t) (v.toList ++ []) μ2 Q) else False) else G 125 101 (some (.ref 51) :: t) [] (toM ρ (0 : Int64)) Q) := by
  refine j_if_eq (tgt := 222) d125_93 (by decide) (by omega) (fun q1 => ?_) (fun q1 => ?_)
  ·
    refine (g_aload_n d125_222 rfl rfl).trans ?_
    refine (g_getR (q := 58) d125_223 f10_32 sh_51 (by decide) rfl).trans ?_
    refine (g_aload_n d125_226 rfl rfl).trans ?_
    refine (j_getI (v := ρ 51 12) d125_227 f10_88 sh_51 (by decide) rfl rfl).trans ?_
    have q2 := hB 51 12 (by decide)
    refine j_iaload (v := ρ 58 (ρ 51 12)) d125_230 sh_58 (by omega) rfl (fun q3 => ?_)
    have q4 := hB 58 (ρ 51 12) (by omega)
    refine (j_bipush d125_231 (by decide)).trans ?_
    refine (j_bipush d125_233 (by decide)).trans ?_
    exact g_cS d125_235 k10_69 rfl rfl rfl
  ·
    refine (g_aload_n d125_96 rfl rfl).trans ?_
    refine (g_lconst d125_97 rfl).trans ?_
    refine (j_putL d125_98 f10_102 sh_51 (by decide) rfl).trans ?_
    rfl
set_option maxRecDepth 10000 in
theorem b125_238 {Q : Option Value → mm → Prop} (ρ : rm) (τ : Int64) (t : List (Option Value)) (r : Int) (hB : BM ρ) (h_r : SM r) : G 125 238 (some (.ref 51) :: t) ((some (vI r)).toList ++ []) (toM ρ τ) Q = (if r = 0 then (if 0 ≤ (ρ 51 12) ∧ (ρ 51 12) < 200 then (if (ρ 58 (ρ 51 12)) = 59 then Q none (toM (rup ρ 51 12 ((ρ 51 12) + 1)) (-3 : Int64)) else Q none (toM (rup ρ 51 12 ((ρ 51 12) + 1)) (-4 : Int64))) else False) else G 125 241 (some (.ref 51) :: t) [] (toM ρ τ) Q) := by
  refine j_if_eq (tgt := 357) d125_238 (by decide) (by omega) (fun q1 => ?_) (fun q1 => ?_)
  ·
    refine (g_aload_n d125_357 rfl rfl).trans ?_
    refine (g_aload_n d125_358 rfl rfl).trans ?_
    refine (g_getR (q := 58) d125_359 f10_32 sh_51 (by decide) rfl).trans ?_
    refine (g_aload_n d125_362 rfl rfl).trans ?_
    refine (j_getI (v := ρ 51 12) d125_363 f10_88 sh_51 (by decide) rfl rfl).trans ?_
    have q2 := hB 51 12 (by decide)
    refine j_iaload (v := ρ 58 (ρ 51 12)) d125_366 sh_58 (by omega) rfl (fun q3 => ?_)
    have q4 := hB 58 (ρ 51 12) (by omega)
    refine (j_bipush d125_367 (by decide)).trans ?_
    refine j_icmp_ne (tgt := 378) d125_369 (by decide) (by omega) (by omega) (fun q5 => ?_) (fun q5 => ?_)
    ·
      refine (g_ldc2_w d125_372 cs10_114).trans ?_
      refine (g_goto (tgt := 381) d125_375 (by decide)).trans ?_
      refine (j_putL d125_381 f10_102 sh_51 (by decide) rfl).trans ?_
      refine (g_aload_n d125_384 rfl rfl).trans ?_
      refine (g_dupR d125_385).trans ?_
      refine (j_getI (v := ρ 51 12) d125_386 f10_88 sh_51 (by decide) rfl rfl).trans ?_
      refine (j_iconst d125_389).trans ?_
      refine (j_iadd d125_390).trans ?_
      refine (j_putI d125_391 f10_88 sh_51 (by decide) rfl).trans ?_
      exact g_ret d125_394 rfl
    ·
      refine (g_ldc2_w d125_378 cs10_110).trans ?_
      refine (j_putL d125_381 f10_102 sh_51 (by decide) rfl).trans ?_
      refine (g_aload_n d125_384 rfl rfl).trans ?_
      refine (g_dupR d125_385).trans ?_
      refine (j_getI (v := ρ 51 12) d125_386 f10_88 sh_51 (by decide) rfl rfl).trans ?_
      refine (j_iconst d125_389).trans ?_
      refine (j_iadd d125_390).trans ?_
      refine (j_putI d125_391 f10_88 sh_51 (by decide) rfl).trans ?_
      exact g_ret d125_394 rfl
  ·
    rfl
set_option maxRecDepth 10000 in
theorem b125_101 {Q : Option Value → mm → Prop} (ρ : rm) (τ : Int64) (t : List (Option Value)) (hB : BM ρ)  : G 125 101 (some (.ref 51) :: t) [] (toM ρ τ) Q = (if (ρ 51 10) ≤ (ρ 51 12) then (if ((ρ 51 12) - (ρ 51 13)) ≤ 9 then Q none (toM ρ τ) else Q none (toM ρ (-4 : Int64))) else (if 0 ≤ (ρ 51 12) ∧ (ρ 51 12) < 200 then G 117 0 [some (vI (ρ 58 (ρ 51 12))), some (vI 97), some (vI 122)] [] (toM ρ τ) (fun v μ2 => G 125 128 (some (.ref 51) :: t) (v.toList ++ []) μ2 Q) else False)) := by
  refine (g_aload_n d125_101 rfl rfl).trans ?_
  refine (j_getI (v := ρ 51 12) d125_102 f10_88 sh_51 (by decide) rfl rfl).trans ?_
  have q1 := hB 51 12 (by decide)
  refine (g_aload_n d125_105 rfl rfl).trans ?_
  refine (j_getI (v := ρ 51 10) d125_106 f10_83 sh_51 (by decide) rfl rfl).trans ?_
  have q2 := hB 51 10 (by decide)
  refine j_icmp_ge (tgt := 191) d125_109 (by decide) (by omega) (by omega) (fun q3 => ?_) (fun q3 => ?_)
  ·
    refine (g_aload_n d125_191 rfl rfl).trans ?_
    refine (g_aload_n d125_192 rfl rfl).trans ?_
    refine (j_getI (v := ρ 51 12) d125_193 f10_88 sh_51 (by decide) rfl rfl).trans ?_
    refine (g_aload_n d125_196 rfl rfl).trans ?_
    refine (j_getI (v := ρ 51 13) d125_197 f10_91 sh_51 (by decide) rfl rfl).trans ?_
    have q4 := hB 51 13 (by decide)
    refine (j_isub d125_200).trans ?_
    refine (j_bipush d125_201 (by decide)).trans ?_
    refine j_icmp_le (tgt := 212) d125_203 (by decide) (by omega) (by omega) (fun q5 => ?_) (fun q5 => ?_)
    ·
      refine (g_aload_n d125_212 rfl rfl).trans ?_
      refine (j_getL d125_213 f10_102 sh_51 (by decide) rfl).trans ?_
      refine (j_putL d125_216 f10_102 sh_51 (by decide) rfl).trans ?_
      refine (g_goto (tgt := 394) d125_219 (by decide)).trans ?_
      exact g_ret d125_394 rfl
    ·
      refine (g_ldc2_w d125_206 cs10_110).trans ?_
      refine (g_goto (tgt := 216) d125_209 (by decide)).trans ?_
      refine (j_putL d125_216 f10_102 sh_51 (by decide) rfl).trans ?_
      refine (g_goto (tgt := 394) d125_219 (by decide)).trans ?_
      exact g_ret d125_394 rfl
  ·
    refine (g_aload_n d125_112 rfl rfl).trans ?_
    refine (g_getR (q := 58) d125_113 f10_32 sh_51 (by decide) rfl).trans ?_
    refine (g_aload_n d125_116 rfl rfl).trans ?_
    refine (j_getI (v := ρ 51 12) d125_117 f10_88 sh_51 (by decide) rfl rfl).trans ?_
    refine j_iaload (v := ρ 58 (ρ 51 12)) d125_120 sh_58 (by omega) rfl (fun q6 => ?_)
    have q7 := hB 58 (ρ 51 12) (by omega)
    refine (j_bipush d125_121 (by decide)).trans ?_
    refine (j_bipush d125_123 (by decide)).trans ?_
    exact g_cS d125_125 k10_69 rfl rfl rfl
set_option maxRecDepth 10000 in
theorem b125_241 {Q : Option Value → mm → Prop} (ρ : rm) (τ : Int64) (t : List (Option Value)) (hB : BM ρ)  : G 125 241 (some (.ref 51) :: t) [] (toM ρ τ) Q = (if (ρ 51 10) ≤ (ρ 51 12) then (if (ρ 51 15) ≤ 4 then Q none (toM ρ (-1 : Int64)) else Q none (toM ρ (-4 : Int64))) else (if 0 ≤ (ρ 51 12) ∧ (ρ 51 12) < 200 then G 117 0 [some (vI (ρ 58 (ρ 51 12))), some (vI 48), some (vI 57)] [] (toM ρ τ) (fun v μ2 => G 125 268 (some (.ref 51) :: t) (v.toList ++ []) μ2 Q) else False)) := by
  refine (g_aload_n d125_241 rfl rfl).trans ?_
  refine (j_getI (v := ρ 51 12) d125_242 f10_88 sh_51 (by decide) rfl rfl).trans ?_
  have q1 := hB 51 12 (by decide)
  refine (g_aload_n d125_245 rfl rfl).trans ?_
  refine (j_getI (v := ρ 51 10) d125_246 f10_83 sh_51 (by decide) rfl rfl).trans ?_
  have q2 := hB 51 10 (by decide)
  refine j_icmp_ge (tgt := 333) d125_249 (by decide) (by omega) (by omega) (fun q3 => ?_) (fun q3 => ?_)
  ·
    refine (g_aload_n d125_333 rfl rfl).trans ?_
    refine (g_aload_n d125_334 rfl rfl).trans ?_
    refine (j_getI (v := ρ 51 15) d125_335 f10_94 sh_51 (by decide) rfl rfl).trans ?_
    have q4 := hB 51 15 (by decide)
    refine (j_iconst d125_338).trans ?_
    refine j_icmp_le (tgt := 348) d125_339 (by decide) (by omega) (by omega) (fun q5 => ?_) (fun q5 => ?_)
    ·
      refine (g_ldc2_w d125_348 cs10_112).trans ?_
      refine (j_putL d125_351 f10_102 sh_51 (by decide) rfl).trans ?_
      refine (g_goto (tgt := 394) d125_354 (by decide)).trans ?_
      exact g_ret d125_394 rfl
    ·
      refine (g_ldc2_w d125_342 cs10_110).trans ?_
      refine (g_goto (tgt := 351) d125_345 (by decide)).trans ?_
      refine (j_putL d125_351 f10_102 sh_51 (by decide) rfl).trans ?_
      refine (g_goto (tgt := 394) d125_354 (by decide)).trans ?_
      exact g_ret d125_394 rfl
  ·
    refine (g_aload_n d125_252 rfl rfl).trans ?_
    refine (g_getR (q := 58) d125_253 f10_32 sh_51 (by decide) rfl).trans ?_
    refine (g_aload_n d125_256 rfl rfl).trans ?_
    refine (j_getI (v := ρ 51 12) d125_257 f10_88 sh_51 (by decide) rfl rfl).trans ?_
    refine j_iaload (v := ρ 58 (ρ 51 12)) d125_260 sh_58 (by omega) rfl (fun q6 => ?_)
    have q7 := hB 58 (ρ 51 12) (by omega)
    refine (j_bipush d125_261 (by decide)).trans ?_
    refine (j_bipush d125_263 (by decide)).trans ?_
    exact g_cS d125_265 k10_69 rfl rfl rfl
set_option maxRecDepth 10000 in
theorem b125_128 {Q : Option Value → mm → Prop} (ρ : rm) (τ : Int64) (t : List (Option Value)) (r : Int) (hB : BM ρ) (h_r : SM r) : G 125 128 (some (.ref 51) :: t) ((some (vI r)).toList ++ []) (toM ρ τ) Q = (if r = 0 then (if ((ρ 51 12) - (ρ 51 13)) ≤ 9 then Q none (toM ρ τ) else Q none (toM ρ (-4 : Int64))) else (if 9 ≤ ((ρ 51 12) - (ρ 51 13)) then G 125 101 (some (.ref 51) :: t) [] (toM (rup ρ 51 12 ((ρ 51 12) + 1)) (-4 : Int64)) Q else (if 0 ≤ (ρ 51 12) ∧ (ρ 51 12) < 200 then G 125 101 (some (.ref 51) :: t) [] (toM (rup ρ 51 12 ((ρ 51 12) + 1)) ((((27 : Int64) * τ) + ((iI (ρ 58 (ρ 51 12))).toInt64)) - (96 : Int64))) Q else False))) := by
  refine j_if_eq (tgt := 191) d125_128 (by decide) (by omega) (fun q1 => ?_) (fun q1 => ?_)
  ·
    refine (g_aload_n d125_191 rfl rfl).trans ?_
    refine (g_aload_n d125_192 rfl rfl).trans ?_
    refine (j_getI (v := ρ 51 12) d125_193 f10_88 sh_51 (by decide) rfl rfl).trans ?_
    have q2 := hB 51 12 (by decide)
    refine (g_aload_n d125_196 rfl rfl).trans ?_
    refine (j_getI (v := ρ 51 13) d125_197 f10_91 sh_51 (by decide) rfl rfl).trans ?_
    have q3 := hB 51 13 (by decide)
    refine (j_isub d125_200).trans ?_
    refine (j_bipush d125_201 (by decide)).trans ?_
    refine j_icmp_le (tgt := 212) d125_203 (by decide) (by omega) (by omega) (fun q4 => ?_) (fun q4 => ?_)
    ·
      refine (g_aload_n d125_212 rfl rfl).trans ?_
      refine (j_getL d125_213 f10_102 sh_51 (by decide) rfl).trans ?_
      refine (j_putL d125_216 f10_102 sh_51 (by decide) rfl).trans ?_
      refine (g_goto (tgt := 394) d125_219 (by decide)).trans ?_
      exact g_ret d125_394 rfl
    ·
      refine (g_ldc2_w d125_206 cs10_110).trans ?_
      refine (g_goto (tgt := 216) d125_209 (by decide)).trans ?_
      refine (j_putL d125_216 f10_102 sh_51 (by decide) rfl).trans ?_
      refine (g_goto (tgt := 394) d125_219 (by decide)).trans ?_
      exact g_ret d125_394 rfl
  ·
    refine (g_aload_n d125_131 rfl rfl).trans ?_
    refine (g_aload_n d125_132 rfl rfl).trans ?_
    refine (j_getI (v := ρ 51 12) d125_133 f10_88 sh_51 (by decide) rfl rfl).trans ?_
    have q5 := hB 51 12 (by decide)
    refine (g_aload_n d125_136 rfl rfl).trans ?_
    refine (j_getI (v := ρ 51 13) d125_137 f10_91 sh_51 (by decide) rfl rfl).trans ?_
    have q6 := hB 51 13 (by decide)
    refine (j_isub d125_140).trans ?_
    refine (j_bipush d125_141 (by decide)).trans ?_
    refine j_icmp_ge (tgt := 172) d125_143 (by decide) (by omega) (by omega) (fun q7 => ?_) (fun q7 => ?_)
    ·
      refine (g_ldc2_w d125_172 cs10_110).trans ?_
      refine (j_putL d125_175 f10_102 sh_51 (by decide) rfl).trans ?_
      refine (g_aload_n d125_178 rfl rfl).trans ?_
      refine (g_dupR d125_179).trans ?_
      refine (j_getI (v := ρ 51 12) d125_180 f10_88 sh_51 (by decide) rfl rfl).trans ?_
      refine (j_iconst d125_183).trans ?_
      refine (j_iadd d125_184).trans ?_
      refine (j_putI d125_185 f10_88 sh_51 (by decide) rfl).trans ?_
      refine (g_goto (tgt := 101) d125_188 (by decide)).trans ?_
      rfl
    ·
      refine (g_ldc2_w d125_146 cs10_106).trans ?_
      refine (g_aload_n d125_149 rfl rfl).trans ?_
      refine (j_getL d125_150 f10_102 sh_51 (by decide) rfl).trans ?_
      refine (g_lmul d125_153).trans ?_
      refine (g_aload_n d125_154 rfl rfl).trans ?_
      refine (g_getR (q := 58) d125_155 f10_32 sh_51 (by decide) rfl).trans ?_
      refine (g_aload_n d125_158 rfl rfl).trans ?_
      refine (j_getI (v := ρ 51 12) d125_159 f10_88 sh_51 (by decide) rfl rfl).trans ?_
      refine j_iaload (v := ρ 58 (ρ 51 12)) d125_162 sh_58 (by omega) rfl (fun q8 => ?_)
      have q9 := hB 58 (ρ 51 12) (by omega)
      refine (g_i2l d125_163).trans ?_
      refine (g_ladd d125_164).trans ?_
      refine (g_ldc2_w d125_165 cs10_108).trans ?_
      refine (g_lsub d125_168).trans ?_
      refine (g_goto (tgt := 175) d125_169 (by decide)).trans ?_
      refine (j_putL d125_175 f10_102 sh_51 (by decide) rfl).trans ?_
      refine (g_aload_n d125_178 rfl rfl).trans ?_
      refine (g_dupR d125_179).trans ?_
      refine (j_getI (v := ρ 51 12) d125_180 f10_88 sh_51 (by decide) rfl rfl).trans ?_
      refine (j_iconst d125_183).trans ?_
      refine (j_iadd d125_184).trans ?_
      refine (j_putI d125_185 f10_88 sh_51 (by decide) rfl).trans ?_
      refine (g_goto (tgt := 101) d125_188 (by decide)).trans ?_
      rfl
set_option maxRecDepth 10000 in
theorem b125_268 {Q : Option Value → mm → Prop} (ρ : rm) (τ : Int64) (t : List (Option Value)) (r : Int) (hB : BM ρ) (h_r : SM r) : G 125 268 (some (.ref 51) :: t) ((some (vI r)).toList ++ []) (toM ρ τ) Q = (if r = 0 then (if (ρ 51 15) ≤ 4 then Q none (toM ρ (-1 : Int64)) else Q none (toM ρ (-4 : Int64))) else (if 4 ≤ (ρ 51 15) then G 125 241 (some (.ref 51) :: t) [] (toM (rup (rup (rup ρ 51 16 (ρ 51 16)) 51 15 ((ρ 51 15) + 1)) 51 12 ((ρ 51 12) + 1)) τ) Q else (if 0 ≤ (ρ 51 12) ∧ (ρ 51 12) < 200 then G 125 241 (some (.ref 51) :: t) [] (toM (rup (rup (rup ρ 51 16 (((10 * (ρ 51 16)) + (ρ 58 (ρ 51 12))) - 48)) 51 15 ((ρ 51 15) + 1)) 51 12 ((ρ 51 12) + 1)) τ) Q else False))) := by
  refine j_if_eq (tgt := 333) d125_268 (by decide) (by omega) (fun q1 => ?_) (fun q1 => ?_)
  ·
    refine (g_aload_n d125_333 rfl rfl).trans ?_
    refine (g_aload_n d125_334 rfl rfl).trans ?_
    refine (j_getI (v := ρ 51 15) d125_335 f10_94 sh_51 (by decide) rfl rfl).trans ?_
    have q2 := hB 51 15 (by decide)
    refine (j_iconst d125_338).trans ?_
    refine j_icmp_le (tgt := 348) d125_339 (by decide) (by omega) (by omega) (fun q3 => ?_) (fun q3 => ?_)
    ·
      refine (g_ldc2_w d125_348 cs10_112).trans ?_
      refine (j_putL d125_351 f10_102 sh_51 (by decide) rfl).trans ?_
      refine (g_goto (tgt := 394) d125_354 (by decide)).trans ?_
      exact g_ret d125_394 rfl
    ·
      refine (g_ldc2_w d125_342 cs10_110).trans ?_
      refine (g_goto (tgt := 351) d125_345 (by decide)).trans ?_
      refine (j_putL d125_351 f10_102 sh_51 (by decide) rfl).trans ?_
      refine (g_goto (tgt := 394) d125_354 (by decide)).trans ?_
      exact g_ret d125_394 rfl
  ·
    refine (g_aload_n d125_271 rfl rfl).trans ?_
    refine (g_aload_n d125_272 rfl rfl).trans ?_
    refine (j_getI (v := ρ 51 15) d125_273 f10_94 sh_51 (by decide) rfl rfl).trans ?_
    have q4 := hB 51 15 (by decide)
    refine (j_iconst d125_276).trans ?_
    refine j_icmp_ge (tgt := 303) d125_277 (by decide) (by omega) (by omega) (fun q5 => ?_) (fun q5 => ?_)
    ·
      refine (g_aload_n d125_303 rfl rfl).trans ?_
      refine (j_getI (v := ρ 51 16) d125_304 f10_97 sh_51 (by decide) rfl rfl).trans ?_
      have q6 := hB 51 16 (by decide)
      refine (j_putI d125_307 f10_97 sh_51 (by decide) rfl).trans ?_
      refine (g_aload_n d125_310 rfl rfl).trans ?_
      refine (g_dupR d125_311).trans ?_
      refine (j_getI (v := ρ 51 15) d125_312 f10_94 sh_51 (by decide) rfl (by simp [rup])).trans ?_
      refine (j_iconst d125_315).trans ?_
      refine (j_iadd d125_316).trans ?_
      refine (j_putI d125_317 f10_94 sh_51 (by decide) rfl).trans ?_
      refine (g_aload_n d125_320 rfl rfl).trans ?_
      refine (g_dupR d125_321).trans ?_
      refine (j_getI (v := ρ 51 12) d125_322 f10_88 sh_51 (by decide) rfl (by simp [rup])).trans ?_
      have q7 := hB 51 12 (by decide)
      refine (j_iconst d125_325).trans ?_
      refine (j_iadd d125_326).trans ?_
      refine (j_putI d125_327 f10_88 sh_51 (by decide) rfl).trans ?_
      refine (g_goto (tgt := 241) d125_330 (by decide)).trans ?_
      rfl
    ·
      refine (j_bipush d125_280 (by decide)).trans ?_
      refine (g_aload_n d125_282 rfl rfl).trans ?_
      refine (j_getI (v := ρ 51 16) d125_283 f10_97 sh_51 (by decide) rfl rfl).trans ?_
      have q8 := hB 51 16 (by decide)
      refine (j_imul d125_286).trans ?_
      refine (g_aload_n d125_287 rfl rfl).trans ?_
      refine (g_getR (q := 58) d125_288 f10_32 sh_51 (by decide) rfl).trans ?_
      refine (g_aload_n d125_291 rfl rfl).trans ?_
      refine (j_getI (v := ρ 51 12) d125_292 f10_88 sh_51 (by decide) rfl rfl).trans ?_
      have q9 := hB 51 12 (by decide)
      refine j_iaload (v := ρ 58 (ρ 51 12)) d125_295 sh_58 (by omega) rfl (fun q10 => ?_)
      have q11 := hB 58 (ρ 51 12) (by omega)
      refine (j_iadd d125_296).trans ?_
      refine (j_bipush d125_297 (by decide)).trans ?_
      refine (j_isub d125_299).trans ?_
      refine (g_goto (tgt := 307) d125_300 (by decide)).trans ?_
      refine (j_putI d125_307 f10_97 sh_51 (by decide) rfl).trans ?_
      refine (g_aload_n d125_310 rfl rfl).trans ?_
      refine (g_dupR d125_311).trans ?_
      refine (j_getI (v := ρ 51 15) d125_312 f10_94 sh_51 (by decide) rfl (by simp [rup])).trans ?_
      refine (j_iconst d125_315).trans ?_
      refine (j_iadd d125_316).trans ?_
      refine (j_putI d125_317 f10_94 sh_51 (by decide) rfl).trans ?_
      refine (g_aload_n d125_320 rfl rfl).trans ?_
      refine (g_dupR d125_321).trans ?_
      refine (j_getI (v := ρ 51 12) d125_322 f10_88 sh_51 (by decide) rfl (by simp [rup])).trans ?_
      refine (j_iconst d125_325).trans ?_
      refine (j_iadd d125_326).trans ?_
      refine (j_putI d125_327 f10_88 sh_51 (by decide) rfl).trans ?_
      refine (g_goto (tgt := 241) d125_330 (by decide)).trans ?_
      rfl
theorem d126_0 : ins 126 0 = some (.aload_n 0) := by decide +kernel
theorem d126_1 : ins 126 1 = some (.aload_n 0) := by decide +kernel
theorem d126_2 : ins 126 2 = some (.getfield 91) := by decide +kernel
theorem d126_5 : ins 126 5 = some (.putfield 116) := by decide +kernel
theorem d126_8 : ins 126 8 = some (.iconst 0) := by decide +kernel
theorem d126_9 : ins 126 9 = some (.ireturn) := by decide +kernel
set_option maxRecDepth 10000 in
theorem b126_0 {Q : Option Value → mm → Prop} (ρ : rm) (τ : Int64)  (hB : BM ρ)  : G 126 0 (some (.ref 51) :: []) [] (toM ρ τ) Q = Q (some (vI 0)) (toM (rup ρ 51 17 (ρ 51 13)) τ) := by
  refine (g_aload_n d126_0 rfl rfl).trans ?_
  refine (g_aload_n d126_1 rfl rfl).trans ?_
  refine (j_getI (v := ρ 51 13) d126_2 f10_91 sh_51 (by decide) rfl rfl).trans ?_
  have q1 := hB 51 13 (by decide)
  refine (j_putI d126_5 f10_116 sh_51 (by decide) rfl).trans ?_
  refine (j_iconst d126_8).trans ?_
  exact g_iret d126_9 rfl rfl
theorem d127_0 : ins 127 0 = some (.aload_n 0) := by decide +kernel
theorem d127_1 : ins 127 1 = some (.invokevirtual 119) := by decide +kernel
theorem d127_4 : ins 127 4 = some (.aload_n 0) := by decide +kernel
theorem d127_5 : ins 127 5 = some (.getfield 102) := by decide +kernel
theorem d127_8 : ins 127 8 = some (.ldc2_w 112) := by decide +kernel
theorem d127_11 : ins 127 11 = some (.lcmp) := by decide +kernel
theorem d127_12 : ins 127 12 = some (.ifCond .ne 15) := by decide +kernel
theorem d127_15 : ins 127 15 = some (.aload_n 0) := by decide +kernel
theorem d127_16 : ins 127 16 = some (.getfield 97) := by decide +kernel
theorem d127_19 : ins 127 19 = some (.iload_n 2) := by decide +kernel
theorem d127_20 : ins 127 20 = some (.iload_n 3) := by decide +kernel
theorem d127_21 : ins 127 21 = some (.invokestatic 69) := by decide +kernel
theorem d127_24 : ins 127 24 = some (.ifCond .ne 8) := by decide +kernel
theorem d127_27 : ins 127 27 = some (.aload_n 0) := by decide +kernel
theorem d127_28 : ins 127 28 = some (.invokevirtual 122) := by decide +kernel
theorem d127_31 : ins 127 31 = some (.ireturn) := by decide +kernel
theorem d127_32 : ins 127 32 = some (.aload_n 0) := by decide +kernel
theorem d127_33 : ins 127 33 = some (.getfield 35) := by decide +kernel
theorem d127_36 : ins 127 36 = some (.iload_n 1) := by decide +kernel
theorem d127_37 : ins 127 37 = some (.aload_n 0) := by decide +kernel
theorem d127_38 : ins 127 38 = some (.getfield 97) := by decide +kernel
theorem d127_41 : ins 127 41 = some (.iastore) := by decide +kernel
theorem d127_42 : ins 127 42 = some (.iconst 1) := by decide +kernel
theorem d127_43 : ins 127 43 = some (.ireturn) := by decide +kernel
set_option maxRecDepth 10000 in
theorem b127_0 {Q : Option Value → mm → Prop} (ρ : rm) (τ : Int64) (a1 : Int) (a2 : Int) (a3 : Int) (hB : BM ρ) (h_a1 : SM a1) (h_a2 : SM a2) (h_a3 : SM a3) : G 127 0 (some (.ref 51) :: some (vI a1) :: some (vI a2) :: some (vI a3) :: []) [] (toM ρ τ) Q = G 125 0 [some (.ref 51)] [] (toM ρ τ) (fun v μ2 => G 127 4 (some (.ref 51) :: some (vI a1) :: some (vI a2) :: some (vI a3) :: []) (v.toList ++ []) μ2 Q) := by
  refine (g_aload_n d127_0 rfl rfl).trans ?_
  exact g_cV d127_1 k10_119 rfl rfl rfl
set_option maxRecDepth 10000 in
theorem b127_4 {Q : Option Value → mm → Prop} (ρ : rm) (τ : Int64) (l1 : Int) (l2 : Int) (l3 : Int) (t : List (Option Value)) (hB : BM ρ) (h_l1 : SM l1) (h_l2 : SM l2) (h_l3 : SM l3) : G 127 4 (some (.ref 51) :: some (vI l1) :: some (vI l2) :: some (vI l3) :: t) ((none : Option Value).toList ++ []) (toM ρ τ) Q = (if τ = (-1 : Int64) then G 117 0 [some (vI (ρ 51 16)), some (vI l2), some (vI l3)] [] (toM ρ τ) (fun v μ2 => G 127 24 (some (.ref 51) :: some (vI l1) :: some (vI l2) :: some (vI l3) :: t) (v.toList ++ []) μ2 Q) else G 126 0 [some (.ref 51)] [] (toM ρ τ) (fun v μ2 => G 127 31 (some (.ref 51) :: some (vI l1) :: some (vI l2) :: some (vI l3) :: t) (v.toList ++ []) μ2 Q)) := by
  refine (g_aload_n d127_4 rfl rfl).trans ?_
  refine (j_getL d127_5 f10_102 sh_51 (by decide) rfl).trans ?_
  refine (g_ldc2_w d127_8 cs10_112).trans ?_
  refine j_lcmp_ne (tgt := 27) d127_11 d127_12 (by decide) (fun q1 => ?_) (fun q1 => ?_)
  ·
    refine (g_aload_n d127_15 rfl rfl).trans ?_
    refine (j_getI (v := ρ 51 16) d127_16 f10_97 sh_51 (by decide) rfl rfl).trans ?_
    have q2 := hB 51 16 (by decide)
    refine (g_iload_n d127_19 rfl).trans ?_
    refine (g_iload_n d127_20 rfl).trans ?_
    exact g_cS d127_21 k10_69 rfl rfl rfl
  ·
    refine (g_aload_n d127_27 rfl rfl).trans ?_
    exact g_cV d127_28 k10_122 rfl rfl rfl
set_option maxRecDepth 10000 in
theorem b127_24 {Q : Option Value → mm → Prop} (ρ : rm) (τ : Int64) (l1 : Int) (l2 : Int) (l3 : Int) (t : List (Option Value)) (r : Int) (hB : BM ρ) (h_l1 : SM l1) (h_l2 : SM l2) (h_l3 : SM l3) (h_r : SM r) : G 127 24 (some (.ref 51) :: some (vI l1) :: some (vI l2) :: some (vI l3) :: t) ((some (vI r)).toList ++ []) (toM ρ τ) Q = (if r = 0 then G 126 0 [some (.ref 51)] [] (toM ρ τ) (fun v μ2 => G 127 31 (some (.ref 51) :: some (vI l1) :: some (vI l2) :: some (vI l3) :: t) (v.toList ++ []) μ2 Q) else (if 0 ≤ l1 ∧ l1 < 60 then Q (some (vI 1)) (toM (rup ρ 59 l1 (ρ 51 16)) τ) else False)) := by
  refine j_if_ne (tgt := 32) d127_24 (by decide) (by omega) (fun q1 => ?_) (fun q1 => ?_)
  ·
    refine (g_aload_n d127_27 rfl rfl).trans ?_
    exact g_cV d127_28 k10_122 rfl rfl rfl
  ·
    refine (g_aload_n d127_32 rfl rfl).trans ?_
    refine (g_getR (q := 59) d127_33 f10_35 sh_51 (by decide) rfl).trans ?_
    refine (g_iload_n d127_36 rfl).trans ?_
    refine (g_aload_n d127_37 rfl rfl).trans ?_
    refine (j_getI (v := ρ 51 16) d127_38 f10_97 sh_51 (by decide) rfl rfl).trans ?_
    have q2 := hB 51 16 (by decide)
    refine j_iastore d127_41 sh_59 (by omega) (fun q3 => ?_)
    refine (j_iconst d127_42).trans ?_
    exact g_iret d127_43 rfl rfl
set_option maxRecDepth 10000 in
theorem b127_31 {Q : Option Value → mm → Prop} (ρ : rm) (τ : Int64) (l1 : Int) (l2 : Int) (l3 : Int) (t : List (Option Value)) (r : Int) (hB : BM ρ) (h_l1 : SM l1) (h_l2 : SM l2) (h_l3 : SM l3) (h_r : SM r) (h01_r : r = 0 ∨ r = 1) : G 127 31 (some (.ref 51) :: some (vI l1) :: some (vI l2) :: some (vI l3) :: t) ((some (vI r)).toList ++ []) (toM ρ τ) Q = Q (some (vI r)) (toM ρ τ) := by
  exact g_iret d127_31 rfl (nar_01 h01_r)
theorem d128_0 : ins 128 0 = some (.aload_n 0) := by decide +kernel
theorem d128_1 : ins 128 1 = some (.iload_n 1) := by decide +kernel
theorem d128_2 : ins 128 2 = some (.iconst 1) := by decide +kernel
theorem d128_3 : ins 128 3 = some (.iadd) := by decide +kernel
theorem d128_4 : ins 128 4 = some (.iconst 2) := by decide +kernel
theorem d128_5 : ins 128 5 = some (.bipush 10) := by decide +kernel
theorem d128_7 : ins 128 7 = some (.invokevirtual 126) := by decide +kernel
theorem d128_10 : ins 128 10 = some (.ifCond .ne 5) := by decide +kernel
theorem d128_13 : ins 128 13 = some (.iconst 0) := by decide +kernel
theorem d128_14 : ins 128 14 = some (.ireturn) := by decide +kernel
theorem d128_15 : ins 128 15 = some (.aload_n 0) := by decide +kernel
theorem d128_16 : ins 128 16 = some (.aload_n 0) := by decide +kernel
theorem d128_17 : ins 128 17 = some (.getfield 35) := by decide +kernel
theorem d128_20 : ins 128 20 = some (.iload_n 1) := by decide +kernel
theorem d128_21 : ins 128 21 = some (.iconst 1) := by decide +kernel
theorem d128_22 : ins 128 22 = some (.iadd) := by decide +kernel
theorem d128_23 : ins 128 23 = some (.iaload) := by decide +kernel
theorem d128_24 : ins 128 24 = some (.putfield 129) := by decide +kernel
theorem d128_27 : ins 128 27 = some (.aload_n 0) := by decide +kernel
theorem d128_28 : ins 128 28 = some (.iconst 0) := by decide +kernel
theorem d128_29 : ins 128 29 = some (.putfield 132) := by decide +kernel
theorem d128_32 : ins 128 32 = some (.aload_n 0) := by decide +kernel
theorem d128_33 : ins 128 33 = some (.iconst 0) := by decide +kernel
theorem d128_34 : ins 128 34 = some (.putfield 135) := by decide +kernel
theorem d128_37 : ins 128 37 = some (.aload_n 0) := by decide +kernel
theorem d128_38 : ins 128 38 = some (.iconst 0) := by decide +kernel
theorem d128_39 : ins 128 39 = some (.putfield 138) := by decide +kernel
theorem d128_42 : ins 128 42 = some (.iconst 1) := by decide +kernel
theorem d128_43 : ins 128 43 = some (.ireturn) := by decide +kernel
set_option maxRecDepth 10000 in
theorem b128_0 {Q : Option Value → mm → Prop} (ρ : rm) (τ : Int64) (a1 : Int) (hB : BM ρ) (h_a1 : SM a1) : G 128 0 (some (.ref 51) :: some (vI a1) :: []) [] (toM ρ τ) Q = G 127 0 [some (.ref 51), some (vI (a1 + 1)), some (vI 2), some (vI 10)] [] (toM ρ τ) (fun v μ2 => G 128 10 (some (.ref 51) :: some (vI a1) :: []) (v.toList ++ []) μ2 Q) := by
  refine (g_aload_n d128_0 rfl rfl).trans ?_
  refine (g_iload_n d128_1 rfl).trans ?_
  refine (j_iconst d128_2).trans ?_
  refine (j_iadd d128_3).trans ?_
  refine (j_iconst d128_4).trans ?_
  refine (j_bipush d128_5 (by decide)).trans ?_
  exact g_cV d128_7 k10_126 rfl rfl rfl
set_option maxRecDepth 10000 in
theorem b128_10 {Q : Option Value → mm → Prop} (ρ : rm) (τ : Int64) (l1 : Int) (t : List (Option Value)) (r : Int) (hB : BM ρ) (h_l1 : SM l1) (h_r : SM r) : G 128 10 (some (.ref 51) :: some (vI l1) :: t) ((some (vI r)).toList ++ []) (toM ρ τ) Q = (if r = 0 then Q (some (vI 0)) (toM ρ τ) else (if 0 ≤ (l1 + 1) ∧ (l1 + 1) < 60 then Q (some (vI 1)) (toM (rup (rup (rup (rup ρ 51 19 (ρ 59 (l1 + 1))) 51 20 0) 51 21 0) 51 22 0) τ) else False)) := by
  refine j_if_ne (tgt := 15) d128_10 (by decide) (by omega) (fun q1 => ?_) (fun q1 => ?_)
  ·
    refine (j_iconst d128_13).trans ?_
    exact g_iret d128_14 rfl rfl
  ·
    refine (g_aload_n d128_15 rfl rfl).trans ?_
    refine (g_aload_n d128_16 rfl rfl).trans ?_
    refine (g_getR (q := 59) d128_17 f10_35 sh_51 (by decide) rfl).trans ?_
    refine (g_iload_n d128_20 rfl).trans ?_
    refine (j_iconst d128_21).trans ?_
    refine (j_iadd d128_22).trans ?_
    refine j_iaload (v := ρ 59 (l1 + 1)) d128_23 sh_59 (by omega) rfl (fun q2 => ?_)
    have q3 := hB 59 (l1 + 1) (by omega)
    refine (j_putI d128_24 f10_129 sh_51 (by decide) rfl).trans ?_
    refine (g_aload_n d128_27 rfl rfl).trans ?_
    refine (j_iconst d128_28).trans ?_
    refine (j_putI d128_29 f10_132 sh_51 (by decide) rfl).trans ?_
    refine (g_aload_n d128_32 rfl rfl).trans ?_
    refine (j_iconst d128_33).trans ?_
    refine (j_putI d128_34 f10_135 sh_51 (by decide) rfl).trans ?_
    refine (g_aload_n d128_37 rfl rfl).trans ?_
    refine (j_iconst d128_38).trans ?_
    refine (j_putI d128_39 f10_138 sh_51 (by decide) rfl).trans ?_
    refine (j_iconst d128_42).trans ?_
    exact g_iret d128_43 rfl rfl
theorem d129_0 : ins 129 0 = some (.aload_n 0) := by decide +kernel
theorem d129_1 : ins 129 1 = some (.getfield 132) := by decide +kernel
theorem d129_4 : ins 129 4 = some (.bipush 8) := by decide +kernel
theorem d129_6 : ins 129 6 = some (.if_icmp .ne 8) := by decide +kernel
theorem d129_9 : ins 129 9 = some (.aload_n 0) := by decide +kernel
theorem d129_10 : ins 129 10 = some (.invokevirtual 122) := by decide +kernel
theorem d129_13 : ins 129 13 = some (.ireturn) := by decide +kernel
theorem d129_14 : ins 129 14 = some (.aload_n 0) := by decide +kernel
theorem d129_15 : ins 129 15 = some (.dup) := by decide +kernel
theorem d129_16 : ins 129 16 = some (.getfield 132) := by decide +kernel
theorem d129_19 : ins 129 19 = some (.iconst 1) := by decide +kernel
theorem d129_20 : ins 129 20 = some (.iadd) := by decide +kernel
theorem d129_21 : ins 129 21 = some (.putfield 132) := by decide +kernel
theorem d129_24 : ins 129 24 = some (.aload_n 0) := by decide +kernel
theorem d129_25 : ins 129 25 = some (.iload_n 1) := by decide +kernel
theorem d129_26 : ins 129 26 = some (.iconst 1) := by decide +kernel
theorem d129_27 : ins 129 27 = some (.iadd) := by decide +kernel
theorem d129_28 : ins 129 28 = some (.iconst 0) := by decide +kernel
theorem d129_29 : ins 129 29 = some (.aload_n 0) := by decide +kernel
theorem d129_30 : ins 129 30 = some (.getfield 129) := by decide +kernel
theorem d129_33 : ins 129 33 = some (.iconst 1) := by decide +kernel
theorem d129_34 : ins 129 34 = some (.isub) := by decide +kernel
theorem d129_35 : ins 129 35 = some (.invokevirtual 126) := by decide +kernel
theorem d129_38 : ins 129 38 = some (.ifCond .eq 20) := by decide +kernel
theorem d129_41 : ins 129 41 = some (.aload_n 0) := by decide +kernel
theorem d129_42 : ins 129 42 = some (.iload_n 1) := by decide +kernel
theorem d129_43 : ins 129 43 = some (.iconst 2) := by decide +kernel
theorem d129_44 : ins 129 44 = some (.iadd) := by decide +kernel
theorem d129_45 : ins 129 45 = some (.iconst 0) := by decide +kernel
theorem d129_46 : ins 129 46 = some (.aload_n 0) := by decide +kernel
theorem d129_47 : ins 129 47 = some (.getfield 129) := by decide +kernel
theorem d129_50 : ins 129 50 = some (.iconst 1) := by decide +kernel
theorem d129_51 : ins 129 51 = some (.isub) := by decide +kernel
theorem d129_52 : ins 129 52 = some (.invokevirtual 126) := by decide +kernel
theorem d129_55 : ins 129 55 = some (.ifCond .ne 5) := by decide +kernel
theorem d129_58 : ins 129 58 = some (.iconst 0) := by decide +kernel
theorem d129_59 : ins 129 59 = some (.ireturn) := by decide +kernel
theorem d129_60 : ins 129 60 = some (.aload_n 0) := by decide +kernel
theorem d129_61 : ins 129 61 = some (.getfield 35) := by decide +kernel
theorem d129_64 : ins 129 64 = some (.iload_n 1) := by decide +kernel
theorem d129_65 : ins 129 65 = some (.iconst 1) := by decide +kernel
theorem d129_66 : ins 129 66 = some (.iadd) := by decide +kernel
theorem d129_67 : ins 129 67 = some (.iaload) := by decide +kernel
theorem d129_68 : ins 129 68 = some (.aload_n 0) := by decide +kernel
theorem d129_69 : ins 129 69 = some (.getfield 35) := by decide +kernel
theorem d129_72 : ins 129 72 = some (.iload_n 1) := by decide +kernel
theorem d129_73 : ins 129 73 = some (.iconst 2) := by decide +kernel
theorem d129_74 : ins 129 74 = some (.iadd) := by decide +kernel
theorem d129_75 : ins 129 75 = some (.iaload) := by decide +kernel
theorem d129_76 : ins 129 76 = some (.if_icmp .ne 10) := by decide +kernel
theorem d129_79 : ins 129 79 = some (.aload_n 0) := by decide +kernel
theorem d129_80 : ins 129 80 = some (.invokevirtual 122) := by decide +kernel
theorem d129_83 : ins 129 83 = some (.goto 13) := by decide +kernel
theorem d129_86 : ins 129 86 = some (.aload_n 0) := by decide +kernel
theorem d129_87 : ins 129 87 = some (.iload_n 1) := by decide +kernel
theorem d129_88 : ins 129 88 = some (.iconst 3) := by decide +kernel
theorem d129_89 : ins 129 89 = some (.iadd) := by decide +kernel
theorem d129_90 : ins 129 90 = some (.iconst 1) := by decide +kernel
theorem d129_91 : ins 129 91 = some (.bipush 99) := by decide +kernel
theorem d129_93 : ins 129 93 = some (.invokevirtual 126) := by decide +kernel
theorem d129_96 : ins 129 96 = some (.ireturn) := by decide +kernel
set_option maxRecDepth 10000 in
theorem b129_0 {Q : Option Value → mm → Prop} (ρ : rm) (τ : Int64) (a1 : Int) (hB : BM ρ) (h_a1 : SM a1) : G 129 0 (some (.ref 51) :: some (vI a1) :: []) [] (toM ρ τ) Q = (if (ρ 51 20) = 8 then G 126 0 [some (.ref 51)] [] (toM ρ τ) (fun v μ2 => G 129 13 (some (.ref 51) :: some (vI a1) :: []) (v.toList ++ []) μ2 Q) else G 127 0 [some (.ref 51), some (vI (a1 + 1)), some (vI 0), some (vI ((ρ 51 19) - 1))] [] (toM (rup ρ 51 20 ((ρ 51 20) + 1)) τ) (fun v μ2 => G 129 38 (some (.ref 51) :: some (vI a1) :: []) (v.toList ++ []) μ2 Q)) := by
  refine (g_aload_n d129_0 rfl rfl).trans ?_
  refine (j_getI (v := ρ 51 20) d129_1 f10_132 sh_51 (by decide) rfl rfl).trans ?_
  have q1 := hB 51 20 (by decide)
  refine (j_bipush d129_4 (by decide)).trans ?_
  refine j_icmp_ne (tgt := 14) d129_6 (by decide) (by omega) (by omega) (fun q2 => ?_) (fun q2 => ?_)
  ·
    refine (g_aload_n d129_9 rfl rfl).trans ?_
    exact g_cV d129_10 k10_122 rfl rfl rfl
  ·
    refine (g_aload_n d129_14 rfl rfl).trans ?_
    refine (g_dupR d129_15).trans ?_
    refine (j_getI (v := ρ 51 20) d129_16 f10_132 sh_51 (by decide) rfl rfl).trans ?_
    refine (j_iconst d129_19).trans ?_
    refine (j_iadd d129_20).trans ?_
    refine (j_putI d129_21 f10_132 sh_51 (by decide) rfl).trans ?_
    refine (g_aload_n d129_24 rfl rfl).trans ?_
    refine (g_iload_n d129_25 rfl).trans ?_
    refine (j_iconst d129_26).trans ?_
    refine (j_iadd d129_27).trans ?_
    refine (j_iconst d129_28).trans ?_
    refine (g_aload_n d129_29 rfl rfl).trans ?_
    refine (j_getI (v := ρ 51 19) d129_30 f10_129 sh_51 (by decide) rfl (by simp [rup])).trans ?_
    have q3 := hB 51 19 (by decide)
    refine (j_iconst d129_33).trans ?_
    refine (j_isub d129_34).trans ?_
    exact g_cV d129_35 k10_126 rfl rfl rfl
set_option maxRecDepth 10000 in
theorem b129_13 {Q : Option Value → mm → Prop} (ρ : rm) (τ : Int64) (l1 : Int) (t : List (Option Value)) (r : Int) (hB : BM ρ) (h_l1 : SM l1) (h_r : SM r) (h01_r : r = 0 ∨ r = 1) : G 129 13 (some (.ref 51) :: some (vI l1) :: t) ((some (vI r)).toList ++ []) (toM ρ τ) Q = Q (some (vI r)) (toM ρ τ) := by
  exact g_iret d129_13 rfl (nar_01 h01_r)
set_option maxRecDepth 10000 in
theorem b129_38 {Q : Option Value → mm → Prop} (ρ : rm) (τ : Int64) (l1 : Int) (t : List (Option Value)) (r : Int) (hB : BM ρ) (h_l1 : SM l1) (h_r : SM r) : G 129 38 (some (.ref 51) :: some (vI l1) :: t) ((some (vI r)).toList ++ []) (toM ρ τ) Q = (if r = 0 then Q (some (vI 0)) (toM ρ τ) else G 127 0 [some (.ref 51), some (vI (l1 + 2)), some (vI 0), some (vI ((ρ 51 19) - 1))] [] (toM ρ τ) (fun v μ2 => G 129 55 (some (.ref 51) :: some (vI l1) :: t) (v.toList ++ []) μ2 Q)) := by
  refine j_if_eq (tgt := 58) d129_38 (by decide) (by omega) (fun q1 => ?_) (fun q1 => ?_)
  ·
    refine (j_iconst d129_58).trans ?_
    exact g_iret d129_59 rfl rfl
  ·
    refine (g_aload_n d129_41 rfl rfl).trans ?_
    refine (g_iload_n d129_42 rfl).trans ?_
    refine (j_iconst d129_43).trans ?_
    refine (j_iadd d129_44).trans ?_
    refine (j_iconst d129_45).trans ?_
    refine (g_aload_n d129_46 rfl rfl).trans ?_
    refine (j_getI (v := ρ 51 19) d129_47 f10_129 sh_51 (by decide) rfl rfl).trans ?_
    have q2 := hB 51 19 (by decide)
    refine (j_iconst d129_50).trans ?_
    refine (j_isub d129_51).trans ?_
    exact g_cV d129_52 k10_126 rfl rfl rfl
set_option maxRecDepth 10000 in
theorem b129_55 {Q : Option Value → mm → Prop} (ρ : rm) (τ : Int64) (l1 : Int) (t : List (Option Value)) (r : Int) (hB : BM ρ) (h_l1 : SM l1) (h_r : SM r) : G 129 55 (some (.ref 51) :: some (vI l1) :: t) ((some (vI r)).toList ++ []) (toM ρ τ) Q = (if r = 0 then Q (some (vI 0)) (toM ρ τ) else (if 0 ≤ (l1 + 1) ∧ (l1 + 1) < 60 then (if 0 ≤ (l1 + 2) ∧ (l1 + 2) < 60 then (if (ρ 59 (l1 + 1)) = (ρ 59 (l1 + 2)) then G 126 0 [some (.ref 51)] [] (toM ρ τ) (fun v μ2 => G 129 83 (some (.ref 51) :: some (vI l1) :: t) (v.toList ++ []) μ2 Q) else G 127 0 [some (.ref 51), some (vI (l1 + 3)), some (vI 1), some (vI 99)] [] (toM ρ τ) (fun v μ2 => G 129 96 (some (.ref 51) :: some (vI l1) :: t) (v.toList ++ []) μ2 Q)) else False) else False)) := by
  refine j_if_ne (tgt := 60) d129_55 (by decide) (by omega) (fun q1 => ?_) (fun q1 => ?_)
  ·
    refine (j_iconst d129_58).trans ?_
    exact g_iret d129_59 rfl rfl
  ·
    refine (g_aload_n d129_60 rfl rfl).trans ?_
    refine (g_getR (q := 59) d129_61 f10_35 sh_51 (by decide) rfl).trans ?_
    refine (g_iload_n d129_64 rfl).trans ?_
    refine (j_iconst d129_65).trans ?_
    refine (j_iadd d129_66).trans ?_
    refine j_iaload (v := ρ 59 (l1 + 1)) d129_67 sh_59 (by omega) rfl (fun q2 => ?_)
    have q3 := hB 59 (l1 + 1) (by omega)
    refine (g_aload_n d129_68 rfl rfl).trans ?_
    refine (g_getR (q := 59) d129_69 f10_35 sh_51 (by decide) rfl).trans ?_
    refine (g_iload_n d129_72 rfl).trans ?_
    refine (j_iconst d129_73).trans ?_
    refine (j_iadd d129_74).trans ?_
    refine j_iaload (v := ρ 59 (l1 + 2)) d129_75 sh_59 (by omega) rfl (fun q4 => ?_)
    have q5 := hB 59 (l1 + 2) (by omega)
    refine j_icmp_ne (tgt := 86) d129_76 (by decide) (by omega) (by omega) (fun q6 => ?_) (fun q6 => ?_)
    ·
      refine (g_aload_n d129_79 rfl rfl).trans ?_
      exact g_cV d129_80 k10_122 rfl rfl rfl
    ·
      refine (g_aload_n d129_86 rfl rfl).trans ?_
      refine (g_iload_n d129_87 rfl).trans ?_
      refine (j_iconst d129_88).trans ?_
      refine (j_iadd d129_89).trans ?_
      refine (j_iconst d129_90).trans ?_
      refine (j_bipush d129_91 (by decide)).trans ?_
      exact g_cV d129_93 k10_126 rfl rfl rfl
set_option maxRecDepth 10000 in
theorem b129_83 {Q : Option Value → mm → Prop} (ρ : rm) (τ : Int64) (l1 : Int) (t : List (Option Value)) (r : Int) (hB : BM ρ) (h_l1 : SM l1) (h_r : SM r) (h01_r : r = 0 ∨ r = 1) : G 129 83 (some (.ref 51) :: some (vI l1) :: t) ((some (vI r)).toList ++ []) (toM ρ τ) Q = Q (some (vI r)) (toM ρ τ) := by
  refine (g_goto (tgt := 96) d129_83 (by decide)).trans ?_
  exact g_iret d129_96 rfl (nar_01 h01_r)
set_option maxRecDepth 10000 in
theorem b129_96 {Q : Option Value → mm → Prop} (ρ : rm) (τ : Int64) (l1 : Int) (t : List (Option Value)) (r : Int) (hB : BM ρ) (h_l1 : SM l1) (h_r : SM r) (h01_r : r = 0 ∨ r = 1) : G 129 96 (some (.ref 51) :: some (vI l1) :: t) ((some (vI r)).toList ++ []) (toM ρ τ) Q = Q (some (vI r)) (toM ρ τ) := by
  exact g_iret d129_96 rfl (nar_01 h01_r)
theorem d130_0 : ins 130 0 = some (.aload_n 0) := by decide +kernel
theorem d130_1 : ins 130 1 = some (.getfield 135) := by decide +kernel
theorem d130_4 : ins 130 4 = some (.bipush 10) := by decide +kernel
theorem d130_6 : ins 130 6 = some (.if_icmp .ne 8) := by decide +kernel
theorem d130_9 : ins 130 9 = some (.aload_n 0) := by decide +kernel
theorem d130_10 : ins 130 10 = some (.invokevirtual 122) := by decide +kernel
theorem d130_13 : ins 130 13 = some (.ireturn) := by decide +kernel
theorem d130_14 : ins 130 14 = some (.aload_n 0) := by decide +kernel
theorem d130_15 : ins 130 15 = some (.dup) := by decide +kernel
theorem d130_16 : ins 130 16 = some (.getfield 135) := by decide +kernel
theorem d130_19 : ins 130 19 = some (.iconst 1) := by decide +kernel
theorem d130_20 : ins 130 20 = some (.iadd) := by decide +kernel
theorem d130_21 : ins 130 21 = some (.putfield 135) := by decide +kernel
theorem d130_24 : ins 130 24 = some (.aload_n 0) := by decide +kernel
theorem d130_25 : ins 130 25 = some (.iload_n 1) := by decide +kernel
theorem d130_26 : ins 130 26 = some (.iconst 1) := by decide +kernel
theorem d130_27 : ins 130 27 = some (.iadd) := by decide +kernel
theorem d130_28 : ins 130 28 = some (.iconst 0) := by decide +kernel
theorem d130_29 : ins 130 29 = some (.aload_n 0) := by decide +kernel
theorem d130_30 : ins 130 30 = some (.getfield 129) := by decide +kernel
theorem d130_33 : ins 130 33 = some (.iconst 1) := by decide +kernel
theorem d130_34 : ins 130 34 = some (.isub) := by decide +kernel
theorem d130_35 : ins 130 35 = some (.invokevirtual 126) := by decide +kernel
theorem d130_38 : ins 130 38 = some (.ifCond .eq 34) := by decide +kernel
theorem d130_41 : ins 130 41 = some (.aload_n 0) := by decide +kernel
theorem d130_42 : ins 130 42 = some (.iload_n 1) := by decide +kernel
theorem d130_43 : ins 130 43 = some (.iconst 2) := by decide +kernel
theorem d130_44 : ins 130 44 = some (.iadd) := by decide +kernel
theorem d130_45 : ins 130 45 = some (.iconst 0) := by decide +kernel
theorem d130_46 : ins 130 46 = some (.sipush 1439) := by decide +kernel
theorem d130_49 : ins 130 49 = some (.invokevirtual 126) := by decide +kernel
theorem d130_52 : ins 130 52 = some (.ifCond .eq 20) := by decide +kernel
theorem d130_55 : ins 130 55 = some (.aload_n 0) := by decide +kernel
theorem d130_56 : ins 130 56 = some (.iload_n 1) := by decide +kernel
theorem d130_57 : ins 130 57 = some (.iconst 3) := by decide +kernel
theorem d130_58 : ins 130 58 = some (.iadd) := by decide +kernel
theorem d130_59 : ins 130 59 = some (.iconst 0) := by decide +kernel
theorem d130_60 : ins 130 60 = some (.bipush 99) := by decide +kernel
theorem d130_62 : ins 130 62 = some (.invokevirtual 126) := by decide +kernel
theorem d130_65 : ins 130 65 = some (.ifCond .eq 7) := by decide +kernel
theorem d130_68 : ins 130 68 = some (.iconst 1) := by decide +kernel
theorem d130_69 : ins 130 69 = some (.goto 4) := by decide +kernel
theorem d130_72 : ins 130 72 = some (.iconst 0) := by decide +kernel
theorem d130_73 : ins 130 73 = some (.ireturn) := by decide +kernel
set_option maxRecDepth 10000 in
theorem b130_0 {Q : Option Value → mm → Prop} (ρ : rm) (τ : Int64) (a1 : Int) (hB : BM ρ) (h_a1 : SM a1) : G 130 0 (some (.ref 51) :: some (vI a1) :: []) [] (toM ρ τ) Q = (if (ρ 51 21) = 10 then G 126 0 [some (.ref 51)] [] (toM ρ τ) (fun v μ2 => G 130 13 (some (.ref 51) :: some (vI a1) :: []) (v.toList ++ []) μ2 Q) else G 127 0 [some (.ref 51), some (vI (a1 + 1)), some (vI 0), some (vI ((ρ 51 19) - 1))] [] (toM (rup ρ 51 21 ((ρ 51 21) + 1)) τ) (fun v μ2 => G 130 38 (some (.ref 51) :: some (vI a1) :: []) (v.toList ++ []) μ2 Q)) := by
  refine (g_aload_n d130_0 rfl rfl).trans ?_
  refine (j_getI (v := ρ 51 21) d130_1 f10_135 sh_51 (by decide) rfl rfl).trans ?_
  have q1 := hB 51 21 (by decide)
  refine (j_bipush d130_4 (by decide)).trans ?_
  refine j_icmp_ne (tgt := 14) d130_6 (by decide) (by omega) (by omega) (fun q2 => ?_) (fun q2 => ?_)
  ·
    refine (g_aload_n d130_9 rfl rfl).trans ?_
    exact g_cV d130_10 k10_122 rfl rfl rfl
  ·
    refine (g_aload_n d130_14 rfl rfl).trans ?_
    refine (g_dupR d130_15).trans ?_
    refine (j_getI (v := ρ 51 21) d130_16 f10_135 sh_51 (by decide) rfl rfl).trans ?_
    refine (j_iconst d130_19).trans ?_
    refine (j_iadd d130_20).trans ?_
    refine (j_putI d130_21 f10_135 sh_51 (by decide) rfl).trans ?_
    refine (g_aload_n d130_24 rfl rfl).trans ?_
    refine (g_iload_n d130_25 rfl).trans ?_
    refine (j_iconst d130_26).trans ?_
    refine (j_iadd d130_27).trans ?_
    refine (j_iconst d130_28).trans ?_
    refine (g_aload_n d130_29 rfl rfl).trans ?_
    refine (j_getI (v := ρ 51 19) d130_30 f10_129 sh_51 (by decide) rfl (by simp [rup])).trans ?_
    have q3 := hB 51 19 (by decide)
    refine (j_iconst d130_33).trans ?_
    refine (j_isub d130_34).trans ?_
    exact g_cV d130_35 k10_126 rfl rfl rfl
set_option maxRecDepth 10000 in
theorem b130_13 {Q : Option Value → mm → Prop} (ρ : rm) (τ : Int64) (l1 : Int) (t : List (Option Value)) (r : Int) (hB : BM ρ) (h_l1 : SM l1) (h_r : SM r) (h01_r : r = 0 ∨ r = 1) : G 130 13 (some (.ref 51) :: some (vI l1) :: t) ((some (vI r)).toList ++ []) (toM ρ τ) Q = Q (some (vI r)) (toM ρ τ) := by
  exact g_iret d130_13 rfl (nar_01 h01_r)
set_option maxRecDepth 10000 in
theorem b130_38 {Q : Option Value → mm → Prop} (ρ : rm) (τ : Int64) (l1 : Int) (t : List (Option Value)) (r : Int) (hB : BM ρ) (h_l1 : SM l1) (h_r : SM r) : G 130 38 (some (.ref 51) :: some (vI l1) :: t) ((some (vI r)).toList ++ []) (toM ρ τ) Q = (if r = 0 then Q (some (vI 0)) (toM ρ τ) else G 127 0 [some (.ref 51), some (vI (l1 + 2)), some (vI 0), some (vI 1439)] [] (toM ρ τ) (fun v μ2 => G 130 52 (some (.ref 51) :: some (vI l1) :: t) (v.toList ++ []) μ2 Q)) := by
  refine j_if_eq (tgt := 72) d130_38 (by decide) (by omega) (fun q1 => ?_) (fun q1 => ?_)
  ·
    refine (j_iconst d130_72).trans ?_
    exact g_iret d130_73 rfl rfl
  ·
    refine (g_aload_n d130_41 rfl rfl).trans ?_
    refine (g_iload_n d130_42 rfl).trans ?_
    refine (j_iconst d130_43).trans ?_
    refine (j_iadd d130_44).trans ?_
    refine (j_iconst d130_45).trans ?_
    refine (j_sipush d130_46 (by decide)).trans ?_
    exact g_cV d130_49 k10_126 rfl rfl rfl
set_option maxRecDepth 10000 in
theorem b130_52 {Q : Option Value → mm → Prop} (ρ : rm) (τ : Int64) (l1 : Int) (t : List (Option Value)) (r : Int) (hB : BM ρ) (h_l1 : SM l1) (h_r : SM r) : G 130 52 (some (.ref 51) :: some (vI l1) :: t) ((some (vI r)).toList ++ []) (toM ρ τ) Q = (if r = 0 then Q (some (vI 0)) (toM ρ τ) else G 127 0 [some (.ref 51), some (vI (l1 + 3)), some (vI 0), some (vI 99)] [] (toM ρ τ) (fun v μ2 => G 130 65 (some (.ref 51) :: some (vI l1) :: t) (v.toList ++ []) μ2 Q)) := by
  refine j_if_eq (tgt := 72) d130_52 (by decide) (by omega) (fun q1 => ?_) (fun q1 => ?_)
  ·
    refine (j_iconst d130_72).trans ?_
    exact g_iret d130_73 rfl rfl
  ·
    refine (g_aload_n d130_55 rfl rfl).trans ?_
    refine (g_iload_n d130_56 rfl).trans ?_
    refine (j_iconst d130_57).trans ?_
    refine (j_iadd d130_58).trans ?_
    refine (j_iconst d130_59).trans ?_
    refine (j_bipush d130_60 (by decide)).trans ?_
    exact g_cV d130_62 k10_126 rfl rfl rfl
set_option maxRecDepth 10000 in
theorem b130_65 {Q : Option Value → mm → Prop} (ρ : rm) (τ : Int64) (l1 : Int) (t : List (Option Value)) (r : Int) (hB : BM ρ) (h_l1 : SM l1) (h_r : SM r) : G 130 65 (some (.ref 51) :: some (vI l1) :: t) ((some (vI r)).toList ++ []) (toM ρ τ) Q = (if r = 0 then Q (some (vI 0)) (toM ρ τ) else Q (some (vI 1)) (toM ρ τ)) := by
  refine j_if_eq (tgt := 72) d130_65 (by decide) (by omega) (fun q1 => ?_) (fun q1 => ?_)
  ·
    refine (j_iconst d130_72).trans ?_
    exact g_iret d130_73 rfl rfl
  ·
    refine (j_iconst d130_68).trans ?_
    refine (g_goto (tgt := 73) d130_69 (by decide)).trans ?_
    exact g_iret d130_73 rfl rfl
theorem d131_0 : ins 131 0 = some (.aload_n 0) := by decide +kernel
theorem d131_1 : ins 131 1 = some (.getfield 138) := by decide +kernel
theorem d131_4 : ins 131 4 = some (.bipush 6) := by decide +kernel
theorem d131_6 : ins 131 6 = some (.if_icmp .ne 8) := by decide +kernel
theorem d131_9 : ins 131 9 = some (.aload_n 0) := by decide +kernel
theorem d131_10 : ins 131 10 = some (.invokevirtual 122) := by decide +kernel
theorem d131_13 : ins 131 13 = some (.ireturn) := by decide +kernel
theorem d131_14 : ins 131 14 = some (.aload_n 0) := by decide +kernel
theorem d131_15 : ins 131 15 = some (.dup) := by decide +kernel
theorem d131_16 : ins 131 16 = some (.getfield 138) := by decide +kernel
theorem d131_19 : ins 131 19 = some (.iconst 1) := by decide +kernel
theorem d131_20 : ins 131 20 = some (.iadd) := by decide +kernel
theorem d131_21 : ins 131 21 = some (.putfield 138) := by decide +kernel
theorem d131_24 : ins 131 24 = some (.aload_n 0) := by decide +kernel
theorem d131_25 : ins 131 25 = some (.iload_n 1) := by decide +kernel
theorem d131_26 : ins 131 26 = some (.iconst 1) := by decide +kernel
theorem d131_27 : ins 131 27 = some (.iadd) := by decide +kernel
theorem d131_28 : ins 131 28 = some (.iconst 0) := by decide +kernel
theorem d131_29 : ins 131 29 = some (.aload_n 0) := by decide +kernel
theorem d131_30 : ins 131 30 = some (.getfield 129) := by decide +kernel
theorem d131_33 : ins 131 33 = some (.iconst 1) := by decide +kernel
theorem d131_34 : ins 131 34 = some (.isub) := by decide +kernel
theorem d131_35 : ins 131 35 = some (.invokevirtual 126) := by decide +kernel
theorem d131_38 : ins 131 38 = some (.ifCond .eq 70) := by decide +kernel
theorem d131_41 : ins 131 41 = some (.aload_n 0) := by decide +kernel
theorem d131_42 : ins 131 42 = some (.iload_n 1) := by decide +kernel
theorem d131_43 : ins 131 43 = some (.iconst 2) := by decide +kernel
theorem d131_44 : ins 131 44 = some (.iadd) := by decide +kernel
theorem d131_45 : ins 131 45 = some (.iconst 0) := by decide +kernel
theorem d131_46 : ins 131 46 = some (.sipush 1439) := by decide +kernel
theorem d131_49 : ins 131 49 = some (.invokevirtual 126) := by decide +kernel
theorem d131_52 : ins 131 52 = some (.ifCond .eq 56) := by decide +kernel
theorem d131_55 : ins 131 55 = some (.aload_n 0) := by decide +kernel
theorem d131_56 : ins 131 56 = some (.iload_n 1) := by decide +kernel
theorem d131_57 : ins 131 57 = some (.iconst 3) := by decide +kernel
theorem d131_58 : ins 131 58 = some (.iadd) := by decide +kernel
theorem d131_59 : ins 131 59 = some (.aload_n 0) := by decide +kernel
theorem d131_60 : ins 131 60 = some (.getfield 35) := by decide +kernel
theorem d131_63 : ins 131 63 = some (.iload_n 1) := by decide +kernel
theorem d131_64 : ins 131 64 = some (.iconst 2) := by decide +kernel
theorem d131_65 : ins 131 65 = some (.iadd) := by decide +kernel
theorem d131_66 : ins 131 66 = some (.iaload) := by decide +kernel
theorem d131_67 : ins 131 67 = some (.iconst 1) := by decide +kernel
theorem d131_68 : ins 131 68 = some (.iadd) := by decide +kernel
theorem d131_69 : ins 131 69 = some (.sipush 1439) := by decide +kernel
theorem d131_72 : ins 131 72 = some (.invokevirtual 126) := by decide +kernel
theorem d131_75 : ins 131 75 = some (.ifCond .eq 33) := by decide +kernel
theorem d131_78 : ins 131 78 = some (.aload_n 0) := by decide +kernel
theorem d131_79 : ins 131 79 = some (.iload_n 1) := by decide +kernel
theorem d131_80 : ins 131 80 = some (.iconst 4) := by decide +kernel
theorem d131_81 : ins 131 81 = some (.iadd) := by decide +kernel
theorem d131_82 : ins 131 82 = some (.iconst 0) := by decide +kernel
theorem d131_83 : ins 131 83 = some (.bipush 99) := by decide +kernel
theorem d131_85 : ins 131 85 = some (.invokevirtual 126) := by decide +kernel
theorem d131_88 : ins 131 88 = some (.ifCond .eq 20) := by decide +kernel
theorem d131_91 : ins 131 91 = some (.aload_n 0) := by decide +kernel
theorem d131_92 : ins 131 92 = some (.iload_n 1) := by decide +kernel
theorem d131_93 : ins 131 93 = some (.iconst 5) := by decide +kernel
theorem d131_94 : ins 131 94 = some (.iadd) := by decide +kernel
theorem d131_95 : ins 131 95 = some (.iconst 0) := by decide +kernel
theorem d131_96 : ins 131 96 = some (.bipush 99) := by decide +kernel
theorem d131_98 : ins 131 98 = some (.invokevirtual 126) := by decide +kernel
theorem d131_101 : ins 131 101 = some (.ifCond .eq 7) := by decide +kernel
theorem d131_104 : ins 131 104 = some (.iconst 1) := by decide +kernel
theorem d131_105 : ins 131 105 = some (.goto 4) := by decide +kernel
theorem d131_108 : ins 131 108 = some (.iconst 0) := by decide +kernel
theorem d131_109 : ins 131 109 = some (.ireturn) := by decide +kernel
set_option maxRecDepth 10000 in
theorem b131_0 {Q : Option Value → mm → Prop} (ρ : rm) (τ : Int64) (a1 : Int) (hB : BM ρ) (h_a1 : SM a1) : G 131 0 (some (.ref 51) :: some (vI a1) :: []) [] (toM ρ τ) Q = (if (ρ 51 22) = 6 then G 126 0 [some (.ref 51)] [] (toM ρ τ) (fun v μ2 => G 131 13 (some (.ref 51) :: some (vI a1) :: []) (v.toList ++ []) μ2 Q) else G 127 0 [some (.ref 51), some (vI (a1 + 1)), some (vI 0), some (vI ((ρ 51 19) - 1))] [] (toM (rup ρ 51 22 ((ρ 51 22) + 1)) τ) (fun v μ2 => G 131 38 (some (.ref 51) :: some (vI a1) :: []) (v.toList ++ []) μ2 Q)) := by
  refine (g_aload_n d131_0 rfl rfl).trans ?_
  refine (j_getI (v := ρ 51 22) d131_1 f10_138 sh_51 (by decide) rfl rfl).trans ?_
  have q1 := hB 51 22 (by decide)
  refine (j_bipush d131_4 (by decide)).trans ?_
  refine j_icmp_ne (tgt := 14) d131_6 (by decide) (by omega) (by omega) (fun q2 => ?_) (fun q2 => ?_)
  ·
    refine (g_aload_n d131_9 rfl rfl).trans ?_
    exact g_cV d131_10 k10_122 rfl rfl rfl
  ·
    refine (g_aload_n d131_14 rfl rfl).trans ?_
    refine (g_dupR d131_15).trans ?_
    refine (j_getI (v := ρ 51 22) d131_16 f10_138 sh_51 (by decide) rfl rfl).trans ?_
    refine (j_iconst d131_19).trans ?_
    refine (j_iadd d131_20).trans ?_
    refine (j_putI d131_21 f10_138 sh_51 (by decide) rfl).trans ?_
    refine (g_aload_n d131_24 rfl rfl).trans ?_
    refine (g_iload_n d131_25 rfl).trans ?_
    refine (j_iconst d131_26).trans ?_
    refine (j_iadd d131_27).trans ?_
    refine (j_iconst d131_28).trans ?_
    refine (g_aload_n d131_29 rfl rfl).trans ?_
    refine (j_getI (v := ρ 51 19) d131_30 f10_129 sh_51 (by decide) rfl (by simp [rup])).trans ?_
    have q3 := hB 51 19 (by decide)
    refine (j_iconst d131_33).trans ?_
    refine (j_isub d131_34).trans ?_
    exact g_cV d131_35 k10_126 rfl rfl rfl
set_option maxRecDepth 10000 in
theorem b131_13 {Q : Option Value → mm → Prop} (ρ : rm) (τ : Int64) (l1 : Int) (t : List (Option Value)) (r : Int) (hB : BM ρ) (h_l1 : SM l1) (h_r : SM r) (h01_r : r = 0 ∨ r = 1) : G 131 13 (some (.ref 51) :: some (vI l1) :: t) ((some (vI r)).toList ++ []) (toM ρ τ) Q = Q (some (vI r)) (toM ρ τ) := by
  exact g_iret d131_13 rfl (nar_01 h01_r)
set_option maxRecDepth 10000 in
theorem b131_38 {Q : Option Value → mm → Prop} (ρ : rm) (τ : Int64) (l1 : Int) (t : List (Option Value)) (r : Int) (hB : BM ρ) (h_l1 : SM l1) (h_r : SM r) : G 131 38 (some (.ref 51) :: some (vI l1) :: t) ((some (vI r)).toList ++ []) (toM ρ τ) Q = (if r = 0 then Q (some (vI 0)) (toM ρ τ) else G 127 0 [some (.ref 51), some (vI (l1 + 2)), some (vI 0), some (vI 1439)] [] (toM ρ τ) (fun v μ2 => G 131 52 (some (.ref 51) :: some (vI l1) :: t) (v.toList ++ []) μ2 Q)) := by
  refine j_if_eq (tgt := 108) d131_38 (by decide) (by omega) (fun q1 => ?_) (fun q1 => ?_)
  ·
    refine (j_iconst d131_108).trans ?_
    exact g_iret d131_109 rfl rfl
  ·
    refine (g_aload_n d131_41 rfl rfl).trans ?_
    refine (g_iload_n d131_42 rfl).trans ?_
    refine (j_iconst d131_43).trans ?_
    refine (j_iadd d131_44).trans ?_
    refine (j_iconst d131_45).trans ?_
    refine (j_sipush d131_46 (by decide)).trans ?_
    exact g_cV d131_49 k10_126 rfl rfl rfl
set_option maxRecDepth 10000 in
theorem b131_52 {Q : Option Value → mm → Prop} (ρ : rm) (τ : Int64) (l1 : Int) (t : List (Option Value)) (r : Int) (hB : BM ρ) (h_l1 : SM l1) (h_r : SM r) : G 131 52 (some (.ref 51) :: some (vI l1) :: t) ((some (vI r)).toList ++ []) (toM ρ τ) Q = (if r = 0 then Q (some (vI 0)) (toM ρ τ) else (if 0 ≤ (l1 + 2) ∧ (l1 + 2) < 60 then G 127 0 [some (.ref 51), some (vI (l1 + 3)), some (vI ((ρ 59 (l1 + 2)) + 1)), some (vI 1439)] [] (toM ρ τ) (fun v μ2 => G 131 75 (some (.ref 51) :: some (vI l1) :: t) (v.toList ++ []) μ2 Q) else False)) := by
  refine j_if_eq (tgt := 108) d131_52 (by decide) (by omega) (fun q1 => ?_) (fun q1 => ?_)
  ·
    refine (j_iconst d131_108).trans ?_
    exact g_iret d131_109 rfl rfl
  ·
    refine (g_aload_n d131_55 rfl rfl).trans ?_
    refine (g_iload_n d131_56 rfl).trans ?_
    refine (j_iconst d131_57).trans ?_
    refine (j_iadd d131_58).trans ?_
    refine (g_aload_n d131_59 rfl rfl).trans ?_
    refine (g_getR (q := 59) d131_60 f10_35 sh_51 (by decide) rfl).trans ?_
    refine (g_iload_n d131_63 rfl).trans ?_
    refine (j_iconst d131_64).trans ?_
    refine (j_iadd d131_65).trans ?_
    refine j_iaload (v := ρ 59 (l1 + 2)) d131_66 sh_59 (by omega) rfl (fun q2 => ?_)
    have q3 := hB 59 (l1 + 2) (by omega)
    refine (j_iconst d131_67).trans ?_
    refine (j_iadd d131_68).trans ?_
    refine (j_sipush d131_69 (by decide)).trans ?_
    exact g_cV d131_72 k10_126 rfl rfl rfl
set_option maxRecDepth 10000 in
theorem b131_75 {Q : Option Value → mm → Prop} (ρ : rm) (τ : Int64) (l1 : Int) (t : List (Option Value)) (r : Int) (hB : BM ρ) (h_l1 : SM l1) (h_r : SM r) : G 131 75 (some (.ref 51) :: some (vI l1) :: t) ((some (vI r)).toList ++ []) (toM ρ τ) Q = (if r = 0 then Q (some (vI 0)) (toM ρ τ) else G 127 0 [some (.ref 51), some (vI (l1 + 4)), some (vI 0), some (vI 99)] [] (toM ρ τ) (fun v μ2 => G 131 88 (some (.ref 51) :: some (vI l1) :: t) (v.toList ++ []) μ2 Q)) := by
  refine j_if_eq (tgt := 108) d131_75 (by decide) (by omega) (fun q1 => ?_) (fun q1 => ?_)
  ·
    refine (j_iconst d131_108).trans ?_
    exact g_iret d131_109 rfl rfl
  ·
    refine (g_aload_n d131_78 rfl rfl).trans ?_
    refine (g_iload_n d131_79 rfl).trans ?_
    refine (j_iconst d131_80).trans ?_
    refine (j_iadd d131_81).trans ?_
    refine (j_iconst d131_82).trans ?_
    refine (j_bipush d131_83 (by decide)).trans ?_
    exact g_cV d131_85 k10_126 rfl rfl rfl
set_option maxRecDepth 10000 in
theorem b131_88 {Q : Option Value → mm → Prop} (ρ : rm) (τ : Int64) (l1 : Int) (t : List (Option Value)) (r : Int) (hB : BM ρ) (h_l1 : SM l1) (h_r : SM r) : G 131 88 (some (.ref 51) :: some (vI l1) :: t) ((some (vI r)).toList ++ []) (toM ρ τ) Q = (if r = 0 then Q (some (vI 0)) (toM ρ τ) else G 127 0 [some (.ref 51), some (vI (l1 + 5)), some (vI 0), some (vI 99)] [] (toM ρ τ) (fun v μ2 => G 131 101 (some (.ref 51) :: some (vI l1) :: t) (v.toList ++ []) μ2 Q)) := by
  refine j_if_eq (tgt := 108) d131_88 (by decide) (by omega) (fun q1 => ?_) (fun q1 => ?_)
  ·
    refine (j_iconst d131_108).trans ?_
    exact g_iret d131_109 rfl rfl
  ·
    refine (g_aload_n d131_91 rfl rfl).trans ?_
    refine (g_iload_n d131_92 rfl).trans ?_
    refine (j_iconst d131_93).trans ?_
    refine (j_iadd d131_94).trans ?_
    refine (j_iconst d131_95).trans ?_
    refine (j_bipush d131_96 (by decide)).trans ?_
    exact g_cV d131_98 k10_126 rfl rfl rfl
set_option maxRecDepth 10000 in
theorem b131_101 {Q : Option Value → mm → Prop} (ρ : rm) (τ : Int64) (l1 : Int) (t : List (Option Value)) (r : Int) (hB : BM ρ) (h_l1 : SM l1) (h_r : SM r) : G 131 101 (some (.ref 51) :: some (vI l1) :: t) ((some (vI r)).toList ++ []) (toM ρ τ) Q = (if r = 0 then Q (some (vI 0)) (toM ρ τ) else Q (some (vI 1)) (toM ρ τ)) := by
  refine j_if_eq (tgt := 108) d131_101 (by decide) (by omega) (fun q1 => ?_) (fun q1 => ?_)
  ·
    refine (j_iconst d131_108).trans ?_
    exact g_iret d131_109 rfl rfl
  ·
    refine (j_iconst d131_104).trans ?_
    refine (g_goto (tgt := 109) d131_105 (by decide)).trans ?_
    exact g_iret d131_109 rfl rfl
theorem d132_0 : ins 132 0 = some (.aload_n 0) := by decide +kernel
theorem d132_1 : ins 132 1 = some (.invokevirtual 119) := by decide +kernel
theorem d132_4 : ins 132 4 = some (.aload_n 0) := by decide +kernel
theorem d132_5 : ins 132 5 = some (.getfield 35) := by decide +kernel
theorem d132_8 : ins 132 8 = some (.iload_n 1) := by decide +kernel
theorem d132_9 : ins 132 9 = some (.aload_n 0) := by decide +kernel
theorem d132_10 : ins 132 10 = some (.getfield 102) := by decide +kernel
theorem d132_13 : ins 132 13 = some (.ldc2_w 141) := by decide +kernel
theorem d132_16 : ins 132 16 = some (.lcmp) := by decide +kernel
theorem d132_17 : ins 132 17 = some (.ifCond .ne 7) := by decide +kernel
theorem d132_20 : ins 132 20 = some (.iconst 0) := by decide +kernel
theorem d132_21 : ins 132 21 = some (.goto 95) := by decide +kernel
theorem d132_24 : ins 132 24 = some (.aload_n 0) := by decide +kernel
theorem d132_25 : ins 132 25 = some (.getfield 102) := by decide +kernel
theorem d132_28 : ins 132 28 = some (.ldc2_w 143) := by decide +kernel
theorem d132_31 : ins 132 31 = some (.lcmp) := by decide +kernel
theorem d132_32 : ins 132 32 = some (.ifCond .ne 7) := by decide +kernel
theorem d132_35 : ins 132 35 = some (.iconst 1) := by decide +kernel
theorem d132_36 : ins 132 36 = some (.goto 80) := by decide +kernel
theorem d132_39 : ins 132 39 = some (.aload_n 0) := by decide +kernel
theorem d132_40 : ins 132 40 = some (.getfield 102) := by decide +kernel
theorem d132_43 : ins 132 43 = some (.ldc2_w 145) := by decide +kernel
theorem d132_46 : ins 132 46 = some (.lcmp) := by decide +kernel
theorem d132_47 : ins 132 47 = some (.ifCond .ne 7) := by decide +kernel
theorem d132_50 : ins 132 50 = some (.iconst 2) := by decide +kernel
theorem d132_51 : ins 132 51 = some (.goto 65) := by decide +kernel
theorem d132_54 : ins 132 54 = some (.aload_n 0) := by decide +kernel
theorem d132_55 : ins 132 55 = some (.getfield 102) := by decide +kernel
theorem d132_58 : ins 132 58 = some (.ldc2_w 147) := by decide +kernel
theorem d132_61 : ins 132 61 = some (.lcmp) := by decide +kernel
theorem d132_62 : ins 132 62 = some (.ifCond .ne 7) := by decide +kernel
theorem d132_65 : ins 132 65 = some (.iconst 3) := by decide +kernel
theorem d132_66 : ins 132 66 = some (.goto 50) := by decide +kernel
theorem d132_69 : ins 132 69 = some (.aload_n 0) := by decide +kernel
theorem d132_70 : ins 132 70 = some (.getfield 102) := by decide +kernel
theorem d132_73 : ins 132 73 = some (.ldc2_w 149) := by decide +kernel
theorem d132_76 : ins 132 76 = some (.lcmp) := by decide +kernel
theorem d132_77 : ins 132 77 = some (.ifCond .ne 7) := by decide +kernel
theorem d132_80 : ins 132 80 = some (.iconst 4) := by decide +kernel
theorem d132_81 : ins 132 81 = some (.goto 35) := by decide +kernel
theorem d132_84 : ins 132 84 = some (.aload_n 0) := by decide +kernel
theorem d132_85 : ins 132 85 = some (.getfield 102) := by decide +kernel
theorem d132_88 : ins 132 88 = some (.ldc2_w 151) := by decide +kernel
theorem d132_91 : ins 132 91 = some (.lcmp) := by decide +kernel
theorem d132_92 : ins 132 92 = some (.ifCond .ne 7) := by decide +kernel
theorem d132_95 : ins 132 95 = some (.iconst 5) := by decide +kernel
theorem d132_96 : ins 132 96 = some (.goto 20) := by decide +kernel
theorem d132_99 : ins 132 99 = some (.aload_n 0) := by decide +kernel
theorem d132_100 : ins 132 100 = some (.getfield 102) := by decide +kernel
theorem d132_103 : ins 132 103 = some (.ldc2_w 153) := by decide +kernel
theorem d132_106 : ins 132 106 = some (.lcmp) := by decide +kernel
theorem d132_107 : ins 132 107 = some (.ifCond .ne 8) := by decide +kernel
theorem d132_110 : ins 132 110 = some (.bipush 6) := by decide +kernel
theorem d132_112 : ins 132 112 = some (.goto 4) := by decide +kernel
theorem d132_115 : ins 132 115 = some (.iconst (-1)) := by decide +kernel
theorem d132_116 : ins 132 116 = some (.iastore) := by decide +kernel
theorem d132_117 : ins 132 117 = some (.aload_n 0) := by decide +kernel
theorem d132_118 : ins 132 118 = some (.getfield 35) := by decide +kernel
theorem d132_121 : ins 132 121 = some (.iload_n 1) := by decide +kernel
theorem d132_122 : ins 132 122 = some (.iaload) := by decide +kernel
theorem d132_123 : ins 132 123 = some (.tableswitch 150 0 6 #[41, 47, 84, 120, 126, 132, 138]) := by decide +kernel
theorem d132_164 : ins 132 164 = some (.aload_n 0) := by decide +kernel
theorem d132_165 : ins 132 165 = some (.iload_n 1) := by decide +kernel
theorem d132_166 : ins 132 166 = some (.invokevirtual 155) := by decide +kernel
theorem d132_169 : ins 132 169 = some (.ireturn) := by decide +kernel
theorem d132_170 : ins 132 170 = some (.aload_n 0) := by decide +kernel
theorem d132_171 : ins 132 171 = some (.iload_n 1) := by decide +kernel
theorem d132_172 : ins 132 172 = some (.iconst 1) := by decide +kernel
theorem d132_173 : ins 132 173 = some (.iadd) := by decide +kernel
theorem d132_174 : ins 132 174 = some (.iconst 1) := by decide +kernel
theorem d132_175 : ins 132 175 = some (.aload_n 0) := by decide +kernel
theorem d132_176 : ins 132 176 = some (.getfield 129) := by decide +kernel
theorem d132_179 : ins 132 179 = some (.iconst 1) := by decide +kernel
theorem d132_180 : ins 132 180 = some (.isub) := by decide +kernel
theorem d132_181 : ins 132 181 = some (.invokevirtual 126) := by decide +kernel
theorem d132_184 : ins 132 184 = some (.ifCond .eq 21) := by decide +kernel
theorem d132_187 : ins 132 187 = some (.aload_n 0) := by decide +kernel
theorem d132_188 : ins 132 188 = some (.iload_n 1) := by decide +kernel
theorem d132_189 : ins 132 189 = some (.iconst 2) := by decide +kernel
theorem d132_190 : ins 132 190 = some (.iadd) := by decide +kernel
theorem d132_191 : ins 132 191 = some (.iconst 0) := by decide +kernel
theorem d132_192 : ins 132 192 = some (.sipush 999) := by decide +kernel
theorem d132_195 : ins 132 195 = some (.invokevirtual 126) := by decide +kernel
theorem d132_198 : ins 132 198 = some (.ifCond .eq 7) := by decide +kernel
theorem d132_201 : ins 132 201 = some (.iconst 1) := by decide +kernel
theorem d132_202 : ins 132 202 = some (.goto 4) := by decide +kernel
theorem d132_205 : ins 132 205 = some (.iconst 0) := by decide +kernel
theorem d132_206 : ins 132 206 = some (.ireturn) := by decide +kernel
theorem d132_207 : ins 132 207 = some (.aload_n 0) := by decide +kernel
theorem d132_208 : ins 132 208 = some (.iload_n 1) := by decide +kernel
theorem d132_209 : ins 132 209 = some (.iconst 1) := by decide +kernel
theorem d132_210 : ins 132 210 = some (.iadd) := by decide +kernel
theorem d132_211 : ins 132 211 = some (.iconst 0) := by decide +kernel
theorem d132_212 : ins 132 212 = some (.aload_n 0) := by decide +kernel
theorem d132_213 : ins 132 213 = some (.getfield 129) := by decide +kernel
theorem d132_216 : ins 132 216 = some (.iconst 2) := by decide +kernel
theorem d132_217 : ins 132 217 = some (.isub) := by decide +kernel
theorem d132_218 : ins 132 218 = some (.invokevirtual 126) := by decide +kernel
theorem d132_221 : ins 132 221 = some (.ifCond .eq 20) := by decide +kernel
theorem d132_224 : ins 132 224 = some (.aload_n 0) := by decide +kernel
theorem d132_225 : ins 132 225 = some (.iload_n 1) := by decide +kernel
theorem d132_226 : ins 132 226 = some (.iconst 2) := by decide +kernel
theorem d132_227 : ins 132 227 = some (.iadd) := by decide +kernel
theorem d132_228 : ins 132 228 = some (.iconst 1) := by decide +kernel
theorem d132_229 : ins 132 229 = some (.bipush 99) := by decide +kernel
theorem d132_231 : ins 132 231 = some (.invokevirtual 126) := by decide +kernel
theorem d132_234 : ins 132 234 = some (.ifCond .eq 7) := by decide +kernel
theorem d132_237 : ins 132 237 = some (.iconst 1) := by decide +kernel
theorem d132_238 : ins 132 238 = some (.goto 4) := by decide +kernel
theorem d132_241 : ins 132 241 = some (.iconst 0) := by decide +kernel
theorem d132_242 : ins 132 242 = some (.ireturn) := by decide +kernel
theorem d132_243 : ins 132 243 = some (.aload_n 0) := by decide +kernel
theorem d132_244 : ins 132 244 = some (.iload_n 1) := by decide +kernel
theorem d132_245 : ins 132 245 = some (.invokevirtual 159) := by decide +kernel
theorem d132_248 : ins 132 248 = some (.ireturn) := by decide +kernel
theorem d132_249 : ins 132 249 = some (.aload_n 0) := by decide +kernel
theorem d132_250 : ins 132 250 = some (.iload_n 1) := by decide +kernel
theorem d132_251 : ins 132 251 = some (.invokevirtual 162) := by decide +kernel
theorem d132_254 : ins 132 254 = some (.ireturn) := by decide +kernel
theorem d132_255 : ins 132 255 = some (.aload_n 0) := by decide +kernel
theorem d132_256 : ins 132 256 = some (.iload_n 1) := by decide +kernel
theorem d132_257 : ins 132 257 = some (.invokevirtual 165) := by decide +kernel
theorem d132_260 : ins 132 260 = some (.ireturn) := by decide +kernel
theorem d132_261 : ins 132 261 = some (.aload_n 0) := by decide +kernel
theorem d132_262 : ins 132 262 = some (.iconst 0) := by decide +kernel
theorem d132_263 : ins 132 263 = some (.putfield 135) := by decide +kernel
theorem d132_266 : ins 132 266 = some (.aload_n 0) := by decide +kernel
theorem d132_267 : ins 132 267 = some (.iconst 0) := by decide +kernel
theorem d132_268 : ins 132 268 = some (.putfield 138) := by decide +kernel
theorem d132_271 : ins 132 271 = some (.iconst 1) := by decide +kernel
theorem d132_272 : ins 132 272 = some (.ireturn) := by decide +kernel
theorem d132_273 : ins 132 273 = some (.aload_n 0) := by decide +kernel
theorem d132_274 : ins 132 274 = some (.invokevirtual 122) := by decide +kernel
theorem d132_277 : ins 132 277 = some (.ireturn) := by decide +kernel
set_option maxRecDepth 10000 in
theorem b132_0 {Q : Option Value → mm → Prop} (ρ : rm) (τ : Int64) (a1 : Int) (hB : BM ρ) (h_a1 : SM a1) : G 132 0 (some (.ref 51) :: some (vI a1) :: []) [] (toM ρ τ) Q = G 125 0 [some (.ref 51)] [] (toM ρ τ) (fun v μ2 => G 132 4 (some (.ref 51) :: some (vI a1) :: []) (v.toList ++ []) μ2 Q) := by
  refine (g_aload_n d132_0 rfl rfl).trans ?_
  exact g_cV d132_1 k10_119 rfl rfl rfl
set_option maxRecDepth 10000 in
theorem b132_4 {Q : Option Value → mm → Prop} (ρ : rm) (τ : Int64) (l1 : Int) (t : List (Option Value)) (hB : BM ρ) (h_l1 : SM l1) : G 132 4 (some (.ref 51) :: some (vI l1) :: t) ((none : Option Value).toList ++ []) (toM ρ τ) Q = (if τ = (283616147 : Int64) then (if 0 ≤ l1 ∧ l1 < 60 then (if 0 ≤ l1 ∧ l1 < 60 then G 128 0 [some (.ref 51), some (vI l1)] [] (toM (rup ρ 59 l1 0) τ) (fun v μ2 => G 132 169 (some (.ref 51) :: some (vI l1) :: t) (v.toList ++ []) μ2 Q) else False) else False) else (if τ = (31519426 : Int64) then (if 0 ≤ l1 ∧ l1 < 60 then (if 0 ≤ l1 ∧ l1 < 60 then G 127 0 [some (.ref 51), some (vI (l1 + 1)), some (vI 1), some (vI ((ρ 51 19) - 1))] [] (toM (rup ρ 59 l1 1) τ) (fun v μ2 => G 132 184 (some (.ref 51) :: some (vI l1) :: t) (v.toList ++ []) μ2 Q) else False) else False) else (if τ = (16819 : Int64) then (if 0 ≤ l1 ∧ l1 < 60 then (if 0 ≤ l1 ∧ l1 < 60 then G 127 0 [some (.ref 51), some (vI (l1 + 1)), some (vI 0), some (vI ((ρ 51 19) - 2))] [] (toM (rup ρ 59 l1 2) τ) (fun v μ2 => G 132 221 (some (.ref 51) :: some (vI l1) :: t) (v.toList ++ []) μ2 Q) else False) else False) else (if τ = (453774 : Int64) then (if 0 ≤ l1 ∧ l1 < 60 then (if 0 ≤ l1 ∧ l1 < 60 then G 129 0 [some (.ref 51), some (vI l1)] [] (toM (rup ρ 59 l1 3) τ) (fun v μ2 => G 132 248 (some (.ref 51) :: some (vI l1) :: t) (v.toList ++ []) μ2 Q) else False) else False) else (if τ = (82516 : Int64) then (if 0 ≤ l1 ∧ l1 < 60 then (if 0 ≤ l1 ∧ l1 < 60 then G 130 0 [some (.ref 51), some (vI l1)] [] (toM (rup ρ 59 l1 4) τ) (fun v μ2 => G 132 254 (some (.ref 51) :: some (vI l1) :: t) (v.toList ++ []) μ2 Q) else False) else False) else (if τ = (380230 : Int64) then (if 0 ≤ l1 ∧ l1 < 60 then (if 0 ≤ l1 ∧ l1 < 60 then G 131 0 [some (.ref 51), some (vI l1)] [] (toM (rup ρ 59 l1 5) τ) (fun v μ2 => G 132 260 (some (.ref 51) :: some (vI l1) :: t) (v.toList ++ []) μ2 Q) else False) else False) else (if τ = (400354 : Int64) then (if 0 ≤ l1 ∧ l1 < 60 then (if 0 ≤ l1 ∧ l1 < 60 then Q (some (vI 1)) (toM (rup (rup (rup ρ 59 l1 6) 51 21 0) 51 22 0) τ) else False) else False) else (if 0 ≤ l1 ∧ l1 < 60 then (if 0 ≤ l1 ∧ l1 < 60 then G 126 0 [some (.ref 51)] [] (toM (rup ρ 59 l1 (-1)) τ) (fun v μ2 => G 132 277 (some (.ref 51) :: some (vI l1) :: t) (v.toList ++ []) μ2 Q) else False) else False)))))))) := by
  refine (g_aload_n d132_4 rfl rfl).trans ?_
  refine (g_getR (q := 59) d132_5 f10_35 sh_51 (by decide) rfl).trans ?_
  refine (g_iload_n d132_8 rfl).trans ?_
  refine (g_aload_n d132_9 rfl rfl).trans ?_
  refine (j_getL d132_10 f10_102 sh_51 (by decide) rfl).trans ?_
  refine (g_ldc2_w d132_13 cs10_141).trans ?_
  refine j_lcmp_ne (tgt := 24) d132_16 d132_17 (by decide) (fun q1 => ?_) (fun q1 => ?_)
  ·
    refine (j_iconst d132_20).trans ?_
    refine (g_goto (tgt := 116) d132_21 (by decide)).trans ?_
    refine j_iastore d132_116 sh_59 (by omega) (fun q2 => ?_)
    refine (g_aload_n d132_117 rfl rfl).trans ?_
    refine (g_getR (q := 59) d132_118 f10_35 sh_51 (by decide) rfl).trans ?_
    refine (g_iload_n d132_121 rfl).trans ?_
    refine j_iaload (v := 0) d132_122 sh_59 (by omega) (by simp [rup]) (fun q3 => ?_)
    refine (g_tableIn (off := 41) (tgt := 164) d132_123 (by decide) (by rfl) (by decide)).trans ?_
    refine (g_aload_n d132_164 rfl rfl).trans ?_
    refine (g_iload_n d132_165 rfl).trans ?_
    exact g_cV d132_166 k10_155 rfl rfl rfl
  ·
    refine (g_aload_n d132_24 rfl rfl).trans ?_
    refine (j_getL d132_25 f10_102 sh_51 (by decide) rfl).trans ?_
    refine (g_ldc2_w d132_28 cs10_143).trans ?_
    refine j_lcmp_ne (tgt := 39) d132_31 d132_32 (by decide) (fun q4 => ?_) (fun q4 => ?_)
    ·
      refine (j_iconst d132_35).trans ?_
      refine (g_goto (tgt := 116) d132_36 (by decide)).trans ?_
      refine j_iastore d132_116 sh_59 (by omega) (fun q5 => ?_)
      refine (g_aload_n d132_117 rfl rfl).trans ?_
      refine (g_getR (q := 59) d132_118 f10_35 sh_51 (by decide) rfl).trans ?_
      refine (g_iload_n d132_121 rfl).trans ?_
      refine j_iaload (v := 1) d132_122 sh_59 (by omega) (by simp [rup]) (fun q6 => ?_)
      refine (g_tableIn (off := 47) (tgt := 170) d132_123 (by decide) (by rfl) (by decide)).trans ?_
      refine (g_aload_n d132_170 rfl rfl).trans ?_
      refine (g_iload_n d132_171 rfl).trans ?_
      refine (j_iconst d132_172).trans ?_
      refine (j_iadd d132_173).trans ?_
      refine (j_iconst d132_174).trans ?_
      refine (g_aload_n d132_175 rfl rfl).trans ?_
      refine (j_getI (v := ρ 51 19) d132_176 f10_129 sh_51 (by decide) rfl (by simp [rup])).trans ?_
      have q7 := hB 51 19 (by decide)
      refine (j_iconst d132_179).trans ?_
      refine (j_isub d132_180).trans ?_
      exact g_cV d132_181 k10_126 rfl rfl rfl
    ·
      refine (g_aload_n d132_39 rfl rfl).trans ?_
      refine (j_getL d132_40 f10_102 sh_51 (by decide) rfl).trans ?_
      refine (g_ldc2_w d132_43 cs10_145).trans ?_
      refine j_lcmp_ne (tgt := 54) d132_46 d132_47 (by decide) (fun q8 => ?_) (fun q8 => ?_)
      ·
        refine (j_iconst d132_50).trans ?_
        refine (g_goto (tgt := 116) d132_51 (by decide)).trans ?_
        refine j_iastore d132_116 sh_59 (by omega) (fun q9 => ?_)
        refine (g_aload_n d132_117 rfl rfl).trans ?_
        refine (g_getR (q := 59) d132_118 f10_35 sh_51 (by decide) rfl).trans ?_
        refine (g_iload_n d132_121 rfl).trans ?_
        refine j_iaload (v := 2) d132_122 sh_59 (by omega) (by simp [rup]) (fun q10 => ?_)
        refine (g_tableIn (off := 84) (tgt := 207) d132_123 (by decide) (by rfl) (by decide)).trans ?_
        refine (g_aload_n d132_207 rfl rfl).trans ?_
        refine (g_iload_n d132_208 rfl).trans ?_
        refine (j_iconst d132_209).trans ?_
        refine (j_iadd d132_210).trans ?_
        refine (j_iconst d132_211).trans ?_
        refine (g_aload_n d132_212 rfl rfl).trans ?_
        refine (j_getI (v := ρ 51 19) d132_213 f10_129 sh_51 (by decide) rfl (by simp [rup])).trans ?_
        have q11 := hB 51 19 (by decide)
        refine (j_iconst d132_216).trans ?_
        refine (j_isub d132_217).trans ?_
        exact g_cV d132_218 k10_126 rfl rfl rfl
      ·
        refine (g_aload_n d132_54 rfl rfl).trans ?_
        refine (j_getL d132_55 f10_102 sh_51 (by decide) rfl).trans ?_
        refine (g_ldc2_w d132_58 cs10_147).trans ?_
        refine j_lcmp_ne (tgt := 69) d132_61 d132_62 (by decide) (fun q12 => ?_) (fun q12 => ?_)
        ·
          refine (j_iconst d132_65).trans ?_
          refine (g_goto (tgt := 116) d132_66 (by decide)).trans ?_
          refine j_iastore d132_116 sh_59 (by omega) (fun q13 => ?_)
          refine (g_aload_n d132_117 rfl rfl).trans ?_
          refine (g_getR (q := 59) d132_118 f10_35 sh_51 (by decide) rfl).trans ?_
          refine (g_iload_n d132_121 rfl).trans ?_
          refine j_iaload (v := 3) d132_122 sh_59 (by omega) (by simp [rup]) (fun q14 => ?_)
          refine (g_tableIn (off := 120) (tgt := 243) d132_123 (by decide) (by rfl) (by decide)).trans ?_
          refine (g_aload_n d132_243 rfl rfl).trans ?_
          refine (g_iload_n d132_244 rfl).trans ?_
          exact g_cV d132_245 k10_159 rfl rfl rfl
        ·
          refine (g_aload_n d132_69 rfl rfl).trans ?_
          refine (j_getL d132_70 f10_102 sh_51 (by decide) rfl).trans ?_
          refine (g_ldc2_w d132_73 cs10_149).trans ?_
          refine j_lcmp_ne (tgt := 84) d132_76 d132_77 (by decide) (fun q15 => ?_) (fun q15 => ?_)
          ·
            refine (j_iconst d132_80).trans ?_
            refine (g_goto (tgt := 116) d132_81 (by decide)).trans ?_
            refine j_iastore d132_116 sh_59 (by omega) (fun q16 => ?_)
            refine (g_aload_n d132_117 rfl rfl).trans ?_
            refine (g_getR (q := 59) d132_118 f10_35 sh_51 (by decide) rfl).trans ?_
            refine (g_iload_n d132_121 rfl).trans ?_
            refine j_iaload (v := 4) d132_122 sh_59 (by omega) (by simp [rup]) (fun q17 => ?_)
            refine (g_tableIn (off := 126) (tgt := 249) d132_123 (by decide) (by rfl) (by decide)).trans ?_
            refine (g_aload_n d132_249 rfl rfl).trans ?_
            refine (g_iload_n d132_250 rfl).trans ?_
            exact g_cV d132_251 k10_162 rfl rfl rfl
          ·
            refine (g_aload_n d132_84 rfl rfl).trans ?_
            refine (j_getL d132_85 f10_102 sh_51 (by decide) rfl).trans ?_
            refine (g_ldc2_w d132_88 cs10_151).trans ?_
            refine j_lcmp_ne (tgt := 99) d132_91 d132_92 (by decide) (fun q18 => ?_) (fun q18 => ?_)
            ·
              refine (j_iconst d132_95).trans ?_
              refine (g_goto (tgt := 116) d132_96 (by decide)).trans ?_
              refine j_iastore d132_116 sh_59 (by omega) (fun q19 => ?_)
              refine (g_aload_n d132_117 rfl rfl).trans ?_
              refine (g_getR (q := 59) d132_118 f10_35 sh_51 (by decide) rfl).trans ?_
              refine (g_iload_n d132_121 rfl).trans ?_
              refine j_iaload (v := 5) d132_122 sh_59 (by omega) (by simp [rup]) (fun q20 => ?_)
              refine (g_tableIn (off := 132) (tgt := 255) d132_123 (by decide) (by rfl) (by decide)).trans ?_
              refine (g_aload_n d132_255 rfl rfl).trans ?_
              refine (g_iload_n d132_256 rfl).trans ?_
              exact g_cV d132_257 k10_165 rfl rfl rfl
            ·
              refine (g_aload_n d132_99 rfl rfl).trans ?_
              refine (j_getL d132_100 f10_102 sh_51 (by decide) rfl).trans ?_
              refine (g_ldc2_w d132_103 cs10_153).trans ?_
              refine j_lcmp_ne (tgt := 115) d132_106 d132_107 (by decide) (fun q21 => ?_) (fun q21 => ?_)
              ·
                refine (j_bipush d132_110 (by decide)).trans ?_
                refine (g_goto (tgt := 116) d132_112 (by decide)).trans ?_
                refine j_iastore d132_116 sh_59 (by omega) (fun q22 => ?_)
                refine (g_aload_n d132_117 rfl rfl).trans ?_
                refine (g_getR (q := 59) d132_118 f10_35 sh_51 (by decide) rfl).trans ?_
                refine (g_iload_n d132_121 rfl).trans ?_
                refine j_iaload (v := 6) d132_122 sh_59 (by omega) (by simp [rup]) (fun q23 => ?_)
                refine (g_tableIn (off := 138) (tgt := 261) d132_123 (by decide) (by rfl) (by decide)).trans ?_
                refine (g_aload_n d132_261 rfl rfl).trans ?_
                refine (j_iconst d132_262).trans ?_
                refine (j_putI d132_263 f10_135 sh_51 (by decide) rfl).trans ?_
                refine (g_aload_n d132_266 rfl rfl).trans ?_
                refine (j_iconst d132_267).trans ?_
                refine (j_putI d132_268 f10_138 sh_51 (by decide) rfl).trans ?_
                refine (j_iconst d132_271).trans ?_
                exact g_iret d132_272 rfl rfl
              ·
                refine (j_iconst d132_115).trans ?_
                refine j_iastore d132_116 sh_59 (by omega) (fun q24 => ?_)
                refine (g_aload_n d132_117 rfl rfl).trans ?_
                refine (g_getR (q := 59) d132_118 f10_35 sh_51 (by decide) rfl).trans ?_
                refine (g_iload_n d132_121 rfl).trans ?_
                refine j_iaload (v := -1) d132_122 sh_59 (by omega) (by simp [rup]) (fun q25 => ?_)
                refine (g_tableOut (tgt := 273) d132_123 (by decide) (by decide)).trans ?_
                refine (g_aload_n d132_273 rfl rfl).trans ?_
                exact g_cV d132_274 k10_122 rfl rfl rfl
set_option maxRecDepth 10000 in
theorem b132_169 {Q : Option Value → mm → Prop} (ρ : rm) (τ : Int64) (l1 : Int) (t : List (Option Value)) (r : Int) (hB : BM ρ) (h_l1 : SM l1) (h_r : SM r) (h01_r : r = 0 ∨ r = 1) : G 132 169 (some (.ref 51) :: some (vI l1) :: t) ((some (vI r)).toList ++ []) (toM ρ τ) Q = Q (some (vI r)) (toM ρ τ) := by
  exact g_iret d132_169 rfl (nar_01 h01_r)
set_option maxRecDepth 10000 in
theorem b132_184 {Q : Option Value → mm → Prop} (ρ : rm) (τ : Int64) (l1 : Int) (t : List (Option Value)) (r : Int) (hB : BM ρ) (h_l1 : SM l1) (h_r : SM r) : G 132 184 (some (.ref 51) :: some (vI l1) :: t) ((some (vI r)).toList ++ []) (toM ρ τ) Q = (if r = 0 then Q (some (vI 0)) (toM ρ τ) else G 127 0 [some (.ref 51), some (vI (l1 + 2)), some (vI 0), some (vI 999)] [] (toM ρ τ) (fun v μ2 => G 132 198 (some (.ref 51) :: some (vI l1) :: t) (v.toList ++ []) μ2 Q)) := by
  refine j_if_eq (tgt := 205) d132_184 (by decide) (by omega) (fun q1 => ?_) (fun q1 => ?_)
  ·
    refine (j_iconst d132_205).trans ?_
    exact g_iret d132_206 rfl rfl
  ·
    refine (g_aload_n d132_187 rfl rfl).trans ?_
    refine (g_iload_n d132_188 rfl).trans ?_
    refine (j_iconst d132_189).trans ?_
    refine (j_iadd d132_190).trans ?_
    refine (j_iconst d132_191).trans ?_
    refine (j_sipush d132_192 (by decide)).trans ?_
    exact g_cV d132_195 k10_126 rfl rfl rfl
set_option maxRecDepth 10000 in
theorem b132_221 {Q : Option Value → mm → Prop} (ρ : rm) (τ : Int64) (l1 : Int) (t : List (Option Value)) (r : Int) (hB : BM ρ) (h_l1 : SM l1) (h_r : SM r) : G 132 221 (some (.ref 51) :: some (vI l1) :: t) ((some (vI r)).toList ++ []) (toM ρ τ) Q = (if r = 0 then Q (some (vI 0)) (toM ρ τ) else G 127 0 [some (.ref 51), some (vI (l1 + 2)), some (vI 1), some (vI 99)] [] (toM ρ τ) (fun v μ2 => G 132 234 (some (.ref 51) :: some (vI l1) :: t) (v.toList ++ []) μ2 Q)) := by
  refine j_if_eq (tgt := 241) d132_221 (by decide) (by omega) (fun q1 => ?_) (fun q1 => ?_)
  ·
    refine (j_iconst d132_241).trans ?_
    exact g_iret d132_242 rfl rfl
  ·
    refine (g_aload_n d132_224 rfl rfl).trans ?_
    refine (g_iload_n d132_225 rfl).trans ?_
    refine (j_iconst d132_226).trans ?_
    refine (j_iadd d132_227).trans ?_
    refine (j_iconst d132_228).trans ?_
    refine (j_bipush d132_229 (by decide)).trans ?_
    exact g_cV d132_231 k10_126 rfl rfl rfl
set_option maxRecDepth 10000 in
theorem b132_248 {Q : Option Value → mm → Prop} (ρ : rm) (τ : Int64) (l1 : Int) (t : List (Option Value)) (r : Int) (hB : BM ρ) (h_l1 : SM l1) (h_r : SM r) (h01_r : r = 0 ∨ r = 1) : G 132 248 (some (.ref 51) :: some (vI l1) :: t) ((some (vI r)).toList ++ []) (toM ρ τ) Q = Q (some (vI r)) (toM ρ τ) := by
  exact g_iret d132_248 rfl (nar_01 h01_r)
set_option maxRecDepth 10000 in
theorem b132_254 {Q : Option Value → mm → Prop} (ρ : rm) (τ : Int64) (l1 : Int) (t : List (Option Value)) (r : Int) (hB : BM ρ) (h_l1 : SM l1) (h_r : SM r) (h01_r : r = 0 ∨ r = 1) : G 132 254 (some (.ref 51) :: some (vI l1) :: t) ((some (vI r)).toList ++ []) (toM ρ τ) Q = Q (some (vI r)) (toM ρ τ) := by
  exact g_iret d132_254 rfl (nar_01 h01_r)
set_option maxRecDepth 10000 in
theorem b132_260 {Q : Option Value → mm → Prop} (ρ : rm) (τ : Int64) (l1 : Int) (t : List (Option Value)) (r : Int) (hB : BM ρ) (h_l1 : SM l1) (h_r : SM r) (h01_r : r = 0 ∨ r = 1) : G 132 260 (some (.ref 51) :: some (vI l1) :: t) ((some (vI r)).toList ++ []) (toM ρ τ) Q = Q (some (vI r)) (toM ρ τ) := by
  exact g_iret d132_260 rfl (nar_01 h01_r)
set_option maxRecDepth 10000 in
theorem b132_277 {Q : Option Value → mm → Prop} (ρ : rm) (τ : Int64) (l1 : Int) (t : List (Option Value)) (r : Int) (hB : BM ρ) (h_l1 : SM l1) (h_r : SM r) (h01_r : r = 0 ∨ r = 1) : G 132 277 (some (.ref 51) :: some (vI l1) :: t) ((some (vI r)).toList ++ []) (toM ρ τ) Q = Q (some (vI r)) (toM ρ τ) := by
  exact g_iret d132_277 rfl (nar_01 h01_r)
set_option maxRecDepth 10000 in
theorem b132_198 {Q : Option Value → mm → Prop} (ρ : rm) (τ : Int64) (l1 : Int) (t : List (Option Value)) (r : Int) (hB : BM ρ) (h_l1 : SM l1) (h_r : SM r) : G 132 198 (some (.ref 51) :: some (vI l1) :: t) ((some (vI r)).toList ++ []) (toM ρ τ) Q = (if r = 0 then Q (some (vI 0)) (toM ρ τ) else Q (some (vI 1)) (toM ρ τ)) := by
  refine j_if_eq (tgt := 205) d132_198 (by decide) (by omega) (fun q1 => ?_) (fun q1 => ?_)
  ·
    refine (j_iconst d132_205).trans ?_
    exact g_iret d132_206 rfl rfl
  ·
    refine (j_iconst d132_201).trans ?_
    refine (g_goto (tgt := 206) d132_202 (by decide)).trans ?_
    exact g_iret d132_206 rfl rfl
set_option maxRecDepth 10000 in
theorem b132_234 {Q : Option Value → mm → Prop} (ρ : rm) (τ : Int64) (l1 : Int) (t : List (Option Value)) (r : Int) (hB : BM ρ) (h_l1 : SM l1) (h_r : SM r) : G 132 234 (some (.ref 51) :: some (vI l1) :: t) ((some (vI r)).toList ++ []) (toM ρ τ) Q = (if r = 0 then Q (some (vI 0)) (toM ρ τ) else Q (some (vI 1)) (toM ρ τ)) := by
  refine j_if_eq (tgt := 241) d132_234 (by decide) (by omega) (fun q1 => ?_) (fun q1 => ?_)
  ·
    refine (j_iconst d132_241).trans ?_
    exact g_iret d132_242 rfl rfl
  ·
    refine (j_iconst d132_237).trans ?_
    refine (g_goto (tgt := 242) d132_238 (by decide)).trans ?_
    exact g_iret d132_242 rfl rfl
theorem d133_0 : ins 133 0 = some (.aload_n 0) := by decide +kernel
theorem d133_1 : ins 133 1 = some (.iconst 0) := by decide +kernel
theorem d133_2 : ins 133 2 = some (.putfield 88) := by decide +kernel
theorem d133_5 : ins 133 5 = some (.aload_n 0) := by decide +kernel
theorem d133_6 : ins 133 6 = some (.iconst 0) := by decide +kernel
theorem d133_7 : ins 133 7 = some (.putfield 168) := by decide +kernel
theorem d133_10 : ins 133 10 = some (.aload_n 0) := by decide +kernel
theorem d133_11 : ins 133 11 = some (.aload_n 0) := by decide +kernel
theorem d133_12 : ins 133 12 = some (.getfield 7) := by decide +kernel
theorem d133_15 : ins 133 15 = some (.putfield 129) := by decide +kernel
theorem d133_18 : ins 133 18 = some (.aload_n 0) := by decide +kernel
theorem d133_19 : ins 133 19 = some (.aload_n 0) := by decide +kernel
theorem d133_20 : ins 133 20 = some (.getfield 76) := by decide +kernel
theorem d133_23 : ins 133 23 = some (.putfield 132) := by decide +kernel
theorem d133_26 : ins 133 26 = some (.aload_n 0) := by decide +kernel
theorem d133_27 : ins 133 27 = some (.aload_n 0) := by decide +kernel
theorem d133_28 : ins 133 28 = some (.getfield 73) := by decide +kernel
theorem d133_31 : ins 133 31 = some (.putfield 135) := by decide +kernel
theorem d133_34 : ins 133 34 = some (.aload_n 0) := by decide +kernel
theorem d133_35 : ins 133 35 = some (.aload_n 0) := by decide +kernel
theorem d133_36 : ins 133 36 = some (.getfield 79) := by decide +kernel
theorem d133_39 : ins 133 39 = some (.putfield 138) := by decide +kernel
theorem d133_42 : ins 133 42 = some (.iconst 1) := by decide +kernel
theorem d133_43 : ins 133 43 = some (.istore_n 1) := by decide +kernel
theorem d133_44 : ins 133 44 = some (.iload_n 1) := by decide +kernel
theorem d133_45 : ins 133 45 = some (.ifCond .eq 62) := by decide +kernel
theorem d133_48 : ins 133 48 = some (.aload_n 0) := by decide +kernel
theorem d133_49 : ins 133 49 = some (.bipush 6) := by decide +kernel
theorem d133_51 : ins 133 51 = some (.aload_n 0) := by decide +kernel
theorem d133_52 : ins 133 52 = some (.getfield 168) := by decide +kernel
theorem d133_55 : ins 133 55 = some (.imul) := by decide +kernel
theorem d133_56 : ins 133 56 = some (.invokevirtual 171) := by decide +kernel
theorem d133_59 : ins 133 59 = some (.ifCond .ne 5) := by decide +kernel
theorem d133_62 : ins 133 62 = some (.iconst 0) := by decide +kernel
theorem d133_63 : ins 133 63 = some (.ireturn) := by decide +kernel
theorem d133_64 : ins 133 64 = some (.aload_n 0) := by decide +kernel
theorem d133_65 : ins 133 65 = some (.dup) := by decide +kernel
theorem d133_66 : ins 133 66 = some (.getfield 168) := by decide +kernel
theorem d133_69 : ins 133 69 = some (.iconst 1) := by decide +kernel
theorem d133_70 : ins 133 70 = some (.iadd) := by decide +kernel
theorem d133_71 : ins 133 71 = some (.putfield 168) := by decide +kernel
theorem d133_74 : ins 133 74 = some (.aload_n 0) := by decide +kernel
theorem d133_75 : ins 133 75 = some (.invokevirtual 119) := by decide +kernel
theorem d133_78 : ins 133 78 = some (.aload_n 0) := by decide +kernel
theorem d133_79 : ins 133 79 = some (.getfield 102) := by decide +kernel
theorem d133_82 : ins 133 82 = some (.ldc2_w 114) := by decide +kernel
theorem d133_85 : ins 133 85 = some (.lcmp) := by decide +kernel
theorem d133_86 : ins 133 86 = some (.ifCond .ne 16) := by decide +kernel
theorem d133_89 : ins 133 89 = some (.aload_n 0) := by decide +kernel
theorem d133_90 : ins 133 90 = some (.getfield 168) := by decide +kernel
theorem d133_93 : ins 133 93 = some (.bipush 10) := by decide +kernel
theorem d133_95 : ins 133 95 = some (.if_icmp .ge 7) := by decide +kernel
theorem d133_98 : ins 133 98 = some (.iconst 1) := by decide +kernel
theorem d133_99 : ins 133 99 = some (.goto 4) := by decide +kernel
theorem d133_102 : ins 133 102 = some (.iconst 0) := by decide +kernel
theorem d133_103 : ins 133 103 = some (.istore_n 1) := by decide +kernel
theorem d133_104 : ins 133 104 = some (.goto (-60)) := by decide +kernel
theorem d133_107 : ins 133 107 = some (.aload_n 0) := by decide +kernel
theorem d133_108 : ins 133 108 = some (.getfield 102) := by decide +kernel
theorem d133_111 : ins 133 111 = some (.ldc2_w 100) := by decide +kernel
theorem d133_114 : ins 133 114 = some (.lcmp) := by decide +kernel
theorem d133_115 : ins 133 115 = some (.ifCond .eq 10) := by decide +kernel
theorem d133_118 : ins 133 118 = some (.aload_n 0) := by decide +kernel
theorem d133_119 : ins 133 119 = some (.invokevirtual 122) := by decide +kernel
theorem d133_122 : ins 133 122 = some (.ifCond .eq 7) := by decide +kernel
theorem d133_125 : ins 133 125 = some (.iconst 1) := by decide +kernel
theorem d133_126 : ins 133 126 = some (.goto 4) := by decide +kernel
theorem d133_129 : ins 133 129 = some (.iconst 0) := by decide +kernel
theorem d133_130 : ins 133 130 = some (.ireturn) := by decide +kernel
set_option maxRecDepth 10000 in
theorem b133_0 {Q : Option Value → mm → Prop} (ρ : rm) (τ : Int64)  (hB : BM ρ)  : G 133 0 (some (.ref 51) :: []) [] (toM ρ τ) Q = G 133 44 (some (.ref 51) :: some (vI 1) :: []) [] (toM (rup (rup (rup (rup (rup (rup ρ 51 12 0) 51 18 0) 51 19 (ρ 51 0)) 51 20 (ρ 51 3)) 51 21 (ρ 51 5)) 51 22 (ρ 51 7)) τ) Q := by
  refine (g_aload_n d133_0 rfl rfl).trans ?_
  refine (j_iconst d133_1).trans ?_
  refine (j_putI d133_2 f10_88 sh_51 (by decide) rfl).trans ?_
  refine (g_aload_n d133_5 rfl rfl).trans ?_
  refine (j_iconst d133_6).trans ?_
  refine (j_putI d133_7 f10_168 sh_51 (by decide) rfl).trans ?_
  refine (g_aload_n d133_10 rfl rfl).trans ?_
  refine (g_aload_n d133_11 rfl rfl).trans ?_
  refine (j_getI (v := ρ 51 0) d133_12 f10_7 sh_51 (by decide) rfl (by simp [rup])).trans ?_
  have q1 := hB 51 0 (by decide)
  refine (j_putI d133_15 f10_129 sh_51 (by decide) rfl).trans ?_
  refine (g_aload_n d133_18 rfl rfl).trans ?_
  refine (g_aload_n d133_19 rfl rfl).trans ?_
  refine (j_getI (v := ρ 51 3) d133_20 f10_76 sh_51 (by decide) rfl (by simp [rup])).trans ?_
  have q2 := hB 51 3 (by decide)
  refine (j_putI d133_23 f10_132 sh_51 (by decide) rfl).trans ?_
  refine (g_aload_n d133_26 rfl rfl).trans ?_
  refine (g_aload_n d133_27 rfl rfl).trans ?_
  refine (j_getI (v := ρ 51 5) d133_28 f10_73 sh_51 (by decide) rfl (by simp [rup])).trans ?_
  have q3 := hB 51 5 (by decide)
  refine (j_putI d133_31 f10_135 sh_51 (by decide) rfl).trans ?_
  refine (g_aload_n d133_34 rfl rfl).trans ?_
  refine (g_aload_n d133_35 rfl rfl).trans ?_
  refine (j_getI (v := ρ 51 7) d133_36 f10_79 sh_51 (by decide) rfl (by simp [rup])).trans ?_
  have q4 := hB 51 7 (by decide)
  refine (j_putI d133_39 f10_138 sh_51 (by decide) rfl).trans ?_
  refine (j_iconst d133_42).trans ?_
  refine (g_istore_n d133_43 (by decide) rfl rfl).trans ?_
  rfl
set_option maxRecDepth 10000 in
theorem b133_44 {Q : Option Value → mm → Prop} (ρ : rm) (τ : Int64) (l1 : Int) (t : List (Option Value)) (hB : BM ρ) (h_l1 : SM l1) : G 133 44 (some (.ref 51) :: some (vI l1) :: t) [] (toM ρ τ) Q = (if l1 = 0 then (if τ = (-2 : Int64) then Q (some (vI 1)) (toM ρ τ) else G 126 0 [some (.ref 51)] [] (toM ρ τ) (fun v μ2 => G 133 122 (some (.ref 51) :: some (vI l1) :: t) (v.toList ++ []) μ2 Q)) else G 132 0 [some (.ref 51), some (vI (6 * (ρ 51 18)))] [] (toM ρ τ) (fun v μ2 => G 133 59 (some (.ref 51) :: some (vI l1) :: t) (v.toList ++ []) μ2 Q)) := by
  refine (g_iload_n d133_44 rfl).trans ?_
  refine j_if_eq (tgt := 107) d133_45 (by decide) (by omega) (fun q1 => ?_) (fun q1 => ?_)
  ·
    refine (g_aload_n d133_107 rfl rfl).trans ?_
    refine (j_getL d133_108 f10_102 sh_51 (by decide) rfl).trans ?_
    refine (g_ldc2_w d133_111 cs10_100).trans ?_
    refine j_lcmp_eq (tgt := 125) d133_114 d133_115 (by decide) (fun q2 => ?_) (fun q2 => ?_)
    ·
      refine (j_iconst d133_125).trans ?_
      refine (g_goto (tgt := 130) d133_126 (by decide)).trans ?_
      exact g_iret d133_130 rfl rfl
    ·
      refine (g_aload_n d133_118 rfl rfl).trans ?_
      exact g_cV d133_119 k10_122 rfl rfl rfl
  ·
    refine (g_aload_n d133_48 rfl rfl).trans ?_
    refine (j_bipush d133_49 (by decide)).trans ?_
    refine (g_aload_n d133_51 rfl rfl).trans ?_
    refine (j_getI (v := ρ 51 18) d133_52 f10_168 sh_51 (by decide) rfl rfl).trans ?_
    have q3 := hB 51 18 (by decide)
    refine (j_imul d133_55).trans ?_
    exact g_cV d133_56 k10_171 rfl rfl rfl
set_option maxRecDepth 10000 in
theorem b133_122 {Q : Option Value → mm → Prop} (ρ : rm) (τ : Int64) (l1 : Int) (t : List (Option Value)) (r : Int) (hB : BM ρ) (h_l1 : SM l1) (h_r : SM r) : G 133 122 (some (.ref 51) :: some (vI l1) :: t) ((some (vI r)).toList ++ []) (toM ρ τ) Q = (if r = 0 then Q (some (vI 0)) (toM ρ τ) else Q (some (vI 1)) (toM ρ τ)) := by
  refine j_if_eq (tgt := 129) d133_122 (by decide) (by omega) (fun q1 => ?_) (fun q1 => ?_)
  ·
    refine (j_iconst d133_129).trans ?_
    exact g_iret d133_130 rfl rfl
  ·
    refine (j_iconst d133_125).trans ?_
    refine (g_goto (tgt := 130) d133_126 (by decide)).trans ?_
    exact g_iret d133_130 rfl rfl
set_option maxRecDepth 10000 in
theorem b133_59 {Q : Option Value → mm → Prop} (ρ : rm) (τ : Int64) (l1 : Int) (t : List (Option Value)) (r : Int) (hB : BM ρ) (h_l1 : SM l1) (h_r : SM r) : G 133 59 (some (.ref 51) :: some (vI l1) :: t) ((some (vI r)).toList ++ []) (toM ρ τ) Q = (if r = 0 then Q (some (vI 0)) (toM ρ τ) else G 125 0 [some (.ref 51)] [] (toM (rup ρ 51 18 ((ρ 51 18) + 1)) τ) (fun v μ2 => G 133 78 (some (.ref 51) :: some (vI l1) :: t) (v.toList ++ []) μ2 Q)) := by
  refine j_if_ne (tgt := 64) d133_59 (by decide) (by omega) (fun q1 => ?_) (fun q1 => ?_)
  ·
    refine (j_iconst d133_62).trans ?_
    exact g_iret d133_63 rfl rfl
  ·
    refine (g_aload_n d133_64 rfl rfl).trans ?_
    refine (g_dupR d133_65).trans ?_
    refine (j_getI (v := ρ 51 18) d133_66 f10_168 sh_51 (by decide) rfl rfl).trans ?_
    have q2 := hB 51 18 (by decide)
    refine (j_iconst d133_69).trans ?_
    refine (j_iadd d133_70).trans ?_
    refine (j_putI d133_71 f10_168 sh_51 (by decide) rfl).trans ?_
    refine (g_aload_n d133_74 rfl rfl).trans ?_
    exact g_cV d133_75 k10_119 rfl rfl rfl
set_option maxRecDepth 10000 in
theorem b133_78 {Q : Option Value → mm → Prop} (ρ : rm) (τ : Int64) (l1 : Int) (t : List (Option Value)) (hB : BM ρ) (h_l1 : SM l1) : G 133 78 (some (.ref 51) :: some (vI l1) :: t) ((none : Option Value).toList ++ []) (toM ρ τ) Q = (if τ = (-3 : Int64) then (if 10 ≤ (ρ 51 18) then G 133 44 (some (.ref 51) :: some (vI 0) :: t) [] (toM ρ τ) Q else G 133 44 (some (.ref 51) :: some (vI 1) :: t) [] (toM ρ τ) Q) else G 133 44 (some (.ref 51) :: some (vI 0) :: t) [] (toM ρ τ) Q) := by
  refine (g_aload_n d133_78 rfl rfl).trans ?_
  refine (j_getL d133_79 f10_102 sh_51 (by decide) rfl).trans ?_
  refine (g_ldc2_w d133_82 cs10_114).trans ?_
  refine j_lcmp_ne (tgt := 102) d133_85 d133_86 (by decide) (fun q1 => ?_) (fun q1 => ?_)
  ·
    refine (g_aload_n d133_89 rfl rfl).trans ?_
    refine (j_getI (v := ρ 51 18) d133_90 f10_168 sh_51 (by decide) rfl rfl).trans ?_
    have q2 := hB 51 18 (by decide)
    refine (j_bipush d133_93 (by decide)).trans ?_
    refine j_icmp_ge (tgt := 102) d133_95 (by decide) (by omega) (by omega) (fun q3 => ?_) (fun q3 => ?_)
    ·
      refine (j_iconst d133_102).trans ?_
      refine (g_istore_n d133_103 (by decide) rfl rfl).trans ?_
      refine (g_goto (tgt := 44) d133_104 (by decide)).trans ?_
      rfl
    ·
      refine (j_iconst d133_98).trans ?_
      refine (g_goto (tgt := 103) d133_99 (by decide)).trans ?_
      refine (g_istore_n d133_103 (by decide) rfl rfl).trans ?_
      refine (g_goto (tgt := 44) d133_104 (by decide)).trans ?_
      rfl
  ·
    refine (j_iconst d133_102).trans ?_
    refine (g_istore_n d133_103 (by decide) rfl rfl).trans ?_
    refine (g_goto (tgt := 44) d133_104 (by decide)).trans ?_
    rfl
theorem d134_0 : ins 134 0 = some (.aload_n 0) := by decide +kernel
theorem d134_1 : ins 134 1 = some (.invokevirtual 174) := by decide +kernel
theorem d134_4 : ins 134 4 = some (.ifCond .eq 7) := by decide +kernel
theorem d134_7 : ins 134 7 = some (.iconst (-1)) := by decide +kernel
theorem d134_8 : ins 134 8 = some (.goto 7) := by decide +kernel
theorem d134_11 : ins 134 11 = some (.aload_n 0) := by decide +kernel
theorem d134_12 : ins 134 12 = some (.getfield 116) := by decide +kernel
theorem d134_15 : ins 134 15 = some (.ireturn) := by decide +kernel
set_option maxRecDepth 10000 in
theorem b134_0 {Q : Option Value → mm → Prop} (ρ : rm) (τ : Int64)  (hB : BM ρ)  : G 134 0 (some (.ref 51) :: []) [] (toM ρ τ) Q = G 133 0 [some (.ref 51)] [] (toM ρ τ) (fun v μ2 => G 134 4 (some (.ref 51) :: []) (v.toList ++ []) μ2 Q) := by
  refine (g_aload_n d134_0 rfl rfl).trans ?_
  exact g_cV d134_1 k10_174 rfl rfl rfl
set_option maxRecDepth 10000 in
theorem b134_4 {Q : Option Value → mm → Prop} (ρ : rm) (τ : Int64) (t : List (Option Value)) (r : Int) (hB : BM ρ) (h_r : SM r) : G 134 4 (some (.ref 51) :: t) ((some (vI r)).toList ++ []) (toM ρ τ) Q = (if r = 0 then Q (some (vI (ρ 51 17))) (toM ρ τ) else Q (some (vI (-1))) (toM ρ τ)) := by
  refine j_if_eq (tgt := 11) d134_4 (by decide) (by omega) (fun q1 => ?_) (fun q1 => ?_)
  ·
    refine (g_aload_n d134_11 rfl rfl).trans ?_
    refine (j_getI (v := ρ 51 17) d134_12 f10_116 sh_51 (by decide) rfl rfl).trans ?_
    have q2 := hB 51 17 (by decide)
    exact g_iret d134_15 rfl rfl
  ·
    refine (j_iconst d134_7).trans ?_
    refine (g_goto (tgt := 15) d134_8 (by decide)).trans ?_
    exact g_iret d134_15 rfl rfl
theorem d135_0 : ins 135 0 = some (.aload_n 0) := by decide +kernel
theorem d135_1 : ins 135 1 = some (.getfield 35) := by decide +kernel
theorem d135_4 : ins 135 4 = some (.iload_n 1) := by decide +kernel
theorem d135_5 : ins 135 5 = some (.iconst 1) := by decide +kernel
theorem d135_6 : ins 135 6 = some (.iadd) := by decide +kernel
theorem d135_7 : ins 135 7 = some (.iaload) := by decide +kernel
theorem d135_8 : ins 135 8 = some (.istore_n 2) := by decide +kernel
theorem d135_9 : ins 135 9 = some (.aload_n 0) := by decide +kernel
theorem d135_10 : ins 135 10 = some (.getfield 35) := by decide +kernel
theorem d135_13 : ins 135 13 = some (.iload_n 1) := by decide +kernel
theorem d135_14 : ins 135 14 = some (.iconst 2) := by decide +kernel
theorem d135_15 : ins 135 15 = some (.iadd) := by decide +kernel
theorem d135_16 : ins 135 16 = some (.iaload) := by decide +kernel
theorem d135_17 : ins 135 17 = some (.istore_n 3) := by decide +kernel
theorem d135_18 : ins 135 18 = some (.aload_n 0) := by decide +kernel
theorem d135_19 : ins 135 19 = some (.getfield 35) := by decide +kernel
theorem d135_22 : ins 135 22 = some (.iload_n 1) := by decide +kernel
theorem d135_23 : ins 135 23 = some (.iaload) := by decide +kernel
theorem d135_24 : ins 135 24 = some (.tableswitch 245 0 5 #[40, 52, 62, 72, 132, 192]) := by decide +kernel
theorem d135_64 : ins 135 64 = some (.aload_n 0) := by decide +kernel
theorem d135_65 : ins 135 65 = some (.invokevirtual 63) := by decide +kernel
theorem d135_68 : ins 135 68 = some (.aload_n 0) := by decide +kernel
theorem d135_69 : ins 135 69 = some (.iload_n 2) := by decide +kernel
theorem d135_70 : ins 135 70 = some (.putfield 7) := by decide +kernel
theorem d135_73 : ins 135 73 = some (.goto 206) := by decide +kernel
theorem d135_76 : ins 135 76 = some (.aload_n 0) := by decide +kernel
theorem d135_77 : ins 135 77 = some (.getfield 13) := by decide +kernel
theorem d135_80 : ins 135 80 = some (.iload_n 2) := by decide +kernel
theorem d135_81 : ins 135 81 = some (.iload_n 3) := by decide +kernel
theorem d135_82 : ins 135 82 = some (.iastore) := by decide +kernel
theorem d135_83 : ins 135 83 = some (.goto 196) := by decide +kernel
theorem d135_86 : ins 135 86 = some (.aload_n 0) := by decide +kernel
theorem d135_87 : ins 135 87 = some (.getfield 17) := by decide +kernel
theorem d135_90 : ins 135 90 = some (.iload_n 2) := by decide +kernel
theorem d135_91 : ins 135 91 = some (.iload_n 3) := by decide +kernel
theorem d135_92 : ins 135 92 = some (.iastore) := by decide +kernel
theorem d135_93 : ins 135 93 = some (.goto 186) := by decide +kernel
theorem d135_96 : ins 135 96 = some (.aload_n 0) := by decide +kernel
theorem d135_97 : ins 135 97 = some (.getfield 20) := by decide +kernel
theorem d135_100 : ins 135 100 = some (.iconst 3) := by decide +kernel
theorem d135_101 : ins 135 101 = some (.aload_n 0) := by decide +kernel
theorem d135_102 : ins 135 102 = some (.getfield 76) := by decide +kernel
theorem d135_105 : ins 135 105 = some (.imul) := by decide +kernel
theorem d135_106 : ins 135 106 = some (.iload_n 2) := by decide +kernel
theorem d135_107 : ins 135 107 = some (.iastore) := by decide +kernel
theorem d135_108 : ins 135 108 = some (.aload_n 0) := by decide +kernel
theorem d135_109 : ins 135 109 = some (.getfield 20) := by decide +kernel
theorem d135_112 : ins 135 112 = some (.iconst 3) := by decide +kernel
theorem d135_113 : ins 135 113 = some (.aload_n 0) := by decide +kernel
theorem d135_114 : ins 135 114 = some (.getfield 76) := by decide +kernel
theorem d135_117 : ins 135 117 = some (.imul) := by decide +kernel
theorem d135_118 : ins 135 118 = some (.iconst 1) := by decide +kernel
theorem d135_119 : ins 135 119 = some (.iadd) := by decide +kernel
theorem d135_120 : ins 135 120 = some (.iload_n 3) := by decide +kernel
theorem d135_121 : ins 135 121 = some (.iastore) := by decide +kernel
theorem d135_122 : ins 135 122 = some (.aload_n 0) := by decide +kernel
theorem d135_123 : ins 135 123 = some (.getfield 20) := by decide +kernel
theorem d135_126 : ins 135 126 = some (.iconst 3) := by decide +kernel
theorem d135_127 : ins 135 127 = some (.aload_n 0) := by decide +kernel
theorem d135_128 : ins 135 128 = some (.getfield 76) := by decide +kernel
theorem d135_131 : ins 135 131 = some (.imul) := by decide +kernel
theorem d135_132 : ins 135 132 = some (.iconst 2) := by decide +kernel
theorem d135_133 : ins 135 133 = some (.iadd) := by decide +kernel
theorem d135_134 : ins 135 134 = some (.aload_n 0) := by decide +kernel
theorem d135_135 : ins 135 135 = some (.getfield 35) := by decide +kernel
theorem d135_138 : ins 135 138 = some (.iload_n 1) := by decide +kernel
theorem d135_139 : ins 135 139 = some (.iconst 3) := by decide +kernel
theorem d135_140 : ins 135 140 = some (.iadd) := by decide +kernel
theorem d135_141 : ins 135 141 = some (.iaload) := by decide +kernel
theorem d135_142 : ins 135 142 = some (.iastore) := by decide +kernel
theorem d135_143 : ins 135 143 = some (.aload_n 0) := by decide +kernel
theorem d135_144 : ins 135 144 = some (.dup) := by decide +kernel
theorem d135_145 : ins 135 145 = some (.getfield 76) := by decide +kernel
theorem d135_148 : ins 135 148 = some (.iconst 1) := by decide +kernel
theorem d135_149 : ins 135 149 = some (.iadd) := by decide +kernel
theorem d135_150 : ins 135 150 = some (.putfield 76) := by decide +kernel
theorem d135_153 : ins 135 153 = some (.goto 126) := by decide +kernel
theorem d135_156 : ins 135 156 = some (.aload_n 0) := by decide +kernel
theorem d135_157 : ins 135 157 = some (.getfield 23) := by decide +kernel
theorem d135_160 : ins 135 160 = some (.iconst 3) := by decide +kernel
theorem d135_161 : ins 135 161 = some (.aload_n 0) := by decide +kernel
theorem d135_162 : ins 135 162 = some (.getfield 73) := by decide +kernel
theorem d135_165 : ins 135 165 = some (.imul) := by decide +kernel
theorem d135_166 : ins 135 166 = some (.iload_n 2) := by decide +kernel
theorem d135_167 : ins 135 167 = some (.iastore) := by decide +kernel
theorem d135_168 : ins 135 168 = some (.aload_n 0) := by decide +kernel
theorem d135_169 : ins 135 169 = some (.getfield 23) := by decide +kernel
theorem d135_172 : ins 135 172 = some (.iconst 3) := by decide +kernel
theorem d135_173 : ins 135 173 = some (.aload_n 0) := by decide +kernel
theorem d135_174 : ins 135 174 = some (.getfield 73) := by decide +kernel
theorem d135_177 : ins 135 177 = some (.imul) := by decide +kernel
theorem d135_178 : ins 135 178 = some (.iconst 1) := by decide +kernel
theorem d135_179 : ins 135 179 = some (.iadd) := by decide +kernel
theorem d135_180 : ins 135 180 = some (.iload_n 3) := by decide +kernel
theorem d135_181 : ins 135 181 = some (.iastore) := by decide +kernel
theorem d135_182 : ins 135 182 = some (.aload_n 0) := by decide +kernel
theorem d135_183 : ins 135 183 = some (.getfield 23) := by decide +kernel
theorem d135_186 : ins 135 186 = some (.iconst 3) := by decide +kernel
theorem d135_187 : ins 135 187 = some (.aload_n 0) := by decide +kernel
theorem d135_188 : ins 135 188 = some (.getfield 73) := by decide +kernel
theorem d135_191 : ins 135 191 = some (.imul) := by decide +kernel
theorem d135_192 : ins 135 192 = some (.iconst 2) := by decide +kernel
theorem d135_193 : ins 135 193 = some (.iadd) := by decide +kernel
theorem d135_194 : ins 135 194 = some (.aload_n 0) := by decide +kernel
theorem d135_195 : ins 135 195 = some (.getfield 35) := by decide +kernel
theorem d135_198 : ins 135 198 = some (.iload_n 1) := by decide +kernel
theorem d135_199 : ins 135 199 = some (.iconst 3) := by decide +kernel
theorem d135_200 : ins 135 200 = some (.iadd) := by decide +kernel
theorem d135_201 : ins 135 201 = some (.iaload) := by decide +kernel
theorem d135_202 : ins 135 202 = some (.iastore) := by decide +kernel
theorem d135_203 : ins 135 203 = some (.aload_n 0) := by decide +kernel
theorem d135_204 : ins 135 204 = some (.dup) := by decide +kernel
theorem d135_205 : ins 135 205 = some (.getfield 73) := by decide +kernel
theorem d135_208 : ins 135 208 = some (.iconst 1) := by decide +kernel
theorem d135_209 : ins 135 209 = some (.iadd) := by decide +kernel
theorem d135_210 : ins 135 210 = some (.putfield 73) := by decide +kernel
theorem d135_213 : ins 135 213 = some (.goto 66) := by decide +kernel
theorem d135_216 : ins 135 216 = some (.iconst 0) := by decide +kernel
theorem d135_217 : ins 135 217 = some (.istore 4) := by decide +kernel
theorem d135_219 : ins 135 219 = some (.iload 4) := by decide +kernel
theorem d135_221 : ins 135 221 = some (.iconst 5) := by decide +kernel
theorem d135_222 : ins 135 222 = some (.if_icmp .ge 34) := by decide +kernel
theorem d135_225 : ins 135 225 = some (.aload_n 0) := by decide +kernel
theorem d135_226 : ins 135 226 = some (.getfield 26) := by decide +kernel
theorem d135_229 : ins 135 229 = some (.iconst 5) := by decide +kernel
theorem d135_230 : ins 135 230 = some (.aload_n 0) := by decide +kernel
theorem d135_231 : ins 135 231 = some (.getfield 79) := by decide +kernel
theorem d135_234 : ins 135 234 = some (.imul) := by decide +kernel
theorem d135_235 : ins 135 235 = some (.iload 4) := by decide +kernel
theorem d135_237 : ins 135 237 = some (.iadd) := by decide +kernel
theorem d135_238 : ins 135 238 = some (.aload_n 0) := by decide +kernel
theorem d135_239 : ins 135 239 = some (.getfield 35) := by decide +kernel
theorem d135_242 : ins 135 242 = some (.iload_n 1) := by decide +kernel
theorem d135_243 : ins 135 243 = some (.iconst 1) := by decide +kernel
theorem d135_244 : ins 135 244 = some (.iadd) := by decide +kernel
theorem d135_245 : ins 135 245 = some (.iload 4) := by decide +kernel
theorem d135_247 : ins 135 247 = some (.iadd) := by decide +kernel
theorem d135_248 : ins 135 248 = some (.iaload) := by decide +kernel
theorem d135_249 : ins 135 249 = some (.iastore) := by decide +kernel
theorem d135_250 : ins 135 250 = some (.iinc 4 1) := by decide +kernel
theorem d135_253 : ins 135 253 = some (.goto (-34)) := by decide +kernel
theorem d135_256 : ins 135 256 = some (.aload_n 0) := by decide +kernel
theorem d135_257 : ins 135 257 = some (.dup) := by decide +kernel
theorem d135_258 : ins 135 258 = some (.getfield 79) := by decide +kernel
theorem d135_261 : ins 135 261 = some (.iconst 1) := by decide +kernel
theorem d135_262 : ins 135 262 = some (.iadd) := by decide +kernel
theorem d135_263 : ins 135 263 = some (.putfield 79) := by decide +kernel
theorem d135_266 : ins 135 266 = some (.goto 13) := by decide +kernel
theorem d135_269 : ins 135 269 = some (.aload_n 0) := by decide +kernel
theorem d135_270 : ins 135 270 = some (.iconst 0) := by decide +kernel
theorem d135_271 : ins 135 271 = some (.putfield 73) := by decide +kernel
theorem d135_274 : ins 135 274 = some (.aload_n 0) := by decide +kernel
theorem d135_275 : ins 135 275 = some (.iconst 0) := by decide +kernel
theorem d135_276 : ins 135 276 = some (.putfield 79) := by decide +kernel
theorem d135_279 : ins 135 279 = some (.return_) := by decide +kernel
set_option maxRecDepth 10000 in
theorem b135_0 {Q : Option Value → mm → Prop} (ρ : rm) (τ : Int64) (a1 : Int) (hB : BM ρ) (h_a1 : SM a1) : G 135 0 (some (.ref 51) :: some (vI a1) :: []) [] (toM ρ τ) Q = (if 0 ≤ (a1 + 1) ∧ (a1 + 1) < 60 then (if 0 ≤ (a1 + 2) ∧ (a1 + 2) < 60 then (if 0 ≤ a1 ∧ a1 < 60 then (if (ρ 59 a1) = 0 then G 121 0 [some (.ref 51)] [] (toM ρ τ) (fun v μ2 => G 135 68 (some (.ref 51) :: some (vI a1) :: some (vI (ρ 59 (a1 + 1))) :: some (vI (ρ 59 (a1 + 2))) :: []) (v.toList ++ []) μ2 Q) else (if (ρ 59 a1) = 1 then (if 0 ≤ (ρ 59 (a1 + 1)) ∧ (ρ 59 (a1 + 1)) < 10 then Q none (toM (rup ρ 52 (ρ 59 (a1 + 1)) (ρ 59 (a1 + 2))) τ) else False) else (if (ρ 59 a1) = 2 then (if 0 ≤ (ρ 59 (a1 + 1)) ∧ (ρ 59 (a1 + 1)) < 10 then Q none (toM (rup ρ 53 (ρ 59 (a1 + 1)) (ρ 59 (a1 + 2))) τ) else False) else (if (ρ 59 a1) = 3 then (if 0 ≤ (3 * (ρ 51 3)) ∧ (3 * (ρ 51 3)) < 24 then (if 0 ≤ ((3 * (ρ 51 3)) + 1) ∧ ((3 * (ρ 51 3)) + 1) < 24 then (if 0 ≤ (a1 + 3) ∧ (a1 + 3) < 60 then (if 0 ≤ ((3 * (ρ 51 3)) + 2) ∧ ((3 * (ρ 51 3)) + 2) < 24 then Q none (toM (rup (rup (rup (rup ρ 54 (3 * (ρ 51 3)) (ρ 59 (a1 + 1))) 54 ((3 * (ρ 51 3)) + 1) (ρ 59 (a1 + 2))) 54 ((3 * (ρ 51 3)) + 2) (ρ 59 (a1 + 3))) 51 3 ((ρ 51 3) + 1)) τ) else False) else False) else False) else False) else (if (ρ 59 a1) = 4 then (if 0 ≤ (3 * (ρ 51 5)) ∧ (3 * (ρ 51 5)) < 30 then (if 0 ≤ ((3 * (ρ 51 5)) + 1) ∧ ((3 * (ρ 51 5)) + 1) < 30 then (if 0 ≤ (a1 + 3) ∧ (a1 + 3) < 60 then (if 0 ≤ ((3 * (ρ 51 5)) + 2) ∧ ((3 * (ρ 51 5)) + 2) < 30 then Q none (toM (rup (rup (rup (rup ρ 55 (3 * (ρ 51 5)) (ρ 59 (a1 + 1))) 55 ((3 * (ρ 51 5)) + 1) (ρ 59 (a1 + 2))) 55 ((3 * (ρ 51 5)) + 2) (ρ 59 (a1 + 3))) 51 5 ((ρ 51 5) + 1)) τ) else False) else False) else False) else False) else (if (ρ 59 a1) = 5 then G 135 219 (some (.ref 51) :: some (vI a1) :: some (vI (ρ 59 (a1 + 1))) :: some (vI (ρ 59 (a1 + 2))) :: some (vI 0) :: []) [] (toM ρ τ) Q else Q none (toM (rup (rup ρ 51 5 0) 51 7 0) τ))))))) else False) else False) else False) := by
  refine (g_aload_n d135_0 rfl rfl).trans ?_
  refine (g_getR (q := 59) d135_1 f10_35 sh_51 (by decide) rfl).trans ?_
  refine (g_iload_n d135_4 rfl).trans ?_
  refine (j_iconst d135_5).trans ?_
  refine (j_iadd d135_6).trans ?_
  refine j_iaload (v := ρ 59 (a1 + 1)) d135_7 sh_59 (by omega) rfl (fun q1 => ?_)
  have q2 := hB 59 (a1 + 1) (by omega)
  refine (g_istore_n d135_8 (by decide) rfl rfl).trans ?_
  refine (g_aload_n d135_9 rfl rfl).trans ?_
  refine (g_getR (q := 59) d135_10 f10_35 sh_51 (by decide) rfl).trans ?_
  refine (g_iload_n d135_13 rfl).trans ?_
  refine (j_iconst d135_14).trans ?_
  refine (j_iadd d135_15).trans ?_
  refine j_iaload (v := ρ 59 (a1 + 2)) d135_16 sh_59 (by omega) rfl (fun q3 => ?_)
  have q4 := hB 59 (a1 + 2) (by omega)
  refine (g_istore_n d135_17 (by decide) rfl rfl).trans ?_
  refine (g_aload_n d135_18 rfl rfl).trans ?_
  refine (g_getR (q := 59) d135_19 f10_35 sh_51 (by decide) rfl).trans ?_
  refine (g_iload_n d135_22 rfl).trans ?_
  refine j_iaload (v := ρ 59 a1) d135_23 sh_59 (by omega) rfl (fun q5 => ?_)
  have q6 := hB 59 a1 (by omega)
  refine sw_case (c := 0) (fun q7 => ?_) (fun q7 => ?_)
  ·
    refine (g_tableIn (off := 40) (tgt := 64) d135_24 (by rw [iI_toInt (by omega)]; omega) (by rw [iI_toInt (by omega), q7]; rfl) (by decide)).trans ?_
    refine (g_aload_n d135_64 rfl rfl).trans ?_
    exact g_cV d135_65 k10_63 rfl rfl rfl
  ·
    refine sw_case (c := 1) (fun q8 => ?_) (fun q8 => ?_)
    ·
      refine (g_tableIn (off := 52) (tgt := 76) d135_24 (by rw [iI_toInt (by omega)]; omega) (by rw [iI_toInt (by omega), q8]; rfl) (by decide)).trans ?_
      refine (g_aload_n d135_76 rfl rfl).trans ?_
      refine (g_getR (q := 52) d135_77 f10_13 sh_51 (by decide) rfl).trans ?_
      refine (g_iload_n d135_80 rfl).trans ?_
      refine (g_iload_n d135_81 rfl).trans ?_
      refine j_iastore d135_82 sh_52 (by omega) (fun q9 => ?_)
      refine (g_goto (tgt := 279) d135_83 (by decide)).trans ?_
      exact g_ret d135_279 rfl
    ·
      refine sw_case (c := 2) (fun q10 => ?_) (fun q10 => ?_)
      ·
        refine (g_tableIn (off := 62) (tgt := 86) d135_24 (by rw [iI_toInt (by omega)]; omega) (by rw [iI_toInt (by omega), q10]; rfl) (by decide)).trans ?_
        refine (g_aload_n d135_86 rfl rfl).trans ?_
        refine (g_getR (q := 53) d135_87 f10_17 sh_51 (by decide) rfl).trans ?_
        refine (g_iload_n d135_90 rfl).trans ?_
        refine (g_iload_n d135_91 rfl).trans ?_
        refine j_iastore d135_92 sh_53 (by omega) (fun q11 => ?_)
        refine (g_goto (tgt := 279) d135_93 (by decide)).trans ?_
        exact g_ret d135_279 rfl
      ·
        refine sw_case (c := 3) (fun q12 => ?_) (fun q12 => ?_)
        ·
          refine (g_tableIn (off := 72) (tgt := 96) d135_24 (by rw [iI_toInt (by omega)]; omega) (by rw [iI_toInt (by omega), q12]; rfl) (by decide)).trans ?_
          refine (g_aload_n d135_96 rfl rfl).trans ?_
          refine (g_getR (q := 54) d135_97 f10_20 sh_51 (by decide) rfl).trans ?_
          refine (j_iconst d135_100).trans ?_
          refine (g_aload_n d135_101 rfl rfl).trans ?_
          refine (j_getI (v := ρ 51 3) d135_102 f10_76 sh_51 (by decide) rfl rfl).trans ?_
          have q13 := hB 51 3 (by decide)
          refine (j_imul d135_105).trans ?_
          refine (g_iload_n d135_106 rfl).trans ?_
          refine j_iastore d135_107 sh_54 (by omega) (fun q14 => ?_)
          refine (g_aload_n d135_108 rfl rfl).trans ?_
          refine (g_getR (q := 54) d135_109 f10_20 sh_51 (by decide) rfl).trans ?_
          refine (j_iconst d135_112).trans ?_
          refine (g_aload_n d135_113 rfl rfl).trans ?_
          refine (j_getI (v := ρ 51 3) d135_114 f10_76 sh_51 (by decide) rfl (by simp [rup])).trans ?_
          refine (j_imul d135_117).trans ?_
          refine (j_iconst d135_118).trans ?_
          refine (j_iadd d135_119).trans ?_
          refine (g_iload_n d135_120 rfl).trans ?_
          refine j_iastore d135_121 sh_54 (by omega) (fun q15 => ?_)
          refine (g_aload_n d135_122 rfl rfl).trans ?_
          refine (g_getR (q := 54) d135_123 f10_20 sh_51 (by decide) rfl).trans ?_
          refine (j_iconst d135_126).trans ?_
          refine (g_aload_n d135_127 rfl rfl).trans ?_
          refine (j_getI (v := ρ 51 3) d135_128 f10_76 sh_51 (by decide) rfl (by simp [rup])).trans ?_
          refine (j_imul d135_131).trans ?_
          refine (j_iconst d135_132).trans ?_
          refine (j_iadd d135_133).trans ?_
          refine (g_aload_n d135_134 rfl rfl).trans ?_
          refine (g_getR (q := 59) d135_135 f10_35 sh_51 (by decide) rfl).trans ?_
          refine (g_iload_n d135_138 rfl).trans ?_
          refine (j_iconst d135_139).trans ?_
          refine (j_iadd d135_140).trans ?_
          refine j_iaload (v := ρ 59 (a1 + 3)) d135_141 sh_59 (by omega) (by simp [rup]) (fun q16 => ?_)
          have q17 := hB 59 (a1 + 3) (by omega)
          refine j_iastore d135_142 sh_54 (by omega) (fun q18 => ?_)
          refine (g_aload_n d135_143 rfl rfl).trans ?_
          refine (g_dupR d135_144).trans ?_
          refine (j_getI (v := ρ 51 3) d135_145 f10_76 sh_51 (by decide) rfl (by simp [rup])).trans ?_
          refine (j_iconst d135_148).trans ?_
          refine (j_iadd d135_149).trans ?_
          refine (j_putI d135_150 f10_76 sh_51 (by decide) rfl).trans ?_
          refine (g_goto (tgt := 279) d135_153 (by decide)).trans ?_
          exact g_ret d135_279 rfl
        ·
          refine sw_case (c := 4) (fun q19 => ?_) (fun q19 => ?_)
          ·
            refine (g_tableIn (off := 132) (tgt := 156) d135_24 (by rw [iI_toInt (by omega)]; omega) (by rw [iI_toInt (by omega), q19]; rfl) (by decide)).trans ?_
            refine (g_aload_n d135_156 rfl rfl).trans ?_
            refine (g_getR (q := 55) d135_157 f10_23 sh_51 (by decide) rfl).trans ?_
            refine (j_iconst d135_160).trans ?_
            refine (g_aload_n d135_161 rfl rfl).trans ?_
            refine (j_getI (v := ρ 51 5) d135_162 f10_73 sh_51 (by decide) rfl rfl).trans ?_
            have q20 := hB 51 5 (by decide)
            refine (j_imul d135_165).trans ?_
            refine (g_iload_n d135_166 rfl).trans ?_
            refine j_iastore d135_167 sh_55 (by omega) (fun q21 => ?_)
            refine (g_aload_n d135_168 rfl rfl).trans ?_
            refine (g_getR (q := 55) d135_169 f10_23 sh_51 (by decide) rfl).trans ?_
            refine (j_iconst d135_172).trans ?_
            refine (g_aload_n d135_173 rfl rfl).trans ?_
            refine (j_getI (v := ρ 51 5) d135_174 f10_73 sh_51 (by decide) rfl (by simp [rup])).trans ?_
            refine (j_imul d135_177).trans ?_
            refine (j_iconst d135_178).trans ?_
            refine (j_iadd d135_179).trans ?_
            refine (g_iload_n d135_180 rfl).trans ?_
            refine j_iastore d135_181 sh_55 (by omega) (fun q22 => ?_)
            refine (g_aload_n d135_182 rfl rfl).trans ?_
            refine (g_getR (q := 55) d135_183 f10_23 sh_51 (by decide) rfl).trans ?_
            refine (j_iconst d135_186).trans ?_
            refine (g_aload_n d135_187 rfl rfl).trans ?_
            refine (j_getI (v := ρ 51 5) d135_188 f10_73 sh_51 (by decide) rfl (by simp [rup])).trans ?_
            refine (j_imul d135_191).trans ?_
            refine (j_iconst d135_192).trans ?_
            refine (j_iadd d135_193).trans ?_
            refine (g_aload_n d135_194 rfl rfl).trans ?_
            refine (g_getR (q := 59) d135_195 f10_35 sh_51 (by decide) rfl).trans ?_
            refine (g_iload_n d135_198 rfl).trans ?_
            refine (j_iconst d135_199).trans ?_
            refine (j_iadd d135_200).trans ?_
            refine j_iaload (v := ρ 59 (a1 + 3)) d135_201 sh_59 (by omega) (by simp [rup]) (fun q23 => ?_)
            have q24 := hB 59 (a1 + 3) (by omega)
            refine j_iastore d135_202 sh_55 (by omega) (fun q25 => ?_)
            refine (g_aload_n d135_203 rfl rfl).trans ?_
            refine (g_dupR d135_204).trans ?_
            refine (j_getI (v := ρ 51 5) d135_205 f10_73 sh_51 (by decide) rfl (by simp [rup])).trans ?_
            refine (j_iconst d135_208).trans ?_
            refine (j_iadd d135_209).trans ?_
            refine (j_putI d135_210 f10_73 sh_51 (by decide) rfl).trans ?_
            refine (g_goto (tgt := 279) d135_213 (by decide)).trans ?_
            exact g_ret d135_279 rfl
          ·
            refine sw_case (c := 5) (fun q26 => ?_) (fun q26 => ?_)
            ·
              refine (g_tableIn (off := 192) (tgt := 216) d135_24 (by rw [iI_toInt (by omega)]; omega) (by rw [iI_toInt (by omega), q26]; rfl) (by decide)).trans ?_
              refine (j_iconst d135_216).trans ?_
              refine (g_istore d135_217 (by decide) rfl rfl).trans ?_
              rfl
            ·
              refine (g_tableOut (tgt := 269) d135_24 (by rw [iI_toInt (by omega)]; omega) (by decide)).trans ?_
              refine (g_aload_n d135_269 rfl rfl).trans ?_
              refine (j_iconst d135_270).trans ?_
              refine (j_putI d135_271 f10_73 sh_51 (by decide) rfl).trans ?_
              refine (g_aload_n d135_274 rfl rfl).trans ?_
              refine (j_iconst d135_275).trans ?_
              refine (j_putI d135_276 f10_79 sh_51 (by decide) rfl).trans ?_
              exact g_ret d135_279 rfl
set_option maxRecDepth 10000 in
theorem b135_68 {Q : Option Value → mm → Prop} (ρ : rm) (τ : Int64) (l1 : Int) (l2 : Int) (l3 : Int) (t : List (Option Value)) (hB : BM ρ) (h_l1 : SM l1) (h_l2 : SM l2) (h_l3 : SM l3) : G 135 68 (some (.ref 51) :: some (vI l1) :: some (vI l2) :: some (vI l3) :: t) ((none : Option Value).toList ++ []) (toM ρ τ) Q = Q none (toM (rup ρ 51 0 l2) τ) := by
  refine (g_aload_n d135_68 rfl rfl).trans ?_
  refine (g_iload_n d135_69 rfl).trans ?_
  refine (j_putI d135_70 f10_7 sh_51 (by decide) rfl).trans ?_
  refine (g_goto (tgt := 279) d135_73 (by decide)).trans ?_
  exact g_ret d135_279 rfl
set_option maxRecDepth 10000 in
theorem b135_219 {Q : Option Value → mm → Prop} (ρ : rm) (τ : Int64) (l1 : Int) (l2 : Int) (l3 : Int) (l4 : Int) (t : List (Option Value)) (hB : BM ρ) (h_l1 : SM l1) (h_l2 : SM l2) (h_l3 : SM l3) (h_l4 : SM l4) : G 135 219 (some (.ref 51) :: some (vI l1) :: some (vI l2) :: some (vI l3) :: some (vI l4) :: t) [] (toM ρ τ) Q = (if 5 ≤ l4 then Q none (toM (rup ρ 51 7 ((ρ 51 7) + 1)) τ) else (if 0 ≤ ((l1 + 1) + l4) ∧ ((l1 + 1) + l4) < 60 then (if 0 ≤ ((5 * (ρ 51 7)) + l4) ∧ ((5 * (ρ 51 7)) + l4) < 30 then G 135 219 (some (.ref 51) :: some (vI l1) :: some (vI l2) :: some (vI l3) :: some (vI (l4 + 1)) :: t) [] (toM (rup ρ 56 ((5 * (ρ 51 7)) + l4) (ρ 59 ((l1 + 1) + l4))) τ) Q else False) else False)) := by
  refine (g_iload d135_219 rfl).trans ?_
  refine (j_iconst d135_221).trans ?_
  refine j_icmp_ge (tgt := 256) d135_222 (by decide) (by omega) (by omega) (fun q1 => ?_) (fun q1 => ?_)
  ·
    refine (g_aload_n d135_256 rfl rfl).trans ?_
    refine (g_dupR d135_257).trans ?_
    refine (j_getI (v := ρ 51 7) d135_258 f10_79 sh_51 (by decide) rfl rfl).trans ?_
    have q2 := hB 51 7 (by decide)
    refine (j_iconst d135_261).trans ?_
    refine (j_iadd d135_262).trans ?_
    refine (j_putI d135_263 f10_79 sh_51 (by decide) rfl).trans ?_
    refine (g_goto (tgt := 279) d135_266 (by decide)).trans ?_
    exact g_ret d135_279 rfl
  ·
    refine (g_aload_n d135_225 rfl rfl).trans ?_
    refine (g_getR (q := 56) d135_226 f10_26 sh_51 (by decide) rfl).trans ?_
    refine (j_iconst d135_229).trans ?_
    refine (g_aload_n d135_230 rfl rfl).trans ?_
    refine (j_getI (v := ρ 51 7) d135_231 f10_79 sh_51 (by decide) rfl rfl).trans ?_
    have q3 := hB 51 7 (by decide)
    refine (j_imul d135_234).trans ?_
    refine (g_iload d135_235 rfl).trans ?_
    refine (j_iadd d135_237).trans ?_
    refine (g_aload_n d135_238 rfl rfl).trans ?_
    refine (g_getR (q := 59) d135_239 f10_35 sh_51 (by decide) rfl).trans ?_
    refine (g_iload_n d135_242 rfl).trans ?_
    refine (j_iconst d135_243).trans ?_
    refine (j_iadd d135_244).trans ?_
    refine (g_iload d135_245 rfl).trans ?_
    refine (j_iadd d135_247).trans ?_
    refine j_iaload (v := ρ 59 ((l1 + 1) + l4)) d135_248 sh_59 (by omega) rfl (fun q4 => ?_)
    have q5 := hB 59 ((l1 + 1) + l4) (by omega)
    refine j_iastore d135_249 sh_56 (by omega) (fun q6 => ?_)
    refine (j_iinc d135_250 rfl (by decide) rfl rfl).trans ?_
    refine (g_goto (tgt := 219) d135_253 (by decide)).trans ?_
    rfl
theorem d136_0 : ins 136 0 = some (.aload_n 0) := by decide +kernel
theorem d136_1 : ins 136 1 = some (.invokevirtual 174) := by decide +kernel
theorem d136_4 : ins 136 4 = some (.ifCond .ne 6) := by decide +kernel
theorem d136_7 : ins 136 7 = some (.bipush (-4)) := by decide +kernel
theorem d136_9 : ins 136 9 = some (.ireturn) := by decide +kernel
theorem d136_10 : ins 136 10 = some (.iconst 0) := by decide +kernel
theorem d136_11 : ins 136 11 = some (.istore_n 1) := by decide +kernel
theorem d136_12 : ins 136 12 = some (.iload_n 1) := by decide +kernel
theorem d136_13 : ins 136 13 = some (.aload_n 0) := by decide +kernel
theorem d136_14 : ins 136 14 = some (.getfield 168) := by decide +kernel
theorem d136_17 : ins 136 17 = some (.if_icmp .ge 17) := by decide +kernel
theorem d136_20 : ins 136 20 = some (.aload_n 0) := by decide +kernel
theorem d136_21 : ins 136 21 = some (.bipush 6) := by decide +kernel
theorem d136_23 : ins 136 23 = some (.iload_n 1) := by decide +kernel
theorem d136_24 : ins 136 24 = some (.imul) := by decide +kernel
theorem d136_25 : ins 136 25 = some (.invokevirtual 177) := by decide +kernel
theorem d136_28 : ins 136 28 = some (.iinc 1 1) := by decide +kernel
theorem d136_31 : ins 136 31 = some (.goto (-19)) := by decide +kernel
theorem d136_34 : ins 136 34 = some (.aload_n 0) := by decide +kernel
theorem d136_35 : ins 136 35 = some (.invokevirtual 66) := by decide +kernel
theorem d136_38 : ins 136 38 = some (.aload_n 0) := by decide +kernel
theorem d136_39 : ins 136 39 = some (.iconst 0) := by decide +kernel
theorem d136_40 : ins 136 40 = some (.putfield 83) := by decide +kernel
theorem d136_43 : ins 136 43 = some (.aload_n 0) := by decide +kernel
theorem d136_44 : ins 136 44 = some (.iconst 0) := by decide +kernel
theorem d136_45 : ins 136 45 = some (.putfield 181) := by decide +kernel
theorem d136_48 : ins 136 48 = some (.aload_n 0) := by decide +kernel
theorem d136_49 : ins 136 49 = some (.iconst 0) := by decide +kernel
theorem d136_50 : ins 136 50 = some (.putfield 184) := by decide +kernel
theorem d136_53 : ins 136 53 = some (.aload_n 0) := by decide +kernel
theorem d136_54 : ins 136 54 = some (.iconst 0) := by decide +kernel
theorem d136_55 : ins 136 55 = some (.putfield 187) := by decide +kernel
theorem d136_58 : ins 136 58 = some (.aload_n 0) := by decide +kernel
theorem d136_59 : ins 136 59 = some (.iconst 0) := by decide +kernel
theorem d136_60 : ins 136 60 = some (.putfield 190) := by decide +kernel
theorem d136_63 : ins 136 63 = some (.aload_n 0) := by decide +kernel
theorem d136_64 : ins 136 64 = some (.iconst 0) := by decide +kernel
theorem d136_65 : ins 136 65 = some (.putfield 193) := by decide +kernel
theorem d136_68 : ins 136 68 = some (.aload_n 0) := by decide +kernel
theorem d136_69 : ins 136 69 = some (.getfield 41) := by decide +kernel
theorem d136_72 : ins 136 72 = some (.iconst 0) := by decide +kernel
theorem d136_73 : ins 136 73 = some (.iconst 0) := by decide +kernel
theorem d136_74 : ins 136 74 = some (.bastore) := by decide +kernel
theorem d136_75 : ins 136 75 = some (.aload_n 0) := by decide +kernel
theorem d136_76 : ins 136 76 = some (.getfield 41) := by decide +kernel
theorem d136_79 : ins 136 79 = some (.iconst 1) := by decide +kernel
theorem d136_80 : ins 136 80 = some (.iconst 0) := by decide +kernel
theorem d136_81 : ins 136 81 = some (.bastore) := by decide +kernel
theorem d136_82 : ins 136 82 = some (.aload_n 0) := by decide +kernel
theorem d136_83 : ins 136 83 = some (.getfield 168) := by decide +kernel
theorem d136_86 : ins 136 86 = some (.ireturn) := by decide +kernel
set_option maxRecDepth 10000 in
theorem b136_0 {Q : Option Value → mm → Prop} (ρ : rm) (τ : Int64)  (hB : BM ρ)  : G 136 0 (some (.ref 51) :: []) [] (toM ρ τ) Q = G 133 0 [some (.ref 51)] [] (toM ρ τ) (fun v μ2 => G 136 4 (some (.ref 51) :: []) (v.toList ++ []) μ2 Q) := by
  refine (g_aload_n d136_0 rfl rfl).trans ?_
  exact g_cV d136_1 k10_174 rfl rfl rfl
set_option maxRecDepth 10000 in
theorem b136_4 {Q : Option Value → mm → Prop} (ρ : rm) (τ : Int64) (t : List (Option Value)) (r : Int) (hB : BM ρ) (h_r : SM r) : G 136 4 (some (.ref 51) :: t) ((some (vI r)).toList ++ []) (toM ρ τ) Q = (if r = 0 then Q (some (vI (-4))) (toM ρ τ) else G 136 12 (some (.ref 51) :: some (vI 0) :: t.tail) [] (toM ρ τ) Q) := by
  refine j_if_ne (tgt := 10) d136_4 (by decide) (by omega) (fun q1 => ?_) (fun q1 => ?_)
  ·
    refine (j_bipush d136_7 (by decide)).trans ?_
    exact g_iret d136_9 rfl rfl
  ·
    refine (j_iconst d136_10).trans ?_
    refine (g_istore_n d136_11 (by decide) rfl rfl).trans ?_
    rfl
set_option maxRecDepth 10000 in
theorem b136_12 {Q : Option Value → mm → Prop} (ρ : rm) (τ : Int64) (l1 : Int) (t : List (Option Value)) (hB : BM ρ) (h_l1 : SM l1) : G 136 12 (some (.ref 51) :: some (vI l1) :: t) [] (toM ρ τ) Q = (if (ρ 51 18) ≤ l1 then G 122 0 [some (.ref 51)] [] (toM ρ τ) (fun v μ2 => G 136 38 (some (.ref 51) :: some (vI l1) :: t) (v.toList ++ []) μ2 Q) else G 135 0 [some (.ref 51), some (vI (6 * l1))] [] (toM ρ τ) (fun v μ2 => G 136 28 (some (.ref 51) :: some (vI l1) :: t) (v.toList ++ []) μ2 Q)) := by
  refine (g_iload_n d136_12 rfl).trans ?_
  refine (g_aload_n d136_13 rfl rfl).trans ?_
  refine (j_getI (v := ρ 51 18) d136_14 f10_168 sh_51 (by decide) rfl rfl).trans ?_
  have q1 := hB 51 18 (by decide)
  refine j_icmp_ge (tgt := 34) d136_17 (by decide) (by omega) (by omega) (fun q2 => ?_) (fun q2 => ?_)
  ·
    refine (g_aload_n d136_34 rfl rfl).trans ?_
    exact g_cV d136_35 k10_66 rfl rfl rfl
  ·
    refine (g_aload_n d136_20 rfl rfl).trans ?_
    refine (j_bipush d136_21 (by decide)).trans ?_
    refine (g_iload_n d136_23 rfl).trans ?_
    refine (j_imul d136_24).trans ?_
    exact g_cV d136_25 k10_177 rfl rfl rfl
set_option maxRecDepth 10000 in
theorem b136_38 {Q : Option Value → mm → Prop} (ρ : rm) (τ : Int64) (l1 : Int) (t : List (Option Value)) (hB : BM ρ) (h_l1 : SM l1) : G 136 38 (some (.ref 51) :: some (vI l1) :: t) ((none : Option Value).toList ++ []) (toM ρ τ) Q = (if 0 ≤ 0 ∧ 0 < 2 then (if 0 ≤ 1 ∧ 1 < 2 then Q (some (vI (ρ 51 18))) (toM (rup (rup (rup (rup (rup (rup (rup (rup ρ 51 10 0) 51 24 0) 51 25 0) 51 28 0) 51 30 0) 51 32 0) 61 0 0) 61 1 0) τ) else False) else False) := by
  refine (g_aload_n d136_38 rfl rfl).trans ?_
  refine (j_iconst d136_39).trans ?_
  refine (j_putI d136_40 f10_83 sh_51 (by decide) rfl).trans ?_
  refine (g_aload_n d136_43 rfl rfl).trans ?_
  refine (j_iconst d136_44).trans ?_
  refine (j_putI d136_45 f10_181 sh_51 (by decide) rfl).trans ?_
  refine (g_aload_n d136_48 rfl rfl).trans ?_
  refine (j_iconst d136_49).trans ?_
  refine (j_putI d136_50 f10_184 sh_51 (by decide) rfl).trans ?_
  refine (g_aload_n d136_53 rfl rfl).trans ?_
  refine (j_iconst d136_54).trans ?_
  refine (j_putI d136_55 f10_187 sh_51 (by decide) rfl).trans ?_
  refine (g_aload_n d136_58 rfl rfl).trans ?_
  refine (j_iconst d136_59).trans ?_
  refine (j_putI d136_60 f10_190 sh_51 (by decide) rfl).trans ?_
  refine (g_aload_n d136_63 rfl rfl).trans ?_
  refine (j_iconst d136_64).trans ?_
  refine (j_putI d136_65 f10_193 sh_51 (by decide) rfl).trans ?_
  refine (g_aload_n d136_68 rfl rfl).trans ?_
  refine (g_getR (q := 61) d136_69 f10_41 sh_51 (by decide) rfl).trans ?_
  refine (j_iconst d136_72).trans ?_
  refine (j_iconst d136_73).trans ?_
  refine j_bastore d136_74 sh_61 (by omega) rfl (fun q1 => ?_)
  refine (g_aload_n d136_75 rfl rfl).trans ?_
  refine (g_getR (q := 61) d136_76 f10_41 sh_51 (by decide) rfl).trans ?_
  refine (j_iconst d136_79).trans ?_
  refine (j_iconst d136_80).trans ?_
  refine j_bastore d136_81 sh_61 (by omega) rfl (fun q2 => ?_)
  refine (g_aload_n d136_82 rfl rfl).trans ?_
  refine (j_getI (v := ρ 51 18) d136_83 f10_168 sh_51 (by decide) rfl (by simp [rup])).trans ?_
  have q3 := hB 51 18 (by decide)
  exact g_iret d136_86 rfl rfl
set_option maxRecDepth 10000 in
theorem b136_28 {Q : Option Value → mm → Prop} (ρ : rm) (τ : Int64) (l1 : Int) (t : List (Option Value)) (hB : BM ρ) (h_l1 : SM l1) : G 136 28 (some (.ref 51) :: some (vI l1) :: t) ((none : Option Value).toList ++ []) (toM ρ τ) Q = G 136 12 (some (.ref 51) :: some (vI (l1 + 1)) :: t) [] (toM ρ τ) Q := by
  refine (j_iinc d136_28 rfl (by decide) rfl rfl).trans ?_
  refine (g_goto (tgt := 12) d136_31 (by decide)).trans ?_
  rfl
theorem d137_0 : ins 137 0 = some (.iconst 0) := by decide +kernel
theorem d137_1 : ins 137 1 = some (.istore_n 2) := by decide +kernel
theorem d137_2 : ins 137 2 = some (.iconst 1) := by decide +kernel
theorem d137_3 : ins 137 3 = some (.istore_n 3) := by decide +kernel
theorem d137_4 : ins 137 4 = some (.iload_n 3) := by decide +kernel
theorem d137_5 : ins 137 5 = some (.iload_n 1) := by decide +kernel
theorem d137_6 : ins 137 6 = some (.if_icmp .gt 18) := by decide +kernel
theorem d137_9 : ins 137 9 = some (.iload_n 2) := by decide +kernel
theorem d137_10 : ins 137 10 = some (.aload_n 0) := by decide +kernel
theorem d137_11 : ins 137 11 = some (.getfield 13) := by decide +kernel
theorem d137_14 : ins 137 14 = some (.iload_n 3) := by decide +kernel
theorem d137_15 : ins 137 15 = some (.iaload) := by decide +kernel
theorem d137_16 : ins 137 16 = some (.iadd) := by decide +kernel
theorem d137_17 : ins 137 17 = some (.istore_n 2) := by decide +kernel
theorem d137_18 : ins 137 18 = some (.iinc 3 1) := by decide +kernel
theorem d137_21 : ins 137 21 = some (.goto (-17)) := by decide +kernel
theorem d137_24 : ins 137 24 = some (.iload_n 2) := by decide +kernel
theorem d137_25 : ins 137 25 = some (.ireturn) := by decide +kernel
set_option maxRecDepth 10000 in
theorem b137_0 {Q : Option Value → mm → Prop} (ρ : rm) (τ : Int64) (a1 : Int) (hB : BM ρ) (h_a1 : SM a1) : G 137 0 (some (.ref 51) :: some (vI a1) :: []) [] (toM ρ τ) Q = G 137 4 (some (.ref 51) :: some (vI a1) :: some (vI 0) :: some (vI 1) :: []) [] (toM ρ τ) Q := by
  refine (j_iconst d137_0).trans ?_
  refine (g_istore_n d137_1 (by decide) rfl rfl).trans ?_
  refine (j_iconst d137_2).trans ?_
  refine (g_istore_n d137_3 (by decide) rfl rfl).trans ?_
  rfl
set_option maxRecDepth 10000 in
theorem b137_4 {Q : Option Value → mm → Prop} (ρ : rm) (τ : Int64) (l1 : Int) (l2 : Int) (l3 : Int) (t : List (Option Value)) (hB : BM ρ) (h_l1 : SM l1) (h_l2 : SM l2) (h_l3 : SM l3) : G 137 4 (some (.ref 51) :: some (vI l1) :: some (vI l2) :: some (vI l3) :: t) [] (toM ρ τ) Q = (if l1 < l3 then Q (some (vI l2)) (toM ρ τ) else (if 0 ≤ l3 ∧ l3 < 10 then G 137 4 (some (.ref 51) :: some (vI l1) :: some (vI (l2 + (ρ 52 l3))) :: some (vI (l3 + 1)) :: t) [] (toM ρ τ) Q else False)) := by
  refine (g_iload_n d137_4 rfl).trans ?_
  refine (g_iload_n d137_5 rfl).trans ?_
  refine j_icmp_gt (tgt := 24) d137_6 (by decide) (by omega) (by omega) (fun q1 => ?_) (fun q1 => ?_)
  ·
    refine (g_iload_n d137_24 rfl).trans ?_
    exact g_iret d137_25 rfl rfl
  ·
    refine (g_iload_n d137_9 rfl).trans ?_
    refine (g_aload_n d137_10 rfl rfl).trans ?_
    refine (g_getR (q := 52) d137_11 f10_13 sh_51 (by decide) rfl).trans ?_
    refine (g_iload_n d137_14 rfl).trans ?_
    refine j_iaload (v := ρ 52 l3) d137_15 sh_52 (by omega) rfl (fun q2 => ?_)
    have q3 := hB 52 l3 (by omega)
    refine (j_iadd d137_16).trans ?_
    refine (g_istore_n d137_17 (by decide) rfl rfl).trans ?_
    refine (j_iinc d137_18 rfl (by decide) rfl rfl).trans ?_
    refine (g_goto (tgt := 4) d137_21 (by decide)).trans ?_
    rfl
