/-! blocks of the small machine (wip/gen/gen_blocks.py) -/
theorem d160_0 : ins 160 0 = some (.aload_n 0) := by decide +kernel
theorem d160_1 : ins 160 1 = some (.iload_n 1) := by decide +kernel
theorem d160_2 : ins 160 2 = some (.invokevirtual 196) := by decide +kernel
theorem d160_5 : ins 160 5 = some (.ifCond .ne 6) := by decide +kernel
theorem d160_8 : ins 160 8 = some (.bipush (-2)) := by decide +kernel
theorem d160_10 : ins 160 10 = some (.ireturn) := by decide +kernel
theorem d160_11 : ins 160 11 = some (.aload_n 0) := by decide +kernel
theorem d160_12 : ins 160 12 = some (.getfield 187) := by decide +kernel
theorem d160_15 : ins 160 15 = some (.bipush 12) := by decide +kernel
theorem d160_17 : ins 160 17 = some (.if_icmp .ne 6) := by decide +kernel
theorem d160_20 : ins 160 20 = some (.bipush (-5)) := by decide +kernel
theorem d160_22 : ins 160 22 = some (.ireturn) := by decide +kernel
theorem d160_23 : ins 160 23 = some (.aload_n 0) := by decide +kernel
theorem d160_24 : ins 160 24 = some (.getfield 45) := by decide +kernel
theorem d160_27 : ins 160 27 = some (.aload_n 0) := by decide +kernel
theorem d160_28 : ins 160 28 = some (.getfield 187) := by decide +kernel
theorem d160_31 : ins 160 31 = some (.iload_n 1) := by decide +kernel
theorem d160_32 : ins 160 32 = some (.iastore) := by decide +kernel
theorem d160_33 : ins 160 33 = some (.aload_n 0) := by decide +kernel
theorem d160_34 : ins 160 34 = some (.dup) := by decide +kernel
theorem d160_35 : ins 160 35 = some (.getfield 187) := by decide +kernel
theorem d160_38 : ins 160 38 = some (.iconst 1) := by decide +kernel
theorem d160_39 : ins 160 39 = some (.iadd) := by decide +kernel
theorem d160_40 : ins 160 40 = some (.putfield 187) := by decide +kernel
theorem d160_43 : ins 160 43 = some (.aload_n 0) := by decide +kernel
theorem d160_44 : ins 160 44 = some (.getfield 187) := by decide +kernel
theorem d160_47 : ins 160 47 = some (.ireturn) := by decide +kernel
set_option maxRecDepth 10000 in
theorem b160_0 {Q : Option Value → mm → Prop} (ρ : rm) (τ : Int64) (a1 : Int) (hB : BM ρ) (h_a1 : SB a1) : G 160 0 (some (.ref 51) :: some (vI a1) :: []) [] (toM ρ τ) Q = G 119 0 [some (.ref 51), some (vI a1)] [] (toM ρ τ) (fun v μ2 => G 160 5 (some (.ref 51) :: some (vI a1) :: []) (v.toList ++ []) μ2 Q) := by
  refine (g_aload_n d160_0 rfl rfl).trans ?_
  refine (g_iload_n d160_1 rfl).trans ?_
  exact g_cV d160_2 k10_196 rfl rfl rfl
set_option maxRecDepth 10000 in
theorem b160_5 {Q : Option Value → mm → Prop} (ρ : rm) (τ : Int64) (l1 : Int) (t : List (Option Value)) (r : Int) (hB : BM ρ) (h_l1 : SB l1) (h_in1 : r = 0 ∨ SM l1) (h_r : SM r) : G 160 5 (some (.ref 51) :: some (vI l1) :: t) ((some (vI r)).toList ++ []) (toM ρ τ) Q = (if r = 0 then Q (some (vI (-2))) (toM ρ τ) else (if (ρ 51 28) = 12 then Q (some (vI (-5))) (toM ρ τ) else (if 0 ≤ (ρ 51 28) ∧ (ρ 51 28) < 12 then Q (some (vI ((ρ 51 28) + 1))) (toM (rup (rup ρ 62 (ρ 51 28) l1) 51 28 ((ρ 51 28) + 1)) τ) else False))) := by
  refine j_if_ne (tgt := 11) d160_5 (by decide) (by omega) (fun q1 => ?_) (fun q1 => ?_)
  ·
    refine (j_bipush d160_8 (by decide)).trans ?_
    exact g_iret d160_10 rfl rfl
  ·
    refine (g_aload_n d160_11 rfl rfl).trans ?_
    refine (j_getI (v := ρ 51 28) d160_12 f10_187 sh_51 (by decide) rfl rfl).trans ?_
    have q2 := hB 51 28 (by decide)
    refine (j_bipush d160_15 (by decide)).trans ?_
    refine j_icmp_ne (tgt := 23) d160_17 (by decide) (by omega) (by omega) (fun q3 => ?_) (fun q3 => ?_)
    ·
      refine (j_bipush d160_20 (by decide)).trans ?_
      exact g_iret d160_22 rfl rfl
    ·
      refine (g_aload_n d160_23 rfl rfl).trans ?_
      refine (g_getR (q := 62) d160_24 f10_45 sh_51 (by decide) rfl).trans ?_
      refine (g_aload_n d160_27 rfl rfl).trans ?_
      refine (j_getI (v := ρ 51 28) d160_28 f10_187 sh_51 (by decide) rfl rfl).trans ?_
      refine (g_iload_n d160_31 rfl).trans ?_
      refine j_iastore d160_32 sh_62 (by omega) (fun q4 => ?_)
      refine (g_aload_n d160_33 rfl rfl).trans ?_
      refine (g_dupR d160_34).trans ?_
      refine (j_getI (v := ρ 51 28) d160_35 f10_187 sh_51 (by decide) rfl (by simp [rup])).trans ?_
      refine (j_iconst d160_38).trans ?_
      refine (j_iadd d160_39).trans ?_
      refine (j_putI d160_40 f10_187 sh_51 (by decide) rfl).trans ?_
      refine (g_aload_n d160_43 rfl rfl).trans ?_
      refine (j_getI (v := (ρ 51 28) + 1) d160_44 f10_187 sh_51 (by decide) rfl (by simp [rup])).trans ?_
      exact g_iret d160_47 rfl rfl
theorem d161_0 : ins 161 0 = some (.aload_n 0) := by decide +kernel
theorem d161_1 : ins 161 1 = some (.getfield 187) := by decide +kernel
theorem d161_4 : ins 161 4 = some (.istore_n 1) := by decide +kernel
theorem d161_5 : ins 161 5 = some (.aload_n 0) := by decide +kernel
theorem d161_6 : ins 161 6 = some (.iconst 0) := by decide +kernel
theorem d161_7 : ins 161 7 = some (.putfield 187) := by decide +kernel
theorem d161_10 : ins 161 10 = some (.iload_n 1) := by decide +kernel
theorem d161_11 : ins 161 11 = some (.ireturn) := by decide +kernel
set_option maxRecDepth 10000 in
theorem b161_0 {Q : Option Value → mm → Prop} (ρ : rm) (τ : Int64)  (hB : BM ρ)  : G 161 0 (some (.ref 51) :: []) [] (toM ρ τ) Q = Q (some (vI (ρ 51 28))) (toM (rup ρ 51 28 0) τ) := by
  refine (g_aload_n d161_0 rfl rfl).trans ?_
  refine (j_getI (v := ρ 51 28) d161_1 f10_187 sh_51 (by decide) rfl rfl).trans ?_
  have q1 := hB 51 28 (by decide)
  refine (g_istore_n d161_4 (by decide) rfl rfl).trans ?_
  refine (g_aload_n d161_5 rfl rfl).trans ?_
  refine (j_iconst d161_6).trans ?_
  refine (j_putI d161_7 f10_187 sh_51 (by decide) rfl).trans ?_
  refine (g_iload_n d161_10 rfl).trans ?_
  exact g_iret d161_11 rfl rfl
theorem d162_0 : ins 162 0 = some (.iload_n 1) := by decide +kernel
theorem d162_1 : ins 162 1 = some (.iconst 0) := by decide +kernel
theorem d162_2 : ins 162 2 = some (.sipush 9999) := by decide +kernel
theorem d162_5 : ins 162 5 = some (.invokestatic 69) := by decide +kernel
theorem d162_8 : ins 162 8 = some (.ifCond .eq 12) := by decide +kernel
theorem d162_11 : ins 162 11 = some (.iload_n 2) := by decide +kernel
theorem d162_12 : ins 162 12 = some (.iconst 0) := by decide +kernel
theorem d162_13 : ins 162 13 = some (.iconst 2) := by decide +kernel
theorem d162_14 : ins 162 14 = some (.invokestatic 69) := by decide +kernel
theorem d162_17 : ins 162 17 = some (.ifCond .ne 6) := by decide +kernel
theorem d162_20 : ins 162 20 = some (.bipush (-3)) := by decide +kernel
theorem d162_22 : ins 162 22 = some (.ireturn) := by decide +kernel
theorem d162_23 : ins 162 23 = some (.aload_n 0) := by decide +kernel
theorem d162_24 : ins 162 24 = some (.getfield 187) := by decide +kernel
theorem d162_27 : ins 162 27 = some (.ifCond .ne 6) := by decide +kernel
theorem d162_30 : ins 162 30 = some (.bipush (-4)) := by decide +kernel
theorem d162_32 : ins 162 32 = some (.ireturn) := by decide +kernel
theorem d162_33 : ins 162 33 = some (.iload_n 1) := by decide +kernel
theorem d162_34 : ins 162 34 = some (.istore_n 3) := by decide +kernel
theorem d162_35 : ins 162 35 = some (.aload_n 0) := by decide +kernel
theorem d162_36 : ins 162 36 = some (.aload_n 0) := by decide +kernel
theorem d162_37 : ins 162 37 = some (.getfield 45) := by decide +kernel
theorem d162_40 : ins 162 40 = some (.iconst 0) := by decide +kernel
theorem d162_41 : ins 162 41 = some (.iaload) := by decide +kernel
theorem d162_42 : ins 162 42 = some (.iload_n 3) := by decide +kernel
theorem d162_43 : ins 162 43 = some (.invokevirtual 209) := by decide +kernel
theorem d162_46 : ins 162 46 = some (.istore 4) := by decide +kernel
theorem d162_48 : ins 162 48 = some (.iconst 0) := by decide +kernel
theorem d162_49 : ins 162 49 = some (.istore 5) := by decide +kernel
theorem d162_51 : ins 162 51 = some (.iconst 0) := by decide +kernel
theorem d162_52 : ins 162 52 = some (.istore 6) := by decide +kernel
theorem d162_54 : ins 162 54 = some (.iconst 1) := by decide +kernel
theorem d162_55 : ins 162 55 = some (.istore 7) := by decide +kernel
theorem d162_57 : ins 162 57 = some (.iload 7) := by decide +kernel
theorem d162_59 : ins 162 59 = some (.aload_n 0) := by decide +kernel
theorem d162_60 : ins 162 60 = some (.getfield 187) := by decide +kernel
theorem d162_63 : ins 162 63 = some (.if_icmp .ge 112) := by decide +kernel
theorem d162_66 : ins 162 66 = some (.iload_n 3) := by decide +kernel
theorem d162_67 : ins 162 67 = some (.aload_n 0) := by decide +kernel
theorem d162_68 : ins 162 68 = some (.getfield 45) := by decide +kernel
theorem d162_71 : ins 162 71 = some (.iload 7) := by decide +kernel
theorem d162_73 : ins 162 73 = some (.iaload) := by decide +kernel
theorem d162_74 : ins 162 74 = some (.aload_n 0) := by decide +kernel
theorem d162_75 : ins 162 75 = some (.getfield 45) := by decide +kernel
theorem d162_78 : ins 162 78 = some (.iload 7) := by decide +kernel
theorem d162_80 : ins 162 80 = some (.iconst 1) := by decide +kernel
theorem d162_81 : ins 162 81 = some (.isub) := by decide +kernel
theorem d162_82 : ins 162 82 = some (.iaload) := by decide +kernel
theorem d162_83 : ins 162 83 = some (.if_icmp .ne 7) := by decide +kernel
theorem d162_86 : ins 162 86 = some (.iconst 1) := by decide +kernel
theorem d162_87 : ins 162 87 = some (.goto 28) := by decide +kernel
theorem d162_90 : ins 162 90 = some (.aload_n 0) := by decide +kernel
theorem d162_91 : ins 162 91 = some (.getfield 29) := by decide +kernel
theorem d162_94 : ins 162 94 = some (.bipush 10) := by decide +kernel
theorem d162_96 : ins 162 96 = some (.aload_n 0) := by decide +kernel
theorem d162_97 : ins 162 97 = some (.getfield 45) := by decide +kernel
theorem d162_100 : ins 162 100 = some (.iload 7) := by decide +kernel
theorem d162_102 : ins 162 102 = some (.iconst 1) := by decide +kernel
theorem d162_103 : ins 162 103 = some (.isub) := by decide +kernel
theorem d162_104 : ins 162 104 = some (.iaload) := by decide +kernel
theorem d162_105 : ins 162 105 = some (.imul) := by decide +kernel
theorem d162_106 : ins 162 106 = some (.aload_n 0) := by decide +kernel
theorem d162_107 : ins 162 107 = some (.getfield 45) := by decide +kernel
theorem d162_110 : ins 162 110 = some (.iload 7) := by decide +kernel
theorem d162_112 : ins 162 112 = some (.iaload) := by decide +kernel
theorem d162_113 : ins 162 113 = some (.iadd) := by decide +kernel
theorem d162_114 : ins 162 114 = some (.iaload) := by decide +kernel
theorem d162_115 : ins 162 115 = some (.iadd) := by decide +kernel
theorem d162_116 : ins 162 116 = some (.istore_n 3) := by decide +kernel
theorem d162_117 : ins 162 117 = some (.aload_n 0) := by decide +kernel
theorem d162_118 : ins 162 118 = some (.aload_n 0) := by decide +kernel
theorem d162_119 : ins 162 119 = some (.getfield 45) := by decide +kernel
theorem d162_122 : ins 162 122 = some (.iload 7) := by decide +kernel
theorem d162_124 : ins 162 124 = some (.iaload) := by decide +kernel
theorem d162_125 : ins 162 125 = some (.iload_n 3) := by decide +kernel
theorem d162_126 : ins 162 126 = some (.invokevirtual 209) := by decide +kernel
theorem d162_129 : ins 162 129 = some (.istore 8) := by decide +kernel
theorem d162_131 : ins 162 131 = some (.iload 5) := by decide +kernel
theorem d162_133 : ins 162 133 = some (.iload 8) := by decide +kernel
theorem d162_135 : ins 162 135 = some (.iload 4) := by decide +kernel
theorem d162_137 : ins 162 137 = some (.if_icmp .le 7) := by decide +kernel
theorem d162_140 : ins 162 140 = some (.iconst 1) := by decide +kernel
theorem d162_141 : ins 162 141 = some (.goto 4) := by decide +kernel
theorem d162_144 : ins 162 144 = some (.iconst 0) := by decide +kernel
theorem d162_145 : ins 162 145 = some (.iadd) := by decide +kernel
theorem d162_146 : ins 162 146 = some (.istore 5) := by decide +kernel
theorem d162_148 : ins 162 148 = some (.iload 6) := by decide +kernel
theorem d162_150 : ins 162 150 = some (.iload 8) := by decide +kernel
theorem d162_152 : ins 162 152 = some (.iload 4) := by decide +kernel
theorem d162_154 : ins 162 154 = some (.if_icmp .ge 7) := by decide +kernel
theorem d162_157 : ins 162 157 = some (.iconst 1) := by decide +kernel
theorem d162_158 : ins 162 158 = some (.goto 4) := by decide +kernel
theorem d162_161 : ins 162 161 = some (.iconst 0) := by decide +kernel
theorem d162_162 : ins 162 162 = some (.iadd) := by decide +kernel
theorem d162_163 : ins 162 163 = some (.istore 6) := by decide +kernel
theorem d162_165 : ins 162 165 = some (.iload 8) := by decide +kernel
theorem d162_167 : ins 162 167 = some (.istore 4) := by decide +kernel
theorem d162_169 : ins 162 169 = some (.iinc 7 1) := by decide +kernel
theorem d162_172 : ins 162 172 = some (.goto (-115)) := by decide +kernel
theorem d162_175 : ins 162 175 = some (.iload_n 2) := by decide +kernel
theorem d162_176 : ins 162 176 = some (.ifCond .ne 7) := by decide +kernel
theorem d162_179 : ins 162 179 = some (.iload_n 3) := by decide +kernel
theorem d162_180 : ins 162 180 = some (.goto 15) := by decide +kernel
theorem d162_183 : ins 162 183 = some (.iload_n 2) := by decide +kernel
theorem d162_184 : ins 162 184 = some (.iconst 1) := by decide +kernel
theorem d162_185 : ins 162 185 = some (.if_icmp .ne 8) := by decide +kernel
theorem d162_188 : ins 162 188 = some (.iload 5) := by decide +kernel
theorem d162_190 : ins 162 190 = some (.goto 5) := by decide +kernel
theorem d162_193 : ins 162 193 = some (.iload 6) := by decide +kernel
theorem d162_195 : ins 162 195 = some (.ireturn) := by decide +kernel
set_option maxRecDepth 10000 in
theorem b162_0 {Q : Option Value → mm → Prop} (ρ : rm) (τ : Int64) (a1 : Int) (a2 : Int) (hB : BM ρ) (h_a1 : SB a1) (h_a2 : SB a2) : G 162 0 (some (.ref 51) :: some (vI a1) :: some (vI a2) :: []) [] (toM ρ τ) Q = G 117 0 [some (vI a1), some (vI 0), some (vI 9999)] [] (toM ρ τ) (fun v μ2 => G 162 8 (some (.ref 51) :: some (vI a1) :: some (vI a2) :: []) (v.toList ++ []) μ2 Q) := by
  refine (g_iload_n d162_0 rfl).trans ?_
  refine (j_iconst d162_1).trans ?_
  refine (j_sipush d162_2 (by decide)).trans ?_
  exact g_cS d162_5 k10_69 rfl rfl rfl
set_option maxRecDepth 10000 in
theorem b162_8 {Q : Option Value → mm → Prop} (ρ : rm) (τ : Int64) (l1 : Int) (l2 : Int) (t : List (Option Value)) (r : Int) (hB : BM ρ) (h_l1 : SB l1) (h_in1 : r = 0 ∨ SM l1) (h_l2 : SB l2) (h_r : SM r) : G 162 8 (some (.ref 51) :: some (vI l1) :: some (vI l2) :: t) ((some (vI r)).toList ++ []) (toM ρ τ) Q = (if r = 0 then Q (some (vI (-3))) (toM ρ τ) else G 117 0 [some (vI l2), some (vI 0), some (vI 2)] [] (toM ρ τ) (fun v μ2 => G 162 17 (some (.ref 51) :: some (vI l1) :: some (vI l2) :: t) (v.toList ++ []) μ2 Q)) := by
  refine j_if_eq (tgt := 20) d162_8 (by decide) (by omega) (fun q1 => ?_) (fun q1 => ?_)
  ·
    refine (j_bipush d162_20 (by decide)).trans ?_
    exact g_iret d162_22 rfl rfl
  ·
    refine (g_iload_n d162_11 rfl).trans ?_
    refine (j_iconst d162_12).trans ?_
    refine (j_iconst d162_13).trans ?_
    exact g_cS d162_14 k10_69 rfl rfl rfl
set_option maxRecDepth 10000 in
theorem b162_17 {Q : Option Value → mm → Prop} (ρ : rm) (τ : Int64) (l1 : Int) (l2 : Int) (t : List (Option Value)) (r : Int) (hB : BM ρ) (h_l1 : SM l1) (h_l2 : SB l2) (h_in2 : r = 0 ∨ SM l2) (h_r : SM r) : G 162 17 (some (.ref 51) :: some (vI l1) :: some (vI l2) :: t) ((some (vI r)).toList ++ []) (toM ρ τ) Q = (if r = 0 then Q (some (vI (-3))) (toM ρ τ) else (if (ρ 51 28) = 0 then Q (some (vI (-4))) (toM ρ τ) else (if 0 ≤ 0 ∧ 0 < 12 then G 140 0 [some (.ref 51), some (vI (ρ 62 0)), some (vI l1)] [] (toM ρ τ) (fun v μ2 => G 162 46 (some (.ref 51) :: some (vI l1) :: some (vI l2) :: some (vI l1) :: t.tail) (v.toList ++ []) μ2 Q) else False))) := by
  refine j_if_ne (tgt := 23) d162_17 (by decide) (by omega) (fun q1 => ?_) (fun q1 => ?_)
  ·
    refine (j_bipush d162_20 (by decide)).trans ?_
    exact g_iret d162_22 rfl rfl
  ·
    refine (g_aload_n d162_23 rfl rfl).trans ?_
    refine (j_getI (v := ρ 51 28) d162_24 f10_187 sh_51 (by decide) rfl rfl).trans ?_
    have q2 := hB 51 28 (by decide)
    refine j_if_ne (tgt := 33) d162_27 (by decide) (by omega) (fun q3 => ?_) (fun q3 => ?_)
    ·
      refine (j_bipush d162_30 (by decide)).trans ?_
      exact g_iret d162_32 rfl rfl
    ·
      refine (g_iload_n d162_33 rfl).trans ?_
      refine (g_istore_n d162_34 (by decide) rfl rfl).trans ?_
      refine (g_aload_n d162_35 rfl rfl).trans ?_
      refine (g_aload_n d162_36 rfl rfl).trans ?_
      refine (g_getR (q := 62) d162_37 f10_45 sh_51 (by decide) rfl).trans ?_
      refine (j_iconst d162_40).trans ?_
      refine j_iaload (v := ρ 62 0) d162_41 sh_62 (by omega) rfl (fun q4 => ?_)
      have q5 := hB 62 0 (by omega)
      refine (g_iload_n d162_42 rfl).trans ?_
      exact g_cV d162_43 k10_209 rfl rfl rfl
set_option maxRecDepth 10000 in
theorem b162_46 {Q : Option Value → mm → Prop} (ρ : rm) (τ : Int64) (l1 : Int) (l2 : Int) (l3 : Int) (t : List (Option Value)) (r : Int) (hB : BM ρ) (h_l1 : SM l1) (h_l2 : SM l2) (h_l3 : SM l3) (h_r : SM r) : G 162 46 (some (.ref 51) :: some (vI l1) :: some (vI l2) :: some (vI l3) :: t) ((some (vI r)).toList ++ []) (toM ρ τ) Q = G 162 57 (some (.ref 51) :: some (vI l1) :: some (vI l2) :: some (vI l3) :: some (vI r) :: some (vI 0) :: some (vI 0) :: some (vI 1) :: t.tail.tail.tail.tail) [] (toM ρ τ) Q := by
  refine (g_istore d162_46 (by decide) rfl rfl).trans ?_
  refine (j_iconst d162_48).trans ?_
  refine (g_istore d162_49 (by decide) rfl rfl).trans ?_
  refine (j_iconst d162_51).trans ?_
  refine (g_istore d162_52 (by decide) rfl rfl).trans ?_
  refine (j_iconst d162_54).trans ?_
  refine (g_istore d162_55 (by decide) rfl rfl).trans ?_
  rfl
set_option maxRecDepth 10000 in
theorem b162_57 {Q : Option Value → mm → Prop} (ρ : rm) (τ : Int64) (l1 : Int) (l2 : Int) (l3 : Int) (l4 : Int) (l5 : Int) (l6 : Int) (l7 : Int) (t : List (Option Value)) (hB : BM ρ) (h_l1 : SM l1) (h_l2 : SM l2) (h_l3 : SM l3) (h_l4 : SM l4) (h_l5 : SM l5) (h_l6 : SM l6) (h_l7 : SM l7) : G 162 57 (some (.ref 51) :: some (vI l1) :: some (vI l2) :: some (vI l3) :: some (vI l4) :: some (vI l5) :: some (vI l6) :: some (vI l7) :: t) [] (toM ρ τ) Q = (if (ρ 51 28) ≤ l7 then (if l2 = 0 then Q (some (vI l3)) (toM ρ τ) else (if l2 = 1 then Q (some (vI l5)) (toM ρ τ) else Q (some (vI l6)) (toM ρ τ))) else (if 0 ≤ l7 ∧ l7 < 12 then (if 0 ≤ (l7 - 1) ∧ (l7 - 1) < 12 then (if (ρ 62 l7) = (ρ 62 (l7 - 1)) then (if 0 ≤ l7 ∧ l7 < 12 then G 140 0 [some (.ref 51), some (vI (ρ 62 l7)), some (vI (l3 + 1))] [] (toM ρ τ) (fun v μ2 => G 162 129 (some (.ref 51) :: some (vI l1) :: some (vI l2) :: some (vI (l3 + 1)) :: some (vI l4) :: some (vI l5) :: some (vI l6) :: some (vI l7) :: t) (v.toList ++ []) μ2 Q) else False) else (if 0 ≤ (l7 - 1) ∧ (l7 - 1) < 12 then (if 0 ≤ l7 ∧ l7 < 12 then (if 0 ≤ ((10 * (ρ 62 (l7 - 1))) + (ρ 62 l7)) ∧ ((10 * (ρ 62 (l7 - 1))) + (ρ 62 l7)) < 100 then (if 0 ≤ l7 ∧ l7 < 12 then G 140 0 [some (.ref 51), some (vI (ρ 62 l7)), some (vI (l3 + (ρ 57 ((10 * (ρ 62 (l7 - 1))) + (ρ 62 l7)))))] [] (toM ρ τ) (fun v μ2 => G 162 129 (some (.ref 51) :: some (vI l1) :: some (vI l2) :: some (vI (l3 + (ρ 57 ((10 * (ρ 62 (l7 - 1))) + (ρ 62 l7))))) :: some (vI l4) :: some (vI l5) :: some (vI l6) :: some (vI l7) :: t) (v.toList ++ []) μ2 Q) else False) else False) else False) else False)) else False) else False)) := by
  refine (g_iload d162_57 rfl).trans ?_
  refine (g_aload_n d162_59 rfl rfl).trans ?_
  refine (j_getI (v := ρ 51 28) d162_60 f10_187 sh_51 (by decide) rfl rfl).trans ?_
  have q1 := hB 51 28 (by decide)
  refine j_icmp_ge (tgt := 175) d162_63 (by decide) (by omega) (by omega) (fun q2 => ?_) (fun q2 => ?_)
  ·
    refine (g_iload_n d162_175 rfl).trans ?_
    refine j_if_ne (tgt := 183) d162_176 (by decide) (by omega) (fun q3 => ?_) (fun q3 => ?_)
    ·
      refine (g_iload_n d162_179 rfl).trans ?_
      refine (g_goto (tgt := 195) d162_180 (by decide)).trans ?_
      exact g_iret d162_195 rfl rfl
    ·
      refine (g_iload_n d162_183 rfl).trans ?_
      refine (j_iconst d162_184).trans ?_
      refine j_icmp_ne (tgt := 193) d162_185 (by decide) (by omega) (by omega) (fun q4 => ?_) (fun q4 => ?_)
      ·
        refine (g_iload d162_188 rfl).trans ?_
        refine (g_goto (tgt := 195) d162_190 (by decide)).trans ?_
        exact g_iret d162_195 rfl rfl
      ·
        refine (g_iload d162_193 rfl).trans ?_
        exact g_iret d162_195 rfl rfl
  ·
    refine (g_iload_n d162_66 rfl).trans ?_
    refine (g_aload_n d162_67 rfl rfl).trans ?_
    refine (g_getR (q := 62) d162_68 f10_45 sh_51 (by decide) rfl).trans ?_
    refine (g_iload d162_71 rfl).trans ?_
    refine j_iaload (v := ρ 62 l7) d162_73 sh_62 (by omega) rfl (fun q5 => ?_)
    have q6 := hB 62 l7 (by omega)
    refine (g_aload_n d162_74 rfl rfl).trans ?_
    refine (g_getR (q := 62) d162_75 f10_45 sh_51 (by decide) rfl).trans ?_
    refine (g_iload d162_78 rfl).trans ?_
    refine (j_iconst d162_80).trans ?_
    refine (j_isub d162_81).trans ?_
    refine j_iaload (v := ρ 62 (l7 - 1)) d162_82 sh_62 (by omega) rfl (fun q7 => ?_)
    have q8 := hB 62 (l7 - 1) (by omega)
    refine j_icmp_ne (tgt := 90) d162_83 (by decide) (by omega) (by omega) (fun q9 => ?_) (fun q9 => ?_)
    ·
      refine (j_iconst d162_86).trans ?_
      refine (g_goto (tgt := 115) d162_87 (by decide)).trans ?_
      refine (j_iadd d162_115).trans ?_
      refine (g_istore_n d162_116 (by decide) rfl rfl).trans ?_
      refine (g_aload_n d162_117 rfl rfl).trans ?_
      refine (g_aload_n d162_118 rfl rfl).trans ?_
      refine (g_getR (q := 62) d162_119 f10_45 sh_51 (by decide) rfl).trans ?_
      refine (g_iload d162_122 rfl).trans ?_
      refine j_iaload (v := ρ 62 l7) d162_124 sh_62 (by omega) rfl (fun q10 => ?_)
      refine (g_iload_n d162_125 rfl).trans ?_
      exact g_cV d162_126 k10_209 rfl rfl rfl
    ·
      refine (g_aload_n d162_90 rfl rfl).trans ?_
      refine (g_getR (q := 57) d162_91 f10_29 sh_51 (by decide) rfl).trans ?_
      refine (j_bipush d162_94 (by decide)).trans ?_
      refine (g_aload_n d162_96 rfl rfl).trans ?_
      refine (g_getR (q := 62) d162_97 f10_45 sh_51 (by decide) rfl).trans ?_
      refine (g_iload d162_100 rfl).trans ?_
      refine (j_iconst d162_102).trans ?_
      refine (j_isub d162_103).trans ?_
      refine j_iaload (v := ρ 62 (l7 - 1)) d162_104 sh_62 (by omega) rfl (fun q11 => ?_)
      refine (j_imul d162_105).trans ?_
      refine (g_aload_n d162_106 rfl rfl).trans ?_
      refine (g_getR (q := 62) d162_107 f10_45 sh_51 (by decide) rfl).trans ?_
      refine (g_iload d162_110 rfl).trans ?_
      refine j_iaload (v := ρ 62 l7) d162_112 sh_62 (by omega) rfl (fun q12 => ?_)
      refine (j_iadd d162_113).trans ?_
      refine j_iaload (v := ρ 57 ((10 * (ρ 62 (l7 - 1))) + (ρ 62 l7))) d162_114 sh_57 (by omega) rfl (fun q13 => ?_)
      have q14 := hB 57 ((10 * (ρ 62 (l7 - 1))) + (ρ 62 l7)) (by omega)
      refine (j_iadd d162_115).trans ?_
      refine (g_istore_n d162_116 (by decide) rfl rfl).trans ?_
      refine (g_aload_n d162_117 rfl rfl).trans ?_
      refine (g_aload_n d162_118 rfl rfl).trans ?_
      refine (g_getR (q := 62) d162_119 f10_45 sh_51 (by decide) rfl).trans ?_
      refine (g_iload d162_122 rfl).trans ?_
      refine j_iaload (v := ρ 62 l7) d162_124 sh_62 (by omega) rfl (fun q15 => ?_)
      refine (g_iload_n d162_125 rfl).trans ?_
      exact g_cV d162_126 k10_209 rfl rfl rfl
set_option maxRecDepth 10000 in
theorem b162_129 {Q : Option Value → mm → Prop} (ρ : rm) (τ : Int64) (l1 : Int) (l2 : Int) (l3 : Int) (l4 : Int) (l5 : Int) (l6 : Int) (l7 : Int) (t : List (Option Value)) (r : Int) (hB : BM ρ) (h_l1 : SM l1) (h_l2 : SM l2) (h_l3 : SM l3) (h_l4 : SM l4) (h_l5 : SM l5) (h_l6 : SM l6) (h_l7 : SM l7) (h_r : SM r) : G 162 129 (some (.ref 51) :: some (vI l1) :: some (vI l2) :: some (vI l3) :: some (vI l4) :: some (vI l5) :: some (vI l6) :: some (vI l7) :: t) ((some (vI r)).toList ++ []) (toM ρ τ) Q = (if r ≤ l4 then (if l4 ≤ r then G 162 57 (some (.ref 51) :: some (vI l1) :: some (vI l2) :: some (vI l3) :: some (vI r) :: some (vI (l5 + 0)) :: some (vI (l6 + 0)) :: some (vI (l7 + 1)) :: some (vI r) :: t.tail) [] (toM ρ τ) Q else G 162 57 (some (.ref 51) :: some (vI l1) :: some (vI l2) :: some (vI l3) :: some (vI r) :: some (vI (l5 + 0)) :: some (vI (l6 + 1)) :: some (vI (l7 + 1)) :: some (vI r) :: t.tail) [] (toM ρ τ) Q) else (if l4 ≤ r then G 162 57 (some (.ref 51) :: some (vI l1) :: some (vI l2) :: some (vI l3) :: some (vI r) :: some (vI (l5 + 1)) :: some (vI (l6 + 0)) :: some (vI (l7 + 1)) :: some (vI r) :: t.tail) [] (toM ρ τ) Q else G 162 57 (some (.ref 51) :: some (vI l1) :: some (vI l2) :: some (vI l3) :: some (vI r) :: some (vI (l5 + 1)) :: some (vI (l6 + 1)) :: some (vI (l7 + 1)) :: some (vI r) :: t.tail) [] (toM ρ τ) Q)) := by
  refine (g_istore d162_129 (by decide) rfl rfl).trans ?_
  refine (g_iload d162_131 rfl).trans ?_
  refine (g_iload d162_133 rfl).trans ?_
  refine (g_iload d162_135 rfl).trans ?_
  refine j_icmp_le (tgt := 144) d162_137 (by decide) (by omega) (by omega) (fun q1 => ?_) (fun q1 => ?_)
  ·
    refine (j_iconst d162_144).trans ?_
    refine (j_iadd d162_145).trans ?_
    refine (g_istore d162_146 (by decide) rfl rfl).trans ?_
    refine (g_iload d162_148 rfl).trans ?_
    refine (g_iload d162_150 rfl).trans ?_
    refine (g_iload d162_152 rfl).trans ?_
    refine j_icmp_ge (tgt := 161) d162_154 (by decide) (by omega) (by omega) (fun q2 => ?_) (fun q2 => ?_)
    ·
      refine (j_iconst d162_161).trans ?_
      refine (j_iadd d162_162).trans ?_
      refine (g_istore d162_163 (by decide) rfl rfl).trans ?_
      refine (g_iload d162_165 rfl).trans ?_
      refine (g_istore d162_167 (by decide) rfl rfl).trans ?_
      refine (j_iinc d162_169 rfl (by decide) rfl rfl).trans ?_
      refine (g_goto (tgt := 57) d162_172 (by decide)).trans ?_
      rfl
    ·
      refine (j_iconst d162_157).trans ?_
      refine (g_goto (tgt := 162) d162_158 (by decide)).trans ?_
      refine (j_iadd d162_162).trans ?_
      refine (g_istore d162_163 (by decide) rfl rfl).trans ?_
      refine (g_iload d162_165 rfl).trans ?_
      refine (g_istore d162_167 (by decide) rfl rfl).trans ?_
      refine (j_iinc d162_169 rfl (by decide) rfl rfl).trans ?_
      refine (g_goto (tgt := 57) d162_172 (by decide)).trans ?_
      rfl
  ·
    refine (j_iconst d162_140).trans ?_
    refine (g_goto (tgt := 145) d162_141 (by decide)).trans ?_
    refine (j_iadd d162_145).trans ?_
    refine (g_istore d162_146 (by decide) rfl rfl).trans ?_
    refine (g_iload d162_148 rfl).trans ?_
    refine (g_iload d162_150 rfl).trans ?_
    refine (g_iload d162_152 rfl).trans ?_
    refine j_icmp_ge (tgt := 161) d162_154 (by decide) (by omega) (by omega) (fun q3 => ?_) (fun q3 => ?_)
    ·
      refine (j_iconst d162_161).trans ?_
      refine (j_iadd d162_162).trans ?_
      refine (g_istore d162_163 (by decide) rfl rfl).trans ?_
      refine (g_iload d162_165 rfl).trans ?_
      refine (g_istore d162_167 (by decide) rfl rfl).trans ?_
      refine (j_iinc d162_169 rfl (by decide) rfl rfl).trans ?_
      refine (g_goto (tgt := 57) d162_172 (by decide)).trans ?_
      rfl
    ·
      refine (j_iconst d162_157).trans ?_
      refine (g_goto (tgt := 162) d162_158 (by decide)).trans ?_
      refine (j_iadd d162_162).trans ?_
      refine (g_istore d162_163 (by decide) rfl rfl).trans ?_
      refine (g_iload d162_165 rfl).trans ?_
      refine (g_istore d162_167 (by decide) rfl rfl).trans ?_
      refine (j_iinc d162_169 rfl (by decide) rfl rfl).trans ?_
      refine (g_goto (tgt := 57) d162_172 (by decide)).trans ?_
      rfl
theorem d163_0 : ins 163 0 = some (.aload_n 0) := by decide +kernel
theorem d163_1 : ins 163 1 = some (.aload_n 0) := by decide +kernel
theorem d163_2 : ins 163 2 = some (.getfield 26) := by decide +kernel
theorem d163_5 : ins 163 5 = some (.iconst 5) := by decide +kernel
theorem d163_6 : ins 163 6 = some (.iload_n 1) := by decide +kernel
theorem d163_7 : ins 163 7 = some (.imul) := by decide +kernel
theorem d163_8 : ins 163 8 = some (.iaload) := by decide +kernel
theorem d163_9 : ins 163 9 = some (.iload_n 2) := by decide +kernel
theorem d163_10 : ins 163 10 = some (.invokevirtual 205) := by decide +kernel
theorem d163_13 : ins 163 13 = some (.istore_n 3) := by decide +kernel
theorem d163_14 : ins 163 14 = some (.iload_n 3) := by decide +kernel
theorem d163_15 : ins 163 15 = some (.aload_n 0) := by decide +kernel
theorem d163_16 : ins 163 16 = some (.getfield 26) := by decide +kernel
theorem d163_19 : ins 163 19 = some (.iconst 5) := by decide +kernel
theorem d163_20 : ins 163 20 = some (.iload_n 1) := by decide +kernel
theorem d163_21 : ins 163 21 = some (.imul) := by decide +kernel
theorem d163_22 : ins 163 22 = some (.iconst 1) := by decide +kernel
theorem d163_23 : ins 163 23 = some (.iadd) := by decide +kernel
theorem d163_24 : ins 163 24 = some (.iaload) := by decide +kernel
theorem d163_25 : ins 163 25 = some (.if_icmp .lt 19) := by decide +kernel
theorem d163_28 : ins 163 28 = some (.iload_n 3) := by decide +kernel
theorem d163_29 : ins 163 29 = some (.aload_n 0) := by decide +kernel
theorem d163_30 : ins 163 30 = some (.getfield 26) := by decide +kernel
theorem d163_33 : ins 163 33 = some (.iconst 5) := by decide +kernel
theorem d163_34 : ins 163 34 = some (.iload_n 1) := by decide +kernel
theorem d163_35 : ins 163 35 = some (.imul) := by decide +kernel
theorem d163_36 : ins 163 36 = some (.iconst 2) := by decide +kernel
theorem d163_37 : ins 163 37 = some (.iadd) := by decide +kernel
theorem d163_38 : ins 163 38 = some (.iaload) := by decide +kernel
theorem d163_39 : ins 163 39 = some (.if_icmp .ge 5) := by decide +kernel
theorem d163_42 : ins 163 42 = some (.iload_n 2) := by decide +kernel
theorem d163_43 : ins 163 43 = some (.ireturn) := by decide +kernel
theorem d163_44 : ins 163 44 = some (.iload_n 2) := by decide +kernel
theorem d163_45 : ins 163 45 = some (.aload_n 0) := by decide +kernel
theorem d163_46 : ins 163 46 = some (.getfield 26) := by decide +kernel
theorem d163_49 : ins 163 49 = some (.iconst 5) := by decide +kernel
theorem d163_50 : ins 163 50 = some (.iload_n 1) := by decide +kernel
theorem d163_51 : ins 163 51 = some (.imul) := by decide +kernel
theorem d163_52 : ins 163 52 = some (.iconst 1) := by decide +kernel
theorem d163_53 : ins 163 53 = some (.iadd) := by decide +kernel
theorem d163_54 : ins 163 54 = some (.iaload) := by decide +kernel
theorem d163_55 : ins 163 55 = some (.iload_n 3) := by decide +kernel
theorem d163_56 : ins 163 56 = some (.isub) := by decide +kernel
theorem d163_57 : ins 163 57 = some (.sipush 1440) := by decide +kernel
theorem d163_60 : ins 163 60 = some (.iadd) := by decide +kernel
theorem d163_61 : ins 163 61 = some (.sipush 1440) := by decide +kernel
theorem d163_64 : ins 163 64 = some (.irem) := by decide +kernel
theorem d163_65 : ins 163 65 = some (.iadd) := by decide +kernel
theorem d163_66 : ins 163 66 = some (.ireturn) := by decide +kernel
set_option maxRecDepth 10000 in
theorem b163_0 {Q : Option Value → mm → Prop} (ρ : rm) (τ : Int64) (a1 : Int) (a2 : Int) (hB : BM ρ) (h_a1 : SM a1) (h_a2 : SM a2) : G 163 0 (some (.ref 51) :: some (vI a1) :: some (vI a2) :: []) [] (toM ρ τ) Q = (if 0 ≤ (5 * a1) ∧ (5 * a1) < 30 then G 141 0 [some (.ref 51), some (vI (ρ 56 (5 * a1))), some (vI a2)] [] (toM ρ τ) (fun v μ2 => G 163 13 (some (.ref 51) :: some (vI a1) :: some (vI a2) :: []) (v.toList ++ []) μ2 Q) else False) := by
  refine (g_aload_n d163_0 rfl rfl).trans ?_
  refine (g_aload_n d163_1 rfl rfl).trans ?_
  refine (g_getR (q := 56) d163_2 f10_26 sh_51 (by decide) rfl).trans ?_
  refine (j_iconst d163_5).trans ?_
  refine (g_iload_n d163_6 rfl).trans ?_
  refine (j_imul d163_7).trans ?_
  refine j_iaload (v := ρ 56 (5 * a1)) d163_8 sh_56 (by omega) rfl (fun q1 => ?_)
  have q2 := hB 56 (5 * a1) (by omega)
  refine (g_iload_n d163_9 rfl).trans ?_
  exact g_cV d163_10 k10_205 rfl rfl rfl
set_option maxRecDepth 10000 in
theorem b163_13 {Q : Option Value → mm → Prop} (ρ : rm) (τ : Int64) (l1 : Int) (l2 : Int) (t : List (Option Value)) (r : Int) (hB : BM ρ) (h_l1 : SM l1) (h_l2 : SM l2) (h_r : SM r) : G 163 13 (some (.ref 51) :: some (vI l1) :: some (vI l2) :: t) ((some (vI r)).toList ++ []) (toM ρ τ) Q = (if 0 ≤ ((5 * l1) + 1) ∧ ((5 * l1) + 1) < 30 then (if r < (ρ 56 ((5 * l1) + 1)) then (if 0 ≤ ((5 * l1) + 1) ∧ ((5 * l1) + 1) < 30 then Q (some (vI (l2 + (Int.tmod (((ρ 56 ((5 * l1) + 1)) - r) + 1440) 1440)))) (toM ρ τ) else False) else (if 0 ≤ ((5 * l1) + 2) ∧ ((5 * l1) + 2) < 30 then (if (ρ 56 ((5 * l1) + 2)) ≤ r then (if 0 ≤ ((5 * l1) + 1) ∧ ((5 * l1) + 1) < 30 then Q (some (vI (l2 + (Int.tmod (((ρ 56 ((5 * l1) + 1)) - r) + 1440) 1440)))) (toM ρ τ) else False) else Q (some (vI l2)) (toM ρ τ)) else False)) else False) := by
  refine (g_istore_n d163_13 (by decide) rfl rfl).trans ?_
  refine (g_iload_n d163_14 rfl).trans ?_
  refine (g_aload_n d163_15 rfl rfl).trans ?_
  refine (g_getR (q := 56) d163_16 f10_26 sh_51 (by decide) rfl).trans ?_
  refine (j_iconst d163_19).trans ?_
  refine (g_iload_n d163_20 rfl).trans ?_
  refine (j_imul d163_21).trans ?_
  refine (j_iconst d163_22).trans ?_
  refine (j_iadd d163_23).trans ?_
  refine j_iaload (v := ρ 56 ((5 * l1) + 1)) d163_24 sh_56 (by omega) rfl (fun q1 => ?_)
  have q2 := hB 56 ((5 * l1) + 1) (by omega)
  refine j_icmp_lt (tgt := 44) d163_25 (by decide) (by omega) (by omega) (fun q3 => ?_) (fun q3 => ?_)
  ·
    refine (g_iload_n d163_44 rfl).trans ?_
    refine (g_aload_n d163_45 rfl rfl).trans ?_
    refine (g_getR (q := 56) d163_46 f10_26 sh_51 (by decide) rfl).trans ?_
    refine (j_iconst d163_49).trans ?_
    refine (g_iload_n d163_50 rfl).trans ?_
    refine (j_imul d163_51).trans ?_
    refine (j_iconst d163_52).trans ?_
    refine (j_iadd d163_53).trans ?_
    refine j_iaload (v := ρ 56 ((5 * l1) + 1)) d163_54 sh_56 (by omega) rfl (fun q4 => ?_)
    refine (g_iload_n d163_55 rfl).trans ?_
    refine (j_isub d163_56).trans ?_
    refine (j_sipush d163_57 (by decide)).trans ?_
    refine (j_iadd d163_60).trans ?_
    refine (j_sipush d163_61 (by decide)).trans ?_
    refine (j_irem d163_64 (by omega) (by omega) (by omega)).trans ?_
    have q5 := tmod_bd (((ρ 56 ((5 * l1) + 1)) - r) + 1440) (b := 1440) (by omega)
    refine (j_iadd d163_65).trans ?_
    exact g_iret d163_66 rfl rfl
  ·
    refine (g_iload_n d163_28 rfl).trans ?_
    refine (g_aload_n d163_29 rfl rfl).trans ?_
    refine (g_getR (q := 56) d163_30 f10_26 sh_51 (by decide) rfl).trans ?_
    refine (j_iconst d163_33).trans ?_
    refine (g_iload_n d163_34 rfl).trans ?_
    refine (j_imul d163_35).trans ?_
    refine (j_iconst d163_36).trans ?_
    refine (j_iadd d163_37).trans ?_
    refine j_iaload (v := ρ 56 ((5 * l1) + 2)) d163_38 sh_56 (by omega) rfl (fun q6 => ?_)
    have q7 := hB 56 ((5 * l1) + 2) (by omega)
    refine j_icmp_ge (tgt := 44) d163_39 (by decide) (by omega) (by omega) (fun q8 => ?_) (fun q8 => ?_)
    ·
      refine (g_iload_n d163_44 rfl).trans ?_
      refine (g_aload_n d163_45 rfl rfl).trans ?_
      refine (g_getR (q := 56) d163_46 f10_26 sh_51 (by decide) rfl).trans ?_
      refine (j_iconst d163_49).trans ?_
      refine (g_iload_n d163_50 rfl).trans ?_
      refine (j_imul d163_51).trans ?_
      refine (j_iconst d163_52).trans ?_
      refine (j_iadd d163_53).trans ?_
      refine j_iaload (v := ρ 56 ((5 * l1) + 1)) d163_54 sh_56 (by omega) rfl (fun q9 => ?_)
      refine (g_iload_n d163_55 rfl).trans ?_
      refine (j_isub d163_56).trans ?_
      refine (j_sipush d163_57 (by decide)).trans ?_
      refine (j_iadd d163_60).trans ?_
      refine (j_sipush d163_61 (by decide)).trans ?_
      refine (j_irem d163_64 (by omega) (by omega) (by omega)).trans ?_
      have q10 := tmod_bd (((ρ 56 ((5 * l1) + 1)) - r) + 1440) (b := 1440) (by omega)
      refine (j_iadd d163_65).trans ?_
      exact g_iret d163_66 rfl rfl
    ·
      refine (g_iload_n d163_42 rfl).trans ?_
      exact g_iret d163_43 rfl rfl
theorem d164_0 : ins 164 0 = some (.aload_n 0) := by decide +kernel
theorem d164_1 : ins 164 1 = some (.iload_n 1) := by decide +kernel
theorem d164_2 : ins 164 2 = some (.invokevirtual 196) := by decide +kernel
theorem d164_5 : ins 164 5 = some (.ifCond .ne 6) := by decide +kernel
theorem d164_8 : ins 164 8 = some (.bipush (-2)) := by decide +kernel
theorem d164_10 : ins 164 10 = some (.ireturn) := by decide +kernel
theorem d164_11 : ins 164 11 = some (.iload_n 2) := by decide +kernel
theorem d164_12 : ins 164 12 = some (.iconst 0) := by decide +kernel
theorem d164_13 : ins 164 13 = some (.sipush 9999) := by decide +kernel
theorem d164_16 : ins 164 16 = some (.invokestatic 69) := by decide +kernel
theorem d164_19 : ins 164 19 = some (.ifCond .eq 12) := by decide +kernel
theorem d164_22 : ins 164 22 = some (.iload_n 3) := by decide +kernel
theorem d164_23 : ins 164 23 = some (.iconst 0) := by decide +kernel
theorem d164_24 : ins 164 24 = some (.iconst 3) := by decide +kernel
theorem d164_25 : ins 164 25 = some (.invokestatic 69) := by decide +kernel
theorem d164_28 : ins 164 28 = some (.ifCond .ne 6) := by decide +kernel
theorem d164_31 : ins 164 31 = some (.bipush (-3)) := by decide +kernel
theorem d164_33 : ins 164 33 = some (.ireturn) := by decide +kernel
theorem d164_34 : ins 164 34 = some (.iconst 0) := by decide +kernel
theorem d164_35 : ins 164 35 = some (.istore 4) := by decide +kernel
theorem d164_37 : ins 164 37 = some (.iconst (-1)) := by decide +kernel
theorem d164_38 : ins 164 38 = some (.istore 5) := by decide +kernel
theorem d164_40 : ins 164 40 = some (.iconst (-1)) := by decide +kernel
theorem d164_41 : ins 164 41 = some (.istore 6) := by decide +kernel
theorem d164_43 : ins 164 43 = some (.iconst (-1)) := by decide +kernel
theorem d164_44 : ins 164 44 = some (.istore 7) := by decide +kernel
theorem d164_46 : ins 164 46 = some (.iconst 0) := by decide +kernel
theorem d164_47 : ins 164 47 = some (.istore 8) := by decide +kernel
theorem d164_49 : ins 164 49 = some (.iload 8) := by decide +kernel
theorem d164_51 : ins 164 51 = some (.aload_n 0) := by decide +kernel
theorem d164_52 : ins 164 52 = some (.getfield 79) := by decide +kernel
theorem d164_55 : ins 164 55 = some (.if_icmp .ge 152) := by decide +kernel
theorem d164_58 : ins 164 58 = some (.aload_n 0) := by decide +kernel
theorem d164_59 : ins 164 59 = some (.iload 8) := by decide +kernel
theorem d164_61 : ins 164 61 = some (.iload_n 2) := by decide +kernel
theorem d164_62 : ins 164 62 = some (.aload_n 0) := by decide +kernel
theorem d164_63 : ins 164 63 = some (.getfield 29) := by decide +kernel
theorem d164_66 : ins 164 66 = some (.bipush 10) := by decide +kernel
theorem d164_68 : ins 164 68 = some (.iload_n 1) := by decide +kernel
theorem d164_69 : ins 164 69 = some (.imul) := by decide +kernel
theorem d164_70 : ins 164 70 = some (.aload_n 0) := by decide +kernel
theorem d164_71 : ins 164 71 = some (.getfield 26) := by decide +kernel
theorem d164_74 : ins 164 74 = some (.iconst 5) := by decide +kernel
theorem d164_75 : ins 164 75 = some (.iload 8) := by decide +kernel
theorem d164_77 : ins 164 77 = some (.imul) := by decide +kernel
theorem d164_78 : ins 164 78 = some (.iaload) := by decide +kernel
theorem d164_79 : ins 164 79 = some (.iadd) := by decide +kernel
theorem d164_80 : ins 164 80 = some (.iaload) := by decide +kernel
theorem d164_81 : ins 164 81 = some (.iadd) := by decide +kernel
theorem d164_82 : ins 164 82 = some (.invokevirtual 234) := by decide +kernel
theorem d164_85 : ins 164 85 = some (.istore 9) := by decide +kernel
theorem d164_87 : ins 164 87 = some (.iconst 0) := by decide +kernel
theorem d164_88 : ins 164 88 = some (.istore 10) := by decide +kernel
theorem d164_90 : ins 164 90 = some (.iload 10) := by decide +kernel
theorem d164_92 : ins 164 92 = some (.aload_n 0) := by decide +kernel
theorem d164_93 : ins 164 93 = some (.getfield 79) := by decide +kernel
theorem d164_96 : ins 164 96 = some (.if_icmp .ge 105) := by decide +kernel
theorem d164_99 : ins 164 99 = some (.aload_n 0) := by decide +kernel
theorem d164_100 : ins 164 100 = some (.iload 10) := by decide +kernel
theorem d164_102 : ins 164 102 = some (.iload 9) := by decide +kernel
theorem d164_104 : ins 164 104 = some (.aload_n 0) := by decide +kernel
theorem d164_105 : ins 164 105 = some (.getfield 29) := by decide +kernel
theorem d164_108 : ins 164 108 = some (.bipush 10) := by decide +kernel
theorem d164_110 : ins 164 110 = some (.aload_n 0) := by decide +kernel
theorem d164_111 : ins 164 111 = some (.getfield 26) := by decide +kernel
theorem d164_114 : ins 164 114 = some (.iconst 5) := by decide +kernel
theorem d164_115 : ins 164 115 = some (.iload 8) := by decide +kernel
theorem d164_117 : ins 164 117 = some (.imul) := by decide +kernel
theorem d164_118 : ins 164 118 = some (.iaload) := by decide +kernel
theorem d164_119 : ins 164 119 = some (.imul) := by decide +kernel
theorem d164_120 : ins 164 120 = some (.aload_n 0) := by decide +kernel
theorem d164_121 : ins 164 121 = some (.getfield 26) := by decide +kernel
theorem d164_124 : ins 164 124 = some (.iconst 5) := by decide +kernel
theorem d164_125 : ins 164 125 = some (.iload 10) := by decide +kernel
theorem d164_127 : ins 164 127 = some (.imul) := by decide +kernel
theorem d164_128 : ins 164 128 = some (.iaload) := by decide +kernel
theorem d164_129 : ins 164 129 = some (.iadd) := by decide +kernel
theorem d164_130 : ins 164 130 = some (.iaload) := by decide +kernel
theorem d164_131 : ins 164 131 = some (.iadd) := by decide +kernel
theorem d164_132 : ins 164 132 = some (.invokevirtual 234) := by decide +kernel
theorem d164_135 : ins 164 135 = some (.istore 11) := by decide +kernel
theorem d164_137 : ins 164 137 = some (.aload_n 0) := by decide +kernel
theorem d164_138 : ins 164 138 = some (.getfield 26) := by decide +kernel
theorem d164_141 : ins 164 141 = some (.iconst 5) := by decide +kernel
theorem d164_142 : ins 164 142 = some (.iload 10) := by decide +kernel
theorem d164_144 : ins 164 144 = some (.imul) := by decide +kernel
theorem d164_145 : ins 164 145 = some (.iconst 4) := by decide +kernel
theorem d164_146 : ins 164 146 = some (.iadd) := by decide +kernel
theorem d164_147 : ins 164 147 = some (.iaload) := by decide +kernel
theorem d164_148 : ins 164 148 = some (.aload_n 0) := by decide +kernel
theorem d164_149 : ins 164 149 = some (.getfield 26) := by decide +kernel
theorem d164_152 : ins 164 152 = some (.iconst 5) := by decide +kernel
theorem d164_153 : ins 164 153 = some (.iload 8) := by decide +kernel
theorem d164_155 : ins 164 155 = some (.imul) := by decide +kernel
theorem d164_156 : ins 164 156 = some (.iconst 3) := by decide +kernel
theorem d164_157 : ins 164 157 = some (.iadd) := by decide +kernel
theorem d164_158 : ins 164 158 = some (.iaload) := by decide +kernel
theorem d164_159 : ins 164 159 = some (.isub) := by decide +kernel
theorem d164_160 : ins 164 160 = some (.istore 12) := by decide +kernel
theorem d164_162 : ins 164 162 = some (.iload 11) := by decide +kernel
theorem d164_164 : ins 164 164 = some (.iload_n 2) := by decide +kernel
theorem d164_165 : ins 164 165 = some (.isub) := by decide +kernel
theorem d164_166 : ins 164 166 = some (.sipush 2880) := by decide +kernel
theorem d164_169 : ins 164 169 = some (.if_icmp .gt 26) := by decide +kernel
theorem d164_172 : ins 164 172 = some (.iload 12) := by decide +kernel
theorem d164_174 : ins 164 174 = some (.iload 4) := by decide +kernel
theorem d164_176 : ins 164 176 = some (.if_icmp .le 19) := by decide +kernel
theorem d164_179 : ins 164 179 = some (.iload 12) := by decide +kernel
theorem d164_181 : ins 164 181 = some (.istore 4) := by decide +kernel
theorem d164_183 : ins 164 183 = some (.iload 8) := by decide +kernel
theorem d164_185 : ins 164 185 = some (.istore 5) := by decide +kernel
theorem d164_187 : ins 164 187 = some (.iload 10) := by decide +kernel
theorem d164_189 : ins 164 189 = some (.istore 6) := by decide +kernel
theorem d164_191 : ins 164 191 = some (.iload 11) := by decide +kernel
theorem d164_193 : ins 164 193 = some (.istore 7) := by decide +kernel
theorem d164_195 : ins 164 195 = some (.iinc 10 1) := by decide +kernel
theorem d164_198 : ins 164 198 = some (.goto (-108)) := by decide +kernel
theorem d164_201 : ins 164 201 = some (.iinc 8 1) := by decide +kernel
theorem d164_204 : ins 164 204 = some (.goto (-155)) := by decide +kernel
theorem d164_207 : ins 164 207 = some (.iload 5) := by decide +kernel
theorem d164_209 : ins 164 209 = some (.iconst (-1)) := by decide +kernel
theorem d164_210 : ins 164 210 = some (.if_icmp .ne 7) := by decide +kernel
theorem d164_213 : ins 164 213 = some (.iconst (-1)) := by decide +kernel
theorem d164_214 : ins 164 214 = some (.goto 34) := by decide +kernel
theorem d164_217 : ins 164 217 = some (.iload_n 3) := by decide +kernel
theorem d164_218 : ins 164 218 = some (.ifCond .ne 8) := by decide +kernel
theorem d164_221 : ins 164 221 = some (.iload 4) := by decide +kernel
theorem d164_223 : ins 164 223 = some (.goto 25) := by decide +kernel
theorem d164_226 : ins 164 226 = some (.iload_n 3) := by decide +kernel
theorem d164_227 : ins 164 227 = some (.iconst 1) := by decide +kernel
theorem d164_228 : ins 164 228 = some (.if_icmp .ne 8) := by decide +kernel
theorem d164_231 : ins 164 231 = some (.iload 5) := by decide +kernel
theorem d164_233 : ins 164 233 = some (.goto 15) := by decide +kernel
theorem d164_236 : ins 164 236 = some (.iload_n 3) := by decide +kernel
theorem d164_237 : ins 164 237 = some (.iconst 2) := by decide +kernel
theorem d164_238 : ins 164 238 = some (.if_icmp .ne 8) := by decide +kernel
theorem d164_241 : ins 164 241 = some (.iload 6) := by decide +kernel
theorem d164_243 : ins 164 243 = some (.goto 5) := by decide +kernel
theorem d164_246 : ins 164 246 = some (.iload 7) := by decide +kernel
theorem d164_248 : ins 164 248 = some (.ireturn) := by decide +kernel
set_option maxRecDepth 10000 in
theorem b164_0 {Q : Option Value → mm → Prop} (ρ : rm) (τ : Int64) (a1 : Int) (a2 : Int) (a3 : Int) (hB : BM ρ) (h_a1 : SB a1) (h_a2 : SB a2) (h_a3 : SB a3) : G 164 0 (some (.ref 51) :: some (vI a1) :: some (vI a2) :: some (vI a3) :: []) [] (toM ρ τ) Q = G 119 0 [some (.ref 51), some (vI a1)] [] (toM ρ τ) (fun v μ2 => G 164 5 (some (.ref 51) :: some (vI a1) :: some (vI a2) :: some (vI a3) :: []) (v.toList ++ []) μ2 Q) := by
  refine (g_aload_n d164_0 rfl rfl).trans ?_
  refine (g_iload_n d164_1 rfl).trans ?_
  exact g_cV d164_2 k10_196 rfl rfl rfl
set_option maxRecDepth 10000 in
theorem b164_5 {Q : Option Value → mm → Prop} (ρ : rm) (τ : Int64) (l1 : Int) (l2 : Int) (l3 : Int) (t : List (Option Value)) (r : Int) (hB : BM ρ) (h_l1 : SB l1) (h_in1 : r = 0 ∨ SM l1) (h_l2 : SB l2) (h_l3 : SB l3) (h_r : SM r) : G 164 5 (some (.ref 51) :: some (vI l1) :: some (vI l2) :: some (vI l3) :: t) ((some (vI r)).toList ++ []) (toM ρ τ) Q = (if r = 0 then Q (some (vI (-2))) (toM ρ τ) else G 117 0 [some (vI l2), some (vI 0), some (vI 9999)] [] (toM ρ τ) (fun v μ2 => G 164 19 (some (.ref 51) :: some (vI l1) :: some (vI l2) :: some (vI l3) :: t) (v.toList ++ []) μ2 Q)) := by
  refine j_if_ne (tgt := 11) d164_5 (by decide) (by omega) (fun q1 => ?_) (fun q1 => ?_)
  ·
    refine (j_bipush d164_8 (by decide)).trans ?_
    exact g_iret d164_10 rfl rfl
  ·
    refine (g_iload_n d164_11 rfl).trans ?_
    refine (j_iconst d164_12).trans ?_
    refine (j_sipush d164_13 (by decide)).trans ?_
    exact g_cS d164_16 k10_69 rfl rfl rfl
set_option maxRecDepth 10000 in
theorem b164_19 {Q : Option Value → mm → Prop} (ρ : rm) (τ : Int64) (l1 : Int) (l2 : Int) (l3 : Int) (t : List (Option Value)) (r : Int) (hB : BM ρ) (h_l1 : SM l1) (h_l2 : SB l2) (h_in2 : r = 0 ∨ SM l2) (h_l3 : SB l3) (h_r : SM r) : G 164 19 (some (.ref 51) :: some (vI l1) :: some (vI l2) :: some (vI l3) :: t) ((some (vI r)).toList ++ []) (toM ρ τ) Q = (if r = 0 then Q (some (vI (-3))) (toM ρ τ) else G 117 0 [some (vI l3), some (vI 0), some (vI 3)] [] (toM ρ τ) (fun v μ2 => G 164 28 (some (.ref 51) :: some (vI l1) :: some (vI l2) :: some (vI l3) :: t) (v.toList ++ []) μ2 Q)) := by
  refine j_if_eq (tgt := 31) d164_19 (by decide) (by omega) (fun q1 => ?_) (fun q1 => ?_)
  ·
    refine (j_bipush d164_31 (by decide)).trans ?_
    exact g_iret d164_33 rfl rfl
  ·
    refine (g_iload_n d164_22 rfl).trans ?_
    refine (j_iconst d164_23).trans ?_
    refine (j_iconst d164_24).trans ?_
    exact g_cS d164_25 k10_69 rfl rfl rfl
set_option maxRecDepth 10000 in
theorem b164_28 {Q : Option Value → mm → Prop} (ρ : rm) (τ : Int64) (l1 : Int) (l2 : Int) (l3 : Int) (t : List (Option Value)) (r : Int) (hB : BM ρ) (h_l1 : SM l1) (h_l2 : SM l2) (h_l3 : SB l3) (h_in3 : r = 0 ∨ SM l3) (h_r : SM r) : G 164 28 (some (.ref 51) :: some (vI l1) :: some (vI l2) :: some (vI l3) :: t) ((some (vI r)).toList ++ []) (toM ρ τ) Q = (if r = 0 then Q (some (vI (-3))) (toM ρ τ) else G 164 49 (some (.ref 51) :: some (vI l1) :: some (vI l2) :: some (vI l3) :: some (vI 0) :: some (vI (-1)) :: some (vI (-1)) :: some (vI (-1)) :: some (vI 0) :: t.tail.tail.tail.tail.tail) [] (toM ρ τ) Q) := by
  refine j_if_ne (tgt := 34) d164_28 (by decide) (by omega) (fun q1 => ?_) (fun q1 => ?_)
  ·
    refine (j_bipush d164_31 (by decide)).trans ?_
    exact g_iret d164_33 rfl rfl
  ·
    refine (j_iconst d164_34).trans ?_
    refine (g_istore d164_35 (by decide) rfl rfl).trans ?_
    refine (j_iconst d164_37).trans ?_
    refine (g_istore d164_38 (by decide) rfl rfl).trans ?_
    refine (j_iconst d164_40).trans ?_
    refine (g_istore d164_41 (by decide) rfl rfl).trans ?_
    refine (j_iconst d164_43).trans ?_
    refine (g_istore d164_44 (by decide) rfl rfl).trans ?_
    refine (j_iconst d164_46).trans ?_
    refine (g_istore d164_47 (by decide) rfl rfl).trans ?_
    rfl
set_option maxRecDepth 10000 in
theorem b164_49 {Q : Option Value → mm → Prop} (ρ : rm) (τ : Int64) (l1 : Int) (l2 : Int) (l3 : Int) (l4 : Int) (l5 : Int) (l6 : Int) (l7 : Int) (l8 : Int) (t : List (Option Value)) (hB : BM ρ) (h_l1 : SM l1) (h_l2 : SM l2) (h_l3 : SM l3) (h_l4 : SM l4) (h_l5 : SM l5) (h_l6 : SM l6) (h_l7 : SM l7) (h_l8 : SM l8) : G 164 49 (some (.ref 51) :: some (vI l1) :: some (vI l2) :: some (vI l3) :: some (vI l4) :: some (vI l5) :: some (vI l6) :: some (vI l7) :: some (vI l8) :: t) [] (toM ρ τ) Q = (if (ρ 51 7) ≤ l8 then (if l5 = (-1) then Q (some (vI (-1))) (toM ρ τ) else (if l3 = 0 then Q (some (vI l4)) (toM ρ τ) else (if l3 = 1 then Q (some (vI l5)) (toM ρ τ) else (if l3 = 2 then Q (some (vI l6)) (toM ρ τ) else Q (some (vI l7)) (toM ρ τ))))) else (if 0 ≤ (5 * l8) ∧ (5 * l8) < 30 then (if 0 ≤ ((10 * l1) + (ρ 56 (5 * l8))) ∧ ((10 * l1) + (ρ 56 (5 * l8))) < 100 then G 163 0 [some (.ref 51), some (vI l8), some (vI (l2 + (ρ 57 ((10 * l1) + (ρ 56 (5 * l8))))))] [] (toM ρ τ) (fun v μ2 => G 164 85 (some (.ref 51) :: some (vI l1) :: some (vI l2) :: some (vI l3) :: some (vI l4) :: some (vI l5) :: some (vI l6) :: some (vI l7) :: some (vI l8) :: t) (v.toList ++ []) μ2 Q) else False) else False)) := by
  refine (g_iload d164_49 rfl).trans ?_
  refine (g_aload_n d164_51 rfl rfl).trans ?_
  refine (j_getI (v := ρ 51 7) d164_52 f10_79 sh_51 (by decide) rfl rfl).trans ?_
  have q1 := hB 51 7 (by decide)
  refine j_icmp_ge (tgt := 207) d164_55 (by decide) (by omega) (by omega) (fun q2 => ?_) (fun q2 => ?_)
  ·
    refine (g_iload d164_207 rfl).trans ?_
    refine (j_iconst d164_209).trans ?_
    refine j_icmp_ne (tgt := 217) d164_210 (by decide) (by omega) (by omega) (fun q3 => ?_) (fun q3 => ?_)
    ·
      refine (j_iconst d164_213).trans ?_
      refine (g_goto (tgt := 248) d164_214 (by decide)).trans ?_
      exact g_iret d164_248 rfl rfl
    ·
      refine (g_iload_n d164_217 rfl).trans ?_
      refine j_if_ne (tgt := 226) d164_218 (by decide) (by omega) (fun q4 => ?_) (fun q4 => ?_)
      ·
        refine (g_iload d164_221 rfl).trans ?_
        refine (g_goto (tgt := 248) d164_223 (by decide)).trans ?_
        exact g_iret d164_248 rfl rfl
      ·
        refine (g_iload_n d164_226 rfl).trans ?_
        refine (j_iconst d164_227).trans ?_
        refine j_icmp_ne (tgt := 236) d164_228 (by decide) (by omega) (by omega) (fun q5 => ?_) (fun q5 => ?_)
        ·
          refine (g_iload d164_231 rfl).trans ?_
          refine (g_goto (tgt := 248) d164_233 (by decide)).trans ?_
          exact g_iret d164_248 rfl rfl
        ·
          refine (g_iload_n d164_236 rfl).trans ?_
          refine (j_iconst d164_237).trans ?_
          refine j_icmp_ne (tgt := 246) d164_238 (by decide) (by omega) (by omega) (fun q6 => ?_) (fun q6 => ?_)
          ·
            refine (g_iload d164_241 rfl).trans ?_
            refine (g_goto (tgt := 248) d164_243 (by decide)).trans ?_
            exact g_iret d164_248 rfl rfl
          ·
            refine (g_iload d164_246 rfl).trans ?_
            exact g_iret d164_248 rfl rfl
  ·
    refine (g_aload_n d164_58 rfl rfl).trans ?_
    refine (g_iload d164_59 rfl).trans ?_
    refine (g_iload_n d164_61 rfl).trans ?_
    refine (g_aload_n d164_62 rfl rfl).trans ?_
    refine (g_getR (q := 57) d164_63 f10_29 sh_51 (by decide) rfl).trans ?_
    refine (j_bipush d164_66 (by decide)).trans ?_
    refine (g_iload_n d164_68 rfl).trans ?_
    refine (j_imul d164_69).trans ?_
    refine (g_aload_n d164_70 rfl rfl).trans ?_
    refine (g_getR (q := 56) d164_71 f10_26 sh_51 (by decide) rfl).trans ?_
    refine (j_iconst d164_74).trans ?_
    refine (g_iload d164_75 rfl).trans ?_
    refine (j_imul d164_77).trans ?_
    refine j_iaload (v := ρ 56 (5 * l8)) d164_78 sh_56 (by omega) rfl (fun q7 => ?_)
    have q8 := hB 56 (5 * l8) (by omega)
    refine (j_iadd d164_79).trans ?_
    refine j_iaload (v := ρ 57 ((10 * l1) + (ρ 56 (5 * l8)))) d164_80 sh_57 (by omega) rfl (fun q9 => ?_)
    have q10 := hB 57 ((10 * l1) + (ρ 56 (5 * l8))) (by omega)
    refine (j_iadd d164_81).trans ?_
    exact g_cV d164_82 k10_234 rfl rfl rfl
set_option maxRecDepth 10000 in
theorem b164_85 {Q : Option Value → mm → Prop} (ρ : rm) (τ : Int64) (l1 : Int) (l2 : Int) (l3 : Int) (l4 : Int) (l5 : Int) (l6 : Int) (l7 : Int) (l8 : Int) (t : List (Option Value)) (r : Int) (hB : BM ρ) (h_l1 : SM l1) (h_l2 : SM l2) (h_l3 : SM l3) (h_l4 : SM l4) (h_l5 : SM l5) (h_l6 : SM l6) (h_l7 : SM l7) (h_l8 : SM l8) (h_r : SM r) : G 164 85 (some (.ref 51) :: some (vI l1) :: some (vI l2) :: some (vI l3) :: some (vI l4) :: some (vI l5) :: some (vI l6) :: some (vI l7) :: some (vI l8) :: t) ((some (vI r)).toList ++ []) (toM ρ τ) Q = G 164 90 (some (.ref 51) :: some (vI l1) :: some (vI l2) :: some (vI l3) :: some (vI l4) :: some (vI l5) :: some (vI l6) :: some (vI l7) :: some (vI l8) :: some (vI r) :: some (vI 0) :: t.tail.tail) [] (toM ρ τ) Q := by
  refine (g_istore d164_85 (by decide) rfl rfl).trans ?_
  refine (j_iconst d164_87).trans ?_
  refine (g_istore d164_88 (by decide) rfl rfl).trans ?_
  rfl
set_option maxRecDepth 10000 in
theorem b164_90 {Q : Option Value → mm → Prop} (ρ : rm) (τ : Int64) (l1 : Int) (l2 : Int) (l3 : Int) (l4 : Int) (l5 : Int) (l6 : Int) (l7 : Int) (l8 : Int) (l9 : Int) (l10 : Int) (t : List (Option Value)) (hB : BM ρ) (h_l1 : SM l1) (h_l2 : SM l2) (h_l3 : SM l3) (h_l4 : SM l4) (h_l5 : SM l5) (h_l6 : SM l6) (h_l7 : SM l7) (h_l8 : SM l8) (h_l9 : SM l9) (h_l10 : SM l10) : G 164 90 (some (.ref 51) :: some (vI l1) :: some (vI l2) :: some (vI l3) :: some (vI l4) :: some (vI l5) :: some (vI l6) :: some (vI l7) :: some (vI l8) :: some (vI l9) :: some (vI l10) :: t) [] (toM ρ τ) Q = (if (ρ 51 7) ≤ l10 then G 164 49 (some (.ref 51) :: some (vI l1) :: some (vI l2) :: some (vI l3) :: some (vI l4) :: some (vI l5) :: some (vI l6) :: some (vI l7) :: some (vI (l8 + 1)) :: some (vI l9) :: some (vI l10) :: t) [] (toM ρ τ) Q else (if 0 ≤ (5 * l8) ∧ (5 * l8) < 30 then (if 0 ≤ (5 * l10) ∧ (5 * l10) < 30 then (if 0 ≤ ((10 * (ρ 56 (5 * l8))) + (ρ 56 (5 * l10))) ∧ ((10 * (ρ 56 (5 * l8))) + (ρ 56 (5 * l10))) < 100 then G 163 0 [some (.ref 51), some (vI l10), some (vI (l9 + (ρ 57 ((10 * (ρ 56 (5 * l8))) + (ρ 56 (5 * l10))))))] [] (toM ρ τ) (fun v μ2 => G 164 135 (some (.ref 51) :: some (vI l1) :: some (vI l2) :: some (vI l3) :: some (vI l4) :: some (vI l5) :: some (vI l6) :: some (vI l7) :: some (vI l8) :: some (vI l9) :: some (vI l10) :: t) (v.toList ++ []) μ2 Q) else False) else False) else False)) := by
  refine (g_iload d164_90 rfl).trans ?_
  refine (g_aload_n d164_92 rfl rfl).trans ?_
  refine (j_getI (v := ρ 51 7) d164_93 f10_79 sh_51 (by decide) rfl rfl).trans ?_
  have q1 := hB 51 7 (by decide)
  refine j_icmp_ge (tgt := 201) d164_96 (by decide) (by omega) (by omega) (fun q2 => ?_) (fun q2 => ?_)
  ·
    refine (j_iinc d164_201 rfl (by decide) rfl rfl).trans ?_
    refine (g_goto (tgt := 49) d164_204 (by decide)).trans ?_
    rfl
  ·
    refine (g_aload_n d164_99 rfl rfl).trans ?_
    refine (g_iload d164_100 rfl).trans ?_
    refine (g_iload d164_102 rfl).trans ?_
    refine (g_aload_n d164_104 rfl rfl).trans ?_
    refine (g_getR (q := 57) d164_105 f10_29 sh_51 (by decide) rfl).trans ?_
    refine (j_bipush d164_108 (by decide)).trans ?_
    refine (g_aload_n d164_110 rfl rfl).trans ?_
    refine (g_getR (q := 56) d164_111 f10_26 sh_51 (by decide) rfl).trans ?_
    refine (j_iconst d164_114).trans ?_
    refine (g_iload d164_115 rfl).trans ?_
    refine (j_imul d164_117).trans ?_
    refine j_iaload (v := ρ 56 (5 * l8)) d164_118 sh_56 (by omega) rfl (fun q3 => ?_)
    have q4 := hB 56 (5 * l8) (by omega)
    refine (j_imul d164_119).trans ?_
    refine (g_aload_n d164_120 rfl rfl).trans ?_
    refine (g_getR (q := 56) d164_121 f10_26 sh_51 (by decide) rfl).trans ?_
    refine (j_iconst d164_124).trans ?_
    refine (g_iload d164_125 rfl).trans ?_
    refine (j_imul d164_127).trans ?_
    refine j_iaload (v := ρ 56 (5 * l10)) d164_128 sh_56 (by omega) rfl (fun q5 => ?_)
    have q6 := hB 56 (5 * l10) (by omega)
    refine (j_iadd d164_129).trans ?_
    refine j_iaload (v := ρ 57 ((10 * (ρ 56 (5 * l8))) + (ρ 56 (5 * l10)))) d164_130 sh_57 (by omega) rfl (fun q7 => ?_)
    have q8 := hB 57 ((10 * (ρ 56 (5 * l8))) + (ρ 56 (5 * l10))) (by omega)
    refine (j_iadd d164_131).trans ?_
    exact g_cV d164_132 k10_234 rfl rfl rfl
set_option maxRecDepth 10000 in
theorem b164_135 {Q : Option Value → mm → Prop} (ρ : rm) (τ : Int64) (l1 : Int) (l2 : Int) (l3 : Int) (l4 : Int) (l5 : Int) (l6 : Int) (l7 : Int) (l8 : Int) (l9 : Int) (l10 : Int) (t : List (Option Value)) (r : Int) (hB : BM ρ) (h_l1 : SM l1) (h_l2 : SM l2) (h_l3 : SM l3) (h_l4 : SM l4) (h_l5 : SM l5) (h_l6 : SM l6) (h_l7 : SM l7) (h_l8 : SM l8) (h_l9 : SM l9) (h_l10 : SM l10) (h_r : SM r) : G 164 135 (some (.ref 51) :: some (vI l1) :: some (vI l2) :: some (vI l3) :: some (vI l4) :: some (vI l5) :: some (vI l6) :: some (vI l7) :: some (vI l8) :: some (vI l9) :: some (vI l10) :: t) ((some (vI r)).toList ++ []) (toM ρ τ) Q = (if 0 ≤ ((5 * l10) + 4) ∧ ((5 * l10) + 4) < 30 then (if 0 ≤ ((5 * l8) + 3) ∧ ((5 * l8) + 3) < 30 then (if 2880 < (r - l2) then G 164 90 (some (.ref 51) :: some (vI l1) :: some (vI l2) :: some (vI l3) :: some (vI l4) :: some (vI l5) :: some (vI l6) :: some (vI l7) :: some (vI l8) :: some (vI l9) :: some (vI (l10 + 1)) :: some (vI r) :: some (vI ((ρ 56 ((5 * l10) + 4)) - (ρ 56 ((5 * l8) + 3)))) :: t.tail.tail) [] (toM ρ τ) Q else (if ((ρ 56 ((5 * l10) + 4)) - (ρ 56 ((5 * l8) + 3))) ≤ l4 then G 164 90 (some (.ref 51) :: some (vI l1) :: some (vI l2) :: some (vI l3) :: some (vI l4) :: some (vI l5) :: some (vI l6) :: some (vI l7) :: some (vI l8) :: some (vI l9) :: some (vI (l10 + 1)) :: some (vI r) :: some (vI ((ρ 56 ((5 * l10) + 4)) - (ρ 56 ((5 * l8) + 3)))) :: t.tail.tail) [] (toM ρ τ) Q else G 164 90 (some (.ref 51) :: some (vI l1) :: some (vI l2) :: some (vI l3) :: some (vI ((ρ 56 ((5 * l10) + 4)) - (ρ 56 ((5 * l8) + 3)))) :: some (vI l8) :: some (vI l10) :: some (vI r) :: some (vI l8) :: some (vI l9) :: some (vI (l10 + 1)) :: some (vI r) :: some (vI ((ρ 56 ((5 * l10) + 4)) - (ρ 56 ((5 * l8) + 3)))) :: t.tail.tail) [] (toM ρ τ) Q)) else False) else False) := by
  refine (g_istore d164_135 (by decide) rfl rfl).trans ?_
  refine (g_aload_n d164_137 rfl rfl).trans ?_
  refine (g_getR (q := 56) d164_138 f10_26 sh_51 (by decide) rfl).trans ?_
  refine (j_iconst d164_141).trans ?_
  refine (g_iload d164_142 rfl).trans ?_
  refine (j_imul d164_144).trans ?_
  refine (j_iconst d164_145).trans ?_
  refine (j_iadd d164_146).trans ?_
  refine j_iaload (v := ρ 56 ((5 * l10) + 4)) d164_147 sh_56 (by omega) rfl (fun q1 => ?_)
  have q2 := hB 56 ((5 * l10) + 4) (by omega)
  refine (g_aload_n d164_148 rfl rfl).trans ?_
  refine (g_getR (q := 56) d164_149 f10_26 sh_51 (by decide) rfl).trans ?_
  refine (j_iconst d164_152).trans ?_
  refine (g_iload d164_153 rfl).trans ?_
  refine (j_imul d164_155).trans ?_
  refine (j_iconst d164_156).trans ?_
  refine (j_iadd d164_157).trans ?_
  refine j_iaload (v := ρ 56 ((5 * l8) + 3)) d164_158 sh_56 (by omega) rfl (fun q3 => ?_)
  have q4 := hB 56 ((5 * l8) + 3) (by omega)
  refine (j_isub d164_159).trans ?_
  refine (g_istore d164_160 (by decide) rfl rfl).trans ?_
  refine (g_iload d164_162 rfl).trans ?_
  refine (g_iload_n d164_164 rfl).trans ?_
  refine (j_isub d164_165).trans ?_
  refine (j_sipush d164_166 (by decide)).trans ?_
  refine j_icmp_gt (tgt := 195) d164_169 (by decide) (by omega) (by omega) (fun q5 => ?_) (fun q5 => ?_)
  ·
    refine (j_iinc d164_195 rfl (by decide) rfl rfl).trans ?_
    refine (g_goto (tgt := 90) d164_198 (by decide)).trans ?_
    rfl
  ·
    refine (g_iload d164_172 rfl).trans ?_
    refine (g_iload d164_174 rfl).trans ?_
    refine j_icmp_le (tgt := 195) d164_176 (by decide) (by omega) (by omega) (fun q6 => ?_) (fun q6 => ?_)
    ·
      refine (j_iinc d164_195 rfl (by decide) rfl rfl).trans ?_
      refine (g_goto (tgt := 90) d164_198 (by decide)).trans ?_
      rfl
    ·
      refine (g_iload d164_179 rfl).trans ?_
      refine (g_istore d164_181 (by decide) rfl rfl).trans ?_
      refine (g_iload d164_183 rfl).trans ?_
      refine (g_istore d164_185 (by decide) rfl rfl).trans ?_
      refine (g_iload d164_187 rfl).trans ?_
      refine (g_istore d164_189 (by decide) rfl rfl).trans ?_
      refine (g_iload d164_191 rfl).trans ?_
      refine (g_istore d164_193 (by decide) rfl rfl).trans ?_
      refine (j_iinc d164_195 rfl (by decide) rfl rfl).trans ?_
      refine (g_goto (tgt := 90) d164_198 (by decide)).trans ?_
      rfl
theorem d165_0 : ins 165 0 = some (.aload_n 0) := by decide +kernel
theorem d165_1 : ins 165 1 = some (.iload_n 1) := by decide +kernel
theorem d165_2 : ins 165 2 = some (.invokevirtual 196) := by decide +kernel
theorem d165_5 : ins 165 5 = some (.ifCond .eq 11) := by decide +kernel
theorem d165_8 : ins 165 8 = some (.aload_n 0) := by decide +kernel
theorem d165_9 : ins 165 9 = some (.iload_n 3) := by decide +kernel
theorem d165_10 : ins 165 10 = some (.invokevirtual 196) := by decide +kernel
theorem d165_13 : ins 165 13 = some (.ifCond .ne 6) := by decide +kernel
theorem d165_16 : ins 165 16 = some (.bipush (-2)) := by decide +kernel
theorem d165_18 : ins 165 18 = some (.ireturn) := by decide +kernel
theorem d165_19 : ins 165 19 = some (.iload_n 2) := by decide +kernel
theorem d165_20 : ins 165 20 = some (.iconst 0) := by decide +kernel
theorem d165_21 : ins 165 21 = some (.sipush 1439) := by decide +kernel
theorem d165_24 : ins 165 24 = some (.invokestatic 69) := by decide +kernel
theorem d165_27 : ins 165 27 = some (.ifCond .eq 20) := by decide +kernel
theorem d165_30 : ins 165 30 = some (.iload 4) := by decide +kernel
theorem d165_32 : ins 165 32 = some (.iconst 0) := by decide +kernel
theorem d165_33 : ins 165 33 = some (.sipush 1439) := by decide +kernel
theorem d165_36 : ins 165 36 = some (.invokestatic 69) := by decide +kernel
theorem d165_39 : ins 165 39 = some (.ifCond .eq 8) := by decide +kernel
theorem d165_42 : ins 165 42 = some (.iload_n 1) := by decide +kernel
theorem d165_43 : ins 165 43 = some (.iload_n 3) := by decide +kernel
theorem d165_44 : ins 165 44 = some (.if_icmp .ne 6) := by decide +kernel
theorem d165_47 : ins 165 47 = some (.bipush (-3)) := by decide +kernel
theorem d165_49 : ins 165 49 = some (.ireturn) := by decide +kernel
theorem d165_50 : ins 165 50 = some (.aload_n 0) := by decide +kernel
theorem d165_51 : ins 165 51 = some (.getfield 190) := by decide +kernel
theorem d165_54 : ins 165 54 = some (.bipush 10) := by decide +kernel
theorem d165_56 : ins 165 56 = some (.if_icmp .ne 6) := by decide +kernel
theorem d165_59 : ins 165 59 = some (.bipush (-5)) := by decide +kernel
theorem d165_61 : ins 165 61 = some (.ireturn) := by decide +kernel
theorem d165_62 : ins 165 62 = some (.aload_n 0) := by decide +kernel
theorem d165_63 : ins 165 63 = some (.getfield 48) := by decide +kernel
theorem d165_66 : ins 165 66 = some (.iconst 4) := by decide +kernel
theorem d165_67 : ins 165 67 = some (.aload_n 0) := by decide +kernel
theorem d165_68 : ins 165 68 = some (.getfield 190) := by decide +kernel
theorem d165_71 : ins 165 71 = some (.imul) := by decide +kernel
theorem d165_72 : ins 165 72 = some (.iload_n 1) := by decide +kernel
theorem d165_73 : ins 165 73 = some (.iastore) := by decide +kernel
theorem d165_74 : ins 165 74 = some (.aload_n 0) := by decide +kernel
theorem d165_75 : ins 165 75 = some (.getfield 48) := by decide +kernel
theorem d165_78 : ins 165 78 = some (.iconst 4) := by decide +kernel
theorem d165_79 : ins 165 79 = some (.aload_n 0) := by decide +kernel
theorem d165_80 : ins 165 80 = some (.getfield 190) := by decide +kernel
theorem d165_83 : ins 165 83 = some (.imul) := by decide +kernel
theorem d165_84 : ins 165 84 = some (.iconst 1) := by decide +kernel
theorem d165_85 : ins 165 85 = some (.iadd) := by decide +kernel
theorem d165_86 : ins 165 86 = some (.iload_n 2) := by decide +kernel
theorem d165_87 : ins 165 87 = some (.iastore) := by decide +kernel
theorem d165_88 : ins 165 88 = some (.aload_n 0) := by decide +kernel
theorem d165_89 : ins 165 89 = some (.getfield 48) := by decide +kernel
theorem d165_92 : ins 165 92 = some (.iconst 4) := by decide +kernel
theorem d165_93 : ins 165 93 = some (.aload_n 0) := by decide +kernel
theorem d165_94 : ins 165 94 = some (.getfield 190) := by decide +kernel
theorem d165_97 : ins 165 97 = some (.imul) := by decide +kernel
theorem d165_98 : ins 165 98 = some (.iconst 2) := by decide +kernel
theorem d165_99 : ins 165 99 = some (.iadd) := by decide +kernel
theorem d165_100 : ins 165 100 = some (.iload_n 3) := by decide +kernel
theorem d165_101 : ins 165 101 = some (.iastore) := by decide +kernel
theorem d165_102 : ins 165 102 = some (.aload_n 0) := by decide +kernel
theorem d165_103 : ins 165 103 = some (.getfield 48) := by decide +kernel
theorem d165_106 : ins 165 106 = some (.iconst 4) := by decide +kernel
theorem d165_107 : ins 165 107 = some (.aload_n 0) := by decide +kernel
theorem d165_108 : ins 165 108 = some (.getfield 190) := by decide +kernel
theorem d165_111 : ins 165 111 = some (.imul) := by decide +kernel
theorem d165_112 : ins 165 112 = some (.iconst 3) := by decide +kernel
theorem d165_113 : ins 165 113 = some (.iadd) := by decide +kernel
theorem d165_114 : ins 165 114 = some (.iload 4) := by decide +kernel
theorem d165_116 : ins 165 116 = some (.iastore) := by decide +kernel
theorem d165_117 : ins 165 117 = some (.aload_n 0) := by decide +kernel
theorem d165_118 : ins 165 118 = some (.dup) := by decide +kernel
theorem d165_119 : ins 165 119 = some (.getfield 190) := by decide +kernel
theorem d165_122 : ins 165 122 = some (.iconst 1) := by decide +kernel
theorem d165_123 : ins 165 123 = some (.iadd) := by decide +kernel
theorem d165_124 : ins 165 124 = some (.putfield 190) := by decide +kernel
theorem d165_127 : ins 165 127 = some (.aload_n 0) := by decide +kernel
theorem d165_128 : ins 165 128 = some (.getfield 190) := by decide +kernel
theorem d165_131 : ins 165 131 = some (.ireturn) := by decide +kernel
set_option maxRecDepth 10000 in
theorem b165_0 {Q : Option Value → mm → Prop} (ρ : rm) (τ : Int64) (a1 : Int) (a2 : Int) (a3 : Int) (a4 : Int) (hB : BM ρ) (h_a1 : SB a1) (h_a2 : SB a2) (h_a3 : SB a3) (h_a4 : SB a4) : G 165 0 (some (.ref 51) :: some (vI a1) :: some (vI a2) :: some (vI a3) :: some (vI a4) :: []) [] (toM ρ τ) Q = G 119 0 [some (.ref 51), some (vI a1)] [] (toM ρ τ) (fun v μ2 => G 165 5 (some (.ref 51) :: some (vI a1) :: some (vI a2) :: some (vI a3) :: some (vI a4) :: []) (v.toList ++ []) μ2 Q) := by
  refine (g_aload_n d165_0 rfl rfl).trans ?_
  refine (g_iload_n d165_1 rfl).trans ?_
  exact g_cV d165_2 k10_196 rfl rfl rfl
set_option maxRecDepth 10000 in
theorem b165_5 {Q : Option Value → mm → Prop} (ρ : rm) (τ : Int64) (l1 : Int) (l2 : Int) (l3 : Int) (l4 : Int) (t : List (Option Value)) (r : Int) (hB : BM ρ) (h_l1 : SB l1) (h_in1 : r = 0 ∨ SM l1) (h_l2 : SB l2) (h_l3 : SB l3) (h_l4 : SB l4) (h_r : SM r) : G 165 5 (some (.ref 51) :: some (vI l1) :: some (vI l2) :: some (vI l3) :: some (vI l4) :: t) ((some (vI r)).toList ++ []) (toM ρ τ) Q = (if r = 0 then Q (some (vI (-2))) (toM ρ τ) else G 119 0 [some (.ref 51), some (vI l3)] [] (toM ρ τ) (fun v μ2 => G 165 13 (some (.ref 51) :: some (vI l1) :: some (vI l2) :: some (vI l3) :: some (vI l4) :: t) (v.toList ++ []) μ2 Q)) := by
  refine j_if_eq (tgt := 16) d165_5 (by decide) (by omega) (fun q1 => ?_) (fun q1 => ?_)
  ·
    refine (j_bipush d165_16 (by decide)).trans ?_
    exact g_iret d165_18 rfl rfl
  ·
    refine (g_aload_n d165_8 rfl rfl).trans ?_
    refine (g_iload_n d165_9 rfl).trans ?_
    exact g_cV d165_10 k10_196 rfl rfl rfl
set_option maxRecDepth 10000 in
theorem b165_13 {Q : Option Value → mm → Prop} (ρ : rm) (τ : Int64) (l1 : Int) (l2 : Int) (l3 : Int) (l4 : Int) (t : List (Option Value)) (r : Int) (hB : BM ρ) (h_l1 : SM l1) (h_l2 : SB l2) (h_l3 : SB l3) (h_in3 : r = 0 ∨ SM l3) (h_l4 : SB l4) (h_r : SM r) : G 165 13 (some (.ref 51) :: some (vI l1) :: some (vI l2) :: some (vI l3) :: some (vI l4) :: t) ((some (vI r)).toList ++ []) (toM ρ τ) Q = (if r = 0 then Q (some (vI (-2))) (toM ρ τ) else G 117 0 [some (vI l2), some (vI 0), some (vI 1439)] [] (toM ρ τ) (fun v μ2 => G 165 27 (some (.ref 51) :: some (vI l1) :: some (vI l2) :: some (vI l3) :: some (vI l4) :: t) (v.toList ++ []) μ2 Q)) := by
  refine j_if_ne (tgt := 19) d165_13 (by decide) (by omega) (fun q1 => ?_) (fun q1 => ?_)
  ·
    refine (j_bipush d165_16 (by decide)).trans ?_
    exact g_iret d165_18 rfl rfl
  ·
    refine (g_iload_n d165_19 rfl).trans ?_
    refine (j_iconst d165_20).trans ?_
    refine (j_sipush d165_21 (by decide)).trans ?_
    exact g_cS d165_24 k10_69 rfl rfl rfl
set_option maxRecDepth 10000 in
theorem b165_27 {Q : Option Value → mm → Prop} (ρ : rm) (τ : Int64) (l1 : Int) (l2 : Int) (l3 : Int) (l4 : Int) (t : List (Option Value)) (r : Int) (hB : BM ρ) (h_l1 : SM l1) (h_l2 : SB l2) (h_in2 : r = 0 ∨ SM l2) (h_l3 : SM l3) (h_l4 : SB l4) (h_r : SM r) : G 165 27 (some (.ref 51) :: some (vI l1) :: some (vI l2) :: some (vI l3) :: some (vI l4) :: t) ((some (vI r)).toList ++ []) (toM ρ τ) Q = (if r = 0 then Q (some (vI (-3))) (toM ρ τ) else G 117 0 [some (vI l4), some (vI 0), some (vI 1439)] [] (toM ρ τ) (fun v μ2 => G 165 39 (some (.ref 51) :: some (vI l1) :: some (vI l2) :: some (vI l3) :: some (vI l4) :: t) (v.toList ++ []) μ2 Q)) := by
  refine j_if_eq (tgt := 47) d165_27 (by decide) (by omega) (fun q1 => ?_) (fun q1 => ?_)
  ·
    refine (j_bipush d165_47 (by decide)).trans ?_
    exact g_iret d165_49 rfl rfl
  ·
    refine (g_iload d165_30 rfl).trans ?_
    refine (j_iconst d165_32).trans ?_
    refine (j_sipush d165_33 (by decide)).trans ?_
    exact g_cS d165_36 k10_69 rfl rfl rfl
set_option maxRecDepth 10000 in
theorem b165_39 {Q : Option Value → mm → Prop} (ρ : rm) (τ : Int64) (l1 : Int) (l2 : Int) (l3 : Int) (l4 : Int) (t : List (Option Value)) (r : Int) (hB : BM ρ) (h_l1 : SM l1) (h_l2 : SM l2) (h_l3 : SM l3) (h_l4 : SB l4) (h_in4 : r = 0 ∨ SM l4) (h_r : SM r) : G 165 39 (some (.ref 51) :: some (vI l1) :: some (vI l2) :: some (vI l3) :: some (vI l4) :: t) ((some (vI r)).toList ++ []) (toM ρ τ) Q = (if r = 0 then Q (some (vI (-3))) (toM ρ τ) else (if l1 = l3 then Q (some (vI (-3))) (toM ρ τ) else (if (ρ 51 30) = 10 then Q (some (vI (-5))) (toM ρ τ) else (if 0 ≤ (4 * (ρ 51 30)) ∧ (4 * (ρ 51 30)) < 40 then (if 0 ≤ ((4 * (ρ 51 30)) + 1) ∧ ((4 * (ρ 51 30)) + 1) < 40 then (if 0 ≤ ((4 * (ρ 51 30)) + 2) ∧ ((4 * (ρ 51 30)) + 2) < 40 then (if 0 ≤ ((4 * (ρ 51 30)) + 3) ∧ ((4 * (ρ 51 30)) + 3) < 40 then Q (some (vI ((ρ 51 30) + 1))) (toM (rup (rup (rup (rup (rup ρ 63 (4 * (ρ 51 30)) l1) 63 ((4 * (ρ 51 30)) + 1) l2) 63 ((4 * (ρ 51 30)) + 2) l3) 63 ((4 * (ρ 51 30)) + 3) l4) 51 30 ((ρ 51 30) + 1)) τ) else False) else False) else False) else False)))) := by
  refine j_if_eq (tgt := 47) d165_39 (by decide) (by omega) (fun q1 => ?_) (fun q1 => ?_)
  ·
    refine (j_bipush d165_47 (by decide)).trans ?_
    exact g_iret d165_49 rfl rfl
  ·
    refine (g_iload_n d165_42 rfl).trans ?_
    refine (g_iload_n d165_43 rfl).trans ?_
    refine j_icmp_ne (tgt := 50) d165_44 (by decide) (by omega) (by omega) (fun q2 => ?_) (fun q2 => ?_)
    ·
      refine (j_bipush d165_47 (by decide)).trans ?_
      exact g_iret d165_49 rfl rfl
    ·
      refine (g_aload_n d165_50 rfl rfl).trans ?_
      refine (j_getI (v := ρ 51 30) d165_51 f10_190 sh_51 (by decide) rfl rfl).trans ?_
      have q3 := hB 51 30 (by decide)
      refine (j_bipush d165_54 (by decide)).trans ?_
      refine j_icmp_ne (tgt := 62) d165_56 (by decide) (by omega) (by omega) (fun q4 => ?_) (fun q4 => ?_)
      ·
        refine (j_bipush d165_59 (by decide)).trans ?_
        exact g_iret d165_61 rfl rfl
      ·
        refine (g_aload_n d165_62 rfl rfl).trans ?_
        refine (g_getR (q := 63) d165_63 f10_48 sh_51 (by decide) rfl).trans ?_
        refine (j_iconst d165_66).trans ?_
        refine (g_aload_n d165_67 rfl rfl).trans ?_
        refine (j_getI (v := ρ 51 30) d165_68 f10_190 sh_51 (by decide) rfl rfl).trans ?_
        refine (j_imul d165_71).trans ?_
        refine (g_iload_n d165_72 rfl).trans ?_
        refine j_iastore d165_73 sh_63 (by omega) (fun q5 => ?_)
        refine (g_aload_n d165_74 rfl rfl).trans ?_
        refine (g_getR (q := 63) d165_75 f10_48 sh_51 (by decide) rfl).trans ?_
        refine (j_iconst d165_78).trans ?_
        refine (g_aload_n d165_79 rfl rfl).trans ?_
        refine (j_getI (v := ρ 51 30) d165_80 f10_190 sh_51 (by decide) rfl (by simp [rup])).trans ?_
        refine (j_imul d165_83).trans ?_
        refine (j_iconst d165_84).trans ?_
        refine (j_iadd d165_85).trans ?_
        refine (g_iload_n d165_86 rfl).trans ?_
        refine j_iastore d165_87 sh_63 (by omega) (fun q6 => ?_)
        refine (g_aload_n d165_88 rfl rfl).trans ?_
        refine (g_getR (q := 63) d165_89 f10_48 sh_51 (by decide) rfl).trans ?_
        refine (j_iconst d165_92).trans ?_
        refine (g_aload_n d165_93 rfl rfl).trans ?_
        refine (j_getI (v := ρ 51 30) d165_94 f10_190 sh_51 (by decide) rfl (by simp [rup])).trans ?_
        refine (j_imul d165_97).trans ?_
        refine (j_iconst d165_98).trans ?_
        refine (j_iadd d165_99).trans ?_
        refine (g_iload_n d165_100 rfl).trans ?_
        refine j_iastore d165_101 sh_63 (by omega) (fun q7 => ?_)
        refine (g_aload_n d165_102 rfl rfl).trans ?_
        refine (g_getR (q := 63) d165_103 f10_48 sh_51 (by decide) rfl).trans ?_
        refine (j_iconst d165_106).trans ?_
        refine (g_aload_n d165_107 rfl rfl).trans ?_
        refine (j_getI (v := ρ 51 30) d165_108 f10_190 sh_51 (by decide) rfl (by simp [rup])).trans ?_
        refine (j_imul d165_111).trans ?_
        refine (j_iconst d165_112).trans ?_
        refine (j_iadd d165_113).trans ?_
        refine (g_iload d165_114 rfl).trans ?_
        refine j_iastore d165_116 sh_63 (by omega) (fun q8 => ?_)
        refine (g_aload_n d165_117 rfl rfl).trans ?_
        refine (g_dupR d165_118).trans ?_
        refine (j_getI (v := ρ 51 30) d165_119 f10_190 sh_51 (by decide) rfl (by simp [rup])).trans ?_
        refine (j_iconst d165_122).trans ?_
        refine (j_iadd d165_123).trans ?_
        refine (j_putI d165_124 f10_190 sh_51 (by decide) rfl).trans ?_
        refine (g_aload_n d165_127 rfl rfl).trans ?_
        refine (j_getI (v := (ρ 51 30) + 1) d165_128 f10_190 sh_51 (by decide) rfl (by simp [rup])).trans ?_
        exact g_iret d165_131 rfl rfl
theorem d166_0 : ins 166 0 = some (.aload_n 0) := by decide +kernel
theorem d166_1 : ins 166 1 = some (.getfield 190) := by decide +kernel
theorem d166_4 : ins 166 4 = some (.istore_n 1) := by decide +kernel
theorem d166_5 : ins 166 5 = some (.aload_n 0) := by decide +kernel
theorem d166_6 : ins 166 6 = some (.iconst 0) := by decide +kernel
theorem d166_7 : ins 166 7 = some (.putfield 190) := by decide +kernel
theorem d166_10 : ins 166 10 = some (.iload_n 1) := by decide +kernel
theorem d166_11 : ins 166 11 = some (.ireturn) := by decide +kernel
set_option maxRecDepth 10000 in
theorem b166_0 {Q : Option Value → mm → Prop} (ρ : rm) (τ : Int64)  (hB : BM ρ)  : G 166 0 (some (.ref 51) :: []) [] (toM ρ τ) Q = Q (some (vI (ρ 51 30))) (toM (rup ρ 51 30 0) τ) := by
  refine (g_aload_n d166_0 rfl rfl).trans ?_
  refine (j_getI (v := ρ 51 30) d166_1 f10_190 sh_51 (by decide) rfl rfl).trans ?_
  have q1 := hB 51 30 (by decide)
  refine (g_istore_n d166_4 (by decide) rfl rfl).trans ?_
  refine (g_aload_n d166_5 rfl rfl).trans ?_
  refine (j_iconst d166_6).trans ?_
  refine (j_putI d166_7 f10_190 sh_51 (by decide) rfl).trans ?_
  refine (g_iload_n d166_10 rfl).trans ?_
  exact g_iret d166_11 rfl rfl
theorem d167_0 : ins 167 0 = some (.iconst 0) := by decide +kernel
theorem d167_1 : ins 167 1 = some (.istore_n 1) := by decide +kernel
theorem d167_2 : ins 167 2 = some (.iload_n 1) := by decide +kernel
theorem d167_3 : ins 167 3 = some (.aload_n 0) := by decide +kernel
theorem d167_4 : ins 167 4 = some (.getfield 7) := by decide +kernel
theorem d167_7 : ins 167 7 = some (.if_icmp .ge 23) := by decide +kernel
theorem d167_10 : ins 167 10 = some (.aload_n 0) := by decide +kernel
theorem d167_11 : ins 167 11 = some (.getfield 57) := by decide +kernel
theorem d167_14 : ins 167 14 = some (.iload_n 1) := by decide +kernel
theorem d167_15 : ins 167 15 = some (.iload_n 1) := by decide +kernel
theorem d167_16 : ins 167 16 = some (.iastore) := by decide +kernel
theorem d167_17 : ins 167 17 = some (.aload_n 0) := by decide +kernel
theorem d167_18 : ins 167 18 = some (.getfield 60) := by decide +kernel
theorem d167_21 : ins 167 21 = some (.iload_n 1) := by decide +kernel
theorem d167_22 : ins 167 22 = some (.iconst 0) := by decide +kernel
theorem d167_23 : ins 167 23 = some (.iastore) := by decide +kernel
theorem d167_24 : ins 167 24 = some (.iinc 1 1) := by decide +kernel
theorem d167_27 : ins 167 27 = some (.goto (-25)) := by decide +kernel
theorem d167_30 : ins 167 30 = some (.iconst 1) := by decide +kernel
theorem d167_31 : ins 167 31 = some (.istore_n 1) := by decide +kernel
theorem d167_32 : ins 167 32 = some (.iconst 0) := by decide +kernel
theorem d167_33 : ins 167 33 = some (.istore_n 2) := by decide +kernel
theorem d167_34 : ins 167 34 = some (.iload_n 2) := by decide +kernel
theorem d167_35 : ins 167 35 = some (.aload_n 0) := by decide +kernel
theorem d167_36 : ins 167 36 = some (.getfield 190) := by decide +kernel
theorem d167_39 : ins 167 39 = some (.if_icmp .ge 168) := by decide +kernel
theorem d167_42 : ins 167 42 = some (.aload_n 0) := by decide +kernel
theorem d167_43 : ins 167 43 = some (.getfield 48) := by decide +kernel
theorem d167_46 : ins 167 46 = some (.iconst 4) := by decide +kernel
theorem d167_47 : ins 167 47 = some (.iload_n 2) := by decide +kernel
theorem d167_48 : ins 167 48 = some (.imul) := by decide +kernel
theorem d167_49 : ins 167 49 = some (.iaload) := by decide +kernel
theorem d167_50 : ins 167 50 = some (.istore_n 3) := by decide +kernel
theorem d167_51 : ins 167 51 = some (.aload_n 0) := by decide +kernel
theorem d167_52 : ins 167 52 = some (.getfield 48) := by decide +kernel
theorem d167_55 : ins 167 55 = some (.iconst 4) := by decide +kernel
theorem d167_56 : ins 167 56 = some (.iload_n 2) := by decide +kernel
theorem d167_57 : ins 167 57 = some (.imul) := by decide +kernel
theorem d167_58 : ins 167 58 = some (.iconst 2) := by decide +kernel
theorem d167_59 : ins 167 59 = some (.iadd) := by decide +kernel
theorem d167_60 : ins 167 60 = some (.iaload) := by decide +kernel
theorem d167_61 : ins 167 61 = some (.istore 4) := by decide +kernel
theorem d167_63 : ins 167 63 = some (.aload_n 0) := by decide +kernel
theorem d167_64 : ins 167 64 = some (.getfield 48) := by decide +kernel
theorem d167_67 : ins 167 67 = some (.iconst 4) := by decide +kernel
theorem d167_68 : ins 167 68 = some (.iload_n 2) := by decide +kernel
theorem d167_69 : ins 167 69 = some (.imul) := by decide +kernel
theorem d167_70 : ins 167 70 = some (.iconst 3) := by decide +kernel
theorem d167_71 : ins 167 71 = some (.iadd) := by decide +kernel
theorem d167_72 : ins 167 72 = some (.iaload) := by decide +kernel
theorem d167_73 : ins 167 73 = some (.aload_n 0) := by decide +kernel
theorem d167_74 : ins 167 74 = some (.iload 4) := by decide +kernel
theorem d167_76 : ins 167 76 = some (.invokevirtual 199) := by decide +kernel
theorem d167_79 : ins 167 79 = some (.iadd) := by decide +kernel
theorem d167_80 : ins 167 80 = some (.aload_n 0) := by decide +kernel
theorem d167_81 : ins 167 81 = some (.getfield 48) := by decide +kernel
theorem d167_84 : ins 167 84 = some (.iconst 4) := by decide +kernel
theorem d167_85 : ins 167 85 = some (.iload_n 2) := by decide +kernel
theorem d167_86 : ins 167 86 = some (.imul) := by decide +kernel
theorem d167_87 : ins 167 87 = some (.iconst 1) := by decide +kernel
theorem d167_88 : ins 167 88 = some (.iadd) := by decide +kernel
theorem d167_89 : ins 167 89 = some (.iaload) := by decide +kernel
theorem d167_90 : ins 167 90 = some (.isub) := by decide +kernel
theorem d167_91 : ins 167 91 = some (.aload_n 0) := by decide +kernel
theorem d167_92 : ins 167 92 = some (.iload_n 3) := by decide +kernel
theorem d167_93 : ins 167 93 = some (.invokevirtual 199) := by decide +kernel
theorem d167_96 : ins 167 96 = some (.isub) := by decide +kernel
theorem d167_97 : ins 167 97 = some (.ldc 203) := by decide +kernel
theorem d167_99 : ins 167 99 = some (.iadd) := by decide +kernel
theorem d167_100 : ins 167 100 = some (.sipush 1440) := by decide +kernel
theorem d167_103 : ins 167 103 = some (.irem) := by decide +kernel
theorem d167_104 : ins 167 104 = some (.istore 5) := by decide +kernel
theorem d167_106 : ins 167 106 = some (.aload_n 0) := by decide +kernel
theorem d167_107 : ins 167 107 = some (.getfield 57) := by decide +kernel
theorem d167_110 : ins 167 110 = some (.iload_n 3) := by decide +kernel
theorem d167_111 : ins 167 111 = some (.iaload) := by decide +kernel
theorem d167_112 : ins 167 112 = some (.aload_n 0) := by decide +kernel
theorem d167_113 : ins 167 113 = some (.getfield 57) := by decide +kernel
theorem d167_116 : ins 167 116 = some (.iload 4) := by decide +kernel
theorem d167_118 : ins 167 118 = some (.iaload) := by decide +kernel
theorem d167_119 : ins 167 119 = some (.if_icmp .ne 40) := by decide +kernel
theorem d167_122 : ins 167 122 = some (.iload_n 1) := by decide +kernel
theorem d167_123 : ins 167 123 = some (.ifCond .eq 31) := by decide +kernel
theorem d167_126 : ins 167 126 = some (.aload_n 0) := by decide +kernel
theorem d167_127 : ins 167 127 = some (.getfield 60) := by decide +kernel
theorem d167_130 : ins 167 130 = some (.iload 4) := by decide +kernel
theorem d167_132 : ins 167 132 = some (.iaload) := by decide +kernel
theorem d167_133 : ins 167 133 = some (.aload_n 0) := by decide +kernel
theorem d167_134 : ins 167 134 = some (.getfield 60) := by decide +kernel
theorem d167_137 : ins 167 137 = some (.iload_n 3) := by decide +kernel
theorem d167_138 : ins 167 138 = some (.iaload) := by decide +kernel
theorem d167_139 : ins 167 139 = some (.isub) := by decide +kernel
theorem d167_140 : ins 167 140 = some (.iload 5) := by decide +kernel
theorem d167_142 : ins 167 142 = some (.isub) := by decide +kernel
theorem d167_143 : ins 167 143 = some (.sipush 1440) := by decide +kernel
theorem d167_146 : ins 167 146 = some (.irem) := by decide +kernel
theorem d167_147 : ins 167 147 = some (.ifCond .ne 7) := by decide +kernel
theorem d167_150 : ins 167 150 = some (.iconst 1) := by decide +kernel
theorem d167_151 : ins 167 151 = some (.goto 4) := by decide +kernel
theorem d167_154 : ins 167 154 = some (.iconst 0) := by decide +kernel
theorem d167_155 : ins 167 155 = some (.istore_n 1) := by decide +kernel
theorem d167_156 : ins 167 156 = some (.goto 45) := by decide +kernel
theorem d167_159 : ins 167 159 = some (.aload_n 0) := by decide +kernel
theorem d167_160 : ins 167 160 = some (.aload_n 0) := by decide +kernel
theorem d167_161 : ins 167 161 = some (.getfield 57) := by decide +kernel
theorem d167_164 : ins 167 164 = some (.iload 4) := by decide +kernel
theorem d167_166 : ins 167 166 = some (.iaload) := by decide +kernel
theorem d167_167 : ins 167 167 = some (.aload_n 0) := by decide +kernel
theorem d167_168 : ins 167 168 = some (.getfield 57) := by decide +kernel
theorem d167_171 : ins 167 171 = some (.iload_n 3) := by decide +kernel
theorem d167_172 : ins 167 172 = some (.iaload) := by decide +kernel
theorem d167_173 : ins 167 173 = some (.aload_n 0) := by decide +kernel
theorem d167_174 : ins 167 174 = some (.getfield 60) := by decide +kernel
theorem d167_177 : ins 167 177 = some (.iload_n 3) := by decide +kernel
theorem d167_178 : ins 167 178 = some (.iaload) := by decide +kernel
theorem d167_179 : ins 167 179 = some (.iload 5) := by decide +kernel
theorem d167_181 : ins 167 181 = some (.iadd) := by decide +kernel
theorem d167_182 : ins 167 182 = some (.aload_n 0) := by decide +kernel
theorem d167_183 : ins 167 183 = some (.getfield 60) := by decide +kernel
theorem d167_186 : ins 167 186 = some (.iload 4) := by decide +kernel
theorem d167_188 : ins 167 188 = some (.iaload) := by decide +kernel
theorem d167_189 : ins 167 189 = some (.isub) := by decide +kernel
theorem d167_190 : ins 167 190 = some (.sipush 2880) := by decide +kernel
theorem d167_193 : ins 167 193 = some (.iadd) := by decide +kernel
theorem d167_194 : ins 167 194 = some (.sipush 1440) := by decide +kernel
theorem d167_197 : ins 167 197 = some (.irem) := by decide +kernel
theorem d167_198 : ins 167 198 = some (.invokevirtual 237) := by decide +kernel
theorem d167_201 : ins 167 201 = some (.iinc 2 1) := by decide +kernel
theorem d167_204 : ins 167 204 = some (.goto (-170)) := by decide +kernel
theorem d167_207 : ins 167 207 = some (.iload_n 1) := by decide +kernel
theorem d167_208 : ins 167 208 = some (.ireturn) := by decide +kernel
set_option maxRecDepth 10000 in
theorem b167_0 {Q : Option Value → mm → Prop} (ρ : rm) (τ : Int64)  (hB : BM ρ)  : G 167 0 (some (.ref 51) :: []) [] (toM ρ τ) Q = G 167 2 (some (.ref 51) :: some (vI 0) :: []) [] (toM ρ τ) Q := by
  refine (j_iconst d167_0).trans ?_
  refine (g_istore_n d167_1 (by decide) rfl rfl).trans ?_
  rfl
set_option maxRecDepth 10000 in
theorem b167_2 {Q : Option Value → mm → Prop} (ρ : rm) (τ : Int64) (l1 : Int) (t : List (Option Value)) (hB : BM ρ) (h_l1 : SM l1) : G 167 2 (some (.ref 51) :: some (vI l1) :: t) [] (toM ρ τ) Q = (if (ρ 51 0) ≤ l1 then G 167 34 (some (.ref 51) :: some (vI 1) :: some (vI 0) :: t.tail) [] (toM ρ τ) Q else (if 0 ≤ l1 ∧ l1 < 10 then (if 0 ≤ l1 ∧ l1 < 10 then G 167 2 (some (.ref 51) :: some (vI (l1 + 1)) :: t) [] (toM (rup (rup ρ 66 l1 l1) 67 l1 0) τ) Q else False) else False)) := by
  refine (g_iload_n d167_2 rfl).trans ?_
  refine (g_aload_n d167_3 rfl rfl).trans ?_
  refine (j_getI (v := ρ 51 0) d167_4 f10_7 sh_51 (by decide) rfl rfl).trans ?_
  have q1 := hB 51 0 (by decide)
  refine j_icmp_ge (tgt := 30) d167_7 (by decide) (by omega) (by omega) (fun q2 => ?_) (fun q2 => ?_)
  ·
    refine (j_iconst d167_30).trans ?_
    refine (g_istore_n d167_31 (by decide) rfl rfl).trans ?_
    refine (j_iconst d167_32).trans ?_
    refine (g_istore_n d167_33 (by decide) rfl rfl).trans ?_
    rfl
  ·
    refine (g_aload_n d167_10 rfl rfl).trans ?_
    refine (g_getR (q := 66) d167_11 f10_57 sh_51 (by decide) rfl).trans ?_
    refine (g_iload_n d167_14 rfl).trans ?_
    refine (g_iload_n d167_15 rfl).trans ?_
    refine j_iastore d167_16 sh_66 (by omega) (fun q3 => ?_)
    refine (g_aload_n d167_17 rfl rfl).trans ?_
    refine (g_getR (q := 67) d167_18 f10_60 sh_51 (by decide) rfl).trans ?_
    refine (g_iload_n d167_21 rfl).trans ?_
    refine (j_iconst d167_22).trans ?_
    refine j_iastore d167_23 sh_67 (by omega) (fun q4 => ?_)
    refine (j_iinc d167_24 rfl (by decide) rfl rfl).trans ?_
    refine (g_goto (tgt := 2) d167_27 (by decide)).trans ?_
    rfl
set_option maxRecDepth 10000 in
theorem b167_34 {Q : Option Value → mm → Prop} (ρ : rm) (τ : Int64) (l1 : Int) (l2 : Int) (t : List (Option Value)) (hB : BM ρ) (h_l1 : SM l1) (h_l2 : SM l2) (h01_l1 : l1 = 0 ∨ l1 = 1) : G 167 34 (some (.ref 51) :: some (vI l1) :: some (vI l2) :: t) [] (toM ρ τ) Q = (if (ρ 51 30) ≤ l2 then Q (some (vI l1)) (toM ρ τ) else (if 0 ≤ (4 * l2) ∧ (4 * l2) < 40 then (if 0 ≤ ((4 * l2) + 2) ∧ ((4 * l2) + 2) < 40 then (if 0 ≤ ((4 * l2) + 3) ∧ ((4 * l2) + 3) < 40 then G 137 0 [some (.ref 51), some (vI (ρ 63 ((4 * l2) + 2)))] [] (toM ρ τ) (fun v μ2 => G 167 79 (some (.ref 51) :: some (vI l1) :: some (vI l2) :: some (vI (ρ 63 (4 * l2))) :: some (vI (ρ 63 ((4 * l2) + 2))) :: t.tail.tail) (v.toList ++ [vI (ρ 63 ((4 * l2) + 3))]) μ2 Q) else False) else False) else False)) := by
  refine (g_iload_n d167_34 rfl).trans ?_
  refine (g_aload_n d167_35 rfl rfl).trans ?_
  refine (j_getI (v := ρ 51 30) d167_36 f10_190 sh_51 (by decide) rfl rfl).trans ?_
  have q1 := hB 51 30 (by decide)
  refine j_icmp_ge (tgt := 207) d167_39 (by decide) (by omega) (by omega) (fun q2 => ?_) (fun q2 => ?_)
  ·
    refine (g_iload_n d167_207 rfl).trans ?_
    exact g_iret d167_208 rfl (nar_01 h01_l1)
  ·
    refine (g_aload_n d167_42 rfl rfl).trans ?_
    refine (g_getR (q := 63) d167_43 f10_48 sh_51 (by decide) rfl).trans ?_
    refine (j_iconst d167_46).trans ?_
    refine (g_iload_n d167_47 rfl).trans ?_
    refine (j_imul d167_48).trans ?_
    refine j_iaload (v := ρ 63 (4 * l2)) d167_49 sh_63 (by omega) rfl (fun q3 => ?_)
    have q4 := hB 63 (4 * l2) (by omega)
    refine (g_istore_n d167_50 (by decide) rfl rfl).trans ?_
    refine (g_aload_n d167_51 rfl rfl).trans ?_
    refine (g_getR (q := 63) d167_52 f10_48 sh_51 (by decide) rfl).trans ?_
    refine (j_iconst d167_55).trans ?_
    refine (g_iload_n d167_56 rfl).trans ?_
    refine (j_imul d167_57).trans ?_
    refine (j_iconst d167_58).trans ?_
    refine (j_iadd d167_59).trans ?_
    refine j_iaload (v := ρ 63 ((4 * l2) + 2)) d167_60 sh_63 (by omega) rfl (fun q5 => ?_)
    have q6 := hB 63 ((4 * l2) + 2) (by omega)
    refine (g_istore d167_61 (by decide) rfl rfl).trans ?_
    refine (g_aload_n d167_63 rfl rfl).trans ?_
    refine (g_getR (q := 63) d167_64 f10_48 sh_51 (by decide) rfl).trans ?_
    refine (j_iconst d167_67).trans ?_
    refine (g_iload_n d167_68 rfl).trans ?_
    refine (j_imul d167_69).trans ?_
    refine (j_iconst d167_70).trans ?_
    refine (j_iadd d167_71).trans ?_
    refine j_iaload (v := ρ 63 ((4 * l2) + 3)) d167_72 sh_63 (by omega) rfl (fun q7 => ?_)
    have q8 := hB 63 ((4 * l2) + 3) (by omega)
    refine (g_aload_n d167_73 rfl rfl).trans ?_
    refine (g_iload d167_74 rfl).trans ?_
    exact g_cV d167_76 k10_199 rfl rfl rfl
set_option maxRecDepth 10000 in
theorem b167_79 {Q : Option Value → mm → Prop} (ρ : rm) (τ : Int64) (l1 : Int) (l2 : Int) (l3 : Int) (l4 : Int) (t : List (Option Value)) (s0 : Int) (r : Int) (hB : BM ρ) (h_l1 : SM l1) (h_l2 : SM l2) (h_l3 : SM l3) (h_l4 : SM l4) (h_s0 : SM s0) (h_r : SM r) : G 167 79 (some (.ref 51) :: some (vI l1) :: some (vI l2) :: some (vI l3) :: some (vI l4) :: t) ((some (vI r)).toList ++ [vI s0]) (toM ρ τ) Q = (if 0 ≤ ((4 * l2) + 1) ∧ ((4 * l2) + 1) < 40 then G 137 0 [some (.ref 51), some (vI l3)] [] (toM ρ τ) (fun v μ2 => G 167 96 (some (.ref 51) :: some (vI l1) :: some (vI l2) :: some (vI l3) :: some (vI l4) :: t) (v.toList ++ [vI ((s0 + r) - (ρ 63 ((4 * l2) + 1)))]) μ2 Q) else False) := by
  refine (j_iadd d167_79).trans ?_
  refine (g_aload_n d167_80 rfl rfl).trans ?_
  refine (g_getR (q := 63) d167_81 f10_48 sh_51 (by decide) rfl).trans ?_
  refine (j_iconst d167_84).trans ?_
  refine (g_iload_n d167_85 rfl).trans ?_
  refine (j_imul d167_86).trans ?_
  refine (j_iconst d167_87).trans ?_
  refine (j_iadd d167_88).trans ?_
  refine j_iaload (v := ρ 63 ((4 * l2) + 1)) d167_89 sh_63 (by omega) rfl (fun q1 => ?_)
  have q2 := hB 63 ((4 * l2) + 1) (by omega)
  refine (j_isub d167_90).trans ?_
  refine (g_aload_n d167_91 rfl rfl).trans ?_
  refine (g_iload_n d167_92 rfl).trans ?_
  exact g_cV d167_93 k10_199 rfl rfl rfl
set_option maxRecDepth 10000 in
theorem b167_96 {Q : Option Value → mm → Prop} (ρ : rm) (τ : Int64) (l1 : Int) (l2 : Int) (l3 : Int) (l4 : Int) (t : List (Option Value)) (s0 : Int) (r : Int) (hB : BM ρ) (h_l1 : SM l1) (h_l2 : SM l2) (h_l3 : SM l3) (h_l4 : SM l4) (h_s0 : SM s0) (h_r : SM r) : G 167 96 (some (.ref 51) :: some (vI l1) :: some (vI l2) :: some (vI l3) :: some (vI l4) :: t) ((some (vI r)).toList ++ [vI s0]) (toM ρ τ) Q = (if 0 ≤ l3 ∧ l3 < 10 then (if 0 ≤ l4 ∧ l4 < 10 then (if (ρ 66 l3) = (ρ 66 l4) then (if l1 = 0 then G 167 34 (some (.ref 51) :: some (vI 0) :: some (vI (l2 + 1)) :: some (vI l3) :: some (vI l4) :: some (vI (Int.tmod ((s0 - r) + 144000) 1440)) :: t.tail) [] (toM ρ τ) Q else (if 0 ≤ l4 ∧ l4 < 10 then (if 0 ≤ l3 ∧ l3 < 10 then (if (Int.tmod (((ρ 67 l4) - (ρ 67 l3)) - (Int.tmod ((s0 - r) + 144000) 1440)) 1440) = 0 then G 167 34 (some (.ref 51) :: some (vI 1) :: some (vI (l2 + 1)) :: some (vI l3) :: some (vI l4) :: some (vI (Int.tmod ((s0 - r) + 144000) 1440)) :: t.tail) [] (toM ρ τ) Q else G 167 34 (some (.ref 51) :: some (vI 0) :: some (vI (l2 + 1)) :: some (vI l3) :: some (vI l4) :: some (vI (Int.tmod ((s0 - r) + 144000) 1440)) :: t.tail) [] (toM ρ τ) Q) else False) else False)) else (if 0 ≤ l4 ∧ l4 < 10 then (if 0 ≤ l3 ∧ l3 < 10 then (if 0 ≤ l3 ∧ l3 < 10 then (if 0 ≤ l4 ∧ l4 < 10 then G 168 0 [some (.ref 51), some (vI (ρ 66 l4)), some (vI (ρ 66 l3)), some (vI (Int.tmod ((((ρ 67 l3) + (Int.tmod ((s0 - r) + 144000) 1440)) - (ρ 67 l4)) + 2880) 1440))] [] (toM ρ τ) (fun v μ2 => G 167 201 (some (.ref 51) :: some (vI l1) :: some (vI l2) :: some (vI l3) :: some (vI l4) :: some (vI (Int.tmod ((s0 - r) + 144000) 1440)) :: t.tail) (v.toList ++ []) μ2 Q) else False) else False) else False) else False)) else False) else False) := by
  refine (j_isub d167_96).trans ?_
  refine (j_ldc (n := 144000) d167_97 cs10_203 (by decide)).trans ?_
  refine (j_iadd d167_99).trans ?_
  refine (j_sipush d167_100 (by decide)).trans ?_
  refine (j_irem d167_103 (by omega) (by omega) (by omega)).trans ?_
  have q1 := tmod_bd ((s0 - r) + 144000) (b := 1440) (by omega)
  refine (g_istore d167_104 (by decide) rfl rfl).trans ?_
  refine (g_aload_n d167_106 rfl rfl).trans ?_
  refine (g_getR (q := 66) d167_107 f10_57 sh_51 (by decide) rfl).trans ?_
  refine (g_iload_n d167_110 rfl).trans ?_
  refine j_iaload (v := ρ 66 l3) d167_111 sh_66 (by omega) rfl (fun q2 => ?_)
  have q3 := hB 66 l3 (by omega)
  refine (g_aload_n d167_112 rfl rfl).trans ?_
  refine (g_getR (q := 66) d167_113 f10_57 sh_51 (by decide) rfl).trans ?_
  refine (g_iload d167_116 rfl).trans ?_
  refine j_iaload (v := ρ 66 l4) d167_118 sh_66 (by omega) rfl (fun q4 => ?_)
  have q5 := hB 66 l4 (by omega)
  refine j_icmp_ne (tgt := 159) d167_119 (by decide) (by omega) (by omega) (fun q6 => ?_) (fun q6 => ?_)
  ·
    refine (g_iload_n d167_122 rfl).trans ?_
    refine j_if_eq (tgt := 154) d167_123 (by decide) (by omega) (fun q7 => ?_) (fun q7 => ?_)
    ·
      refine (j_iconst d167_154).trans ?_
      refine (g_istore_n d167_155 (by decide) rfl rfl).trans ?_
      refine (g_goto (tgt := 201) d167_156 (by decide)).trans ?_
      refine (j_iinc d167_201 rfl (by decide) rfl rfl).trans ?_
      refine (g_goto (tgt := 34) d167_204 (by decide)).trans ?_
      rfl
    ·
      refine (g_aload_n d167_126 rfl rfl).trans ?_
      refine (g_getR (q := 67) d167_127 f10_60 sh_51 (by decide) rfl).trans ?_
      refine (g_iload d167_130 rfl).trans ?_
      refine j_iaload (v := ρ 67 l4) d167_132 sh_67 (by omega) rfl (fun q8 => ?_)
      have q9 := hB 67 l4 (by omega)
      refine (g_aload_n d167_133 rfl rfl).trans ?_
      refine (g_getR (q := 67) d167_134 f10_60 sh_51 (by decide) rfl).trans ?_
      refine (g_iload_n d167_137 rfl).trans ?_
      refine j_iaload (v := ρ 67 l3) d167_138 sh_67 (by omega) rfl (fun q10 => ?_)
      have q11 := hB 67 l3 (by omega)
      refine (j_isub d167_139).trans ?_
      refine (g_iload d167_140 rfl).trans ?_
      refine (j_isub d167_142).trans ?_
      refine (j_sipush d167_143 (by decide)).trans ?_
      refine (j_irem d167_146 (by omega) (by omega) (by omega)).trans ?_
      have q12 := tmod_bd (((ρ 67 l4) - (ρ 67 l3)) - (Int.tmod ((s0 - r) + 144000) 1440)) (b := 1440) (by omega)
      refine j_if_ne (tgt := 154) d167_147 (by decide) (by omega) (fun q13 => ?_) (fun q13 => ?_)
      ·
        refine (j_iconst d167_150).trans ?_
        refine (g_goto (tgt := 155) d167_151 (by decide)).trans ?_
        refine (g_istore_n d167_155 (by decide) rfl rfl).trans ?_
        refine (g_goto (tgt := 201) d167_156 (by decide)).trans ?_
        refine (j_iinc d167_201 rfl (by decide) rfl rfl).trans ?_
        refine (g_goto (tgt := 34) d167_204 (by decide)).trans ?_
        rfl
      ·
        refine (j_iconst d167_154).trans ?_
        refine (g_istore_n d167_155 (by decide) rfl rfl).trans ?_
        refine (g_goto (tgt := 201) d167_156 (by decide)).trans ?_
        refine (j_iinc d167_201 rfl (by decide) rfl rfl).trans ?_
        refine (g_goto (tgt := 34) d167_204 (by decide)).trans ?_
        rfl
  ·
    refine (g_aload_n d167_159 rfl rfl).trans ?_
    refine (g_aload_n d167_160 rfl rfl).trans ?_
    refine (g_getR (q := 66) d167_161 f10_57 sh_51 (by decide) rfl).trans ?_
    refine (g_iload d167_164 rfl).trans ?_
    refine j_iaload (v := ρ 66 l4) d167_166 sh_66 (by omega) rfl (fun q14 => ?_)
    refine (g_aload_n d167_167 rfl rfl).trans ?_
    refine (g_getR (q := 66) d167_168 f10_57 sh_51 (by decide) rfl).trans ?_
    refine (g_iload_n d167_171 rfl).trans ?_
    refine j_iaload (v := ρ 66 l3) d167_172 sh_66 (by omega) rfl (fun q15 => ?_)
    refine (g_aload_n d167_173 rfl rfl).trans ?_
    refine (g_getR (q := 67) d167_174 f10_60 sh_51 (by decide) rfl).trans ?_
    refine (g_iload_n d167_177 rfl).trans ?_
    refine j_iaload (v := ρ 67 l3) d167_178 sh_67 (by omega) rfl (fun q16 => ?_)
    have q17 := hB 67 l3 (by omega)
    refine (g_iload d167_179 rfl).trans ?_
    refine (j_iadd d167_181).trans ?_
    refine (g_aload_n d167_182 rfl rfl).trans ?_
    refine (g_getR (q := 67) d167_183 f10_60 sh_51 (by decide) rfl).trans ?_
    refine (g_iload d167_186 rfl).trans ?_
    refine j_iaload (v := ρ 67 l4) d167_188 sh_67 (by omega) rfl (fun q18 => ?_)
    have q19 := hB 67 l4 (by omega)
    refine (j_isub d167_189).trans ?_
    refine (j_sipush d167_190 (by decide)).trans ?_
    refine (j_iadd d167_193).trans ?_
    refine (j_sipush d167_194 (by decide)).trans ?_
    refine (j_irem d167_197 (by omega) (by omega) (by omega)).trans ?_
    have q20 := tmod_bd ((((ρ 67 l3) + (Int.tmod ((s0 - r) + 144000) 1440)) - (ρ 67 l4)) + 2880) (b := 1440) (by omega)
    exact g_cV d167_198 k10_237 rfl rfl rfl
set_option maxRecDepth 10000 in
theorem b167_201 {Q : Option Value → mm → Prop} (ρ : rm) (τ : Int64) (l1 : Int) (l2 : Int) (l3 : Int) (l4 : Int) (l5 : Int) (t : List (Option Value)) (hB : BM ρ) (h_l1 : SM l1) (h_l2 : SM l2) (h_l3 : SM l3) (h_l4 : SM l4) (h_l5 : SM l5) : G 167 201 (some (.ref 51) :: some (vI l1) :: some (vI l2) :: some (vI l3) :: some (vI l4) :: some (vI l5) :: t) ((none : Option Value).toList ++ []) (toM ρ τ) Q = G 167 34 (some (.ref 51) :: some (vI l1) :: some (vI (l2 + 1)) :: some (vI l3) :: some (vI l4) :: some (vI l5) :: t) [] (toM ρ τ) Q := by
  refine (j_iinc d167_201 rfl (by decide) rfl rfl).trans ?_
  refine (g_goto (tgt := 34) d167_204 (by decide)).trans ?_
  rfl
theorem d168_0 : ins 168 0 = some (.iconst 0) := by decide +kernel
theorem d168_1 : ins 168 1 = some (.istore 4) := by decide +kernel
theorem d168_3 : ins 168 3 = some (.iload 4) := by decide +kernel
theorem d168_5 : ins 168 5 = some (.aload_n 0) := by decide +kernel
theorem d168_6 : ins 168 6 = some (.getfield 7) := by decide +kernel
theorem d168_9 : ins 168 9 = some (.if_icmp .ge 48) := by decide +kernel
theorem d168_12 : ins 168 12 = some (.aload_n 0) := by decide +kernel
theorem d168_13 : ins 168 13 = some (.getfield 57) := by decide +kernel
theorem d168_16 : ins 168 16 = some (.iload 4) := by decide +kernel
theorem d168_18 : ins 168 18 = some (.iaload) := by decide +kernel
theorem d168_19 : ins 168 19 = some (.iload_n 1) := by decide +kernel
theorem d168_20 : ins 168 20 = some (.if_icmp .ne 31) := by decide +kernel
theorem d168_23 : ins 168 23 = some (.aload_n 0) := by decide +kernel
theorem d168_24 : ins 168 24 = some (.getfield 57) := by decide +kernel
theorem d168_27 : ins 168 27 = some (.iload 4) := by decide +kernel
theorem d168_29 : ins 168 29 = some (.iload_n 2) := by decide +kernel
theorem d168_30 : ins 168 30 = some (.iastore) := by decide +kernel
theorem d168_31 : ins 168 31 = some (.aload_n 0) := by decide +kernel
theorem d168_32 : ins 168 32 = some (.getfield 60) := by decide +kernel
theorem d168_35 : ins 168 35 = some (.iload 4) := by decide +kernel
theorem d168_37 : ins 168 37 = some (.aload_n 0) := by decide +kernel
theorem d168_38 : ins 168 38 = some (.getfield 60) := by decide +kernel
theorem d168_41 : ins 168 41 = some (.iload 4) := by decide +kernel
theorem d168_43 : ins 168 43 = some (.iaload) := by decide +kernel
theorem d168_44 : ins 168 44 = some (.iload_n 3) := by decide +kernel
theorem d168_45 : ins 168 45 = some (.iadd) := by decide +kernel
theorem d168_46 : ins 168 46 = some (.sipush 1440) := by decide +kernel
theorem d168_49 : ins 168 49 = some (.irem) := by decide +kernel
theorem d168_50 : ins 168 50 = some (.iastore) := by decide +kernel
theorem d168_51 : ins 168 51 = some (.iinc 4 1) := by decide +kernel
theorem d168_54 : ins 168 54 = some (.goto (-51)) := by decide +kernel
theorem d168_57 : ins 168 57 = some (.return_) := by decide +kernel
set_option maxRecDepth 10000 in
theorem b168_0 {Q : Option Value → mm → Prop} (ρ : rm) (τ : Int64) (a1 : Int) (a2 : Int) (a3 : Int) (hB : BM ρ) (h_a1 : SM a1) (h_a2 : SM a2) (h_a3 : SM a3) : G 168 0 (some (.ref 51) :: some (vI a1) :: some (vI a2) :: some (vI a3) :: []) [] (toM ρ τ) Q = G 168 3 (some (.ref 51) :: some (vI a1) :: some (vI a2) :: some (vI a3) :: some (vI 0) :: []) [] (toM ρ τ) Q := by
  refine (j_iconst d168_0).trans ?_
  refine (g_istore d168_1 (by decide) rfl rfl).trans ?_
  rfl
set_option maxRecDepth 10000 in
theorem b168_3 {Q : Option Value → mm → Prop} (ρ : rm) (τ : Int64) (l1 : Int) (l2 : Int) (l3 : Int) (l4 : Int) (t : List (Option Value)) (hB : BM ρ) (h_l1 : SM l1) (h_l2 : SM l2) (h_l3 : SM l3) (h_l4 : SM l4) : G 168 3 (some (.ref 51) :: some (vI l1) :: some (vI l2) :: some (vI l3) :: some (vI l4) :: t) [] (toM ρ τ) Q = (if (ρ 51 0) ≤ l4 then Q none (toM ρ τ) else (if 0 ≤ l4 ∧ l4 < 10 then (if (ρ 66 l4) = l1 then (if 0 ≤ l4 ∧ l4 < 10 then (if 0 ≤ l4 ∧ l4 < 10 then (if 0 ≤ l4 ∧ l4 < 10 then G 168 3 (some (.ref 51) :: some (vI l1) :: some (vI l2) :: some (vI l3) :: some (vI (l4 + 1)) :: t) [] (toM (rup (rup ρ 66 l4 l2) 67 l4 (Int.tmod ((ρ 67 l4) + l3) 1440)) τ) Q else False) else False) else False) else G 168 3 (some (.ref 51) :: some (vI l1) :: some (vI l2) :: some (vI l3) :: some (vI (l4 + 1)) :: t) [] (toM ρ τ) Q) else False)) := by
  refine (g_iload d168_3 rfl).trans ?_
  refine (g_aload_n d168_5 rfl rfl).trans ?_
  refine (j_getI (v := ρ 51 0) d168_6 f10_7 sh_51 (by decide) rfl rfl).trans ?_
  have q1 := hB 51 0 (by decide)
  refine j_icmp_ge (tgt := 57) d168_9 (by decide) (by omega) (by omega) (fun q2 => ?_) (fun q2 => ?_)
  ·
    exact g_ret d168_57 rfl
  ·
    refine (g_aload_n d168_12 rfl rfl).trans ?_
    refine (g_getR (q := 66) d168_13 f10_57 sh_51 (by decide) rfl).trans ?_
    refine (g_iload d168_16 rfl).trans ?_
    refine j_iaload (v := ρ 66 l4) d168_18 sh_66 (by omega) rfl (fun q3 => ?_)
    have q4 := hB 66 l4 (by omega)
    refine (g_iload_n d168_19 rfl).trans ?_
    refine j_icmp_ne (tgt := 51) d168_20 (by decide) (by omega) (by omega) (fun q5 => ?_) (fun q5 => ?_)
    ·
      refine (g_aload_n d168_23 rfl rfl).trans ?_
      refine (g_getR (q := 66) d168_24 f10_57 sh_51 (by decide) rfl).trans ?_
      refine (g_iload d168_27 rfl).trans ?_
      refine (g_iload_n d168_29 rfl).trans ?_
      refine j_iastore d168_30 sh_66 (by omega) (fun q6 => ?_)
      refine (g_aload_n d168_31 rfl rfl).trans ?_
      refine (g_getR (q := 67) d168_32 f10_60 sh_51 (by decide) rfl).trans ?_
      refine (g_iload d168_35 rfl).trans ?_
      refine (g_aload_n d168_37 rfl rfl).trans ?_
      refine (g_getR (q := 67) d168_38 f10_60 sh_51 (by decide) rfl).trans ?_
      refine (g_iload d168_41 rfl).trans ?_
      refine j_iaload (v := ρ 67 l4) d168_43 sh_67 (by omega) (by simp [rup]) (fun q7 => ?_)
      have q8 := hB 67 l4 (by omega)
      refine (g_iload_n d168_44 rfl).trans ?_
      refine (j_iadd d168_45).trans ?_
      refine (j_sipush d168_46 (by decide)).trans ?_
      refine (j_irem d168_49 (by omega) (by omega) (by omega)).trans ?_
      have q9 := tmod_bd ((ρ 67 l4) + l3) (b := 1440) (by omega)
      refine j_iastore d168_50 sh_67 (by omega) (fun q10 => ?_)
      refine (j_iinc d168_51 rfl (by decide) rfl rfl).trans ?_
      refine (g_goto (tgt := 3) d168_54 (by decide)).trans ?_
      rfl
    ·
      refine (j_iinc d168_51 rfl (by decide) rfl rfl).trans ?_
      refine (g_goto (tgt := 3) d168_54 (by decide)).trans ?_
      rfl
theorem d169_0 : ins 169 0 = some (.iconst 1) := by decide +kernel
theorem d169_1 : ins 169 1 = some (.istore_n 2) := by decide +kernel
theorem d169_2 : ins 169 2 = some (.iconst 0) := by decide +kernel
theorem d169_3 : ins 169 3 = some (.istore_n 3) := by decide +kernel
theorem d169_4 : ins 169 4 = some (.iload_n 3) := by decide +kernel
theorem d169_5 : ins 169 5 = some (.aload_n 0) := by decide +kernel
theorem d169_6 : ins 169 6 = some (.getfield 7) := by decide +kernel
theorem d169_9 : ins 169 9 = some (.if_icmp .ge 83) := by decide +kernel
theorem d169_12 : ins 169 12 = some (.iconst 0) := by decide +kernel
theorem d169_13 : ins 169 13 = some (.istore 4) := by decide +kernel
theorem d169_15 : ins 169 15 = some (.iload 4) := by decide +kernel
theorem d169_17 : ins 169 17 = some (.iload_n 3) := by decide +kernel
theorem d169_18 : ins 169 18 = some (.if_icmp .ge 68) := by decide +kernel
theorem d169_21 : ins 169 21 = some (.iload_n 2) := by decide +kernel
theorem d169_22 : ins 169 22 = some (.ifCond .eq 56) := by decide +kernel
theorem d169_25 : ins 169 25 = some (.iload_n 1) := by decide +kernel
theorem d169_26 : ins 169 26 = some (.iload_n 3) := by decide +kernel
theorem d169_27 : ins 169 27 = some (.invokestatic 241) := by decide +kernel
theorem d169_30 : ins 169 30 = some (.ifCond .ne 44) := by decide +kernel
theorem d169_33 : ins 169 33 = some (.iload_n 1) := by decide +kernel
theorem d169_34 : ins 169 34 = some (.iload 4) := by decide +kernel
theorem d169_36 : ins 169 36 = some (.invokestatic 241) := by decide +kernel
theorem d169_39 : ins 169 39 = some (.ifCond .ne 35) := by decide +kernel
theorem d169_42 : ins 169 42 = some (.aload_n 0) := by decide +kernel
theorem d169_43 : ins 169 43 = some (.getfield 57) := by decide +kernel
theorem d169_46 : ins 169 46 = some (.iload_n 3) := by decide +kernel
theorem d169_47 : ins 169 47 = some (.iaload) := by decide +kernel
theorem d169_48 : ins 169 48 = some (.aload_n 0) := by decide +kernel
theorem d169_49 : ins 169 49 = some (.getfield 57) := by decide +kernel
theorem d169_52 : ins 169 52 = some (.iload 4) := by decide +kernel
theorem d169_54 : ins 169 54 = some (.iaload) := by decide +kernel
theorem d169_55 : ins 169 55 = some (.if_icmp .ne 19) := by decide +kernel
theorem d169_58 : ins 169 58 = some (.aload_n 0) := by decide +kernel
theorem d169_59 : ins 169 59 = some (.getfield 60) := by decide +kernel
theorem d169_62 : ins 169 62 = some (.iload_n 3) := by decide +kernel
theorem d169_63 : ins 169 63 = some (.iaload) := by decide +kernel
theorem d169_64 : ins 169 64 = some (.aload_n 0) := by decide +kernel
theorem d169_65 : ins 169 65 = some (.getfield 60) := by decide +kernel
theorem d169_68 : ins 169 68 = some (.iload 4) := by decide +kernel
theorem d169_70 : ins 169 70 = some (.iaload) := by decide +kernel
theorem d169_71 : ins 169 71 = some (.if_icmp .ne 7) := by decide +kernel
theorem d169_74 : ins 169 74 = some (.iconst 1) := by decide +kernel
theorem d169_75 : ins 169 75 = some (.goto 4) := by decide +kernel
theorem d169_78 : ins 169 78 = some (.iconst 0) := by decide +kernel
theorem d169_79 : ins 169 79 = some (.istore_n 2) := by decide +kernel
theorem d169_80 : ins 169 80 = some (.iinc 4 1) := by decide +kernel
theorem d169_83 : ins 169 83 = some (.goto (-68)) := by decide +kernel
theorem d169_86 : ins 169 86 = some (.iinc 3 1) := by decide +kernel
theorem d169_89 : ins 169 89 = some (.goto (-85)) := by decide +kernel
theorem d169_92 : ins 169 92 = some (.iload_n 2) := by decide +kernel
theorem d169_93 : ins 169 93 = some (.ireturn) := by decide +kernel
set_option maxRecDepth 10000 in
theorem b169_0 {Q : Option Value → mm → Prop} (ρ : rm) (τ : Int64) (a1 : Int) (hB : BM ρ) (h_a1 : SM a1) : G 169 0 (some (.ref 51) :: some (vI a1) :: []) [] (toM ρ τ) Q = G 169 4 (some (.ref 51) :: some (vI a1) :: some (vI 1) :: some (vI 0) :: []) [] (toM ρ τ) Q := by
  refine (j_iconst d169_0).trans ?_
  refine (g_istore_n d169_1 (by decide) rfl rfl).trans ?_
  refine (j_iconst d169_2).trans ?_
  refine (g_istore_n d169_3 (by decide) rfl rfl).trans ?_
  rfl
set_option maxRecDepth 10000 in
theorem b169_4 {Q : Option Value → mm → Prop} (ρ : rm) (τ : Int64) (l1 : Int) (l2 : Int) (l3 : Int) (t : List (Option Value)) (hB : BM ρ) (h_l1 : SM l1) (h_l2 : SM l2) (h_l3 : SM l3) (h01_l2 : l2 = 0 ∨ l2 = 1) : G 169 4 (some (.ref 51) :: some (vI l1) :: some (vI l2) :: some (vI l3) :: t) [] (toM ρ τ) Q = (if (ρ 51 0) ≤ l3 then Q (some (vI l2)) (toM ρ τ) else G 169 15 (some (.ref 51) :: some (vI l1) :: some (vI l2) :: some (vI l3) :: some (vI 0) :: t.tail) [] (toM ρ τ) Q) := by
  refine (g_iload_n d169_4 rfl).trans ?_
  refine (g_aload_n d169_5 rfl rfl).trans ?_
  refine (j_getI (v := ρ 51 0) d169_6 f10_7 sh_51 (by decide) rfl rfl).trans ?_
  have q1 := hB 51 0 (by decide)
  refine j_icmp_ge (tgt := 92) d169_9 (by decide) (by omega) (by omega) (fun q2 => ?_) (fun q2 => ?_)
  ·
    refine (g_iload_n d169_92 rfl).trans ?_
    exact g_iret d169_93 rfl (nar_01 h01_l2)
  ·
    refine (j_iconst d169_12).trans ?_
    refine (g_istore d169_13 (by decide) rfl rfl).trans ?_
    rfl
set_option maxRecDepth 10000 in
theorem b169_15 {Q : Option Value → mm → Prop} (ρ : rm) (τ : Int64) (l1 : Int) (l2 : Int) (l3 : Int) (l4 : Int) (t : List (Option Value)) (hB : BM ρ) (h_l1 : SM l1) (h_l2 : SM l2) (h_l3 : SM l3) (h_l4 : SM l4) : G 169 15 (some (.ref 51) :: some (vI l1) :: some (vI l2) :: some (vI l3) :: some (vI l4) :: t) [] (toM ρ τ) Q = (if l3 ≤ l4 then G 169 4 (some (.ref 51) :: some (vI l1) :: some (vI l2) :: some (vI (l3 + 1)) :: some (vI l4) :: t) [] (toM ρ τ) Q else (if l2 = 0 then G 169 15 (some (.ref 51) :: some (vI l1) :: some (vI 0) :: some (vI l3) :: some (vI (l4 + 1)) :: t) [] (toM ρ τ) Q else G 118 0 [some (vI l1), some (vI l3)] [] (toM ρ τ) (fun v μ2 => G 169 30 (some (.ref 51) :: some (vI l1) :: some (vI l2) :: some (vI l3) :: some (vI l4) :: t) (v.toList ++ []) μ2 Q))) := by
  refine (g_iload d169_15 rfl).trans ?_
  refine (g_iload_n d169_17 rfl).trans ?_
  refine j_icmp_ge (tgt := 86) d169_18 (by decide) (by omega) (by omega) (fun q1 => ?_) (fun q1 => ?_)
  ·
    refine (j_iinc d169_86 rfl (by decide) rfl rfl).trans ?_
    refine (g_goto (tgt := 4) d169_89 (by decide)).trans ?_
    rfl
  ·
    refine (g_iload_n d169_21 rfl).trans ?_
    refine j_if_eq (tgt := 78) d169_22 (by decide) (by omega) (fun q2 => ?_) (fun q2 => ?_)
    ·
      refine (j_iconst d169_78).trans ?_
      refine (g_istore_n d169_79 (by decide) rfl rfl).trans ?_
      refine (j_iinc d169_80 rfl (by decide) rfl rfl).trans ?_
      refine (g_goto (tgt := 15) d169_83 (by decide)).trans ?_
      rfl
    ·
      refine (g_iload_n d169_25 rfl).trans ?_
      refine (g_iload_n d169_26 rfl).trans ?_
      exact g_cS d169_27 k10_241 rfl rfl rfl
set_option maxRecDepth 10000 in
theorem b169_30 {Q : Option Value → mm → Prop} (ρ : rm) (τ : Int64) (l1 : Int) (l2 : Int) (l3 : Int) (l4 : Int) (t : List (Option Value)) (r : Int) (hB : BM ρ) (h_l1 : SM l1) (h_l2 : SM l2) (h_l3 : SM l3) (h_l4 : SM l4) (h_r : SM r) : G 169 30 (some (.ref 51) :: some (vI l1) :: some (vI l2) :: some (vI l3) :: some (vI l4) :: t) ((some (vI r)).toList ++ []) (toM ρ τ) Q = (if r = 0 then G 118 0 [some (vI l1), some (vI l4)] [] (toM ρ τ) (fun v μ2 => G 169 39 (some (.ref 51) :: some (vI l1) :: some (vI l2) :: some (vI l3) :: some (vI l4) :: t) (v.toList ++ []) μ2 Q) else G 169 15 (some (.ref 51) :: some (vI l1) :: some (vI 1) :: some (vI l3) :: some (vI (l4 + 1)) :: t) [] (toM ρ τ) Q) := by
  refine j_if_ne (tgt := 74) d169_30 (by decide) (by omega) (fun q1 => ?_) (fun q1 => ?_)
  ·
    refine (g_iload_n d169_33 rfl).trans ?_
    refine (g_iload d169_34 rfl).trans ?_
    exact g_cS d169_36 k10_241 rfl rfl rfl
  ·
    refine (j_iconst d169_74).trans ?_
    refine (g_goto (tgt := 79) d169_75 (by decide)).trans ?_
    refine (g_istore_n d169_79 (by decide) rfl rfl).trans ?_
    refine (j_iinc d169_80 rfl (by decide) rfl rfl).trans ?_
    refine (g_goto (tgt := 15) d169_83 (by decide)).trans ?_
    rfl
set_option maxRecDepth 10000 in
theorem b169_39 {Q : Option Value → mm → Prop} (ρ : rm) (τ : Int64) (l1 : Int) (l2 : Int) (l3 : Int) (l4 : Int) (t : List (Option Value)) (r : Int) (hB : BM ρ) (h_l1 : SM l1) (h_l2 : SM l2) (h_l3 : SM l3) (h_l4 : SM l4) (h_r : SM r) : G 169 39 (some (.ref 51) :: some (vI l1) :: some (vI l2) :: some (vI l3) :: some (vI l4) :: t) ((some (vI r)).toList ++ []) (toM ρ τ) Q = (if r = 0 then (if 0 ≤ l3 ∧ l3 < 10 then (if 0 ≤ l4 ∧ l4 < 10 then (if (ρ 66 l3) = (ρ 66 l4) then (if 0 ≤ l3 ∧ l3 < 10 then (if 0 ≤ l4 ∧ l4 < 10 then (if (ρ 67 l3) = (ρ 67 l4) then G 169 15 (some (.ref 51) :: some (vI l1) :: some (vI 1) :: some (vI l3) :: some (vI (l4 + 1)) :: t) [] (toM ρ τ) Q else G 169 15 (some (.ref 51) :: some (vI l1) :: some (vI 0) :: some (vI l3) :: some (vI (l4 + 1)) :: t) [] (toM ρ τ) Q) else False) else False) else G 169 15 (some (.ref 51) :: some (vI l1) :: some (vI 1) :: some (vI l3) :: some (vI (l4 + 1)) :: t) [] (toM ρ τ) Q) else False) else False) else G 169 15 (some (.ref 51) :: some (vI l1) :: some (vI 1) :: some (vI l3) :: some (vI (l4 + 1)) :: t) [] (toM ρ τ) Q) := by
  refine j_if_ne (tgt := 74) d169_39 (by decide) (by omega) (fun q1 => ?_) (fun q1 => ?_)
  ·
    refine (g_aload_n d169_42 rfl rfl).trans ?_
    refine (g_getR (q := 66) d169_43 f10_57 sh_51 (by decide) rfl).trans ?_
    refine (g_iload_n d169_46 rfl).trans ?_
    refine j_iaload (v := ρ 66 l3) d169_47 sh_66 (by omega) rfl (fun q2 => ?_)
    have q3 := hB 66 l3 (by omega)
    refine (g_aload_n d169_48 rfl rfl).trans ?_
    refine (g_getR (q := 66) d169_49 f10_57 sh_51 (by decide) rfl).trans ?_
    refine (g_iload d169_52 rfl).trans ?_
    refine j_iaload (v := ρ 66 l4) d169_54 sh_66 (by omega) rfl (fun q4 => ?_)
    have q5 := hB 66 l4 (by omega)
    refine j_icmp_ne (tgt := 74) d169_55 (by decide) (by omega) (by omega) (fun q6 => ?_) (fun q6 => ?_)
    ·
      refine (g_aload_n d169_58 rfl rfl).trans ?_
      refine (g_getR (q := 67) d169_59 f10_60 sh_51 (by decide) rfl).trans ?_
      refine (g_iload_n d169_62 rfl).trans ?_
      refine j_iaload (v := ρ 67 l3) d169_63 sh_67 (by omega) rfl (fun q7 => ?_)
      have q8 := hB 67 l3 (by omega)
      refine (g_aload_n d169_64 rfl rfl).trans ?_
      refine (g_getR (q := 67) d169_65 f10_60 sh_51 (by decide) rfl).trans ?_
      refine (g_iload d169_68 rfl).trans ?_
      refine j_iaload (v := ρ 67 l4) d169_70 sh_67 (by omega) rfl (fun q9 => ?_)
      have q10 := hB 67 l4 (by omega)
      refine j_icmp_ne (tgt := 78) d169_71 (by decide) (by omega) (by omega) (fun q11 => ?_) (fun q11 => ?_)
      ·
        refine (j_iconst d169_74).trans ?_
        refine (g_goto (tgt := 79) d169_75 (by decide)).trans ?_
        refine (g_istore_n d169_79 (by decide) rfl rfl).trans ?_
        refine (j_iinc d169_80 rfl (by decide) rfl rfl).trans ?_
        refine (g_goto (tgt := 15) d169_83 (by decide)).trans ?_
        rfl
      ·
        refine (j_iconst d169_78).trans ?_
        refine (g_istore_n d169_79 (by decide) rfl rfl).trans ?_
        refine (j_iinc d169_80 rfl (by decide) rfl rfl).trans ?_
        refine (g_goto (tgt := 15) d169_83 (by decide)).trans ?_
        rfl
    ·
      refine (j_iconst d169_74).trans ?_
      refine (g_goto (tgt := 79) d169_75 (by decide)).trans ?_
      refine (g_istore_n d169_79 (by decide) rfl rfl).trans ?_
      refine (j_iinc d169_80 rfl (by decide) rfl rfl).trans ?_
      refine (g_goto (tgt := 15) d169_83 (by decide)).trans ?_
      rfl
  ·
    refine (j_iconst d169_74).trans ?_
    refine (g_goto (tgt := 79) d169_75 (by decide)).trans ?_
    refine (g_istore_n d169_79 (by decide) rfl rfl).trans ?_
    refine (j_iinc d169_80 rfl (by decide) rfl rfl).trans ?_
    refine (g_goto (tgt := 15) d169_83 (by decide)).trans ?_
    rfl
theorem d170_0 : ins 170 0 = some (.iconst 0) := by decide +kernel
theorem d170_1 : ins 170 1 = some (.istore_n 1) := by decide +kernel
theorem d170_2 : ins 170 2 = some (.iconst 0) := by decide +kernel
theorem d170_3 : ins 170 3 = some (.istore_n 2) := by decide +kernel
theorem d170_4 : ins 170 4 = some (.iload_n 2) := by decide +kernel
theorem d170_5 : ins 170 5 = some (.bipush 10) := by decide +kernel
theorem d170_7 : ins 170 7 = some (.if_icmp .ge 17) := by decide +kernel
theorem d170_10 : ins 170 10 = some (.iload_n 1) := by decide +kernel
theorem d170_11 : ins 170 11 = some (.iload_n 0) := by decide +kernel
theorem d170_12 : ins 170 12 = some (.iload_n 2) := by decide +kernel
theorem d170_13 : ins 170 13 = some (.ishr) := by decide +kernel
theorem d170_14 : ins 170 14 = some (.iconst 1) := by decide +kernel
theorem d170_15 : ins 170 15 = some (.iand) := by decide +kernel
theorem d170_16 : ins 170 16 = some (.iadd) := by decide +kernel
theorem d170_17 : ins 170 17 = some (.istore_n 1) := by decide +kernel
theorem d170_18 : ins 170 18 = some (.iinc 2 1) := by decide +kernel
theorem d170_21 : ins 170 21 = some (.goto (-17)) := by decide +kernel
theorem d170_24 : ins 170 24 = some (.iload_n 1) := by decide +kernel
theorem d170_25 : ins 170 25 = some (.ireturn) := by decide +kernel
set_option maxRecDepth 10000 in
theorem b170_0 {Q : Option Value → mm → Prop} (ρ : rm) (τ : Int64) (a1 : Int) (hB : BM ρ) (h_a1 : SM a1) : G 170 0 (some (vI a1) :: []) [] (toM ρ τ) Q = G 170 4 (some (vI a1) :: some (vI 0) :: some (vI 0) :: []) [] (toM ρ τ) Q := by
  refine (j_iconst d170_0).trans ?_
  refine (g_istore_n d170_1 (by decide) rfl rfl).trans ?_
  refine (j_iconst d170_2).trans ?_
  refine (g_istore_n d170_3 (by decide) rfl rfl).trans ?_
  rfl
set_option maxRecDepth 10000 in
theorem b170_4 {Q : Option Value → mm → Prop} (ρ : rm) (τ : Int64) (l0 : Int) (l1 : Int) (l2 : Int) (t : List (Option Value)) (hB : BM ρ) (h_l0 : SM l0) (h_l1 : SM l1) (h_l2 : SM l2) : G 170 4 (some (vI l0) :: some (vI l1) :: some (vI l2) :: t) [] (toM ρ τ) Q = (if 10 ≤ l2 then Q (some (vI l1)) (toM ρ τ) else G 170 4 (some (vI l0) :: some (vI (l1 + ((iI ((iI l0 >>> (iI l2 &&& 31)).toInt) &&& iI 1).toInt))) :: some (vI (l2 + 1)) :: t) [] (toM ρ τ) Q) := by
  refine (g_iload_n d170_4 rfl).trans ?_
  refine (j_bipush d170_5 (by decide)).trans ?_
  refine j_icmp_ge (tgt := 24) d170_7 (by decide) (by omega) (by omega) (fun q1 => ?_) (fun q1 => ?_)
  ·
    refine (g_iload_n d170_24 rfl).trans ?_
    exact g_iret d170_25 rfl rfl
  ·
    refine (g_iload_n d170_10 rfl).trans ?_
    refine (g_iload_n d170_11 rfl).trans ?_
    refine (g_iload_n d170_12 rfl).trans ?_
    refine (j_ishr d170_13).trans ?_
    have q2 := SB_of (iI l0 >>> (iI l2 &&& 31))
    refine (j_iconst d170_14).trans ?_
    refine (j_iand d170_15).trans ?_
    have q3 := SB_of (iI ((iI l0 >>> (iI l2 &&& 31)).toInt) &&& iI 1)
    refine (j_iadd d170_16).trans ?_
    refine (g_istore_n d170_17 (by decide) rfl rfl).trans ?_
    refine (j_iinc d170_18 rfl (by decide) rfl rfl).trans ?_
    refine (g_goto (tgt := 4) d170_21 (by decide)).trans ?_
    rfl
theorem d171_0 : ins 171 0 = some (.iload_n 1) := by decide +kernel
theorem d171_1 : ins 171 1 = some (.iconst 0) := by decide +kernel
theorem d171_2 : ins 171 2 = some (.iconst 1) := by decide +kernel
theorem d171_3 : ins 171 3 = some (.invokestatic 69) := by decide +kernel
theorem d171_6 : ins 171 6 = some (.ifCond .ne 6) := by decide +kernel
theorem d171_9 : ins 171 9 = some (.bipush (-3)) := by decide +kernel
theorem d171_11 : ins 171 11 = some (.ireturn) := by decide +kernel
theorem d171_12 : ins 171 12 = some (.aload_n 0) := by decide +kernel
theorem d171_13 : ins 171 13 = some (.invokevirtual 244) := by decide +kernel
theorem d171_16 : ins 171 16 = some (.ifCond .ne 5) := by decide +kernel
theorem d171_19 : ins 171 19 = some (.iconst (-1)) := by decide +kernel
theorem d171_20 : ins 171 20 = some (.ireturn) := by decide +kernel
theorem d171_21 : ins 171 21 = some (.iconst 1) := by decide +kernel
theorem d171_22 : ins 171 22 = some (.aload_n 0) := by decide +kernel
theorem d171_23 : ins 171 23 = some (.getfield 7) := by decide +kernel
theorem d171_26 : ins 171 26 = some (.ishl) := by decide +kernel
theorem d171_27 : ins 171 27 = some (.iconst 1) := by decide +kernel
theorem d171_28 : ins 171 28 = some (.isub) := by decide +kernel
theorem d171_29 : ins 171 29 = some (.istore_n 2) := by decide +kernel
theorem d171_30 : ins 171 30 = some (.iload_n 2) := by decide +kernel
theorem d171_31 : ins 171 31 = some (.iconst 1) := by decide +kernel
theorem d171_32 : ins 171 32 = some (.isub) := by decide +kernel
theorem d171_33 : ins 171 33 = some (.istore_n 3) := by decide +kernel
theorem d171_34 : ins 171 34 = some (.iload_n 3) := by decide +kernel
theorem d171_35 : ins 171 35 = some (.ifCond .lt 34) := by decide +kernel
theorem d171_38 : ins 171 38 = some (.iload_n 3) := by decide +kernel
theorem d171_39 : ins 171 39 = some (.invokestatic 247) := by decide +kernel
theorem d171_42 : ins 171 42 = some (.iload_n 2) := by decide +kernel
theorem d171_43 : ins 171 43 = some (.invokestatic 247) := by decide +kernel
theorem d171_46 : ins 171 46 = some (.if_icmp .gt 15) := by decide +kernel
theorem d171_49 : ins 171 49 = some (.aload_n 0) := by decide +kernel
theorem d171_50 : ins 171 50 = some (.iload_n 3) := by decide +kernel
theorem d171_51 : ins 171 51 = some (.invokevirtual 250) := by decide +kernel
theorem d171_54 : ins 171 54 = some (.ifCond .eq 7) := by decide +kernel
theorem d171_57 : ins 171 57 = some (.iload_n 3) := by decide +kernel
theorem d171_58 : ins 171 58 = some (.goto 4) := by decide +kernel
theorem d171_61 : ins 171 61 = some (.iload_n 2) := by decide +kernel
theorem d171_62 : ins 171 62 = some (.istore_n 2) := by decide +kernel
theorem d171_63 : ins 171 63 = some (.iinc 3 (-1)) := by decide +kernel
theorem d171_66 : ins 171 66 = some (.goto (-32)) := by decide +kernel
theorem d171_69 : ins 171 69 = some (.iload_n 1) := by decide +kernel
theorem d171_70 : ins 171 70 = some (.ifCond .ne 10) := by decide +kernel
theorem d171_73 : ins 171 73 = some (.iload_n 2) := by decide +kernel
theorem d171_74 : ins 171 74 = some (.invokestatic 247) := by decide +kernel
theorem d171_77 : ins 171 77 = some (.goto 4) := by decide +kernel
theorem d171_80 : ins 171 80 = some (.iload_n 2) := by decide +kernel
theorem d171_81 : ins 171 81 = some (.ireturn) := by decide +kernel
set_option maxRecDepth 10000 in
theorem b171_0 {Q : Option Value → mm → Prop} (ρ : rm) (τ : Int64) (a1 : Int) (hB : BM ρ) (h_a1 : SB a1) : G 171 0 (some (.ref 51) :: some (vI a1) :: []) [] (toM ρ τ) Q = G 117 0 [some (vI a1), some (vI 0), some (vI 1)] [] (toM ρ τ) (fun v μ2 => G 171 6 (some (.ref 51) :: some (vI a1) :: []) (v.toList ++ []) μ2 Q) := by
  refine (g_iload_n d171_0 rfl).trans ?_
  refine (j_iconst d171_1).trans ?_
  refine (j_iconst d171_2).trans ?_
  exact g_cS d171_3 k10_69 rfl rfl rfl
set_option maxRecDepth 10000 in
theorem b171_6 {Q : Option Value → mm → Prop} (ρ : rm) (τ : Int64) (l1 : Int) (t : List (Option Value)) (r : Int) (hB : BM ρ) (h_l1 : SB l1) (h_in1 : r = 0 ∨ SM l1) (h_r : SM r) : G 171 6 (some (.ref 51) :: some (vI l1) :: t) ((some (vI r)).toList ++ []) (toM ρ τ) Q = (if r = 0 then Q (some (vI (-3))) (toM ρ τ) else G 167 0 [some (.ref 51)] [] (toM ρ τ) (fun v μ2 => G 171 16 (some (.ref 51) :: some (vI l1) :: t) (v.toList ++ []) μ2 Q)) := by
  refine j_if_ne (tgt := 12) d171_6 (by decide) (by omega) (fun q1 => ?_) (fun q1 => ?_)
  ·
    refine (j_bipush d171_9 (by decide)).trans ?_
    exact g_iret d171_11 rfl rfl
  ·
    refine (g_aload_n d171_12 rfl rfl).trans ?_
    exact g_cV d171_13 k10_244 rfl rfl rfl
set_option maxRecDepth 10000 in
theorem b171_16 {Q : Option Value → mm → Prop} (ρ : rm) (τ : Int64) (l1 : Int) (t : List (Option Value)) (r : Int) (hB : BM ρ) (h_l1 : SM l1) (h_r : SM r) : G 171 16 (some (.ref 51) :: some (vI l1) :: t) ((some (vI r)).toList ++ []) (toM ρ τ) Q = (if r = 0 then Q (some (vI (-1))) (toM ρ τ) else G 171 34 (some (.ref 51) :: some (vI l1) :: some (vI (((iI 1 <<< (iI (ρ 51 0) &&& 31)).toInt) - 1)) :: some (vI ((((iI 1 <<< (iI (ρ 51 0) &&& 31)).toInt) - 1) - 1)) :: t.tail.tail) [] (toM ρ τ) Q) := by
  refine j_if_ne (tgt := 21) d171_16 (by decide) (by omega) (fun q1 => ?_) (fun q1 => ?_)
  ·
    refine (j_iconst d171_19).trans ?_
    exact g_iret d171_20 rfl rfl
  ·
    refine (j_iconst d171_21).trans ?_
    refine (g_aload_n d171_22 rfl rfl).trans ?_
    refine (j_getI (v := ρ 51 0) d171_23 f10_7 sh_51 (by decide) rfl rfl).trans ?_
    have q2 := hB 51 0 (by decide)
    refine (j_ishl d171_26).trans ?_
    have q3 := SB_of (iI 1 <<< (iI (ρ 51 0) &&& 31))
    refine (j_iconst d171_27).trans ?_
    refine (j_isub d171_28).trans ?_
    refine (g_istore_n d171_29 (by decide) rfl rfl).trans ?_
    refine (g_iload_n d171_30 rfl).trans ?_
    refine (j_iconst d171_31).trans ?_
    refine (j_isub d171_32).trans ?_
    refine (g_istore_n d171_33 (by decide) rfl rfl).trans ?_
    rfl
set_option maxRecDepth 10000 in
theorem b171_34 {Q : Option Value → mm → Prop} (ρ : rm) (τ : Int64) (l1 : Int) (l2 : Int) (l3 : Int) (t : List (Option Value)) (hB : BM ρ) (h_l1 : SM l1) (h_l2 : SM l2) (h_l3 : SM l3) : G 171 34 (some (.ref 51) :: some (vI l1) :: some (vI l2) :: some (vI l3) :: t) [] (toM ρ τ) Q = (if l3 < 0 then (if l1 = 0 then G 170 0 [some (vI l2)] [] (toM ρ τ) (fun v μ2 => G 171 77 (some (.ref 51) :: some (vI l1) :: some (vI l2) :: some (vI l3) :: t) (v.toList ++ []) μ2 Q) else Q (some (vI l2)) (toM ρ τ)) else G 170 0 [some (vI l3)] [] (toM ρ τ) (fun v μ2 => G 171 42 (some (.ref 51) :: some (vI l1) :: some (vI l2) :: some (vI l3) :: t) (v.toList ++ []) μ2 Q)) := by
  refine (g_iload_n d171_34 rfl).trans ?_
  refine j_if_lt (tgt := 69) d171_35 (by decide) (by omega) (fun q1 => ?_) (fun q1 => ?_)
  ·
    refine (g_iload_n d171_69 rfl).trans ?_
    refine j_if_ne (tgt := 80) d171_70 (by decide) (by omega) (fun q2 => ?_) (fun q2 => ?_)
    ·
      refine (g_iload_n d171_73 rfl).trans ?_
      exact g_cS d171_74 k10_247 rfl rfl rfl
    ·
      refine (g_iload_n d171_80 rfl).trans ?_
      exact g_iret d171_81 rfl rfl
  ·
    refine (g_iload_n d171_38 rfl).trans ?_
    exact g_cS d171_39 k10_247 rfl rfl rfl
set_option maxRecDepth 10000 in
theorem b171_77 {Q : Option Value → mm → Prop} (ρ : rm) (τ : Int64) (l1 : Int) (l2 : Int) (l3 : Int) (t : List (Option Value)) (r : Int) (hB : BM ρ) (h_l1 : SM l1) (h_l2 : SM l2) (h_l3 : SM l3) (h_r : SM r) : G 171 77 (some (.ref 51) :: some (vI l1) :: some (vI l2) :: some (vI l3) :: t) ((some (vI r)).toList ++ []) (toM ρ τ) Q = Q (some (vI r)) (toM ρ τ) := by
  refine (g_goto (tgt := 81) d171_77 (by decide)).trans ?_
  exact g_iret d171_81 rfl rfl
set_option maxRecDepth 10000 in
theorem b171_42 {Q : Option Value → mm → Prop} (ρ : rm) (τ : Int64) (l1 : Int) (l2 : Int) (l3 : Int) (t : List (Option Value)) (r : Int) (hB : BM ρ) (h_l1 : SM l1) (h_l2 : SM l2) (h_l3 : SM l3) (h_r : SM r) : G 171 42 (some (.ref 51) :: some (vI l1) :: some (vI l2) :: some (vI l3) :: t) ((some (vI r)).toList ++ []) (toM ρ τ) Q = G 170 0 [some (vI l2)] [] (toM ρ τ) (fun v μ2 => G 171 46 (some (.ref 51) :: some (vI l1) :: some (vI l2) :: some (vI l3) :: t) (v.toList ++ [vI r]) μ2 Q) := by
  refine (g_iload_n d171_42 rfl).trans ?_
  exact g_cS d171_43 k10_247 rfl rfl rfl
set_option maxRecDepth 10000 in
theorem b171_46 {Q : Option Value → mm → Prop} (ρ : rm) (τ : Int64) (l1 : Int) (l2 : Int) (l3 : Int) (t : List (Option Value)) (s0 : Int) (r : Int) (hB : BM ρ) (h_l1 : SM l1) (h_l2 : SM l2) (h_l3 : SM l3) (h_s0 : SM s0) (h_r : SM r) : G 171 46 (some (.ref 51) :: some (vI l1) :: some (vI l2) :: some (vI l3) :: t) ((some (vI r)).toList ++ [vI s0]) (toM ρ τ) Q = (if r < s0 then G 171 34 (some (.ref 51) :: some (vI l1) :: some (vI l2) :: some (vI (l3 + (-1))) :: t) [] (toM ρ τ) Q else G 169 0 [some (.ref 51), some (vI l3)] [] (toM ρ τ) (fun v μ2 => G 171 54 (some (.ref 51) :: some (vI l1) :: some (vI l2) :: some (vI l3) :: t) (v.toList ++ []) μ2 Q)) := by
  refine j_icmp_gt (tgt := 61) d171_46 (by decide) (by omega) (by omega) (fun q1 => ?_) (fun q1 => ?_)
  ·
    refine (g_iload_n d171_61 rfl).trans ?_
    refine (g_istore_n d171_62 (by decide) rfl rfl).trans ?_
    refine (j_iinc d171_63 rfl (by decide) rfl rfl).trans ?_
    refine (g_goto (tgt := 34) d171_66 (by decide)).trans ?_
    rfl
  ·
    refine (g_aload_n d171_49 rfl rfl).trans ?_
    refine (g_iload_n d171_50 rfl).trans ?_
    exact g_cV d171_51 k10_250 rfl rfl rfl
set_option maxRecDepth 10000 in
theorem b171_54 {Q : Option Value → mm → Prop} (ρ : rm) (τ : Int64) (l1 : Int) (l2 : Int) (l3 : Int) (t : List (Option Value)) (r : Int) (hB : BM ρ) (h_l1 : SM l1) (h_l2 : SM l2) (h_l3 : SM l3) (h_r : SM r) : G 171 54 (some (.ref 51) :: some (vI l1) :: some (vI l2) :: some (vI l3) :: t) ((some (vI r)).toList ++ []) (toM ρ τ) Q = (if r = 0 then G 171 34 (some (.ref 51) :: some (vI l1) :: some (vI l2) :: some (vI (l3 + (-1))) :: t) [] (toM ρ τ) Q else G 171 34 (some (.ref 51) :: some (vI l1) :: some (vI l3) :: some (vI (l3 + (-1))) :: t) [] (toM ρ τ) Q) := by
  refine j_if_eq (tgt := 61) d171_54 (by decide) (by omega) (fun q1 => ?_) (fun q1 => ?_)
  ·
    refine (g_iload_n d171_61 rfl).trans ?_
    refine (g_istore_n d171_62 (by decide) rfl rfl).trans ?_
    refine (j_iinc d171_63 rfl (by decide) rfl rfl).trans ?_
    refine (g_goto (tgt := 34) d171_66 (by decide)).trans ?_
    rfl
  ·
    refine (g_iload_n d171_57 rfl).trans ?_
    refine (g_goto (tgt := 62) d171_58 (by decide)).trans ?_
    refine (g_istore_n d171_62 (by decide) rfl rfl).trans ?_
    refine (j_iinc d171_63 rfl (by decide) rfl rfl).trans ?_
    refine (g_goto (tgt := 34) d171_66 (by decide)).trans ?_
    rfl
theorem d172_0 : ins 172 0 = some (.iload_n 1) := by decide +kernel
theorem d172_1 : ins 172 1 = some (.iconst 0) := by decide +kernel
theorem d172_2 : ins 172 2 = some (.iconst 5) := by decide +kernel
theorem d172_3 : ins 172 3 = some (.invokestatic 69) := by decide +kernel
theorem d172_6 : ins 172 6 = some (.ifCond .eq 11) := by decide +kernel
theorem d172_9 : ins 172 9 = some (.aload_n 0) := by decide +kernel
theorem d172_10 : ins 172 10 = some (.iload_n 2) := by decide +kernel
theorem d172_11 : ins 172 11 = some (.invokevirtual 196) := by decide +kernel
theorem d172_14 : ins 172 14 = some (.ifCond .ne 6) := by decide +kernel
theorem d172_17 : ins 172 17 = some (.bipush (-2)) := by decide +kernel
theorem d172_19 : ins 172 19 = some (.ireturn) := by decide +kernel
theorem d172_20 : ins 172 20 = some (.iload_n 3) := by decide +kernel
theorem d172_21 : ins 172 21 = some (.iconst 0) := by decide +kernel
theorem d172_22 : ins 172 22 = some (.sipush 1439) := by decide +kernel
theorem d172_25 : ins 172 25 = some (.invokestatic 69) := by decide +kernel
theorem d172_28 : ins 172 28 = some (.ifCond .ne 6) := by decide +kernel
theorem d172_31 : ins 172 31 = some (.bipush (-3)) := by decide +kernel
theorem d172_33 : ins 172 33 = some (.ireturn) := by decide +kernel
theorem d172_34 : ins 172 34 = some (.aload_n 0) := by decide +kernel
theorem d172_35 : ins 172 35 = some (.getfield 193) := by decide +kernel
theorem d172_38 : ins 172 38 = some (.bipush 12) := by decide +kernel
theorem d172_40 : ins 172 40 = some (.if_icmp .ne 6) := by decide +kernel
theorem d172_43 : ins 172 43 = some (.bipush (-5)) := by decide +kernel
theorem d172_45 : ins 172 45 = some (.ireturn) := by decide +kernel
theorem d172_46 : ins 172 46 = some (.aload_n 0) := by decide +kernel
theorem d172_47 : ins 172 47 = some (.getfield 51) := by decide +kernel
theorem d172_50 : ins 172 50 = some (.iconst 3) := by decide +kernel
theorem d172_51 : ins 172 51 = some (.aload_n 0) := by decide +kernel
theorem d172_52 : ins 172 52 = some (.getfield 193) := by decide +kernel
theorem d172_55 : ins 172 55 = some (.imul) := by decide +kernel
theorem d172_56 : ins 172 56 = some (.iload_n 1) := by decide +kernel
theorem d172_57 : ins 172 57 = some (.iastore) := by decide +kernel
theorem d172_58 : ins 172 58 = some (.aload_n 0) := by decide +kernel
theorem d172_59 : ins 172 59 = some (.getfield 51) := by decide +kernel
theorem d172_62 : ins 172 62 = some (.iconst 3) := by decide +kernel
theorem d172_63 : ins 172 63 = some (.aload_n 0) := by decide +kernel
theorem d172_64 : ins 172 64 = some (.getfield 193) := by decide +kernel
theorem d172_67 : ins 172 67 = some (.imul) := by decide +kernel
theorem d172_68 : ins 172 68 = some (.iconst 1) := by decide +kernel
theorem d172_69 : ins 172 69 = some (.iadd) := by decide +kernel
theorem d172_70 : ins 172 70 = some (.iload_n 2) := by decide +kernel
theorem d172_71 : ins 172 71 = some (.iastore) := by decide +kernel
theorem d172_72 : ins 172 72 = some (.aload_n 0) := by decide +kernel
theorem d172_73 : ins 172 73 = some (.getfield 51) := by decide +kernel
theorem d172_76 : ins 172 76 = some (.iconst 3) := by decide +kernel
theorem d172_77 : ins 172 77 = some (.aload_n 0) := by decide +kernel
theorem d172_78 : ins 172 78 = some (.getfield 193) := by decide +kernel
theorem d172_81 : ins 172 81 = some (.imul) := by decide +kernel
theorem d172_82 : ins 172 82 = some (.iconst 2) := by decide +kernel
theorem d172_83 : ins 172 83 = some (.iadd) := by decide +kernel
theorem d172_84 : ins 172 84 = some (.iload_n 3) := by decide +kernel
theorem d172_85 : ins 172 85 = some (.iastore) := by decide +kernel
theorem d172_86 : ins 172 86 = some (.aload_n 0) := by decide +kernel
theorem d172_87 : ins 172 87 = some (.dup) := by decide +kernel
theorem d172_88 : ins 172 88 = some (.getfield 193) := by decide +kernel
theorem d172_91 : ins 172 91 = some (.iconst 1) := by decide +kernel
theorem d172_92 : ins 172 92 = some (.iadd) := by decide +kernel
theorem d172_93 : ins 172 93 = some (.putfield 193) := by decide +kernel
theorem d172_96 : ins 172 96 = some (.aload_n 0) := by decide +kernel
theorem d172_97 : ins 172 97 = some (.getfield 193) := by decide +kernel
theorem d172_100 : ins 172 100 = some (.ireturn) := by decide +kernel
set_option maxRecDepth 10000 in
theorem b172_0 {Q : Option Value → mm → Prop} (ρ : rm) (τ : Int64) (a1 : Int) (a2 : Int) (a3 : Int) (hB : BM ρ) (h_a1 : SB a1) (h_a2 : SB a2) (h_a3 : SB a3) : G 172 0 (some (.ref 51) :: some (vI a1) :: some (vI a2) :: some (vI a3) :: []) [] (toM ρ τ) Q = G 117 0 [some (vI a1), some (vI 0), some (vI 5)] [] (toM ρ τ) (fun v μ2 => G 172 6 (some (.ref 51) :: some (vI a1) :: some (vI a2) :: some (vI a3) :: []) (v.toList ++ []) μ2 Q) := by
  refine (g_iload_n d172_0 rfl).trans ?_
  refine (j_iconst d172_1).trans ?_
  refine (j_iconst d172_2).trans ?_
  exact g_cS d172_3 k10_69 rfl rfl rfl
set_option maxRecDepth 10000 in
theorem b172_6 {Q : Option Value → mm → Prop} (ρ : rm) (τ : Int64) (l1 : Int) (l2 : Int) (l3 : Int) (t : List (Option Value)) (r : Int) (hB : BM ρ) (h_l1 : SB l1) (h_in1 : r = 0 ∨ SM l1) (h_l2 : SB l2) (h_l3 : SB l3) (h_r : SM r) : G 172 6 (some (.ref 51) :: some (vI l1) :: some (vI l2) :: some (vI l3) :: t) ((some (vI r)).toList ++ []) (toM ρ τ) Q = (if r = 0 then Q (some (vI (-2))) (toM ρ τ) else G 119 0 [some (.ref 51), some (vI l2)] [] (toM ρ τ) (fun v μ2 => G 172 14 (some (.ref 51) :: some (vI l1) :: some (vI l2) :: some (vI l3) :: t) (v.toList ++ []) μ2 Q)) := by
  refine j_if_eq (tgt := 17) d172_6 (by decide) (by omega) (fun q1 => ?_) (fun q1 => ?_)
  ·
    refine (j_bipush d172_17 (by decide)).trans ?_
    exact g_iret d172_19 rfl rfl
  ·
    refine (g_aload_n d172_9 rfl rfl).trans ?_
    refine (g_iload_n d172_10 rfl).trans ?_
    exact g_cV d172_11 k10_196 rfl rfl rfl
set_option maxRecDepth 10000 in
theorem b172_14 {Q : Option Value → mm → Prop} (ρ : rm) (τ : Int64) (l1 : Int) (l2 : Int) (l3 : Int) (t : List (Option Value)) (r : Int) (hB : BM ρ) (h_l1 : SM l1) (h_l2 : SB l2) (h_in2 : r = 0 ∨ SM l2) (h_l3 : SB l3) (h_r : SM r) : G 172 14 (some (.ref 51) :: some (vI l1) :: some (vI l2) :: some (vI l3) :: t) ((some (vI r)).toList ++ []) (toM ρ τ) Q = (if r = 0 then Q (some (vI (-2))) (toM ρ τ) else G 117 0 [some (vI l3), some (vI 0), some (vI 1439)] [] (toM ρ τ) (fun v μ2 => G 172 28 (some (.ref 51) :: some (vI l1) :: some (vI l2) :: some (vI l3) :: t) (v.toList ++ []) μ2 Q)) := by
  refine j_if_ne (tgt := 20) d172_14 (by decide) (by omega) (fun q1 => ?_) (fun q1 => ?_)
  ·
    refine (j_bipush d172_17 (by decide)).trans ?_
    exact g_iret d172_19 rfl rfl
  ·
    refine (g_iload_n d172_20 rfl).trans ?_
    refine (j_iconst d172_21).trans ?_
    refine (j_sipush d172_22 (by decide)).trans ?_
    exact g_cS d172_25 k10_69 rfl rfl rfl
set_option maxRecDepth 10000 in
theorem b172_28 {Q : Option Value → mm → Prop} (ρ : rm) (τ : Int64) (l1 : Int) (l2 : Int) (l3 : Int) (t : List (Option Value)) (r : Int) (hB : BM ρ) (h_l1 : SM l1) (h_l2 : SM l2) (h_l3 : SB l3) (h_in3 : r = 0 ∨ SM l3) (h_r : SM r) : G 172 28 (some (.ref 51) :: some (vI l1) :: some (vI l2) :: some (vI l3) :: t) ((some (vI r)).toList ++ []) (toM ρ τ) Q = (if r = 0 then Q (some (vI (-3))) (toM ρ τ) else (if (ρ 51 32) = 12 then Q (some (vI (-5))) (toM ρ τ) else (if 0 ≤ (3 * (ρ 51 32)) ∧ (3 * (ρ 51 32)) < 36 then (if 0 ≤ ((3 * (ρ 51 32)) + 1) ∧ ((3 * (ρ 51 32)) + 1) < 36 then (if 0 ≤ ((3 * (ρ 51 32)) + 2) ∧ ((3 * (ρ 51 32)) + 2) < 36 then Q (some (vI ((ρ 51 32) + 1))) (toM (rup (rup (rup (rup ρ 64 (3 * (ρ 51 32)) l1) 64 ((3 * (ρ 51 32)) + 1) l2) 64 ((3 * (ρ 51 32)) + 2) l3) 51 32 ((ρ 51 32) + 1)) τ) else False) else False) else False))) := by
  refine j_if_ne (tgt := 34) d172_28 (by decide) (by omega) (fun q1 => ?_) (fun q1 => ?_)
  ·
    refine (j_bipush d172_31 (by decide)).trans ?_
    exact g_iret d172_33 rfl rfl
  ·
    refine (g_aload_n d172_34 rfl rfl).trans ?_
    refine (j_getI (v := ρ 51 32) d172_35 f10_193 sh_51 (by decide) rfl rfl).trans ?_
    have q2 := hB 51 32 (by decide)
    refine (j_bipush d172_38 (by decide)).trans ?_
    refine j_icmp_ne (tgt := 46) d172_40 (by decide) (by omega) (by omega) (fun q3 => ?_) (fun q3 => ?_)
    ·
      refine (j_bipush d172_43 (by decide)).trans ?_
      exact g_iret d172_45 rfl rfl
    ·
      refine (g_aload_n d172_46 rfl rfl).trans ?_
      refine (g_getR (q := 64) d172_47 f10_51 sh_51 (by decide) rfl).trans ?_
      refine (j_iconst d172_50).trans ?_
      refine (g_aload_n d172_51 rfl rfl).trans ?_
      refine (j_getI (v := ρ 51 32) d172_52 f10_193 sh_51 (by decide) rfl rfl).trans ?_
      refine (j_imul d172_55).trans ?_
      refine (g_iload_n d172_56 rfl).trans ?_
      refine j_iastore d172_57 sh_64 (by omega) (fun q4 => ?_)
      refine (g_aload_n d172_58 rfl rfl).trans ?_
      refine (g_getR (q := 64) d172_59 f10_51 sh_51 (by decide) rfl).trans ?_
      refine (j_iconst d172_62).trans ?_
      refine (g_aload_n d172_63 rfl rfl).trans ?_
      refine (j_getI (v := ρ 51 32) d172_64 f10_193 sh_51 (by decide) rfl (by simp [rup])).trans ?_
      refine (j_imul d172_67).trans ?_
      refine (j_iconst d172_68).trans ?_
      refine (j_iadd d172_69).trans ?_
      refine (g_iload_n d172_70 rfl).trans ?_
      refine j_iastore d172_71 sh_64 (by omega) (fun q5 => ?_)
      refine (g_aload_n d172_72 rfl rfl).trans ?_
      refine (g_getR (q := 64) d172_73 f10_51 sh_51 (by decide) rfl).trans ?_
      refine (j_iconst d172_76).trans ?_
      refine (g_aload_n d172_77 rfl rfl).trans ?_
      refine (j_getI (v := ρ 51 32) d172_78 f10_193 sh_51 (by decide) rfl (by simp [rup])).trans ?_
      refine (j_imul d172_81).trans ?_
      refine (j_iconst d172_82).trans ?_
      refine (j_iadd d172_83).trans ?_
      refine (g_iload_n d172_84 rfl).trans ?_
      refine j_iastore d172_85 sh_64 (by omega) (fun q6 => ?_)
      refine (g_aload_n d172_86 rfl rfl).trans ?_
      refine (g_dupR d172_87).trans ?_
      refine (j_getI (v := ρ 51 32) d172_88 f10_193 sh_51 (by decide) rfl (by simp [rup])).trans ?_
      refine (j_iconst d172_91).trans ?_
      refine (j_iadd d172_92).trans ?_
      refine (j_putI d172_93 f10_193 sh_51 (by decide) rfl).trans ?_
      refine (g_aload_n d172_96 rfl rfl).trans ?_
      refine (j_getI (v := (ρ 51 32) + 1) d172_97 f10_193 sh_51 (by decide) rfl (by simp [rup])).trans ?_
      exact g_iret d172_100 rfl rfl
theorem d173_0 : ins 173 0 = some (.aload_n 0) := by decide +kernel
theorem d173_1 : ins 173 1 = some (.getfield 193) := by decide +kernel
theorem d173_4 : ins 173 4 = some (.istore_n 1) := by decide +kernel
theorem d173_5 : ins 173 5 = some (.aload_n 0) := by decide +kernel
theorem d173_6 : ins 173 6 = some (.iconst 0) := by decide +kernel
theorem d173_7 : ins 173 7 = some (.putfield 193) := by decide +kernel
theorem d173_10 : ins 173 10 = some (.iload_n 1) := by decide +kernel
theorem d173_11 : ins 173 11 = some (.ireturn) := by decide +kernel
set_option maxRecDepth 10000 in
theorem b173_0 {Q : Option Value → mm → Prop} (ρ : rm) (τ : Int64)  (hB : BM ρ)  : G 173 0 (some (.ref 51) :: []) [] (toM ρ τ) Q = Q (some (vI (ρ 51 32))) (toM (rup ρ 51 32 0) τ) := by
  refine (g_aload_n d173_0 rfl rfl).trans ?_
  refine (j_getI (v := ρ 51 32) d173_1 f10_193 sh_51 (by decide) rfl rfl).trans ?_
  have q1 := hB 51 32 (by decide)
  refine (g_istore_n d173_4 (by decide) rfl rfl).trans ?_
  refine (g_aload_n d173_5 rfl rfl).trans ?_
  refine (j_iconst d173_6).trans ?_
  refine (j_putI d173_7 f10_193 sh_51 (by decide) rfl).trans ?_
  refine (g_iload_n d173_10 rfl).trans ?_
  exact g_iret d173_11 rfl rfl
theorem d174_0 : ins 174 0 = some (.iload_n 2) := by decide +kernel
theorem d174_1 : ins 174 1 = some (.aload_n 0) := by decide +kernel
theorem d174_2 : ins 174 2 = some (.iload_n 1) := by decide +kernel
theorem d174_3 : ins 174 3 = some (.invokevirtual 199) := by decide +kernel
theorem d174_6 : ins 174 6 = some (.iadd) := by decide +kernel
theorem d174_7 : ins 174 7 = some (.iload 4) := by decide +kernel
theorem d174_9 : ins 174 9 = some (.isub) := by decide +kernel
theorem d174_10 : ins 174 10 = some (.aload_n 0) := by decide +kernel
theorem d174_11 : ins 174 11 = some (.iload_n 3) := by decide +kernel
theorem d174_12 : ins 174 12 = some (.invokevirtual 199) := by decide +kernel
theorem d174_15 : ins 174 15 = some (.isub) := by decide +kernel
theorem d174_16 : ins 174 16 = some (.istore 5) := by decide +kernel
theorem d174_18 : ins 174 18 = some (.aload_n 0) := by decide +kernel
theorem d174_19 : ins 174 19 = some (.getfield 29) := by decide +kernel
theorem d174_22 : ins 174 22 = some (.bipush 10) := by decide +kernel
theorem d174_24 : ins 174 24 = some (.iload_n 1) := by decide +kernel
theorem d174_25 : ins 174 25 = some (.imul) := by decide +kernel
theorem d174_26 : ins 174 26 = some (.iload_n 3) := by decide +kernel
theorem d174_27 : ins 174 27 = some (.iadd) := by decide +kernel
theorem d174_28 : ins 174 28 = some (.iaload) := by decide +kernel
theorem d174_29 : ins 174 29 = some (.iload 5) := by decide +kernel
theorem d174_31 : ins 174 31 = some (.ifCond .ge 9) := by decide +kernel
theorem d174_34 : ins 174 34 = some (.iload 5) := by decide +kernel
theorem d174_36 : ins 174 36 = some (.ineg) := by decide +kernel
theorem d174_37 : ins 174 37 = some (.goto 5) := by decide +kernel
theorem d174_40 : ins 174 40 = some (.iload 5) := by decide +kernel
theorem d174_42 : ins 174 42 = some (.if_icmp .gt 7) := by decide +kernel
theorem d174_45 : ins 174 45 = some (.iconst 1) := by decide +kernel
theorem d174_46 : ins 174 46 = some (.goto 4) := by decide +kernel
theorem d174_49 : ins 174 49 = some (.iconst 0) := by decide +kernel
theorem d174_50 : ins 174 50 = some (.ireturn) := by decide +kernel
set_option maxRecDepth 10000 in
theorem b174_0 {Q : Option Value → mm → Prop} (ρ : rm) (τ : Int64) (a1 : Int) (a2 : Int) (a3 : Int) (a4 : Int) (hB : BM ρ) (h_a1 : SM a1) (h_a2 : SM a2) (h_a3 : SM a3) (h_a4 : SM a4) : G 174 0 (some (.ref 51) :: some (vI a1) :: some (vI a2) :: some (vI a3) :: some (vI a4) :: []) [] (toM ρ τ) Q = G 137 0 [some (.ref 51), some (vI a1)] [] (toM ρ τ) (fun v μ2 => G 174 6 (some (.ref 51) :: some (vI a1) :: some (vI a2) :: some (vI a3) :: some (vI a4) :: []) (v.toList ++ [vI a2]) μ2 Q) := by
  refine (g_iload_n d174_0 rfl).trans ?_
  refine (g_aload_n d174_1 rfl rfl).trans ?_
  refine (g_iload_n d174_2 rfl).trans ?_
  exact g_cV d174_3 k10_199 rfl rfl rfl
set_option maxRecDepth 10000 in
theorem b174_6 {Q : Option Value → mm → Prop} (ρ : rm) (τ : Int64) (l1 : Int) (l2 : Int) (l3 : Int) (l4 : Int) (t : List (Option Value)) (s0 : Int) (r : Int) (hB : BM ρ) (h_l1 : SM l1) (h_l2 : SM l2) (h_l3 : SM l3) (h_l4 : SM l4) (h_s0 : SM s0) (h_r : SM r) : G 174 6 (some (.ref 51) :: some (vI l1) :: some (vI l2) :: some (vI l3) :: some (vI l4) :: t) ((some (vI r)).toList ++ [vI s0]) (toM ρ τ) Q = G 137 0 [some (.ref 51), some (vI l3)] [] (toM ρ τ) (fun v μ2 => G 174 15 (some (.ref 51) :: some (vI l1) :: some (vI l2) :: some (vI l3) :: some (vI l4) :: t) (v.toList ++ [vI ((s0 + r) - l4)]) μ2 Q) := by
  refine (j_iadd d174_6).trans ?_
  refine (g_iload d174_7 rfl).trans ?_
  refine (j_isub d174_9).trans ?_
  refine (g_aload_n d174_10 rfl rfl).trans ?_
  refine (g_iload_n d174_11 rfl).trans ?_
  exact g_cV d174_12 k10_199 rfl rfl rfl
set_option maxRecDepth 10000 in
theorem b174_15 {Q : Option Value → mm → Prop} (ρ : rm) (τ : Int64) (l1 : Int) (l2 : Int) (l3 : Int) (l4 : Int) (t : List (Option Value)) (s0 : Int) (r : Int) (hB : BM ρ) (h_l1 : SM l1) (h_l2 : SM l2) (h_l3 : SM l3) (h_l4 : SM l4) (h_s0 : SM s0) (h_r : SM r) : G 174 15 (some (.ref 51) :: some (vI l1) :: some (vI l2) :: some (vI l3) :: some (vI l4) :: t) ((some (vI r)).toList ++ [vI s0]) (toM ρ τ) Q = (if 0 ≤ ((10 * l1) + l3) ∧ ((10 * l1) + l3) < 100 then (if 0 ≤ (s0 - r) then (if (s0 - r) < (ρ 57 ((10 * l1) + l3)) then Q (some (vI 0)) (toM ρ τ) else Q (some (vI 1)) (toM ρ τ)) else (if (-(s0 - r)) < (ρ 57 ((10 * l1) + l3)) then Q (some (vI 0)) (toM ρ τ) else Q (some (vI 1)) (toM ρ τ))) else False) := by
  refine (j_isub d174_15).trans ?_
  refine (g_istore d174_16 (by decide) rfl rfl).trans ?_
  refine (g_aload_n d174_18 rfl rfl).trans ?_
  refine (g_getR (q := 57) d174_19 f10_29 sh_51 (by decide) rfl).trans ?_
  refine (j_bipush d174_22 (by decide)).trans ?_
  refine (g_iload_n d174_24 rfl).trans ?_
  refine (j_imul d174_25).trans ?_
  refine (g_iload_n d174_26 rfl).trans ?_
  refine (j_iadd d174_27).trans ?_
  refine j_iaload (v := ρ 57 ((10 * l1) + l3)) d174_28 sh_57 (by omega) rfl (fun q1 => ?_)
  have q2 := hB 57 ((10 * l1) + l3) (by omega)
  refine (g_iload d174_29 rfl).trans ?_
  refine j_if_ge (tgt := 40) d174_31 (by decide) (by omega) (fun q3 => ?_) (fun q3 => ?_)
  ·
    refine (g_iload d174_40 rfl).trans ?_
    refine j_icmp_gt (tgt := 49) d174_42 (by decide) (by omega) (by omega) (fun q4 => ?_) (fun q4 => ?_)
    ·
      refine (j_iconst d174_49).trans ?_
      exact g_iret d174_50 rfl rfl
    ·
      refine (j_iconst d174_45).trans ?_
      refine (g_goto (tgt := 50) d174_46 (by decide)).trans ?_
      exact g_iret d174_50 rfl rfl
  ·
    refine (g_iload d174_34 rfl).trans ?_
    refine (j_ineg d174_36).trans ?_
    refine (g_goto (tgt := 42) d174_37 (by decide)).trans ?_
    refine j_icmp_gt (tgt := 49) d174_42 (by decide) (by omega) (by omega) (fun q5 => ?_) (fun q5 => ?_)
    ·
      refine (j_iconst d174_49).trans ?_
      exact g_iret d174_50 rfl rfl
    ·
      refine (j_iconst d174_45).trans ?_
      refine (g_goto (tgt := 50) d174_46 (by decide)).trans ?_
      exact g_iret d174_50 rfl rfl
theorem d175_0 : ins 175 0 = some (.iconst 0) := by decide +kernel
theorem d175_1 : ins 175 1 = some (.istore_n 1) := by decide +kernel
theorem d175_2 : ins 175 2 = some (.iconst 0) := by decide +kernel
theorem d175_3 : ins 175 3 = some (.istore_n 2) := by decide +kernel
theorem d175_4 : ins 175 4 = some (.iload_n 2) := by decide +kernel
theorem d175_5 : ins 175 5 = some (.aload_n 0) := by decide +kernel
theorem d175_6 : ins 175 6 = some (.getfield 193) := by decide +kernel
theorem d175_9 : ins 175 9 = some (.if_icmp .ge 117) := by decide +kernel
theorem d175_12 : ins 175 12 = some (.iconst 0) := by decide +kernel
theorem d175_13 : ins 175 13 = some (.istore_n 3) := by decide +kernel
theorem d175_14 : ins 175 14 = some (.iload_n 3) := by decide +kernel
theorem d175_15 : ins 175 15 = some (.iload_n 2) := by decide +kernel
theorem d175_16 : ins 175 16 = some (.if_icmp .ge 104) := by decide +kernel
theorem d175_19 : ins 175 19 = some (.aload_n 0) := by decide +kernel
theorem d175_20 : ins 175 20 = some (.getfield 51) := by decide +kernel
theorem d175_23 : ins 175 23 = some (.iconst 3) := by decide +kernel
theorem d175_24 : ins 175 24 = some (.iload_n 2) := by decide +kernel
theorem d175_25 : ins 175 25 = some (.imul) := by decide +kernel
theorem d175_26 : ins 175 26 = some (.iaload) := by decide +kernel
theorem d175_27 : ins 175 27 = some (.aload_n 0) := by decide +kernel
theorem d175_28 : ins 175 28 = some (.getfield 51) := by decide +kernel
theorem d175_31 : ins 175 31 = some (.iconst 3) := by decide +kernel
theorem d175_32 : ins 175 32 = some (.iload_n 3) := by decide +kernel
theorem d175_33 : ins 175 33 = some (.imul) := by decide +kernel
theorem d175_34 : ins 175 34 = some (.iaload) := by decide +kernel
theorem d175_35 : ins 175 35 = some (.if_icmp .ne 50) := by decide +kernel
theorem d175_38 : ins 175 38 = some (.aload_n 0) := by decide +kernel
theorem d175_39 : ins 175 39 = some (.aload_n 0) := by decide +kernel
theorem d175_40 : ins 175 40 = some (.getfield 51) := by decide +kernel
theorem d175_43 : ins 175 43 = some (.iconst 3) := by decide +kernel
theorem d175_44 : ins 175 44 = some (.iload_n 2) := by decide +kernel
theorem d175_45 : ins 175 45 = some (.imul) := by decide +kernel
theorem d175_46 : ins 175 46 = some (.iconst 1) := by decide +kernel
theorem d175_47 : ins 175 47 = some (.iadd) := by decide +kernel
theorem d175_48 : ins 175 48 = some (.iaload) := by decide +kernel
theorem d175_49 : ins 175 49 = some (.aload_n 0) := by decide +kernel
theorem d175_50 : ins 175 50 = some (.getfield 51) := by decide +kernel
theorem d175_53 : ins 175 53 = some (.iconst 3) := by decide +kernel
theorem d175_54 : ins 175 54 = some (.iload_n 2) := by decide +kernel
theorem d175_55 : ins 175 55 = some (.imul) := by decide +kernel
theorem d175_56 : ins 175 56 = some (.iconst 2) := by decide +kernel
theorem d175_57 : ins 175 57 = some (.iadd) := by decide +kernel
theorem d175_58 : ins 175 58 = some (.iaload) := by decide +kernel
theorem d175_59 : ins 175 59 = some (.aload_n 0) := by decide +kernel
theorem d175_60 : ins 175 60 = some (.getfield 51) := by decide +kernel
theorem d175_63 : ins 175 63 = some (.iconst 3) := by decide +kernel
theorem d175_64 : ins 175 64 = some (.iload_n 3) := by decide +kernel
theorem d175_65 : ins 175 65 = some (.imul) := by decide +kernel
theorem d175_66 : ins 175 66 = some (.iconst 1) := by decide +kernel
theorem d175_67 : ins 175 67 = some (.iadd) := by decide +kernel
theorem d175_68 : ins 175 68 = some (.iaload) := by decide +kernel
theorem d175_69 : ins 175 69 = some (.aload_n 0) := by decide +kernel
theorem d175_70 : ins 175 70 = some (.getfield 51) := by decide +kernel
theorem d175_73 : ins 175 73 = some (.iconst 3) := by decide +kernel
theorem d175_74 : ins 175 74 = some (.iload_n 3) := by decide +kernel
theorem d175_75 : ins 175 75 = some (.imul) := by decide +kernel
theorem d175_76 : ins 175 76 = some (.iconst 2) := by decide +kernel
theorem d175_77 : ins 175 77 = some (.iadd) := by decide +kernel
theorem d175_78 : ins 175 78 = some (.iaload) := by decide +kernel
theorem d175_79 : ins 175 79 = some (.invokevirtual 253) := by decide +kernel
theorem d175_82 : ins 175 82 = some (.ifCond .eq 7) := by decide +kernel
theorem d175_85 : ins 175 85 = some (.iconst 1) := by decide +kernel
theorem d175_86 : ins 175 86 = some (.goto 4) := by decide +kernel
theorem d175_89 : ins 175 89 = some (.iconst 0) := by decide +kernel
theorem d175_90 : ins 175 90 = some (.istore 4) := by decide +kernel
theorem d175_92 : ins 175 92 = some (.iload_n 1) := by decide +kernel
theorem d175_93 : ins 175 93 = some (.iload 4) := by decide +kernel
theorem d175_95 : ins 175 95 = some (.ifCond .eq 7) := by decide +kernel
theorem d175_98 : ins 175 98 = some (.iconst 0) := by decide +kernel
theorem d175_99 : ins 175 99 = some (.goto 13) := by decide +kernel
theorem d175_102 : ins 175 102 = some (.iconst 1) := by decide +kernel
theorem d175_103 : ins 175 103 = some (.aload_n 0) := by decide +kernel
theorem d175_104 : ins 175 104 = some (.getfield 51) := by decide +kernel
theorem d175_107 : ins 175 107 = some (.iconst 3) := by decide +kernel
theorem d175_108 : ins 175 108 = some (.iload_n 2) := by decide +kernel
theorem d175_109 : ins 175 109 = some (.imul) := by decide +kernel
theorem d175_110 : ins 175 110 = some (.iaload) := by decide +kernel
theorem d175_111 : ins 175 111 = some (.ishl) := by decide +kernel
theorem d175_112 : ins 175 112 = some (.ior) := by decide +kernel
theorem d175_113 : ins 175 113 = some (.istore_n 1) := by decide +kernel
theorem d175_114 : ins 175 114 = some (.iinc 3 1) := by decide +kernel
theorem d175_117 : ins 175 117 = some (.goto (-103)) := by decide +kernel
theorem d175_120 : ins 175 120 = some (.iinc 2 1) := by decide +kernel
theorem d175_123 : ins 175 123 = some (.goto (-119)) := by decide +kernel
theorem d175_126 : ins 175 126 = some (.iload_n 1) := by decide +kernel
theorem d175_127 : ins 175 127 = some (.ireturn) := by decide +kernel
set_option maxRecDepth 10000 in
theorem b175_0 {Q : Option Value → mm → Prop} (ρ : rm) (τ : Int64)  (hB : BM ρ)  : G 175 0 (some (.ref 51) :: []) [] (toM ρ τ) Q = G 175 4 (some (.ref 51) :: some (vI 0) :: some (vI 0) :: []) [] (toM ρ τ) Q := by
  refine (j_iconst d175_0).trans ?_
  refine (g_istore_n d175_1 (by decide) rfl rfl).trans ?_
  refine (j_iconst d175_2).trans ?_
  refine (g_istore_n d175_3 (by decide) rfl rfl).trans ?_
  rfl
set_option maxRecDepth 10000 in
theorem b175_4 {Q : Option Value → mm → Prop} (ρ : rm) (τ : Int64) (l1 : Int) (l2 : Int) (t : List (Option Value)) (hB : BM ρ) (h_l1 : SM l1) (h_l2 : SM l2) : G 175 4 (some (.ref 51) :: some (vI l1) :: some (vI l2) :: t) [] (toM ρ τ) Q = (if (ρ 51 32) ≤ l2 then Q (some (vI l1)) (toM ρ τ) else G 175 14 (some (.ref 51) :: some (vI l1) :: some (vI l2) :: some (vI 0) :: t.tail) [] (toM ρ τ) Q) := by
  refine (g_iload_n d175_4 rfl).trans ?_
  refine (g_aload_n d175_5 rfl rfl).trans ?_
  refine (j_getI (v := ρ 51 32) d175_6 f10_193 sh_51 (by decide) rfl rfl).trans ?_
  have q1 := hB 51 32 (by decide)
  refine j_icmp_ge (tgt := 126) d175_9 (by decide) (by omega) (by omega) (fun q2 => ?_) (fun q2 => ?_)
  ·
    refine (g_iload_n d175_126 rfl).trans ?_
    exact g_iret d175_127 rfl rfl
  ·
    refine (j_iconst d175_12).trans ?_
    refine (g_istore_n d175_13 (by decide) rfl rfl).trans ?_
    rfl
set_option maxRecDepth 10000 in
theorem b175_14 {Q : Option Value → mm → Prop} (ρ : rm) (τ : Int64) (l1 : Int) (l2 : Int) (l3 : Int) (t : List (Option Value)) (hB : BM ρ) (h_l1 : SM l1) (h_l2 : SM l2) (h_l3 : SM l3) : G 175 14 (some (.ref 51) :: some (vI l1) :: some (vI l2) :: some (vI l3) :: t) [] (toM ρ τ) Q = (if l2 ≤ l3 then G 175 4 (some (.ref 51) :: some (vI l1) :: some (vI (l2 + 1)) :: some (vI l3) :: t) [] (toM ρ τ) Q else (if 0 ≤ (3 * l2) ∧ (3 * l2) < 36 then (if 0 ≤ (3 * l3) ∧ (3 * l3) < 36 then (if (ρ 64 (3 * l2)) = (ρ 64 (3 * l3)) then (if 0 ≤ ((3 * l2) + 1) ∧ ((3 * l2) + 1) < 36 then (if 0 ≤ ((3 * l2) + 2) ∧ ((3 * l2) + 2) < 36 then (if 0 ≤ ((3 * l3) + 1) ∧ ((3 * l3) + 1) < 36 then (if 0 ≤ ((3 * l3) + 2) ∧ ((3 * l3) + 2) < 36 then G 174 0 [some (.ref 51), some (vI (ρ 64 ((3 * l2) + 1))), some (vI (ρ 64 ((3 * l2) + 2))), some (vI (ρ 64 ((3 * l3) + 1))), some (vI (ρ 64 ((3 * l3) + 2)))] [] (toM ρ τ) (fun v μ2 => G 175 82 (some (.ref 51) :: some (vI l1) :: some (vI l2) :: some (vI l3) :: t) (v.toList ++ []) μ2 Q) else False) else False) else False) else False) else G 175 14 (some (.ref 51) :: some (vI ((iI l1 ||| iI 0).toInt)) :: some (vI l2) :: some (vI (l3 + 1)) :: some (vI 1) :: t.tail) [] (toM ρ τ) Q) else False) else False)) := by
  refine (g_iload_n d175_14 rfl).trans ?_
  refine (g_iload_n d175_15 rfl).trans ?_
  refine j_icmp_ge (tgt := 120) d175_16 (by decide) (by omega) (by omega) (fun q1 => ?_) (fun q1 => ?_)
  ·
    refine (j_iinc d175_120 rfl (by decide) rfl rfl).trans ?_
    refine (g_goto (tgt := 4) d175_123 (by decide)).trans ?_
    rfl
  ·
    refine (g_aload_n d175_19 rfl rfl).trans ?_
    refine (g_getR (q := 64) d175_20 f10_51 sh_51 (by decide) rfl).trans ?_
    refine (j_iconst d175_23).trans ?_
    refine (g_iload_n d175_24 rfl).trans ?_
    refine (j_imul d175_25).trans ?_
    refine j_iaload (v := ρ 64 (3 * l2)) d175_26 sh_64 (by omega) rfl (fun q2 => ?_)
    have q3 := hB 64 (3 * l2) (by omega)
    refine (g_aload_n d175_27 rfl rfl).trans ?_
    refine (g_getR (q := 64) d175_28 f10_51 sh_51 (by decide) rfl).trans ?_
    refine (j_iconst d175_31).trans ?_
    refine (g_iload_n d175_32 rfl).trans ?_
    refine (j_imul d175_33).trans ?_
    refine j_iaload (v := ρ 64 (3 * l3)) d175_34 sh_64 (by omega) rfl (fun q4 => ?_)
    have q5 := hB 64 (3 * l3) (by omega)
    refine j_icmp_ne (tgt := 85) d175_35 (by decide) (by omega) (by omega) (fun q6 => ?_) (fun q6 => ?_)
    ·
      refine (g_aload_n d175_38 rfl rfl).trans ?_
      refine (g_aload_n d175_39 rfl rfl).trans ?_
      refine (g_getR (q := 64) d175_40 f10_51 sh_51 (by decide) rfl).trans ?_
      refine (j_iconst d175_43).trans ?_
      refine (g_iload_n d175_44 rfl).trans ?_
      refine (j_imul d175_45).trans ?_
      refine (j_iconst d175_46).trans ?_
      refine (j_iadd d175_47).trans ?_
      refine j_iaload (v := ρ 64 ((3 * l2) + 1)) d175_48 sh_64 (by omega) rfl (fun q7 => ?_)
      have q8 := hB 64 ((3 * l2) + 1) (by omega)
      refine (g_aload_n d175_49 rfl rfl).trans ?_
      refine (g_getR (q := 64) d175_50 f10_51 sh_51 (by decide) rfl).trans ?_
      refine (j_iconst d175_53).trans ?_
      refine (g_iload_n d175_54 rfl).trans ?_
      refine (j_imul d175_55).trans ?_
      refine (j_iconst d175_56).trans ?_
      refine (j_iadd d175_57).trans ?_
      refine j_iaload (v := ρ 64 ((3 * l2) + 2)) d175_58 sh_64 (by omega) rfl (fun q9 => ?_)
      have q10 := hB 64 ((3 * l2) + 2) (by omega)
      refine (g_aload_n d175_59 rfl rfl).trans ?_
      refine (g_getR (q := 64) d175_60 f10_51 sh_51 (by decide) rfl).trans ?_
      refine (j_iconst d175_63).trans ?_
      refine (g_iload_n d175_64 rfl).trans ?_
      refine (j_imul d175_65).trans ?_
      refine (j_iconst d175_66).trans ?_
      refine (j_iadd d175_67).trans ?_
      refine j_iaload (v := ρ 64 ((3 * l3) + 1)) d175_68 sh_64 (by omega) rfl (fun q11 => ?_)
      have q12 := hB 64 ((3 * l3) + 1) (by omega)
      refine (g_aload_n d175_69 rfl rfl).trans ?_
      refine (g_getR (q := 64) d175_70 f10_51 sh_51 (by decide) rfl).trans ?_
      refine (j_iconst d175_73).trans ?_
      refine (g_iload_n d175_74 rfl).trans ?_
      refine (j_imul d175_75).trans ?_
      refine (j_iconst d175_76).trans ?_
      refine (j_iadd d175_77).trans ?_
      refine j_iaload (v := ρ 64 ((3 * l3) + 2)) d175_78 sh_64 (by omega) rfl (fun q13 => ?_)
      have q14 := hB 64 ((3 * l3) + 2) (by omega)
      exact g_cV d175_79 k10_253 rfl rfl rfl
    ·
      refine (j_iconst d175_85).trans ?_
      refine (g_goto (tgt := 90) d175_86 (by decide)).trans ?_
      refine (g_istore d175_90 (by decide) rfl rfl).trans ?_
      refine (g_iload_n d175_92 rfl).trans ?_
      refine (g_iload d175_93 rfl).trans ?_
      refine ((g_if_eq (tgt := 102) d175_95 (by decide)).trans (if_neg (by decide))).trans ?_
      refine (j_iconst d175_98).trans ?_
      refine (g_goto (tgt := 112) d175_99 (by decide)).trans ?_
      refine (j_ior d175_112).trans ?_
      have q15 := SB_of (iI l1 ||| iI 0)
      refine (g_istore_n d175_113 (by decide) rfl rfl).trans ?_
      refine (j_iinc d175_114 rfl (by decide) rfl rfl).trans ?_
      refine (g_goto (tgt := 14) d175_117 (by decide)).trans ?_
      rfl
set_option maxRecDepth 10000 in
theorem b175_82 {Q : Option Value → mm → Prop} (ρ : rm) (τ : Int64) (l1 : Int) (l2 : Int) (l3 : Int) (t : List (Option Value)) (r : Int) (hB : BM ρ) (h_l1 : SM l1) (h_l2 : SM l2) (h_l3 : SM l3) (h_r : SM r) : G 175 82 (some (.ref 51) :: some (vI l1) :: some (vI l2) :: some (vI l3) :: t) ((some (vI r)).toList ++ []) (toM ρ τ) Q = (if r = 0 then (if 0 ≤ (3 * l2) ∧ (3 * l2) < 36 then G 175 14 (some (.ref 51) :: some (vI ((iI l1 ||| iI ((iI 1 <<< (iI (ρ 64 (3 * l2)) &&& 31)).toInt)).toInt)) :: some (vI l2) :: some (vI (l3 + 1)) :: some (vI 0) :: t.tail) [] (toM ρ τ) Q else False) else G 175 14 (some (.ref 51) :: some (vI ((iI l1 ||| iI 0).toInt)) :: some (vI l2) :: some (vI (l3 + 1)) :: some (vI 1) :: t.tail) [] (toM ρ τ) Q) := by
  refine j_if_eq (tgt := 89) d175_82 (by decide) (by omega) (fun q1 => ?_) (fun q1 => ?_)
  ·
    refine (j_iconst d175_89).trans ?_
    refine (g_istore d175_90 (by decide) rfl rfl).trans ?_
    refine (g_iload_n d175_92 rfl).trans ?_
    refine (g_iload d175_93 rfl).trans ?_
    refine ((g_if_eq (tgt := 102) d175_95 (by decide)).trans (if_pos (by decide))).trans ?_
    refine (j_iconst d175_102).trans ?_
    refine (g_aload_n d175_103 rfl rfl).trans ?_
    refine (g_getR (q := 64) d175_104 f10_51 sh_51 (by decide) rfl).trans ?_
    refine (j_iconst d175_107).trans ?_
    refine (g_iload_n d175_108 rfl).trans ?_
    refine (j_imul d175_109).trans ?_
    refine j_iaload (v := ρ 64 (3 * l2)) d175_110 sh_64 (by omega) rfl (fun q2 => ?_)
    have q3 := hB 64 (3 * l2) (by omega)
    refine (j_ishl d175_111).trans ?_
    have q4 := SB_of (iI 1 <<< (iI (ρ 64 (3 * l2)) &&& 31))
    refine (j_ior d175_112).trans ?_
    have q5 := SB_of (iI l1 ||| iI ((iI 1 <<< (iI (ρ 64 (3 * l2)) &&& 31)).toInt))
    refine (g_istore_n d175_113 (by decide) rfl rfl).trans ?_
    refine (j_iinc d175_114 rfl (by decide) rfl rfl).trans ?_
    refine (g_goto (tgt := 14) d175_117 (by decide)).trans ?_
    rfl
  ·
    refine (j_iconst d175_85).trans ?_
    refine (g_goto (tgt := 90) d175_86 (by decide)).trans ?_
    refine (g_istore d175_90 (by decide) rfl rfl).trans ?_
    refine (g_iload_n d175_92 rfl).trans ?_
    refine (g_iload d175_93 rfl).trans ?_
    refine ((g_if_eq (tgt := 102) d175_95 (by decide)).trans (if_neg (by decide))).trans ?_
    refine (j_iconst d175_98).trans ?_
    refine (g_goto (tgt := 112) d175_99 (by decide)).trans ?_
    refine (j_ior d175_112).trans ?_
    have q6 := SB_of (iI l1 ||| iI 0)
    refine (g_istore_n d175_113 (by decide) rfl rfl).trans ?_
    refine (j_iinc d175_114 rfl (by decide) rfl rfl).trans ?_
    refine (g_goto (tgt := 14) d175_117 (by decide)).trans ?_
    rfl
theorem d176_0 : ins 176 0 = some (.aload_n 0) := by decide +kernel
theorem d176_1 : ins 176 1 = some (.iload_n 1) := by decide +kernel
theorem d176_2 : ins 176 2 = some (.invokevirtual 196) := by decide +kernel
theorem d176_5 : ins 176 5 = some (.ifCond .ne 6) := by decide +kernel
theorem d176_8 : ins 176 8 = some (.bipush (-2)) := by decide +kernel
theorem d176_10 : ins 176 10 = some (.ireturn) := by decide +kernel
theorem d176_11 : ins 176 11 = some (.iload_n 2) := by decide +kernel
theorem d176_12 : ins 176 12 = some (.iconst 0) := by decide +kernel
theorem d176_13 : ins 176 13 = some (.sipush 1439) := by decide +kernel
theorem d176_16 : ins 176 16 = some (.invokestatic 69) := by decide +kernel
theorem d176_19 : ins 176 19 = some (.ifCond .ne 6) := by decide +kernel
theorem d176_22 : ins 176 22 = some (.bipush (-3)) := by decide +kernel
theorem d176_24 : ins 176 24 = some (.ireturn) := by decide +kernel
theorem d176_25 : ins 176 25 = some (.bipush 63) := by decide +kernel
theorem d176_27 : ins 176 27 = some (.aload_n 0) := by decide +kernel
theorem d176_28 : ins 176 28 = some (.invokevirtual 257) := by decide +kernel
theorem d176_31 : ins 176 31 = some (.iconst (-1)) := by decide +kernel
theorem d176_32 : ins 176 32 = some (.ixor) := by decide +kernel
theorem d176_33 : ins 176 33 = some (.iand) := by decide +kernel
theorem d176_34 : ins 176 34 = some (.istore_n 3) := by decide +kernel
theorem d176_35 : ins 176 35 = some (.iconst 0) := by decide +kernel
theorem d176_36 : ins 176 36 = some (.istore 4) := by decide +kernel
theorem d176_38 : ins 176 38 = some (.iload 4) := by decide +kernel
theorem d176_40 : ins 176 40 = some (.aload_n 0) := by decide +kernel
theorem d176_41 : ins 176 41 = some (.getfield 193) := by decide +kernel
theorem d176_44 : ins 176 44 = some (.if_icmp .ge 60) := by decide +kernel
theorem d176_47 : ins 176 47 = some (.aload_n 0) := by decide +kernel
theorem d176_48 : ins 176 48 = some (.iload_n 1) := by decide +kernel
theorem d176_49 : ins 176 49 = some (.iload_n 2) := by decide +kernel
theorem d176_50 : ins 176 50 = some (.aload_n 0) := by decide +kernel
theorem d176_51 : ins 176 51 = some (.getfield 51) := by decide +kernel
theorem d176_54 : ins 176 54 = some (.iconst 3) := by decide +kernel
theorem d176_55 : ins 176 55 = some (.iload 4) := by decide +kernel
theorem d176_57 : ins 176 57 = some (.imul) := by decide +kernel
theorem d176_58 : ins 176 58 = some (.iconst 1) := by decide +kernel
theorem d176_59 : ins 176 59 = some (.iadd) := by decide +kernel
theorem d176_60 : ins 176 60 = some (.iaload) := by decide +kernel
theorem d176_61 : ins 176 61 = some (.aload_n 0) := by decide +kernel
theorem d176_62 : ins 176 62 = some (.getfield 51) := by decide +kernel
theorem d176_65 : ins 176 65 = some (.iconst 3) := by decide +kernel
theorem d176_66 : ins 176 66 = some (.iload 4) := by decide +kernel
theorem d176_68 : ins 176 68 = some (.imul) := by decide +kernel
theorem d176_69 : ins 176 69 = some (.iconst 2) := by decide +kernel
theorem d176_70 : ins 176 70 = some (.iadd) := by decide +kernel
theorem d176_71 : ins 176 71 = some (.iaload) := by decide +kernel
theorem d176_72 : ins 176 72 = some (.invokevirtual 253) := by decide +kernel
theorem d176_75 : ins 176 75 = some (.ifCond .eq 7) := by decide +kernel
theorem d176_78 : ins 176 78 = some (.iload_n 3) := by decide +kernel
theorem d176_79 : ins 176 79 = some (.goto 18) := by decide +kernel
theorem d176_82 : ins 176 82 = some (.iload_n 3) := by decide +kernel
theorem d176_83 : ins 176 83 = some (.iconst 1) := by decide +kernel
theorem d176_84 : ins 176 84 = some (.aload_n 0) := by decide +kernel
theorem d176_85 : ins 176 85 = some (.getfield 51) := by decide +kernel
theorem d176_88 : ins 176 88 = some (.iconst 3) := by decide +kernel
theorem d176_89 : ins 176 89 = some (.iload 4) := by decide +kernel
theorem d176_91 : ins 176 91 = some (.imul) := by decide +kernel
theorem d176_92 : ins 176 92 = some (.iaload) := by decide +kernel
theorem d176_93 : ins 176 93 = some (.ishl) := by decide +kernel
theorem d176_94 : ins 176 94 = some (.iconst (-1)) := by decide +kernel
theorem d176_95 : ins 176 95 = some (.ixor) := by decide +kernel
theorem d176_96 : ins 176 96 = some (.iand) := by decide +kernel
theorem d176_97 : ins 176 97 = some (.istore_n 3) := by decide +kernel
theorem d176_98 : ins 176 98 = some (.iinc 4 1) := by decide +kernel
theorem d176_101 : ins 176 101 = some (.goto (-63)) := by decide +kernel
theorem d176_104 : ins 176 104 = some (.iload_n 3) := by decide +kernel
theorem d176_105 : ins 176 105 = some (.ireturn) := by decide +kernel
set_option maxRecDepth 10000 in
theorem b176_0 {Q : Option Value → mm → Prop} (ρ : rm) (τ : Int64) (a1 : Int) (a2 : Int) (hB : BM ρ) (h_a1 : SB a1) (h_a2 : SB a2) : G 176 0 (some (.ref 51) :: some (vI a1) :: some (vI a2) :: []) [] (toM ρ τ) Q = G 119 0 [some (.ref 51), some (vI a1)] [] (toM ρ τ) (fun v μ2 => G 176 5 (some (.ref 51) :: some (vI a1) :: some (vI a2) :: []) (v.toList ++ []) μ2 Q) := by
  refine (g_aload_n d176_0 rfl rfl).trans ?_
  refine (g_iload_n d176_1 rfl).trans ?_
  exact g_cV d176_2 k10_196 rfl rfl rfl
set_option maxRecDepth 10000 in
theorem b176_5 {Q : Option Value → mm → Prop} (ρ : rm) (τ : Int64) (l1 : Int) (l2 : Int) (t : List (Option Value)) (r : Int) (hB : BM ρ) (h_l1 : SB l1) (h_in1 : r = 0 ∨ SM l1) (h_l2 : SB l2) (h_r : SM r) : G 176 5 (some (.ref 51) :: some (vI l1) :: some (vI l2) :: t) ((some (vI r)).toList ++ []) (toM ρ τ) Q = (if r = 0 then Q (some (vI (-2))) (toM ρ τ) else G 117 0 [some (vI l2), some (vI 0), some (vI 1439)] [] (toM ρ τ) (fun v μ2 => G 176 19 (some (.ref 51) :: some (vI l1) :: some (vI l2) :: t) (v.toList ++ []) μ2 Q)) := by
  refine j_if_ne (tgt := 11) d176_5 (by decide) (by omega) (fun q1 => ?_) (fun q1 => ?_)
  ·
    refine (j_bipush d176_8 (by decide)).trans ?_
    exact g_iret d176_10 rfl rfl
  ·
    refine (g_iload_n d176_11 rfl).trans ?_
    refine (j_iconst d176_12).trans ?_
    refine (j_sipush d176_13 (by decide)).trans ?_
    exact g_cS d176_16 k10_69 rfl rfl rfl
set_option maxRecDepth 10000 in
theorem b176_19 {Q : Option Value → mm → Prop} (ρ : rm) (τ : Int64) (l1 : Int) (l2 : Int) (t : List (Option Value)) (r : Int) (hB : BM ρ) (h_l1 : SM l1) (h_l2 : SB l2) (h_in2 : r = 0 ∨ SM l2) (h_r : SM r) : G 176 19 (some (.ref 51) :: some (vI l1) :: some (vI l2) :: t) ((some (vI r)).toList ++ []) (toM ρ τ) Q = (if r = 0 then Q (some (vI (-3))) (toM ρ τ) else G 175 0 [some (.ref 51)] [] (toM ρ τ) (fun v μ2 => G 176 31 (some (.ref 51) :: some (vI l1) :: some (vI l2) :: t) (v.toList ++ [vI 63]) μ2 Q)) := by
  refine j_if_ne (tgt := 25) d176_19 (by decide) (by omega) (fun q1 => ?_) (fun q1 => ?_)
  ·
    refine (j_bipush d176_22 (by decide)).trans ?_
    exact g_iret d176_24 rfl rfl
  ·
    refine (j_bipush d176_25 (by decide)).trans ?_
    refine (g_aload_n d176_27 rfl rfl).trans ?_
    exact g_cV d176_28 k10_257 rfl rfl rfl
set_option maxRecDepth 10000 in
theorem b176_31 {Q : Option Value → mm → Prop} (ρ : rm) (τ : Int64) (l1 : Int) (l2 : Int) (t : List (Option Value)) (s0 : Int) (r : Int) (hB : BM ρ) (h_l1 : SM l1) (h_l2 : SM l2) (h_s0 : SM s0) (h_r : SM r) : G 176 31 (some (.ref 51) :: some (vI l1) :: some (vI l2) :: t) ((some (vI r)).toList ++ [vI s0]) (toM ρ τ) Q = G 176 38 (some (.ref 51) :: some (vI l1) :: some (vI l2) :: some (vI ((iI s0 &&& iI ((iI r ^^^ iI (-1)).toInt)).toInt)) :: some (vI 0) :: t.tail.tail) [] (toM ρ τ) Q := by
  refine (j_iconst d176_31).trans ?_
  refine (j_ixor d176_32).trans ?_
  have q1 := SB_of (iI r ^^^ iI (-1))
  refine (j_iand d176_33).trans ?_
  have q2 := SB_of (iI s0 &&& iI ((iI r ^^^ iI (-1)).toInt))
  refine (g_istore_n d176_34 (by decide) rfl rfl).trans ?_
  refine (j_iconst d176_35).trans ?_
  refine (g_istore d176_36 (by decide) rfl rfl).trans ?_
  rfl
set_option maxRecDepth 10000 in
theorem b176_38 {Q : Option Value → mm → Prop} (ρ : rm) (τ : Int64) (l1 : Int) (l2 : Int) (l3 : Int) (l4 : Int) (t : List (Option Value)) (hB : BM ρ) (h_l1 : SM l1) (h_l2 : SM l2) (h_l3 : SM l3) (h_l4 : SM l4) : G 176 38 (some (.ref 51) :: some (vI l1) :: some (vI l2) :: some (vI l3) :: some (vI l4) :: t) [] (toM ρ τ) Q = (if (ρ 51 32) ≤ l4 then Q (some (vI l3)) (toM ρ τ) else (if 0 ≤ ((3 * l4) + 1) ∧ ((3 * l4) + 1) < 36 then (if 0 ≤ ((3 * l4) + 2) ∧ ((3 * l4) + 2) < 36 then G 174 0 [some (.ref 51), some (vI l1), some (vI l2), some (vI (ρ 64 ((3 * l4) + 1))), some (vI (ρ 64 ((3 * l4) + 2)))] [] (toM ρ τ) (fun v μ2 => G 176 75 (some (.ref 51) :: some (vI l1) :: some (vI l2) :: some (vI l3) :: some (vI l4) :: t) (v.toList ++ []) μ2 Q) else False) else False)) := by
  refine (g_iload d176_38 rfl).trans ?_
  refine (g_aload_n d176_40 rfl rfl).trans ?_
  refine (j_getI (v := ρ 51 32) d176_41 f10_193 sh_51 (by decide) rfl rfl).trans ?_
  have q1 := hB 51 32 (by decide)
  refine j_icmp_ge (tgt := 104) d176_44 (by decide) (by omega) (by omega) (fun q2 => ?_) (fun q2 => ?_)
  ·
    refine (g_iload_n d176_104 rfl).trans ?_
    exact g_iret d176_105 rfl rfl
  ·
    refine (g_aload_n d176_47 rfl rfl).trans ?_
    refine (g_iload_n d176_48 rfl).trans ?_
    refine (g_iload_n d176_49 rfl).trans ?_
    refine (g_aload_n d176_50 rfl rfl).trans ?_
    refine (g_getR (q := 64) d176_51 f10_51 sh_51 (by decide) rfl).trans ?_
    refine (j_iconst d176_54).trans ?_
    refine (g_iload d176_55 rfl).trans ?_
    refine (j_imul d176_57).trans ?_
    refine (j_iconst d176_58).trans ?_
    refine (j_iadd d176_59).trans ?_
    refine j_iaload (v := ρ 64 ((3 * l4) + 1)) d176_60 sh_64 (by omega) rfl (fun q3 => ?_)
    have q4 := hB 64 ((3 * l4) + 1) (by omega)
    refine (g_aload_n d176_61 rfl rfl).trans ?_
    refine (g_getR (q := 64) d176_62 f10_51 sh_51 (by decide) rfl).trans ?_
    refine (j_iconst d176_65).trans ?_
    refine (g_iload d176_66 rfl).trans ?_
    refine (j_imul d176_68).trans ?_
    refine (j_iconst d176_69).trans ?_
    refine (j_iadd d176_70).trans ?_
    refine j_iaload (v := ρ 64 ((3 * l4) + 2)) d176_71 sh_64 (by omega) rfl (fun q5 => ?_)
    have q6 := hB 64 ((3 * l4) + 2) (by omega)
    exact g_cV d176_72 k10_253 rfl rfl rfl
set_option maxRecDepth 10000 in
theorem b176_75 {Q : Option Value → mm → Prop} (ρ : rm) (τ : Int64) (l1 : Int) (l2 : Int) (l3 : Int) (l4 : Int) (t : List (Option Value)) (r : Int) (hB : BM ρ) (h_l1 : SM l1) (h_l2 : SM l2) (h_l3 : SM l3) (h_l4 : SM l4) (h_r : SM r) : G 176 75 (some (.ref 51) :: some (vI l1) :: some (vI l2) :: some (vI l3) :: some (vI l4) :: t) ((some (vI r)).toList ++ []) (toM ρ τ) Q = (if r = 0 then (if 0 ≤ (3 * l4) ∧ (3 * l4) < 36 then G 176 38 (some (.ref 51) :: some (vI l1) :: some (vI l2) :: some (vI ((iI l3 &&& iI ((iI ((iI 1 <<< (iI (ρ 64 (3 * l4)) &&& 31)).toInt) ^^^ iI (-1)).toInt)).toInt)) :: some (vI (l4 + 1)) :: t) [] (toM ρ τ) Q else False) else G 176 38 (some (.ref 51) :: some (vI l1) :: some (vI l2) :: some (vI l3) :: some (vI (l4 + 1)) :: t) [] (toM ρ τ) Q) := by
  refine j_if_eq (tgt := 82) d176_75 (by decide) (by omega) (fun q1 => ?_) (fun q1 => ?_)
  ·
    refine (g_iload_n d176_82 rfl).trans ?_
    refine (j_iconst d176_83).trans ?_
    refine (g_aload_n d176_84 rfl rfl).trans ?_
    refine (g_getR (q := 64) d176_85 f10_51 sh_51 (by decide) rfl).trans ?_
    refine (j_iconst d176_88).trans ?_
    refine (g_iload d176_89 rfl).trans ?_
    refine (j_imul d176_91).trans ?_
    refine j_iaload (v := ρ 64 (3 * l4)) d176_92 sh_64 (by omega) rfl (fun q2 => ?_)
    have q3 := hB 64 (3 * l4) (by omega)
    refine (j_ishl d176_93).trans ?_
    have q4 := SB_of (iI 1 <<< (iI (ρ 64 (3 * l4)) &&& 31))
    refine (j_iconst d176_94).trans ?_
    refine (j_ixor d176_95).trans ?_
    have q5 := SB_of (iI ((iI 1 <<< (iI (ρ 64 (3 * l4)) &&& 31)).toInt) ^^^ iI (-1))
    refine (j_iand d176_96).trans ?_
    have q6 := SB_of (iI l3 &&& iI ((iI ((iI 1 <<< (iI (ρ 64 (3 * l4)) &&& 31)).toInt) ^^^ iI (-1)).toInt))
    refine (g_istore_n d176_97 (by decide) rfl rfl).trans ?_
    refine (j_iinc d176_98 rfl (by decide) rfl rfl).trans ?_
    refine (g_goto (tgt := 38) d176_101 (by decide)).trans ?_
    rfl
  ·
    refine (g_iload_n d176_78 rfl).trans ?_
    refine (g_goto (tgt := 97) d176_79 (by decide)).trans ?_
    refine (g_istore_n d176_97 (by decide) rfl rfl).trans ?_
    refine (j_iinc d176_98 rfl (by decide) rfl rfl).trans ?_
    refine (g_goto (tgt := 38) d176_101 (by decide)).trans ?_
    rfl
theorem d177_0 : ins 177 0 = some (.iload_n 1) := by decide +kernel
theorem d177_1 : ins 177 1 = some (.iconst 0) := by decide +kernel
theorem d177_2 : ins 177 2 = some (.iconst 1) := by decide +kernel
theorem d177_3 : ins 177 3 = some (.invokestatic 69) := by decide +kernel
theorem d177_6 : ins 177 6 = some (.ifCond .ne 6) := by decide +kernel
theorem d177_9 : ins 177 9 = some (.bipush (-3)) := by decide +kernel
theorem d177_11 : ins 177 11 = some (.ireturn) := by decide +kernel
theorem d177_12 : ins 177 12 = some (.aload_n 0) := by decide +kernel
theorem d177_13 : ins 177 13 = some (.getfield 73) := by decide +kernel
theorem d177_16 : ins 177 16 = some (.ifCond .ne 6) := by decide +kernel
theorem d177_19 : ins 177 19 = some (.bipush (-4)) := by decide +kernel
theorem d177_21 : ins 177 21 = some (.ireturn) := by decide +kernel
theorem d177_22 : ins 177 22 = some (.iconst (-1)) := by decide +kernel
theorem d177_23 : ins 177 23 = some (.istore_n 2) := by decide +kernel
theorem d177_24 : ins 177 24 = some (.iconst 0) := by decide +kernel
theorem d177_25 : ins 177 25 = some (.istore_n 3) := by decide +kernel
theorem d177_26 : ins 177 26 = some (.iconst 0) := by decide +kernel
theorem d177_27 : ins 177 27 = some (.istore 4) := by decide +kernel
theorem d177_29 : ins 177 29 = some (.iload 4) := by decide +kernel
theorem d177_31 : ins 177 31 = some (.aload_n 0) := by decide +kernel
theorem d177_32 : ins 177 32 = some (.getfield 7) := by decide +kernel
theorem d177_35 : ins 177 35 = some (.if_icmp .ge 112) := by decide +kernel
theorem d177_38 : ins 177 38 = some (.iconst 0) := by decide +kernel
theorem d177_39 : ins 177 39 = some (.istore 5) := by decide +kernel
theorem d177_41 : ins 177 41 = some (.iconst 0) := by decide +kernel
theorem d177_42 : ins 177 42 = some (.istore 6) := by decide +kernel
theorem d177_44 : ins 177 44 = some (.iload 6) := by decide +kernel
theorem d177_46 : ins 177 46 = some (.aload_n 0) := by decide +kernel
theorem d177_47 : ins 177 47 = some (.getfield 73) := by decide +kernel
theorem d177_50 : ins 177 50 = some (.if_icmp .ge 49) := by decide +kernel
theorem d177_53 : ins 177 53 = some (.aload_n 0) := by decide +kernel
theorem d177_54 : ins 177 54 = some (.aload_n 0) := by decide +kernel
theorem d177_55 : ins 177 55 = some (.getfield 23) := by decide +kernel
theorem d177_58 : ins 177 58 = some (.iconst 3) := by decide +kernel
theorem d177_59 : ins 177 59 = some (.iload 6) := by decide +kernel
theorem d177_61 : ins 177 61 = some (.imul) := by decide +kernel
theorem d177_62 : ins 177 62 = some (.iaload) := by decide +kernel
theorem d177_63 : ins 177 63 = some (.invokevirtual 199) := by decide +kernel
theorem d177_66 : ins 177 66 = some (.aload_n 0) := by decide +kernel
theorem d177_67 : ins 177 67 = some (.iload 4) := by decide +kernel
theorem d177_69 : ins 177 69 = some (.invokevirtual 199) := by decide +kernel
theorem d177_72 : ins 177 72 = some (.isub) := by decide +kernel
theorem d177_73 : ins 177 73 = some (.istore 7) := by decide +kernel
theorem d177_75 : ins 177 75 = some (.iload 5) := by decide +kernel
theorem d177_77 : ins 177 77 = some (.iload 7) := by decide +kernel
theorem d177_79 : ins 177 79 = some (.ifCond .ge 9) := by decide +kernel
theorem d177_82 : ins 177 82 = some (.iload 7) := by decide +kernel
theorem d177_84 : ins 177 84 = some (.ineg) := by decide +kernel
theorem d177_85 : ins 177 85 = some (.goto 5) := by decide +kernel
theorem d177_88 : ins 177 88 = some (.iload 7) := by decide +kernel
theorem d177_90 : ins 177 90 = some (.iadd) := by decide +kernel
theorem d177_91 : ins 177 91 = some (.istore 5) := by decide +kernel
theorem d177_93 : ins 177 93 = some (.iinc 6 1) := by decide +kernel
theorem d177_96 : ins 177 96 = some (.goto (-52)) := by decide +kernel
theorem d177_99 : ins 177 99 = some (.iload_n 2) := by decide +kernel
theorem d177_100 : ins 177 100 = some (.iconst (-1)) := by decide +kernel
theorem d177_101 : ins 177 101 = some (.if_icmp .eq 9) := by decide +kernel
theorem d177_104 : ins 177 104 = some (.iload 5) := by decide +kernel
theorem d177_106 : ins 177 106 = some (.iload_n 3) := by decide +kernel
theorem d177_107 : ins 177 107 = some (.if_icmp .ge 7) := by decide +kernel
theorem d177_110 : ins 177 110 = some (.iconst 1) := by decide +kernel
theorem d177_111 : ins 177 111 = some (.goto 4) := by decide +kernel
theorem d177_114 : ins 177 114 = some (.iconst 0) := by decide +kernel
theorem d177_115 : ins 177 115 = some (.istore 6) := by decide +kernel
theorem d177_117 : ins 177 117 = some (.iload 6) := by decide +kernel
theorem d177_119 : ins 177 119 = some (.ifCond .eq 8) := by decide +kernel
theorem d177_122 : ins 177 122 = some (.iload 4) := by decide +kernel
theorem d177_124 : ins 177 124 = some (.goto 4) := by decide +kernel
theorem d177_127 : ins 177 127 = some (.iload_n 2) := by decide +kernel
theorem d177_128 : ins 177 128 = some (.istore_n 2) := by decide +kernel
theorem d177_129 : ins 177 129 = some (.iload 6) := by decide +kernel
theorem d177_131 : ins 177 131 = some (.ifCond .eq 8) := by decide +kernel
theorem d177_134 : ins 177 134 = some (.iload 5) := by decide +kernel
theorem d177_136 : ins 177 136 = some (.goto 4) := by decide +kernel
theorem d177_139 : ins 177 139 = some (.iload_n 3) := by decide +kernel
theorem d177_140 : ins 177 140 = some (.istore_n 3) := by decide +kernel
theorem d177_141 : ins 177 141 = some (.iinc 4 1) := by decide +kernel
theorem d177_144 : ins 177 144 = some (.goto (-115)) := by decide +kernel
theorem d177_147 : ins 177 147 = some (.iload_n 1) := by decide +kernel
theorem d177_148 : ins 177 148 = some (.ifCond .ne 7) := by decide +kernel
theorem d177_151 : ins 177 151 = some (.iload_n 2) := by decide +kernel
theorem d177_152 : ins 177 152 = some (.goto 4) := by decide +kernel
theorem d177_155 : ins 177 155 = some (.iload_n 3) := by decide +kernel
theorem d177_156 : ins 177 156 = some (.ireturn) := by decide +kernel
set_option maxRecDepth 10000 in
theorem b177_0 {Q : Option Value → mm → Prop} (ρ : rm) (τ : Int64) (a1 : Int) (hB : BM ρ) (h_a1 : SB a1) : G 177 0 (some (.ref 51) :: some (vI a1) :: []) [] (toM ρ τ) Q = G 117 0 [some (vI a1), some (vI 0), some (vI 1)] [] (toM ρ τ) (fun v μ2 => G 177 6 (some (.ref 51) :: some (vI a1) :: []) (v.toList ++ []) μ2 Q) := by
  refine (g_iload_n d177_0 rfl).trans ?_
  refine (j_iconst d177_1).trans ?_
  refine (j_iconst d177_2).trans ?_
  exact g_cS d177_3 k10_69 rfl rfl rfl
set_option maxRecDepth 10000 in
theorem b177_6 {Q : Option Value → mm → Prop} (ρ : rm) (τ : Int64) (l1 : Int) (t : List (Option Value)) (r : Int) (hB : BM ρ) (h_l1 : SB l1) (h_in1 : r = 0 ∨ SM l1) (h_r : SM r) : G 177 6 (some (.ref 51) :: some (vI l1) :: t) ((some (vI r)).toList ++ []) (toM ρ τ) Q = (if r = 0 then Q (some (vI (-3))) (toM ρ τ) else (if (ρ 51 5) = 0 then Q (some (vI (-4))) (toM ρ τ) else G 177 29 (some (.ref 51) :: some (vI l1) :: some (vI (-1)) :: some (vI 0) :: some (vI 0) :: t.tail.tail.tail) [] (toM ρ τ) Q)) := by
  refine j_if_ne (tgt := 12) d177_6 (by decide) (by omega) (fun q1 => ?_) (fun q1 => ?_)
  ·
    refine (j_bipush d177_9 (by decide)).trans ?_
    exact g_iret d177_11 rfl rfl
  ·
    refine (g_aload_n d177_12 rfl rfl).trans ?_
    refine (j_getI (v := ρ 51 5) d177_13 f10_73 sh_51 (by decide) rfl rfl).trans ?_
    have q2 := hB 51 5 (by decide)
    refine j_if_ne (tgt := 22) d177_16 (by decide) (by omega) (fun q3 => ?_) (fun q3 => ?_)
    ·
      refine (j_bipush d177_19 (by decide)).trans ?_
      exact g_iret d177_21 rfl rfl
    ·
      refine (j_iconst d177_22).trans ?_
      refine (g_istore_n d177_23 (by decide) rfl rfl).trans ?_
      refine (j_iconst d177_24).trans ?_
      refine (g_istore_n d177_25 (by decide) rfl rfl).trans ?_
      refine (j_iconst d177_26).trans ?_
      refine (g_istore d177_27 (by decide) rfl rfl).trans ?_
      rfl
set_option maxRecDepth 10000 in
theorem b177_29 {Q : Option Value → mm → Prop} (ρ : rm) (τ : Int64) (l1 : Int) (l2 : Int) (l3 : Int) (l4 : Int) (t : List (Option Value)) (hB : BM ρ) (h_l1 : SM l1) (h_l2 : SM l2) (h_l3 : SM l3) (h_l4 : SM l4) : G 177 29 (some (.ref 51) :: some (vI l1) :: some (vI l2) :: some (vI l3) :: some (vI l4) :: t) [] (toM ρ τ) Q = (if (ρ 51 0) ≤ l4 then (if l1 = 0 then Q (some (vI l2)) (toM ρ τ) else Q (some (vI l3)) (toM ρ τ)) else G 177 44 (some (.ref 51) :: some (vI l1) :: some (vI l2) :: some (vI l3) :: some (vI l4) :: some (vI 0) :: some (vI 0) :: t.tail.tail) [] (toM ρ τ) Q) := by
  refine (g_iload d177_29 rfl).trans ?_
  refine (g_aload_n d177_31 rfl rfl).trans ?_
  refine (j_getI (v := ρ 51 0) d177_32 f10_7 sh_51 (by decide) rfl rfl).trans ?_
  have q1 := hB 51 0 (by decide)
  refine j_icmp_ge (tgt := 147) d177_35 (by decide) (by omega) (by omega) (fun q2 => ?_) (fun q2 => ?_)
  ·
    refine (g_iload_n d177_147 rfl).trans ?_
    refine j_if_ne (tgt := 155) d177_148 (by decide) (by omega) (fun q3 => ?_) (fun q3 => ?_)
    ·
      refine (g_iload_n d177_151 rfl).trans ?_
      refine (g_goto (tgt := 156) d177_152 (by decide)).trans ?_
      exact g_iret d177_156 rfl rfl
    ·
      refine (g_iload_n d177_155 rfl).trans ?_
      exact g_iret d177_156 rfl rfl
  ·
    refine (j_iconst d177_38).trans ?_
    refine (g_istore d177_39 (by decide) rfl rfl).trans ?_
    refine (j_iconst d177_41).trans ?_
    refine (g_istore d177_42 (by decide) rfl rfl).trans ?_
    rfl
set_option maxRecDepth 10000 in
theorem b177_44 {Q : Option Value → mm → Prop} (ρ : rm) (τ : Int64) (l1 : Int) (l2 : Int) (l3 : Int) (l4 : Int) (l5 : Int) (l6 : Int) (t : List (Option Value)) (hB : BM ρ) (h_l1 : SM l1) (h_l2 : SM l2) (h_l3 : SM l3) (h_l4 : SM l4) (h_l5 : SM l5) (h_l6 : SM l6) : G 177 44 (some (.ref 51) :: some (vI l1) :: some (vI l2) :: some (vI l3) :: some (vI l4) :: some (vI l5) :: some (vI l6) :: t) [] (toM ρ τ) Q = (if (ρ 51 5) ≤ l6 then (if l2 = (-1) then G 177 29 (some (.ref 51) :: some (vI l1) :: some (vI l4) :: some (vI l5) :: some (vI (l4 + 1)) :: some (vI l5) :: some (vI 1) :: t) [] (toM ρ τ) Q else (if l3 ≤ l5 then G 177 29 (some (.ref 51) :: some (vI l1) :: some (vI l2) :: some (vI l3) :: some (vI (l4 + 1)) :: some (vI l5) :: some (vI 0) :: t) [] (toM ρ τ) Q else G 177 29 (some (.ref 51) :: some (vI l1) :: some (vI l4) :: some (vI l5) :: some (vI (l4 + 1)) :: some (vI l5) :: some (vI 1) :: t) [] (toM ρ τ) Q)) else (if 0 ≤ (3 * l6) ∧ (3 * l6) < 30 then G 137 0 [some (.ref 51), some (vI (ρ 55 (3 * l6)))] [] (toM ρ τ) (fun v μ2 => G 177 66 (some (.ref 51) :: some (vI l1) :: some (vI l2) :: some (vI l3) :: some (vI l4) :: some (vI l5) :: some (vI l6) :: t) (v.toList ++ []) μ2 Q) else False)) := by
  refine (g_iload d177_44 rfl).trans ?_
  refine (g_aload_n d177_46 rfl rfl).trans ?_
  refine (j_getI (v := ρ 51 5) d177_47 f10_73 sh_51 (by decide) rfl rfl).trans ?_
  have q1 := hB 51 5 (by decide)
  refine j_icmp_ge (tgt := 99) d177_50 (by decide) (by omega) (by omega) (fun q2 => ?_) (fun q2 => ?_)
  ·
    refine (g_iload_n d177_99 rfl).trans ?_
    refine (j_iconst d177_100).trans ?_
    refine j_icmp_eq (tgt := 110) d177_101 (by decide) (by omega) (by omega) (fun q3 => ?_) (fun q3 => ?_)
    ·
      refine (j_iconst d177_110).trans ?_
      refine (g_goto (tgt := 115) d177_111 (by decide)).trans ?_
      refine (g_istore d177_115 (by decide) rfl rfl).trans ?_
      refine (g_iload d177_117 rfl).trans ?_
      refine ((g_if_eq (tgt := 127) d177_119 (by decide)).trans (if_neg (by decide))).trans ?_
      refine (g_iload d177_122 rfl).trans ?_
      refine (g_goto (tgt := 128) d177_124 (by decide)).trans ?_
      refine (g_istore_n d177_128 (by decide) rfl rfl).trans ?_
      refine (g_iload d177_129 rfl).trans ?_
      refine ((g_if_eq (tgt := 139) d177_131 (by decide)).trans (if_neg (by decide))).trans ?_
      refine (g_iload d177_134 rfl).trans ?_
      refine (g_goto (tgt := 140) d177_136 (by decide)).trans ?_
      refine (g_istore_n d177_140 (by decide) rfl rfl).trans ?_
      refine (j_iinc d177_141 rfl (by decide) rfl rfl).trans ?_
      refine (g_goto (tgt := 29) d177_144 (by decide)).trans ?_
      rfl
    ·
      refine (g_iload d177_104 rfl).trans ?_
      refine (g_iload_n d177_106 rfl).trans ?_
      refine j_icmp_ge (tgt := 114) d177_107 (by decide) (by omega) (by omega) (fun q4 => ?_) (fun q4 => ?_)
      ·
        refine (j_iconst d177_114).trans ?_
        refine (g_istore d177_115 (by decide) rfl rfl).trans ?_
        refine (g_iload d177_117 rfl).trans ?_
        refine ((g_if_eq (tgt := 127) d177_119 (by decide)).trans (if_pos (by decide))).trans ?_
        refine (g_iload_n d177_127 rfl).trans ?_
        refine (g_istore_n d177_128 (by decide) rfl rfl).trans ?_
        refine (g_iload d177_129 rfl).trans ?_
        refine ((g_if_eq (tgt := 139) d177_131 (by decide)).trans (if_pos (by decide))).trans ?_
        refine (g_iload_n d177_139 rfl).trans ?_
        refine (g_istore_n d177_140 (by decide) rfl rfl).trans ?_
        refine (j_iinc d177_141 rfl (by decide) rfl rfl).trans ?_
        refine (g_goto (tgt := 29) d177_144 (by decide)).trans ?_
        rfl
      ·
        refine (j_iconst d177_110).trans ?_
        refine (g_goto (tgt := 115) d177_111 (by decide)).trans ?_
        refine (g_istore d177_115 (by decide) rfl rfl).trans ?_
        refine (g_iload d177_117 rfl).trans ?_
        refine ((g_if_eq (tgt := 127) d177_119 (by decide)).trans (if_neg (by decide))).trans ?_
        refine (g_iload d177_122 rfl).trans ?_
        refine (g_goto (tgt := 128) d177_124 (by decide)).trans ?_
        refine (g_istore_n d177_128 (by decide) rfl rfl).trans ?_
        refine (g_iload d177_129 rfl).trans ?_
        refine ((g_if_eq (tgt := 139) d177_131 (by decide)).trans (if_neg (by decide))).trans ?_
        refine (g_iload d177_134 rfl).trans ?_
        refine (g_goto (tgt := 140) d177_136 (by decide)).trans ?_
        refine (g_istore_n d177_140 (by decide) rfl rfl).trans ?_
        refine (j_iinc d177_141 rfl (by decide) rfl rfl).trans ?_
        refine (g_goto (tgt := 29) d177_144 (by decide)).trans ?_
        rfl
  ·
    refine (g_aload_n d177_53 rfl rfl).trans ?_
    refine (g_aload_n d177_54 rfl rfl).trans ?_
    refine (g_getR (q := 55) d177_55 f10_23 sh_51 (by decide) rfl).trans ?_
    refine (j_iconst d177_58).trans ?_
    refine (g_iload d177_59 rfl).trans ?_
    refine (j_imul d177_61).trans ?_
    refine j_iaload (v := ρ 55 (3 * l6)) d177_62 sh_55 (by omega) rfl (fun q5 => ?_)
    have q6 := hB 55 (3 * l6) (by omega)
    exact g_cV d177_63 k10_199 rfl rfl rfl
set_option maxRecDepth 10000 in
theorem b177_66 {Q : Option Value → mm → Prop} (ρ : rm) (τ : Int64) (l1 : Int) (l2 : Int) (l3 : Int) (l4 : Int) (l5 : Int) (l6 : Int) (t : List (Option Value)) (r : Int) (hB : BM ρ) (h_l1 : SM l1) (h_l2 : SM l2) (h_l3 : SM l3) (h_l4 : SM l4) (h_l5 : SM l5) (h_l6 : SM l6) (h_r : SM r) : G 177 66 (some (.ref 51) :: some (vI l1) :: some (vI l2) :: some (vI l3) :: some (vI l4) :: some (vI l5) :: some (vI l6) :: t) ((some (vI r)).toList ++ []) (toM ρ τ) Q = G 137 0 [some (.ref 51), some (vI l4)] [] (toM ρ τ) (fun v μ2 => G 177 72 (some (.ref 51) :: some (vI l1) :: some (vI l2) :: some (vI l3) :: some (vI l4) :: some (vI l5) :: some (vI l6) :: t) (v.toList ++ [vI r]) μ2 Q) := by
  refine (g_aload_n d177_66 rfl rfl).trans ?_
  refine (g_iload d177_67 rfl).trans ?_
  exact g_cV d177_69 k10_199 rfl rfl rfl
set_option maxRecDepth 10000 in
theorem b177_72 {Q : Option Value → mm → Prop} (ρ : rm) (τ : Int64) (l1 : Int) (l2 : Int) (l3 : Int) (l4 : Int) (l5 : Int) (l6 : Int) (t : List (Option Value)) (s0 : Int) (r : Int) (hB : BM ρ) (h_l1 : SM l1) (h_l2 : SM l2) (h_l3 : SM l3) (h_l4 : SM l4) (h_l5 : SM l5) (h_l6 : SM l6) (h_s0 : SM s0) (h_r : SM r) : G 177 72 (some (.ref 51) :: some (vI l1) :: some (vI l2) :: some (vI l3) :: some (vI l4) :: some (vI l5) :: some (vI l6) :: t) ((some (vI r)).toList ++ [vI s0]) (toM ρ τ) Q = (if 0 ≤ (s0 - r) then G 177 44 (some (.ref 51) :: some (vI l1) :: some (vI l2) :: some (vI l3) :: some (vI l4) :: some (vI (l5 + (s0 - r))) :: some (vI (l6 + 1)) :: some (vI (s0 - r)) :: t.tail) [] (toM ρ τ) Q else G 177 44 (some (.ref 51) :: some (vI l1) :: some (vI l2) :: some (vI l3) :: some (vI l4) :: some (vI (l5 + (-(s0 - r)))) :: some (vI (l6 + 1)) :: some (vI (s0 - r)) :: t.tail) [] (toM ρ τ) Q) := by
  refine (j_isub d177_72).trans ?_
  refine (g_istore d177_73 (by decide) rfl rfl).trans ?_
  refine (g_iload d177_75 rfl).trans ?_
  refine (g_iload d177_77 rfl).trans ?_
  refine j_if_ge (tgt := 88) d177_79 (by decide) (by omega) (fun q1 => ?_) (fun q1 => ?_)
  ·
    refine (g_iload d177_88 rfl).trans ?_
    refine (j_iadd d177_90).trans ?_
    refine (g_istore d177_91 (by decide) rfl rfl).trans ?_
    refine (j_iinc d177_93 rfl (by decide) rfl rfl).trans ?_
    refine (g_goto (tgt := 44) d177_96 (by decide)).trans ?_
    rfl
  ·
    refine (g_iload d177_82 rfl).trans ?_
    refine (j_ineg d177_84).trans ?_
    refine (g_goto (tgt := 90) d177_85 (by decide)).trans ?_
    refine (j_iadd d177_90).trans ?_
    refine (g_istore d177_91 (by decide) rfl rfl).trans ?_
    refine (j_iinc d177_93 rfl (by decide) rfl rfl).trans ?_
    refine (g_goto (tgt := 44) d177_96 (by decide)).trans ?_
    rfl
theorem d178_0 : ins 178 0 = some (.iload_n 1) := by decide +kernel
theorem d178_1 : ins 178 1 = some (.iconst 1) := by decide +kernel
theorem d178_2 : ins 178 2 = some (.sipush 9999) := by decide +kernel
theorem d178_5 : ins 178 5 = some (.invokestatic 69) := by decide +kernel
theorem d178_8 : ins 178 8 = some (.ifCond .ne 6) := by decide +kernel
theorem d178_11 : ins 178 11 = some (.bipush (-3)) := by decide +kernel
theorem d178_13 : ins 178 13 = some (.ireturn) := by decide +kernel
theorem d178_14 : ins 178 14 = some (.iconst 1) := by decide +kernel
theorem d178_15 : ins 178 15 = some (.istore_n 2) := by decide +kernel
theorem d178_16 : ins 178 16 = some (.iload_n 1) := by decide +kernel
theorem d178_17 : ins 178 17 = some (.iload_n 2) := by decide +kernel
theorem d178_18 : ins 178 18 = some (.imul) := by decide +kernel
theorem d178_19 : ins 178 19 = some (.sipush 1440) := by decide +kernel
theorem d178_22 : ins 178 22 = some (.irem) := by decide +kernel
theorem d178_23 : ins 178 23 = some (.ifCond .eq 9) := by decide +kernel
theorem d178_26 : ins 178 26 = some (.iinc 2 1) := by decide +kernel
theorem d178_29 : ins 178 29 = some (.goto (-13)) := by decide +kernel
theorem d178_32 : ins 178 32 = some (.iload_n 2) := by decide +kernel
theorem d178_33 : ins 178 33 = some (.ireturn) := by decide +kernel
set_option maxRecDepth 10000 in
theorem b178_0 {Q : Option Value → mm → Prop} (ρ : rm) (τ : Int64) (a1 : Int) (hB : BM ρ) (h_a1 : SB a1) : G 178 0 (some (.ref 51) :: some (vI a1) :: []) [] (toM ρ τ) Q = G 117 0 [some (vI a1), some (vI 1), some (vI 9999)] [] (toM ρ τ) (fun v μ2 => G 178 8 (some (.ref 51) :: some (vI a1) :: []) (v.toList ++ []) μ2 Q) := by
  refine (g_iload_n d178_0 rfl).trans ?_
  refine (j_iconst d178_1).trans ?_
  refine (j_sipush d178_2 (by decide)).trans ?_
  exact g_cS d178_5 k10_69 rfl rfl rfl
set_option maxRecDepth 10000 in
theorem b178_8 {Q : Option Value → mm → Prop} (ρ : rm) (τ : Int64) (l1 : Int) (t : List (Option Value)) (r : Int) (hB : BM ρ) (h_l1 : SB l1) (h_in1 : r = 0 ∨ SM l1) (h_r : SM r) : G 178 8 (some (.ref 51) :: some (vI l1) :: t) ((some (vI r)).toList ++ []) (toM ρ τ) Q = (if r = 0 then Q (some (vI (-3))) (toM ρ τ) else G 178 16 (some (.ref 51) :: some (vI l1) :: some (vI 1) :: t.tail) [] (toM ρ τ) Q) := by
  refine j_if_ne (tgt := 14) d178_8 (by decide) (by omega) (fun q1 => ?_) (fun q1 => ?_)
  ·
    refine (j_bipush d178_11 (by decide)).trans ?_
    exact g_iret d178_13 rfl rfl
  ·
    refine (j_iconst d178_14).trans ?_
    refine (g_istore_n d178_15 (by decide) rfl rfl).trans ?_
    rfl
set_option maxRecDepth 10000 in
theorem b178_16 {Q : Option Value → mm → Prop} (ρ : rm) (τ : Int64) (l1 : Int) (l2 : Int) (t : List (Option Value)) (hB : BM ρ) (h_l1 : SM l1) (h_l2 : SM l2) (h_mul : SB (l1 * l2)) : G 178 16 (some (.ref 51) :: some (vI l1) :: some (vI l2) :: t) [] (toM ρ τ) Q = (if (Int.tmod (l1 * l2) 1440) = 0 then Q (some (vI l2)) (toM ρ τ) else G 178 16 (some (.ref 51) :: some (vI l1) :: some (vI (l2 + 1)) :: t) [] (toM ρ τ) Q) := by
  refine (g_iload_n d178_16 rfl).trans ?_
  refine (g_iload_n d178_17 rfl).trans ?_
  refine (j_imul d178_18).trans ?_
  refine (j_sipush d178_19 (by decide)).trans ?_
  refine (j_irem d178_22 (by omega) (by omega) (by omega)).trans ?_
  have q1 := tmod_bd (l1 * l2) (b := 1440) (by omega)
  refine j_if_eq (tgt := 32) d178_23 (by decide) (by omega) (fun q2 => ?_) (fun q2 => ?_)
  ·
    refine (g_iload_n d178_32 rfl).trans ?_
    exact g_iret d178_33 rfl rfl
  ·
    refine (j_iinc d178_26 rfl (by decide) rfl rfl).trans ?_
    refine (g_goto (tgt := 16) d178_29 (by decide)).trans ?_
    rfl
theorem d179_0 : ins 179 0 = some (.iload_n 1) := by decide +kernel
theorem d179_1 : ins 179 1 = some (.tableswitch 87 0 7 #[47, 52, 57, 62, 67, 72, 77, 82]) := by decide +kernel
theorem d179_48 : ins 179 48 = some (.aload_n 0) := by decide +kernel
theorem d179_49 : ins 179 49 = some (.getfield 7) := by decide +kernel
theorem d179_52 : ins 179 52 = some (.ireturn) := by decide +kernel
theorem d179_53 : ins 179 53 = some (.aload_n 0) := by decide +kernel
theorem d179_54 : ins 179 54 = some (.getfield 76) := by decide +kernel
theorem d179_57 : ins 179 57 = some (.ireturn) := by decide +kernel
theorem d179_58 : ins 179 58 = some (.aload_n 0) := by decide +kernel
theorem d179_59 : ins 179 59 = some (.getfield 73) := by decide +kernel
theorem d179_62 : ins 179 62 = some (.ireturn) := by decide +kernel
theorem d179_63 : ins 179 63 = some (.aload_n 0) := by decide +kernel
theorem d179_64 : ins 179 64 = some (.getfield 79) := by decide +kernel
theorem d179_67 : ins 179 67 = some (.ireturn) := by decide +kernel
theorem d179_68 : ins 179 68 = some (.aload_n 0) := by decide +kernel
theorem d179_69 : ins 179 69 = some (.getfield 187) := by decide +kernel
theorem d179_72 : ins 179 72 = some (.ireturn) := by decide +kernel
theorem d179_73 : ins 179 73 = some (.aload_n 0) := by decide +kernel
theorem d179_74 : ins 179 74 = some (.getfield 190) := by decide +kernel
theorem d179_77 : ins 179 77 = some (.ireturn) := by decide +kernel
theorem d179_78 : ins 179 78 = some (.aload_n 0) := by decide +kernel
theorem d179_79 : ins 179 79 = some (.getfield 193) := by decide +kernel
theorem d179_82 : ins 179 82 = some (.ireturn) := by decide +kernel
theorem d179_83 : ins 179 83 = some (.aload_n 0) := by decide +kernel
theorem d179_84 : ins 179 84 = some (.getfield 83) := by decide +kernel
theorem d179_87 : ins 179 87 = some (.ireturn) := by decide +kernel
theorem d179_88 : ins 179 88 = some (.bipush (-3)) := by decide +kernel
theorem d179_90 : ins 179 90 = some (.ireturn) := by decide +kernel
set_option maxRecDepth 10000 in
theorem b179_0 {Q : Option Value → mm → Prop} (ρ : rm) (τ : Int64) (a1 : Int) (hB : BM ρ) (h_a1 : SB a1) : G 179 0 (some (.ref 51) :: some (vI a1) :: []) [] (toM ρ τ) Q = (if a1 = 0 then Q (some (vI (ρ 51 0))) (toM ρ τ) else (if a1 = 1 then Q (some (vI (ρ 51 3))) (toM ρ τ) else (if a1 = 2 then Q (some (vI (ρ 51 5))) (toM ρ τ) else (if a1 = 3 then Q (some (vI (ρ 51 7))) (toM ρ τ) else (if a1 = 4 then Q (some (vI (ρ 51 28))) (toM ρ τ) else (if a1 = 5 then Q (some (vI (ρ 51 30))) (toM ρ τ) else (if a1 = 6 then Q (some (vI (ρ 51 32))) (toM ρ τ) else (if a1 = 7 then Q (some (vI (ρ 51 10))) (toM ρ τ) else Q (some (vI (-3))) (toM ρ τ))))))))) := by
  refine (g_iload_n d179_0 rfl).trans ?_
  refine sw_case (c := 0) (fun q1 => ?_) (fun q1 => ?_)
  ·
    refine (g_tableIn (off := 47) (tgt := 48) d179_1 (by rw [iI_toInt (by omega)]; omega) (by rw [iI_toInt (by omega), q1]; rfl) (by decide)).trans ?_
    refine (g_aload_n d179_48 rfl rfl).trans ?_
    refine (j_getI (v := ρ 51 0) d179_49 f10_7 sh_51 (by decide) rfl rfl).trans ?_
    have q2 := hB 51 0 (by decide)
    exact g_iret d179_52 rfl rfl
  ·
    refine sw_case (c := 1) (fun q3 => ?_) (fun q3 => ?_)
    ·
      refine (g_tableIn (off := 52) (tgt := 53) d179_1 (by rw [iI_toInt (by omega)]; omega) (by rw [iI_toInt (by omega), q3]; rfl) (by decide)).trans ?_
      refine (g_aload_n d179_53 rfl rfl).trans ?_
      refine (j_getI (v := ρ 51 3) d179_54 f10_76 sh_51 (by decide) rfl rfl).trans ?_
      have q4 := hB 51 3 (by decide)
      exact g_iret d179_57 rfl rfl
    ·
      refine sw_case (c := 2) (fun q5 => ?_) (fun q5 => ?_)
      ·
        refine (g_tableIn (off := 57) (tgt := 58) d179_1 (by rw [iI_toInt (by omega)]; omega) (by rw [iI_toInt (by omega), q5]; rfl) (by decide)).trans ?_
        refine (g_aload_n d179_58 rfl rfl).trans ?_
        refine (j_getI (v := ρ 51 5) d179_59 f10_73 sh_51 (by decide) rfl rfl).trans ?_
        have q6 := hB 51 5 (by decide)
        exact g_iret d179_62 rfl rfl
      ·
        refine sw_case (c := 3) (fun q7 => ?_) (fun q7 => ?_)
        ·
          refine (g_tableIn (off := 62) (tgt := 63) d179_1 (by rw [iI_toInt (by omega)]; omega) (by rw [iI_toInt (by omega), q7]; rfl) (by decide)).trans ?_
          refine (g_aload_n d179_63 rfl rfl).trans ?_
          refine (j_getI (v := ρ 51 7) d179_64 f10_79 sh_51 (by decide) rfl rfl).trans ?_
          have q8 := hB 51 7 (by decide)
          exact g_iret d179_67 rfl rfl
        ·
          refine sw_case (c := 4) (fun q9 => ?_) (fun q9 => ?_)
          ·
            refine (g_tableIn (off := 67) (tgt := 68) d179_1 (by rw [iI_toInt (by omega)]; omega) (by rw [iI_toInt (by omega), q9]; rfl) (by decide)).trans ?_
            refine (g_aload_n d179_68 rfl rfl).trans ?_
            refine (j_getI (v := ρ 51 28) d179_69 f10_187 sh_51 (by decide) rfl rfl).trans ?_
            have q10 := hB 51 28 (by decide)
            exact g_iret d179_72 rfl rfl
          ·
            refine sw_case (c := 5) (fun q11 => ?_) (fun q11 => ?_)
            ·
              refine (g_tableIn (off := 72) (tgt := 73) d179_1 (by rw [iI_toInt (by omega)]; omega) (by rw [iI_toInt (by omega), q11]; rfl) (by decide)).trans ?_
              refine (g_aload_n d179_73 rfl rfl).trans ?_
              refine (j_getI (v := ρ 51 30) d179_74 f10_190 sh_51 (by decide) rfl rfl).trans ?_
              have q12 := hB 51 30 (by decide)
              exact g_iret d179_77 rfl rfl
            ·
              refine sw_case (c := 6) (fun q13 => ?_) (fun q13 => ?_)
              ·
                refine (g_tableIn (off := 77) (tgt := 78) d179_1 (by rw [iI_toInt (by omega)]; omega) (by rw [iI_toInt (by omega), q13]; rfl) (by decide)).trans ?_
                refine (g_aload_n d179_78 rfl rfl).trans ?_
                refine (j_getI (v := ρ 51 32) d179_79 f10_193 sh_51 (by decide) rfl rfl).trans ?_
                have q14 := hB 51 32 (by decide)
                exact g_iret d179_82 rfl rfl
              ·
                refine sw_case (c := 7) (fun q15 => ?_) (fun q15 => ?_)
                ·
                  refine (g_tableIn (off := 82) (tgt := 83) d179_1 (by rw [iI_toInt (by omega)]; omega) (by rw [iI_toInt (by omega), q15]; rfl) (by decide)).trans ?_
                  refine (g_aload_n d179_83 rfl rfl).trans ?_
                  refine (j_getI (v := ρ 51 10) d179_84 f10_83 sh_51 (by decide) rfl rfl).trans ?_
                  have q16 := hB 51 10 (by decide)
                  exact g_iret d179_87 rfl rfl
                ·
                  refine (g_tableOut (tgt := 88) d179_1 (by rw [iI_toInt (by omega)]; omega) (by decide)).trans ?_
                  refine (j_bipush d179_88 (by decide)).trans ?_
                  exact g_iret d179_90 rfl rfl
