/-! blocks of the small machine (wip/gen/gen_blocks.py) -/
theorem d10_0 : ins 10 0 = some (.aload_n 0) := by decide +kernel
theorem d10_1 : ins 10 1 = some (.getfield 31) := by decide +kernel
theorem d10_4 : ins 10 4 = some (.bipush 10) := by decide +kernel
theorem d10_6 : ins 10 6 = some (.if_icmp .ge 43) := by decide +kernel
theorem d10_9 : ins 10 9 = some (.aload_n 0) := by decide +kernel
theorem d10_10 : ins 10 10 = some (.getfield 9) := by decide +kernel
theorem d10_13 : ins 10 13 = some (.aload_n 0) := by decide +kernel
theorem d10_14 : ins 10 14 = some (.getfield 31) := by decide +kernel
theorem d10_17 : ins 10 17 = some (.iload_n 1) := by decide +kernel
theorem d10_18 : ins 10 18 = some (.iastore) := by decide +kernel
theorem d10_19 : ins 10 19 = some (.aload_n 0) := by decide +kernel
theorem d10_20 : ins 10 20 = some (.getfield 15) := by decide +kernel
theorem d10_23 : ins 10 23 = some (.aload_n 0) := by decide +kernel
theorem d10_24 : ins 10 24 = some (.getfield 31) := by decide +kernel
theorem d10_27 : ins 10 27 = some (.iload_n 2) := by decide +kernel
theorem d10_28 : ins 10 28 = some (.iastore) := by decide +kernel
theorem d10_29 : ins 10 29 = some (.aload_n 0) := by decide +kernel
theorem d10_30 : ins 10 30 = some (.getfield 18) := by decide +kernel
theorem d10_33 : ins 10 33 = some (.aload_n 0) := by decide +kernel
theorem d10_34 : ins 10 34 = some (.getfield 31) := by decide +kernel
theorem d10_37 : ins 10 37 = some (.iload_n 3) := by decide +kernel
theorem d10_38 : ins 10 38 = some (.iastore) := by decide +kernel
theorem d10_39 : ins 10 39 = some (.aload_n 0) := by decide +kernel
theorem d10_40 : ins 10 40 = some (.dup) := by decide +kernel
theorem d10_41 : ins 10 41 = some (.getfield 31) := by decide +kernel
theorem d10_44 : ins 10 44 = some (.iconst 1) := by decide +kernel
theorem d10_45 : ins 10 45 = some (.iadd) := by decide +kernel
theorem d10_46 : ins 10 46 = some (.putfield 31) := by decide +kernel
theorem d10_49 : ins 10 49 = some (.return_) := by decide +kernel
set_option maxRecDepth 10000 in
theorem b10_0 {Q : Option Value → mm → Prop} (ρ : rm) (τ : Int64) (a1 : Int) (a2 : Int) (a3 : Int) (hB : BM ρ) (h_a1 : SM a1) (h_a2 : SM a2) (h_a3 : SM a3) : G 10 0 (some (.ref 2) :: some (vI a1) :: some (vI a2) :: some (vI a3) :: []) [] (toM ρ τ) Q = (if 10 ≤ (ρ 2 4) then Q none (toM ρ τ) else (if 0 ≤ (ρ 2 4) ∧ (ρ 2 4) < 10 then (if 0 ≤ (ρ 2 4) ∧ (ρ 2 4) < 10 then (if 0 ≤ (ρ 2 4) ∧ (ρ 2 4) < 10 then Q none (toM (rup (rup (rup (rup ρ 27 (ρ 2 4) a1) 28 (ρ 2 4) a2) 29 (ρ 2 4) a3) 2 4 ((ρ 2 4) + 1)) τ) else False) else False) else False)) := by
  refine (g_aload_n d10_0 rfl rfl).trans ?_
  refine (j_getI (v := ρ 2 4) d10_1 f1_31 sh_2 (by decide) rfl rfl).trans ?_
  have q1 := hB 2 4 (by decide)
  refine (j_bipush d10_4 (by decide)).trans ?_
  refine j_icmp_ge (tgt := 49) d10_6 (by decide) (by omega) (by omega) (fun q2 => ?_) (fun q2 => ?_)
  ·
    exact g_ret d10_49 rfl
  ·
    refine (g_aload_n d10_9 rfl rfl).trans ?_
    refine (g_getR (q := 27) d10_10 f1_9 sh_2 (by decide) rfl).trans ?_
    refine (g_aload_n d10_13 rfl rfl).trans ?_
    refine (j_getI (v := ρ 2 4) d10_14 f1_31 sh_2 (by decide) rfl rfl).trans ?_
    refine (g_iload_n d10_17 rfl).trans ?_
    refine j_iastore d10_18 sh_27 (by omega) (fun q3 => ?_)
    refine (g_aload_n d10_19 rfl rfl).trans ?_
    refine (g_getR (q := 28) d10_20 f1_15 sh_2 (by decide) rfl).trans ?_
    refine (g_aload_n d10_23 rfl rfl).trans ?_
    refine (j_getI (v := ρ 2 4) d10_24 f1_31 sh_2 (by decide) rfl (by simp [rup])).trans ?_
    refine (g_iload_n d10_27 rfl).trans ?_
    refine j_iastore d10_28 sh_28 (by omega) (fun q4 => ?_)
    refine (g_aload_n d10_29 rfl rfl).trans ?_
    refine (g_getR (q := 29) d10_30 f1_18 sh_2 (by decide) rfl).trans ?_
    refine (g_aload_n d10_33 rfl rfl).trans ?_
    refine (j_getI (v := ρ 2 4) d10_34 f1_31 sh_2 (by decide) rfl (by simp [rup])).trans ?_
    refine (g_iload_n d10_37 rfl).trans ?_
    refine j_iastore d10_38 sh_29 (by omega) (fun q5 => ?_)
    refine (g_aload_n d10_39 rfl rfl).trans ?_
    refine (g_dupR d10_40).trans ?_
    refine (j_getI (v := ρ 2 4) d10_41 f1_31 sh_2 (by decide) rfl (by simp [rup])).trans ?_
    refine (j_iconst d10_44).trans ?_
    refine (j_iadd d10_45).trans ?_
    refine (j_putI d10_46 f1_31 sh_2 (by decide) rfl).trans ?_
    exact g_ret d10_49 rfl
theorem d11_0 : ins 11 0 = some (.iload_n 1) := by decide +kernel
theorem d11_1 : ins 11 1 = some (.ifCond .lt 15) := by decide +kernel
theorem d11_4 : ins 11 4 = some (.iload_n 1) := by decide +kernel
theorem d11_5 : ins 11 5 = some (.aload_n 0) := by decide +kernel
theorem d11_6 : ins 11 6 = some (.getfield 31) := by decide +kernel
theorem d11_9 : ins 11 9 = some (.if_icmp .ge 7) := by decide +kernel
theorem d11_12 : ins 11 12 = some (.iconst 1) := by decide +kernel
theorem d11_13 : ins 11 13 = some (.goto 4) := by decide +kernel
theorem d11_16 : ins 11 16 = some (.iconst 0) := by decide +kernel
theorem d11_17 : ins 11 17 = some (.ireturn) := by decide +kernel
set_option maxRecDepth 10000 in
theorem b11_0 {Q : Option Value → mm → Prop} (ρ : rm) (τ : Int64) (a1 : Int) (hB : BM ρ) (h_a1 : SB a1) : G 11 0 (some (.ref 2) :: some (vI a1) :: []) [] (toM ρ τ) Q = (if a1 < 0 then Q (some (vI 0)) (toM ρ τ) else (if (ρ 2 4) ≤ a1 then Q (some (vI 0)) (toM ρ τ) else Q (some (vI 1)) (toM ρ τ))) := by
  refine (g_iload_n d11_0 rfl).trans ?_
  refine j_if_lt (tgt := 16) d11_1 (by decide) (by omega) (fun q1 => ?_) (fun q1 => ?_)
  ·
    refine (j_iconst d11_16).trans ?_
    exact g_iret d11_17 rfl rfl
  ·
    refine (g_iload_n d11_4 rfl).trans ?_
    refine (g_aload_n d11_5 rfl rfl).trans ?_
    refine (j_getI (v := ρ 2 4) d11_6 f1_31 sh_2 (by decide) rfl rfl).trans ?_
    have q2 := hB 2 4 (by decide)
    refine j_icmp_ge (tgt := 16) d11_9 (by decide) (by omega) (by omega) (fun q3 => ?_) (fun q3 => ?_)
    ·
      refine (j_iconst d11_16).trans ?_
      exact g_iret d11_17 rfl rfl
    ·
      refine (j_iconst d11_12).trans ?_
      refine (g_goto (tgt := 17) d11_13 (by decide)).trans ?_
      exact g_iret d11_17 rfl rfl
theorem d12_0 : ins 12 0 = some (.aload_n 0) := by decide +kernel
theorem d12_1 : ins 12 1 = some (.getfield 27) := by decide +kernel
theorem d12_4 : ins 12 4 = some (.aload_n 0) := by decide +kernel
theorem d12_5 : ins 12 5 = some (.getfield 9) := by decide +kernel
theorem d12_8 : ins 12 8 = some (.iload_n 1) := by decide +kernel
theorem d12_9 : ins 12 9 = some (.iaload) := by decide +kernel
theorem d12_10 : ins 12 10 = some (.aload_n 0) := by decide +kernel
theorem d12_11 : ins 12 11 = some (.getfield 15) := by decide +kernel
theorem d12_14 : ins 12 14 = some (.iload_n 1) := by decide +kernel
theorem d12_15 : ins 12 15 = some (.iaload) := by decide +kernel
theorem d12_16 : ins 12 16 = some (.invokevirtual 35) := by decide +kernel
theorem d12_19 : ins 12 19 = some (.ireturn) := by decide +kernel
set_option maxRecDepth 10000 in
theorem b12_0 {Q : Option Value → mm → Prop} (ρ : rm) (τ : Int64) (a1 : Int) (hB : BM ρ) (h_a1 : SM a1) : G 12 0 (some (.ref 2) :: some (vI a1) :: []) [] (toM ρ τ) Q = (if 0 ≤ a1 ∧ a1 < 10 then (if 0 ≤ a1 ∧ a1 < 10 then G 36 0 [some (.ref 1), some (vI (ρ 27 a1)), some (vI (ρ 28 a1))] [] (toM ρ τ) (fun v μ2 => G 12 19 (some (.ref 2) :: some (vI a1) :: []) (v.toList ++ []) μ2 Q) else False) else False) := by
  refine (g_aload_n d12_0 rfl rfl).trans ?_
  refine (g_getR (q := 1) d12_1 f1_27 sh_2 (by decide) rfl).trans ?_
  refine (g_aload_n d12_4 rfl rfl).trans ?_
  refine (g_getR (q := 27) d12_5 f1_9 sh_2 (by decide) rfl).trans ?_
  refine (g_iload_n d12_8 rfl).trans ?_
  refine j_iaload (v := ρ 27 a1) d12_9 sh_27 (by omega) rfl (fun q1 => ?_)
  have q2 := hB 27 a1 (by omega)
  refine (g_aload_n d12_10 rfl rfl).trans ?_
  refine (g_getR (q := 28) d12_11 f1_15 sh_2 (by decide) rfl).trans ?_
  refine (g_iload_n d12_14 rfl).trans ?_
  refine j_iaload (v := ρ 28 a1) d12_15 sh_28 (by omega) rfl (fun q3 => ?_)
  have q4 := hB 28 a1 (by omega)
  exact g_cV d12_16 k1_35 rfl rfl rfl
set_option maxRecDepth 10000 in
theorem b12_19 {Q : Option Value → mm → Prop} (ρ : rm) (τ : Int64) (l1 : Int) (t : List (Option Value)) (r : Int) (hB : BM ρ) (h_l1 : SM l1) (h_r : SM r) : G 12 19 (some (.ref 2) :: some (vI l1) :: t) ((some (vI r)).toList ++ []) (toM ρ τ) Q = Q (some (vI r)) (toM ρ τ) := by
  exact g_iret d12_19 rfl rfl
theorem d13_0 : ins 13 0 = some (.iconst 0) := by decide +kernel
theorem d13_1 : ins 13 1 = some (.istore_n 1) := by decide +kernel
theorem d13_2 : ins 13 2 = some (.iload_n 1) := by decide +kernel
theorem d13_3 : ins 13 3 = some (.aload_n 0) := by decide +kernel
theorem d13_4 : ins 13 4 = some (.getfield 31) := by decide +kernel
theorem d13_7 : ins 13 7 = some (.if_icmp .ge 62) := by decide +kernel
theorem d13_10 : ins 13 10 = some (.iload_n 1) := by decide +kernel
theorem d13_11 : ins 13 11 = some (.istore_n 2) := by decide +kernel
theorem d13_12 : ins 13 12 = some (.iload_n 2) := by decide +kernel
theorem d13_13 : ins 13 13 = some (.ifCond .le 43) := by decide +kernel
theorem d13_16 : ins 13 16 = some (.aload_n 0) := by decide +kernel
theorem d13_17 : ins 13 17 = some (.aload_n 0) := by decide +kernel
theorem d13_18 : ins 13 18 = some (.getfield 21) := by decide +kernel
theorem d13_21 : ins 13 21 = some (.iload_n 2) := by decide +kernel
theorem d13_22 : ins 13 22 = some (.iconst 1) := by decide +kernel
theorem d13_23 : ins 13 23 = some (.isub) := by decide +kernel
theorem d13_24 : ins 13 24 = some (.iaload) := by decide +kernel
theorem d13_25 : ins 13 25 = some (.invokevirtual 41) := by decide +kernel
theorem d13_28 : ins 13 28 = some (.aload_n 0) := by decide +kernel
theorem d13_29 : ins 13 29 = some (.iload_n 1) := by decide +kernel
theorem d13_30 : ins 13 30 = some (.invokevirtual 41) := by decide +kernel
theorem d13_33 : ins 13 33 = some (.if_icmp .le 23) := by decide +kernel
theorem d13_36 : ins 13 36 = some (.aload_n 0) := by decide +kernel
theorem d13_37 : ins 13 37 = some (.getfield 21) := by decide +kernel
theorem d13_40 : ins 13 40 = some (.iload_n 2) := by decide +kernel
theorem d13_41 : ins 13 41 = some (.aload_n 0) := by decide +kernel
theorem d13_42 : ins 13 42 = some (.getfield 21) := by decide +kernel
theorem d13_45 : ins 13 45 = some (.iload_n 2) := by decide +kernel
theorem d13_46 : ins 13 46 = some (.iconst 1) := by decide +kernel
theorem d13_47 : ins 13 47 = some (.isub) := by decide +kernel
theorem d13_48 : ins 13 48 = some (.iaload) := by decide +kernel
theorem d13_49 : ins 13 49 = some (.iastore) := by decide +kernel
theorem d13_50 : ins 13 50 = some (.iinc 2 (-1)) := by decide +kernel
theorem d13_53 : ins 13 53 = some (.goto (-41)) := by decide +kernel
theorem d13_56 : ins 13 56 = some (.aload_n 0) := by decide +kernel
theorem d13_57 : ins 13 57 = some (.getfield 21) := by decide +kernel
theorem d13_60 : ins 13 60 = some (.iload_n 2) := by decide +kernel
theorem d13_61 : ins 13 61 = some (.iload_n 1) := by decide +kernel
theorem d13_62 : ins 13 62 = some (.iastore) := by decide +kernel
theorem d13_63 : ins 13 63 = some (.iinc 1 1) := by decide +kernel
theorem d13_66 : ins 13 66 = some (.goto (-64)) := by decide +kernel
theorem d13_69 : ins 13 69 = some (.return_) := by decide +kernel
set_option maxRecDepth 10000 in
theorem b13_0 {Q : Option Value → mm → Prop} (ρ : rm) (τ : Int64)  (hB : BM ρ)  : G 13 0 (some (.ref 2) :: []) [] (toM ρ τ) Q = G 13 2 (some (.ref 2) :: some (vI 0) :: []) [] (toM ρ τ) Q := by
  refine (j_iconst d13_0).trans ?_
  refine (g_istore_n d13_1 (by decide) rfl rfl).trans ?_
  rfl
set_option maxRecDepth 10000 in
theorem b13_2 {Q : Option Value → mm → Prop} (ρ : rm) (τ : Int64) (l1 : Int) (t : List (Option Value)) (hB : BM ρ) (h_l1 : SM l1) : G 13 2 (some (.ref 2) :: some (vI l1) :: t) [] (toM ρ τ) Q = (if (ρ 2 4) ≤ l1 then Q none (toM ρ τ) else G 13 12 (some (.ref 2) :: some (vI l1) :: some (vI l1) :: t.tail) [] (toM ρ τ) Q) := by
  refine (g_iload_n d13_2 rfl).trans ?_
  refine (g_aload_n d13_3 rfl rfl).trans ?_
  refine (j_getI (v := ρ 2 4) d13_4 f1_31 sh_2 (by decide) rfl rfl).trans ?_
  have q1 := hB 2 4 (by decide)
  refine j_icmp_ge (tgt := 69) d13_7 (by decide) (by omega) (by omega) (fun q2 => ?_) (fun q2 => ?_)
  ·
    exact g_ret d13_69 rfl
  ·
    refine (g_iload_n d13_10 rfl).trans ?_
    refine (g_istore_n d13_11 (by decide) rfl rfl).trans ?_
    rfl
set_option maxRecDepth 10000 in
theorem b13_12 {Q : Option Value → mm → Prop} (ρ : rm) (τ : Int64) (l1 : Int) (l2 : Int) (t : List (Option Value)) (hB : BM ρ) (h_l1 : SM l1) (h_l2 : SM l2) : G 13 12 (some (.ref 2) :: some (vI l1) :: some (vI l2) :: t) [] (toM ρ τ) Q = (if l2 ≤ 0 then (if 0 ≤ l2 ∧ l2 < 10 then G 13 2 (some (.ref 2) :: some (vI (l1 + 1)) :: some (vI l2) :: t) [] (toM (rup ρ 30 l2 l1) τ) Q else False) else (if 0 ≤ (l2 - 1) ∧ (l2 - 1) < 10 then G 12 0 [some (.ref 2), some (vI (ρ 30 (l2 - 1)))] [] (toM ρ τ) (fun v μ2 => G 13 28 (some (.ref 2) :: some (vI l1) :: some (vI l2) :: t) (v.toList ++ []) μ2 Q) else False)) := by
  refine (g_iload_n d13_12 rfl).trans ?_
  refine j_if_le (tgt := 56) d13_13 (by decide) (by omega) (fun q1 => ?_) (fun q1 => ?_)
  ·
    refine (g_aload_n d13_56 rfl rfl).trans ?_
    refine (g_getR (q := 30) d13_57 f1_21 sh_2 (by decide) rfl).trans ?_
    refine (g_iload_n d13_60 rfl).trans ?_
    refine (g_iload_n d13_61 rfl).trans ?_
    refine j_iastore d13_62 sh_30 (by omega) (fun q2 => ?_)
    refine (j_iinc d13_63 rfl (by decide) rfl rfl).trans ?_
    refine (g_goto (tgt := 2) d13_66 (by decide)).trans ?_
    rfl
  ·
    refine (g_aload_n d13_16 rfl rfl).trans ?_
    refine (g_aload_n d13_17 rfl rfl).trans ?_
    refine (g_getR (q := 30) d13_18 f1_21 sh_2 (by decide) rfl).trans ?_
    refine (g_iload_n d13_21 rfl).trans ?_
    refine (j_iconst d13_22).trans ?_
    refine (j_isub d13_23).trans ?_
    refine j_iaload (v := ρ 30 (l2 - 1)) d13_24 sh_30 (by omega) rfl (fun q3 => ?_)
    have q4 := hB 30 (l2 - 1) (by omega)
    exact g_cV d13_25 k1_41 rfl rfl rfl
set_option maxRecDepth 10000 in
theorem b13_28 {Q : Option Value → mm → Prop} (ρ : rm) (τ : Int64) (l1 : Int) (l2 : Int) (t : List (Option Value)) (r : Int) (hB : BM ρ) (h_l1 : SM l1) (h_l2 : SM l2) (h_r : SM r) : G 13 28 (some (.ref 2) :: some (vI l1) :: some (vI l2) :: t) ((some (vI r)).toList ++ []) (toM ρ τ) Q = G 12 0 [some (.ref 2), some (vI l1)] [] (toM ρ τ) (fun v μ2 => G 13 33 (some (.ref 2) :: some (vI l1) :: some (vI l2) :: t) (v.toList ++ [vI r]) μ2 Q) := by
  refine (g_aload_n d13_28 rfl rfl).trans ?_
  refine (g_iload_n d13_29 rfl).trans ?_
  exact g_cV d13_30 k1_41 rfl rfl rfl
set_option maxRecDepth 10000 in
theorem b13_33 {Q : Option Value → mm → Prop} (ρ : rm) (τ : Int64) (l1 : Int) (l2 : Int) (t : List (Option Value)) (s0 : Int) (r : Int) (hB : BM ρ) (h_l1 : SM l1) (h_l2 : SM l2) (h_s0 : SM s0) (h_r : SM r) : G 13 33 (some (.ref 2) :: some (vI l1) :: some (vI l2) :: t) ((some (vI r)).toList ++ [vI s0]) (toM ρ τ) Q = (if s0 ≤ r then (if 0 ≤ l2 ∧ l2 < 10 then G 13 2 (some (.ref 2) :: some (vI (l1 + 1)) :: some (vI l2) :: t) [] (toM (rup ρ 30 l2 l1) τ) Q else False) else (if 0 ≤ (l2 - 1) ∧ (l2 - 1) < 10 then (if 0 ≤ l2 ∧ l2 < 10 then G 13 12 (some (.ref 2) :: some (vI l1) :: some (vI (l2 + (-1))) :: t) [] (toM (rup ρ 30 l2 (ρ 30 (l2 - 1))) τ) Q else False) else False)) := by
  refine j_icmp_le (tgt := 56) d13_33 (by decide) (by omega) (by omega) (fun q1 => ?_) (fun q1 => ?_)
  ·
    refine (g_aload_n d13_56 rfl rfl).trans ?_
    refine (g_getR (q := 30) d13_57 f1_21 sh_2 (by decide) rfl).trans ?_
    refine (g_iload_n d13_60 rfl).trans ?_
    refine (g_iload_n d13_61 rfl).trans ?_
    refine j_iastore d13_62 sh_30 (by omega) (fun q2 => ?_)
    refine (j_iinc d13_63 rfl (by decide) rfl rfl).trans ?_
    refine (g_goto (tgt := 2) d13_66 (by decide)).trans ?_
    rfl
  ·
    refine (g_aload_n d13_36 rfl rfl).trans ?_
    refine (g_getR (q := 30) d13_37 f1_21 sh_2 (by decide) rfl).trans ?_
    refine (g_iload_n d13_40 rfl).trans ?_
    refine (g_aload_n d13_41 rfl rfl).trans ?_
    refine (g_getR (q := 30) d13_42 f1_21 sh_2 (by decide) rfl).trans ?_
    refine (g_iload_n d13_45 rfl).trans ?_
    refine (j_iconst d13_46).trans ?_
    refine (j_isub d13_47).trans ?_
    refine j_iaload (v := ρ 30 (l2 - 1)) d13_48 sh_30 (by omega) rfl (fun q3 => ?_)
    have q4 := hB 30 (l2 - 1) (by omega)
    refine j_iastore d13_49 sh_30 (by omega) (fun q5 => ?_)
    refine (j_iinc d13_50 rfl (by decide) rfl rfl).trans ?_
    refine (g_goto (tgt := 12) d13_53 (by decide)).trans ?_
    rfl
theorem d14_0 : ins 14 0 = some (.aload_n 0) := by decide +kernel
theorem d14_1 : ins 14 1 = some (.iload_n 1) := by decide +kernel
theorem d14_2 : ins 14 2 = some (.invokevirtual 41) := by decide +kernel
theorem d14_5 : ins 14 5 = some (.aload_n 0) := by decide +kernel
theorem d14_6 : ins 14 6 = some (.iload_n 2) := by decide +kernel
theorem d14_7 : ins 14 7 = some (.invokevirtual 41) := by decide +kernel
theorem d14_10 : ins 14 10 = some (.if_icmp .lt 21) := by decide +kernel
theorem d14_13 : ins 14 13 = some (.aload_n 0) := by decide +kernel
theorem d14_14 : ins 14 14 = some (.iload_n 1) := by decide +kernel
theorem d14_15 : ins 14 15 = some (.invokevirtual 41) := by decide +kernel
theorem d14_18 : ins 14 18 = some (.aload_n 0) := by decide +kernel
theorem d14_19 : ins 14 19 = some (.iload_n 2) := by decide +kernel
theorem d14_20 : ins 14 20 = some (.invokevirtual 41) := by decide +kernel
theorem d14_23 : ins 14 23 = some (.if_icmp .ne 12) := by decide +kernel
theorem d14_26 : ins 14 26 = some (.iload_n 1) := by decide +kernel
theorem d14_27 : ins 14 27 = some (.iload_n 2) := by decide +kernel
theorem d14_28 : ins 14 28 = some (.if_icmp .ge 7) := by decide +kernel
theorem d14_31 : ins 14 31 = some (.iconst 1) := by decide +kernel
theorem d14_32 : ins 14 32 = some (.goto 4) := by decide +kernel
theorem d14_35 : ins 14 35 = some (.iconst 0) := by decide +kernel
theorem d14_36 : ins 14 36 = some (.ireturn) := by decide +kernel
set_option maxRecDepth 10000 in
theorem b14_0 {Q : Option Value → mm → Prop} (ρ : rm) (τ : Int64) (a1 : Int) (a2 : Int) (hB : BM ρ) (h_a1 : SM a1) (h_a2 : SM a2) : G 14 0 (some (.ref 2) :: some (vI a1) :: some (vI a2) :: []) [] (toM ρ τ) Q = G 12 0 [some (.ref 2), some (vI a1)] [] (toM ρ τ) (fun v μ2 => G 14 5 (some (.ref 2) :: some (vI a1) :: some (vI a2) :: []) (v.toList ++ []) μ2 Q) := by
  refine (g_aload_n d14_0 rfl rfl).trans ?_
  refine (g_iload_n d14_1 rfl).trans ?_
  exact g_cV d14_2 k1_41 rfl rfl rfl
set_option maxRecDepth 10000 in
theorem b14_5 {Q : Option Value → mm → Prop} (ρ : rm) (τ : Int64) (l1 : Int) (l2 : Int) (t : List (Option Value)) (r : Int) (hB : BM ρ) (h_l1 : SM l1) (h_l2 : SM l2) (h_r : SM r) : G 14 5 (some (.ref 2) :: some (vI l1) :: some (vI l2) :: t) ((some (vI r)).toList ++ []) (toM ρ τ) Q = G 12 0 [some (.ref 2), some (vI l2)] [] (toM ρ τ) (fun v μ2 => G 14 10 (some (.ref 2) :: some (vI l1) :: some (vI l2) :: t) (v.toList ++ [vI r]) μ2 Q) := by
  refine (g_aload_n d14_5 rfl rfl).trans ?_
  refine (g_iload_n d14_6 rfl).trans ?_
  exact g_cV d14_7 k1_41 rfl rfl rfl
set_option maxRecDepth 10000 in
theorem b14_10 {Q : Option Value → mm → Prop} (ρ : rm) (τ : Int64) (l1 : Int) (l2 : Int) (t : List (Option Value)) (s0 : Int) (r : Int) (hB : BM ρ) (h_l1 : SM l1) (h_l2 : SM l2) (h_s0 : SM s0) (h_r : SM r) : G 14 10 (some (.ref 2) :: some (vI l1) :: some (vI l2) :: t) ((some (vI r)).toList ++ [vI s0]) (toM ρ τ) Q = (if s0 < r then Q (some (vI 1)) (toM ρ τ) else G 12 0 [some (.ref 2), some (vI l1)] [] (toM ρ τ) (fun v μ2 => G 14 18 (some (.ref 2) :: some (vI l1) :: some (vI l2) :: t) (v.toList ++ []) μ2 Q)) := by
  refine j_icmp_lt (tgt := 31) d14_10 (by decide) (by omega) (by omega) (fun q1 => ?_) (fun q1 => ?_)
  ·
    refine (j_iconst d14_31).trans ?_
    refine (g_goto (tgt := 36) d14_32 (by decide)).trans ?_
    exact g_iret d14_36 rfl rfl
  ·
    refine (g_aload_n d14_13 rfl rfl).trans ?_
    refine (g_iload_n d14_14 rfl).trans ?_
    exact g_cV d14_15 k1_41 rfl rfl rfl
set_option maxRecDepth 10000 in
theorem b14_18 {Q : Option Value → mm → Prop} (ρ : rm) (τ : Int64) (l1 : Int) (l2 : Int) (t : List (Option Value)) (r : Int) (hB : BM ρ) (h_l1 : SM l1) (h_l2 : SM l2) (h_r : SM r) : G 14 18 (some (.ref 2) :: some (vI l1) :: some (vI l2) :: t) ((some (vI r)).toList ++ []) (toM ρ τ) Q = G 12 0 [some (.ref 2), some (vI l2)] [] (toM ρ τ) (fun v μ2 => G 14 23 (some (.ref 2) :: some (vI l1) :: some (vI l2) :: t) (v.toList ++ [vI r]) μ2 Q) := by
  refine (g_aload_n d14_18 rfl rfl).trans ?_
  refine (g_iload_n d14_19 rfl).trans ?_
  exact g_cV d14_20 k1_41 rfl rfl rfl
set_option maxRecDepth 10000 in
theorem b14_23 {Q : Option Value → mm → Prop} (ρ : rm) (τ : Int64) (l1 : Int) (l2 : Int) (t : List (Option Value)) (s0 : Int) (r : Int) (hB : BM ρ) (h_l1 : SM l1) (h_l2 : SM l2) (h_s0 : SM s0) (h_r : SM r) : G 14 23 (some (.ref 2) :: some (vI l1) :: some (vI l2) :: t) ((some (vI r)).toList ++ [vI s0]) (toM ρ τ) Q = (if s0 = r then (if l2 ≤ l1 then Q (some (vI 0)) (toM ρ τ) else Q (some (vI 1)) (toM ρ τ)) else Q (some (vI 0)) (toM ρ τ)) := by
  refine j_icmp_ne (tgt := 35) d14_23 (by decide) (by omega) (by omega) (fun q1 => ?_) (fun q1 => ?_)
  ·
    refine (g_iload_n d14_26 rfl).trans ?_
    refine (g_iload_n d14_27 rfl).trans ?_
    refine j_icmp_ge (tgt := 35) d14_28 (by decide) (by omega) (by omega) (fun q2 => ?_) (fun q2 => ?_)
    ·
      refine (j_iconst d14_35).trans ?_
      exact g_iret d14_36 rfl rfl
    ·
      refine (j_iconst d14_31).trans ?_
      refine (g_goto (tgt := 36) d14_32 (by decide)).trans ?_
      exact g_iret d14_36 rfl rfl
  ·
    refine (j_iconst d14_35).trans ?_
    exact g_iret d14_36 rfl rfl
theorem d15_0 : ins 15 0 = some (.aload_n 0) := by decide +kernel
theorem d15_1 : ins 15 1 = some (.iload_n 2) := by decide +kernel
theorem d15_2 : ins 15 2 = some (.invokevirtual 41) := by decide +kernel
theorem d15_5 : ins 15 5 = some (.aload_n 0) := by decide +kernel
theorem d15_6 : ins 15 6 = some (.iload_n 1) := by decide +kernel
theorem d15_7 : ins 15 7 = some (.invokevirtual 41) := by decide +kernel
theorem d15_10 : ins 15 10 = some (.aload_n 0) := by decide +kernel
theorem d15_11 : ins 15 11 = some (.getfield 18) := by decide +kernel
theorem d15_14 : ins 15 14 = some (.iload_n 1) := by decide +kernel
theorem d15_15 : ins 15 15 = some (.iaload) := by decide +kernel
theorem d15_16 : ins 15 16 = some (.iadd) := by decide +kernel
theorem d15_17 : ins 15 17 = some (.aload_n 0) := by decide +kernel
theorem d15_18 : ins 15 18 = some (.getfield 27) := by decide +kernel
theorem d15_21 : ins 15 21 = some (.aload_n 0) := by decide +kernel
theorem d15_22 : ins 15 22 = some (.getfield 9) := by decide +kernel
theorem d15_25 : ins 15 25 = some (.iload_n 1) := by decide +kernel
theorem d15_26 : ins 15 26 = some (.iaload) := by decide +kernel
theorem d15_27 : ins 15 27 = some (.aload_n 0) := by decide +kernel
theorem d15_28 : ins 15 28 = some (.getfield 9) := by decide +kernel
theorem d15_31 : ins 15 31 = some (.iload_n 2) := by decide +kernel
theorem d15_32 : ins 15 32 = some (.iaload) := by decide +kernel
theorem d15_33 : ins 15 33 = some (.invokevirtual 45) := by decide +kernel
theorem d15_36 : ins 15 36 = some (.iadd) := by decide +kernel
theorem d15_37 : ins 15 37 = some (.isub) := by decide +kernel
theorem d15_38 : ins 15 38 = some (.ireturn) := by decide +kernel
set_option maxRecDepth 10000 in
theorem b15_0 {Q : Option Value → mm → Prop} (ρ : rm) (τ : Int64) (a1 : Int) (a2 : Int) (hB : BM ρ) (h_a1 : SM a1) (h_a2 : SM a2) : G 15 0 (some (.ref 2) :: some (vI a1) :: some (vI a2) :: []) [] (toM ρ τ) Q = G 12 0 [some (.ref 2), some (vI a2)] [] (toM ρ τ) (fun v μ2 => G 15 5 (some (.ref 2) :: some (vI a1) :: some (vI a2) :: []) (v.toList ++ []) μ2 Q) := by
  refine (g_aload_n d15_0 rfl rfl).trans ?_
  refine (g_iload_n d15_1 rfl).trans ?_
  exact g_cV d15_2 k1_41 rfl rfl rfl
set_option maxRecDepth 10000 in
theorem b15_5 {Q : Option Value → mm → Prop} (ρ : rm) (τ : Int64) (l1 : Int) (l2 : Int) (t : List (Option Value)) (r : Int) (hB : BM ρ) (h_l1 : SM l1) (h_l2 : SM l2) (h_r : SM r) : G 15 5 (some (.ref 2) :: some (vI l1) :: some (vI l2) :: t) ((some (vI r)).toList ++ []) (toM ρ τ) Q = G 12 0 [some (.ref 2), some (vI l1)] [] (toM ρ τ) (fun v μ2 => G 15 10 (some (.ref 2) :: some (vI l1) :: some (vI l2) :: t) (v.toList ++ [vI r]) μ2 Q) := by
  refine (g_aload_n d15_5 rfl rfl).trans ?_
  refine (g_iload_n d15_6 rfl).trans ?_
  exact g_cV d15_7 k1_41 rfl rfl rfl
set_option maxRecDepth 10000 in
theorem b15_10 {Q : Option Value → mm → Prop} (ρ : rm) (τ : Int64) (l1 : Int) (l2 : Int) (t : List (Option Value)) (s0 : Int) (r : Int) (hB : BM ρ) (h_l1 : SM l1) (h_l2 : SM l2) (h_s0 : SM s0) (h_r : SM r) : G 15 10 (some (.ref 2) :: some (vI l1) :: some (vI l2) :: t) ((some (vI r)).toList ++ [vI s0]) (toM ρ τ) Q = (if 0 ≤ l1 ∧ l1 < 10 then (if 0 ≤ l1 ∧ l1 < 10 then (if 0 ≤ l2 ∧ l2 < 10 then G 33 0 [some (.ref 1), some (vI (ρ 27 l1)), some (vI (ρ 27 l2))] [] (toM ρ τ) (fun v μ2 => G 15 36 (some (.ref 2) :: some (vI l1) :: some (vI l2) :: t) (v.toList ++ [vI (r + (ρ 29 l1)), vI s0]) μ2 Q) else False) else False) else False) := by
  refine (g_aload_n d15_10 rfl rfl).trans ?_
  refine (g_getR (q := 29) d15_11 f1_18 sh_2 (by decide) rfl).trans ?_
  refine (g_iload_n d15_14 rfl).trans ?_
  refine j_iaload (v := ρ 29 l1) d15_15 sh_29 (by omega) rfl (fun q1 => ?_)
  have q2 := hB 29 l1 (by omega)
  refine (j_iadd d15_16).trans ?_
  refine (g_aload_n d15_17 rfl rfl).trans ?_
  refine (g_getR (q := 1) d15_18 f1_27 sh_2 (by decide) rfl).trans ?_
  refine (g_aload_n d15_21 rfl rfl).trans ?_
  refine (g_getR (q := 27) d15_22 f1_9 sh_2 (by decide) rfl).trans ?_
  refine (g_iload_n d15_25 rfl).trans ?_
  refine j_iaload (v := ρ 27 l1) d15_26 sh_27 (by omega) rfl (fun q3 => ?_)
  have q4 := hB 27 l1 (by omega)
  refine (g_aload_n d15_27 rfl rfl).trans ?_
  refine (g_getR (q := 27) d15_28 f1_9 sh_2 (by decide) rfl).trans ?_
  refine (g_iload_n d15_31 rfl).trans ?_
  refine j_iaload (v := ρ 27 l2) d15_32 sh_27 (by omega) rfl (fun q5 => ?_)
  have q6 := hB 27 l2 (by omega)
  exact g_cV d15_33 k1_45 rfl rfl rfl
set_option maxRecDepth 10000 in
theorem b15_36 {Q : Option Value → mm → Prop} (ρ : rm) (τ : Int64) (l1 : Int) (l2 : Int) (t : List (Option Value)) (s0 : Int) (s1 : Int) (r : Int) (hB : BM ρ) (h_l1 : SM l1) (h_l2 : SM l2) (h_s0 : SM s0) (h_s1 : SM s1) (h_r : SM r) : G 15 36 (some (.ref 2) :: some (vI l1) :: some (vI l2) :: t) ((some (vI r)).toList ++ [vI s0, vI s1]) (toM ρ τ) Q = Q (some (vI (s1 - (s0 + r)))) (toM ρ τ) := by
  refine (j_iadd d15_36).trans ?_
  refine (j_isub d15_37).trans ?_
  exact g_iret d15_38 rfl rfl
theorem d16_0 : ins 16 0 = some (.aload_n 0) := by decide +kernel
theorem d16_1 : ins 16 1 = some (.iload_n 1) := by decide +kernel
theorem d16_2 : ins 16 2 = some (.iload_n 2) := by decide +kernel
theorem d16_3 : ins 16 3 = some (.invokevirtual 48) := by decide +kernel
theorem d16_6 : ins 16 6 = some (.ifCond .eq 16) := by decide +kernel
theorem d16_9 : ins 16 9 = some (.aload_n 0) := by decide +kernel
theorem d16_10 : ins 16 10 = some (.iload_n 1) := by decide +kernel
theorem d16_11 : ins 16 11 = some (.iload_n 2) := by decide +kernel
theorem d16_12 : ins 16 12 = some (.invokevirtual 52) := by decide +kernel
theorem d16_15 : ins 16 15 = some (.ifCond .lt 7) := by decide +kernel
theorem d16_18 : ins 16 18 = some (.iconst 1) := by decide +kernel
theorem d16_19 : ins 16 19 = some (.goto 4) := by decide +kernel
theorem d16_22 : ins 16 22 = some (.iconst 0) := by decide +kernel
theorem d16_23 : ins 16 23 = some (.ireturn) := by decide +kernel
set_option maxRecDepth 10000 in
theorem b16_0 {Q : Option Value → mm → Prop} (ρ : rm) (τ : Int64) (a1 : Int) (a2 : Int) (hB : BM ρ) (h_a1 : SM a1) (h_a2 : SM a2) : G 16 0 (some (.ref 2) :: some (vI a1) :: some (vI a2) :: []) [] (toM ρ τ) Q = G 14 0 [some (.ref 2), some (vI a1), some (vI a2)] [] (toM ρ τ) (fun v μ2 => G 16 6 (some (.ref 2) :: some (vI a1) :: some (vI a2) :: []) (v.toList ++ []) μ2 Q) := by
  refine (g_aload_n d16_0 rfl rfl).trans ?_
  refine (g_iload_n d16_1 rfl).trans ?_
  refine (g_iload_n d16_2 rfl).trans ?_
  exact g_cV d16_3 k1_48 rfl rfl rfl
set_option maxRecDepth 10000 in
theorem b16_6 {Q : Option Value → mm → Prop} (ρ : rm) (τ : Int64) (l1 : Int) (l2 : Int) (t : List (Option Value)) (r : Int) (hB : BM ρ) (h_l1 : SM l1) (h_l2 : SM l2) (h_r : SM r) : G 16 6 (some (.ref 2) :: some (vI l1) :: some (vI l2) :: t) ((some (vI r)).toList ++ []) (toM ρ τ) Q = (if r = 0 then Q (some (vI 0)) (toM ρ τ) else G 15 0 [some (.ref 2), some (vI l1), some (vI l2)] [] (toM ρ τ) (fun v μ2 => G 16 15 (some (.ref 2) :: some (vI l1) :: some (vI l2) :: t) (v.toList ++ []) μ2 Q)) := by
  refine j_if_eq (tgt := 22) d16_6 (by decide) (by omega) (fun q1 => ?_) (fun q1 => ?_)
  ·
    refine (j_iconst d16_22).trans ?_
    exact g_iret d16_23 rfl rfl
  ·
    refine (g_aload_n d16_9 rfl rfl).trans ?_
    refine (g_iload_n d16_10 rfl).trans ?_
    refine (g_iload_n d16_11 rfl).trans ?_
    exact g_cV d16_12 k1_52 rfl rfl rfl
set_option maxRecDepth 10000 in
theorem b16_15 {Q : Option Value → mm → Prop} (ρ : rm) (τ : Int64) (l1 : Int) (l2 : Int) (t : List (Option Value)) (r : Int) (hB : BM ρ) (h_l1 : SM l1) (h_l2 : SM l2) (h_r : SM r) : G 16 15 (some (.ref 2) :: some (vI l1) :: some (vI l2) :: t) ((some (vI r)).toList ++ []) (toM ρ τ) Q = (if r < 0 then Q (some (vI 0)) (toM ρ τ) else Q (some (vI 1)) (toM ρ τ)) := by
  refine j_if_lt (tgt := 22) d16_15 (by decide) (by omega) (fun q1 => ?_) (fun q1 => ?_)
  ·
    refine (j_iconst d16_22).trans ?_
    exact g_iret d16_23 rfl rfl
  ·
    refine (j_iconst d16_18).trans ?_
    refine (g_goto (tgt := 23) d16_19 (by decide)).trans ?_
    exact g_iret d16_23 rfl rfl
theorem d17_0 : ins 17 0 = some (.aload_n 0) := by decide +kernel
theorem d17_1 : ins 17 1 = some (.getfield 31) := by decide +kernel
theorem d17_4 : ins 17 4 = some (.iconst 1) := by decide +kernel
theorem d17_5 : ins 17 5 = some (.isub) := by decide +kernel
theorem d17_6 : ins 17 6 = some (.istore_n 2) := by decide +kernel
theorem d17_7 : ins 17 7 = some (.iload_n 2) := by decide +kernel
theorem d17_8 : ins 17 8 = some (.ifCond .lt 114) := by decide +kernel
theorem d17_11 : ins 17 11 = some (.aload_n 0) := by decide +kernel
theorem d17_12 : ins 17 12 = some (.getfield 21) := by decide +kernel
theorem d17_15 : ins 17 15 = some (.iload_n 2) := by decide +kernel
theorem d17_16 : ins 17 16 = some (.iaload) := by decide +kernel
theorem d17_17 : ins 17 17 = some (.istore_n 3) := by decide +kernel
theorem d17_18 : ins 17 18 = some (.iconst 0) := by decide +kernel
theorem d17_19 : ins 17 19 = some (.istore 4) := by decide +kernel
theorem d17_21 : ins 17 21 = some (.iload_n 2) := by decide +kernel
theorem d17_22 : ins 17 22 = some (.iconst 1) := by decide +kernel
theorem d17_23 : ins 17 23 = some (.iadd) := by decide +kernel
theorem d17_24 : ins 17 24 = some (.istore 5) := by decide +kernel
theorem d17_26 : ins 17 26 = some (.iload 5) := by decide +kernel
theorem d17_28 : ins 17 28 = some (.aload_n 0) := by decide +kernel
theorem d17_29 : ins 17 29 = some (.getfield 31) := by decide +kernel
theorem d17_32 : ins 17 32 = some (.if_icmp .ge 43) := by decide +kernel
theorem d17_35 : ins 17 35 = some (.aload_n 0) := by decide +kernel
theorem d17_36 : ins 17 36 = some (.iload_n 3) := by decide +kernel
theorem d17_37 : ins 17 37 = some (.aload_n 0) := by decide +kernel
theorem d17_38 : ins 17 38 = some (.getfield 21) := by decide +kernel
theorem d17_41 : ins 17 41 = some (.iload 5) := by decide +kernel
theorem d17_43 : ins 17 43 = some (.iaload) := by decide +kernel
theorem d17_44 : ins 17 44 = some (.invokevirtual 55) := by decide +kernel
theorem d17_47 : ins 17 47 = some (.ifCond .eq 22) := by decide +kernel
theorem d17_50 : ins 17 50 = some (.iload 4) := by decide +kernel
theorem d17_52 : ins 17 52 = some (.aload_n 0) := by decide +kernel
theorem d17_53 : ins 17 53 = some (.getfield 24) := by decide +kernel
theorem d17_56 : ins 17 56 = some (.aload_n 0) := by decide +kernel
theorem d17_57 : ins 17 57 = some (.getfield 21) := by decide +kernel
theorem d17_60 : ins 17 60 = some (.iload 5) := by decide +kernel
theorem d17_62 : ins 17 62 = some (.iaload) := by decide +kernel
theorem d17_63 : ins 17 63 = some (.iaload) := by decide +kernel
theorem d17_64 : ins 17 64 = some (.invokestatic 58) := by decide +kernel
theorem d17_67 : ins 17 67 = some (.istore 4) := by decide +kernel
theorem d17_69 : ins 17 69 = some (.iinc 5 1) := by decide +kernel
theorem d17_72 : ins 17 72 = some (.goto (-46)) := by decide +kernel
theorem d17_75 : ins 17 75 = some (.iload_n 1) := by decide +kernel
theorem d17_76 : ins 17 76 = some (.iconst (-1)) := by decide +kernel
theorem d17_77 : ins 17 77 = some (.if_icmp .eq 8) := by decide +kernel
theorem d17_80 : ins 17 80 = some (.iload_n 1) := by decide +kernel
theorem d17_81 : ins 17 81 = some (.iload_n 3) := by decide +kernel
theorem d17_82 : ins 17 82 = some (.if_icmp .ne 7) := by decide +kernel
theorem d17_85 : ins 17 85 = some (.iconst 1) := by decide +kernel
theorem d17_86 : ins 17 86 = some (.goto 4) := by decide +kernel
theorem d17_89 : ins 17 89 = some (.iconst 0) := by decide +kernel
theorem d17_90 : ins 17 90 = some (.istore 5) := by decide +kernel
theorem d17_92 : ins 17 92 = some (.aload_n 0) := by decide +kernel
theorem d17_93 : ins 17 93 = some (.getfield 24) := by decide +kernel
theorem d17_96 : ins 17 96 = some (.iload_n 3) := by decide +kernel
theorem d17_97 : ins 17 97 = some (.iload 4) := by decide +kernel
theorem d17_99 : ins 17 99 = some (.ifCond .gt 8) := by decide +kernel
theorem d17_102 : ins 17 102 = some (.iload 5) := by decide +kernel
theorem d17_104 : ins 17 104 = some (.ifCond .eq 10) := by decide +kernel
theorem d17_107 : ins 17 107 = some (.iload 4) := by decide +kernel
theorem d17_109 : ins 17 109 = some (.iconst 1) := by decide +kernel
theorem d17_110 : ins 17 110 = some (.iadd) := by decide +kernel
theorem d17_111 : ins 17 111 = some (.goto 4) := by decide +kernel
theorem d17_114 : ins 17 114 = some (.iconst 0) := by decide +kernel
theorem d17_115 : ins 17 115 = some (.iastore) := by decide +kernel
theorem d17_116 : ins 17 116 = some (.iinc 2 (-1)) := by decide +kernel
theorem d17_119 : ins 17 119 = some (.goto (-112)) := by decide +kernel
theorem d17_122 : ins 17 122 = some (.return_) := by decide +kernel
set_option maxRecDepth 10000 in
theorem b17_0 {Q : Option Value → mm → Prop} (ρ : rm) (τ : Int64) (a1 : Int) (hB : BM ρ) (h_a1 : SM a1) : G 17 0 (some (.ref 2) :: some (vI a1) :: []) [] (toM ρ τ) Q = G 17 7 (some (.ref 2) :: some (vI a1) :: some (vI ((ρ 2 4) - 1)) :: []) [] (toM ρ τ) Q := by
  refine (g_aload_n d17_0 rfl rfl).trans ?_
  refine (j_getI (v := ρ 2 4) d17_1 f1_31 sh_2 (by decide) rfl rfl).trans ?_
  have q1 := hB 2 4 (by decide)
  refine (j_iconst d17_4).trans ?_
  refine (j_isub d17_5).trans ?_
  refine (g_istore_n d17_6 (by decide) rfl rfl).trans ?_
  rfl
set_option maxRecDepth 10000 in
theorem b17_7 {Q : Option Value → mm → Prop} (ρ : rm) (τ : Int64) (l1 : Int) (l2 : Int) (t : List (Option Value)) (hB : BM ρ) (h_l1 : SM l1) (h_l2 : SM l2) : G 17 7 (some (.ref 2) :: some (vI l1) :: some (vI l2) :: t) [] (toM ρ τ) Q = (if l2 < 0 then Q none (toM ρ τ) else (if 0 ≤ l2 ∧ l2 < 10 then G 17 26 (some (.ref 2) :: some (vI l1) :: some (vI l2) :: some (vI (ρ 30 l2)) :: some (vI 0) :: some (vI (l2 + 1)) :: t.tail.tail.tail) [] (toM ρ τ) Q else False)) := by
  refine (g_iload_n d17_7 rfl).trans ?_
  refine j_if_lt (tgt := 122) d17_8 (by decide) (by omega) (fun q1 => ?_) (fun q1 => ?_)
  ·
    exact g_ret d17_122 rfl
  ·
    refine (g_aload_n d17_11 rfl rfl).trans ?_
    refine (g_getR (q := 30) d17_12 f1_21 sh_2 (by decide) rfl).trans ?_
    refine (g_iload_n d17_15 rfl).trans ?_
    refine j_iaload (v := ρ 30 l2) d17_16 sh_30 (by omega) rfl (fun q2 => ?_)
    have q3 := hB 30 l2 (by omega)
    refine (g_istore_n d17_17 (by decide) rfl rfl).trans ?_
    refine (j_iconst d17_18).trans ?_
    refine (g_istore d17_19 (by decide) rfl rfl).trans ?_
    refine (g_iload_n d17_21 rfl).trans ?_
    refine (j_iconst d17_22).trans ?_
    refine (j_iadd d17_23).trans ?_
    refine (g_istore d17_24 (by decide) rfl rfl).trans ?_
    rfl
set_option maxRecDepth 10000 in
theorem b17_26 {Q : Option Value → mm → Prop} (ρ : rm) (τ : Int64) (l1 : Int) (l2 : Int) (l3 : Int) (l4 : Int) (l5 : Int) (t : List (Option Value)) (hB : BM ρ) (h_l1 : SM l1) (h_l2 : SM l2) (h_l3 : SM l3) (h_l4 : SM l4) (h_l5 : SM l5) : G 17 26 (some (.ref 2) :: some (vI l1) :: some (vI l2) :: some (vI l3) :: some (vI l4) :: some (vI l5) :: t) [] (toM ρ τ) Q = (if (ρ 2 4) ≤ l5 then (if l1 = (-1) then (if 0 < l4 then (if 0 ≤ l3 ∧ l3 < 10 then G 17 7 (some (.ref 2) :: some (vI l1) :: some (vI (l2 + (-1))) :: some (vI l3) :: some (vI l4) :: some (vI 1) :: t) [] (toM (rup ρ 31 l3 (l4 + 1)) τ) Q else False) else (if 0 ≤ l3 ∧ l3 < 10 then G 17 7 (some (.ref 2) :: some (vI l1) :: some (vI (l2 + (-1))) :: some (vI l3) :: some (vI l4) :: some (vI 1) :: t) [] (toM (rup ρ 31 l3 (l4 + 1)) τ) Q else False)) else (if l1 = l3 then (if 0 < l4 then (if 0 ≤ l3 ∧ l3 < 10 then G 17 7 (some (.ref 2) :: some (vI l1) :: some (vI (l2 + (-1))) :: some (vI l3) :: some (vI l4) :: some (vI 1) :: t) [] (toM (rup ρ 31 l3 (l4 + 1)) τ) Q else False) else (if 0 ≤ l3 ∧ l3 < 10 then G 17 7 (some (.ref 2) :: some (vI l1) :: some (vI (l2 + (-1))) :: some (vI l3) :: some (vI l4) :: some (vI 1) :: t) [] (toM (rup ρ 31 l3 (l4 + 1)) τ) Q else False)) else (if 0 < l4 then (if 0 ≤ l3 ∧ l3 < 10 then G 17 7 (some (.ref 2) :: some (vI l1) :: some (vI (l2 + (-1))) :: some (vI l3) :: some (vI l4) :: some (vI 0) :: t) [] (toM (rup ρ 31 l3 (l4 + 1)) τ) Q else False) else (if 0 ≤ l3 ∧ l3 < 10 then G 17 7 (some (.ref 2) :: some (vI l1) :: some (vI (l2 + (-1))) :: some (vI l3) :: some (vI l4) :: some (vI 0) :: t) [] (toM (rup ρ 31 l3 0) τ) Q else False)))) else (if 0 ≤ l5 ∧ l5 < 10 then G 16 0 [some (.ref 2), some (vI l3), some (vI (ρ 30 l5))] [] (toM ρ τ) (fun v μ2 => G 17 47 (some (.ref 2) :: some (vI l1) :: some (vI l2) :: some (vI l3) :: some (vI l4) :: some (vI l5) :: t) (v.toList ++ []) μ2 Q) else False)) := by
  refine (g_iload d17_26 rfl).trans ?_
  refine (g_aload_n d17_28 rfl rfl).trans ?_
  refine (j_getI (v := ρ 2 4) d17_29 f1_31 sh_2 (by decide) rfl rfl).trans ?_
  have q1 := hB 2 4 (by decide)
  refine j_icmp_ge (tgt := 75) d17_32 (by decide) (by omega) (by omega) (fun q2 => ?_) (fun q2 => ?_)
  ·
    refine (g_iload_n d17_75 rfl).trans ?_
    refine (j_iconst d17_76).trans ?_
    refine j_icmp_eq (tgt := 85) d17_77 (by decide) (by omega) (by omega) (fun q3 => ?_) (fun q3 => ?_)
    ·
      refine (j_iconst d17_85).trans ?_
      refine (g_goto (tgt := 90) d17_86 (by decide)).trans ?_
      refine (g_istore d17_90 (by decide) rfl rfl).trans ?_
      refine (g_aload_n d17_92 rfl rfl).trans ?_
      refine (g_getR (q := 31) d17_93 f1_24 sh_2 (by decide) rfl).trans ?_
      refine (g_iload_n d17_96 rfl).trans ?_
      refine (g_iload d17_97 rfl).trans ?_
      refine j_if_gt (tgt := 107) d17_99 (by decide) (by omega) (fun q4 => ?_) (fun q4 => ?_)
      ·
        refine (g_iload d17_107 rfl).trans ?_
        refine (j_iconst d17_109).trans ?_
        refine (j_iadd d17_110).trans ?_
        refine (g_goto (tgt := 115) d17_111 (by decide)).trans ?_
        refine j_iastore d17_115 sh_31 (by omega) (fun q5 => ?_)
        refine (j_iinc d17_116 rfl (by decide) rfl rfl).trans ?_
        refine (g_goto (tgt := 7) d17_119 (by decide)).trans ?_
        rfl
      ·
        refine (g_iload d17_102 rfl).trans ?_
        refine ((g_if_eq (tgt := 114) d17_104 (by decide)).trans (if_neg (by decide))).trans ?_
        refine (g_iload d17_107 rfl).trans ?_
        refine (j_iconst d17_109).trans ?_
        refine (j_iadd d17_110).trans ?_
        refine (g_goto (tgt := 115) d17_111 (by decide)).trans ?_
        refine j_iastore d17_115 sh_31 (by omega) (fun q6 => ?_)
        refine (j_iinc d17_116 rfl (by decide) rfl rfl).trans ?_
        refine (g_goto (tgt := 7) d17_119 (by decide)).trans ?_
        rfl
    ·
      refine (g_iload_n d17_80 rfl).trans ?_
      refine (g_iload_n d17_81 rfl).trans ?_
      refine j_icmp_ne (tgt := 89) d17_82 (by decide) (by omega) (by omega) (fun q7 => ?_) (fun q7 => ?_)
      ·
        refine (j_iconst d17_85).trans ?_
        refine (g_goto (tgt := 90) d17_86 (by decide)).trans ?_
        refine (g_istore d17_90 (by decide) rfl rfl).trans ?_
        refine (g_aload_n d17_92 rfl rfl).trans ?_
        refine (g_getR (q := 31) d17_93 f1_24 sh_2 (by decide) rfl).trans ?_
        refine (g_iload_n d17_96 rfl).trans ?_
        refine (g_iload d17_97 rfl).trans ?_
        refine j_if_gt (tgt := 107) d17_99 (by decide) (by omega) (fun q8 => ?_) (fun q8 => ?_)
        ·
          refine (g_iload d17_107 rfl).trans ?_
          refine (j_iconst d17_109).trans ?_
          refine (j_iadd d17_110).trans ?_
          refine (g_goto (tgt := 115) d17_111 (by decide)).trans ?_
          refine j_iastore d17_115 sh_31 (by omega) (fun q9 => ?_)
          refine (j_iinc d17_116 rfl (by decide) rfl rfl).trans ?_
          refine (g_goto (tgt := 7) d17_119 (by decide)).trans ?_
          rfl
        ·
          refine (g_iload d17_102 rfl).trans ?_
          refine ((g_if_eq (tgt := 114) d17_104 (by decide)).trans (if_neg (by decide))).trans ?_
          refine (g_iload d17_107 rfl).trans ?_
          refine (j_iconst d17_109).trans ?_
          refine (j_iadd d17_110).trans ?_
          refine (g_goto (tgt := 115) d17_111 (by decide)).trans ?_
          refine j_iastore d17_115 sh_31 (by omega) (fun q10 => ?_)
          refine (j_iinc d17_116 rfl (by decide) rfl rfl).trans ?_
          refine (g_goto (tgt := 7) d17_119 (by decide)).trans ?_
          rfl
      ·
        refine (j_iconst d17_89).trans ?_
        refine (g_istore d17_90 (by decide) rfl rfl).trans ?_
        refine (g_aload_n d17_92 rfl rfl).trans ?_
        refine (g_getR (q := 31) d17_93 f1_24 sh_2 (by decide) rfl).trans ?_
        refine (g_iload_n d17_96 rfl).trans ?_
        refine (g_iload d17_97 rfl).trans ?_
        refine j_if_gt (tgt := 107) d17_99 (by decide) (by omega) (fun q11 => ?_) (fun q11 => ?_)
        ·
          refine (g_iload d17_107 rfl).trans ?_
          refine (j_iconst d17_109).trans ?_
          refine (j_iadd d17_110).trans ?_
          refine (g_goto (tgt := 115) d17_111 (by decide)).trans ?_
          refine j_iastore d17_115 sh_31 (by omega) (fun q12 => ?_)
          refine (j_iinc d17_116 rfl (by decide) rfl rfl).trans ?_
          refine (g_goto (tgt := 7) d17_119 (by decide)).trans ?_
          rfl
        ·
          refine (g_iload d17_102 rfl).trans ?_
          refine ((g_if_eq (tgt := 114) d17_104 (by decide)).trans (if_pos (by decide))).trans ?_
          refine (j_iconst d17_114).trans ?_
          refine j_iastore d17_115 sh_31 (by omega) (fun q13 => ?_)
          refine (j_iinc d17_116 rfl (by decide) rfl rfl).trans ?_
          refine (g_goto (tgt := 7) d17_119 (by decide)).trans ?_
          rfl
  ·
    refine (g_aload_n d17_35 rfl rfl).trans ?_
    refine (g_iload_n d17_36 rfl).trans ?_
    refine (g_aload_n d17_37 rfl rfl).trans ?_
    refine (g_getR (q := 30) d17_38 f1_21 sh_2 (by decide) rfl).trans ?_
    refine (g_iload d17_41 rfl).trans ?_
    refine j_iaload (v := ρ 30 l5) d17_43 sh_30 (by omega) rfl (fun q14 => ?_)
    have q15 := hB 30 l5 (by omega)
    exact g_cV d17_44 k1_55 rfl rfl rfl
set_option maxRecDepth 10000 in
theorem b17_47 {Q : Option Value → mm → Prop} (ρ : rm) (τ : Int64) (l1 : Int) (l2 : Int) (l3 : Int) (l4 : Int) (l5 : Int) (t : List (Option Value)) (r : Int) (hB : BM ρ) (h_l1 : SM l1) (h_l2 : SM l2) (h_l3 : SM l3) (h_l4 : SM l4) (h_l5 : SM l5) (h_r : SM r) : G 17 47 (some (.ref 2) :: some (vI l1) :: some (vI l2) :: some (vI l3) :: some (vI l4) :: some (vI l5) :: t) ((some (vI r)).toList ++ []) (toM ρ τ) Q = (if r = 0 then G 17 26 (some (.ref 2) :: some (vI l1) :: some (vI l2) :: some (vI l3) :: some (vI l4) :: some (vI (l5 + 1)) :: t) [] (toM ρ τ) Q else (if 0 ≤ l5 ∧ l5 < 10 then (if 0 ≤ (ρ 30 l5) ∧ (ρ 30 l5) < 10 then G 184 0 [some (vI l4), some (vI (ρ 31 (ρ 30 l5)))] [] (toM ρ τ) (fun v μ2 => G 17 67 (some (.ref 2) :: some (vI l1) :: some (vI l2) :: some (vI l3) :: some (vI l4) :: some (vI l5) :: t) (v.toList ++ []) μ2 Q) else False) else False)) := by
  refine j_if_eq (tgt := 69) d17_47 (by decide) (by omega) (fun q1 => ?_) (fun q1 => ?_)
  ·
    refine (j_iinc d17_69 rfl (by decide) rfl rfl).trans ?_
    refine (g_goto (tgt := 26) d17_72 (by decide)).trans ?_
    rfl
  ·
    refine (g_iload d17_50 rfl).trans ?_
    refine (g_aload_n d17_52 rfl rfl).trans ?_
    refine (g_getR (q := 31) d17_53 f1_24 sh_2 (by decide) rfl).trans ?_
    refine (g_aload_n d17_56 rfl rfl).trans ?_
    refine (g_getR (q := 30) d17_57 f1_21 sh_2 (by decide) rfl).trans ?_
    refine (g_iload d17_60 rfl).trans ?_
    refine j_iaload (v := ρ 30 l5) d17_62 sh_30 (by omega) rfl (fun q2 => ?_)
    have q3 := hB 30 l5 (by omega)
    refine j_iaload (v := ρ 31 (ρ 30 l5)) d17_63 sh_31 (by omega) rfl (fun q4 => ?_)
    have q5 := hB 31 (ρ 30 l5) (by omega)
    exact g_cS d17_64 k1_58 rfl rfl rfl
set_option maxRecDepth 10000 in
theorem b17_67 {Q : Option Value → mm → Prop} (ρ : rm) (τ : Int64) (l1 : Int) (l2 : Int) (l3 : Int) (l4 : Int) (l5 : Int) (t : List (Option Value)) (r : Int) (hB : BM ρ) (h_l1 : SM l1) (h_l2 : SM l2) (h_l3 : SM l3) (h_l4 : SM l4) (h_l5 : SM l5) (h_r : SM r) : G 17 67 (some (.ref 2) :: some (vI l1) :: some (vI l2) :: some (vI l3) :: some (vI l4) :: some (vI l5) :: t) ((some (vI r)).toList ++ []) (toM ρ τ) Q = G 17 26 (some (.ref 2) :: some (vI l1) :: some (vI l2) :: some (vI l3) :: some (vI r) :: some (vI (l5 + 1)) :: t) [] (toM ρ τ) Q := by
  refine (g_istore d17_67 (by decide) rfl rfl).trans ?_
  refine (j_iinc d17_69 rfl (by decide) rfl rfl).trans ?_
  refine (g_goto (tgt := 26) d17_72 (by decide)).trans ?_
  rfl
theorem d18_0 : ins 18 0 = some (.iconst 0) := by decide +kernel
theorem d18_1 : ins 18 1 = some (.istore_n 1) := by decide +kernel
theorem d18_2 : ins 18 2 = some (.iconst 0) := by decide +kernel
theorem d18_3 : ins 18 3 = some (.istore_n 2) := by decide +kernel
theorem d18_4 : ins 18 4 = some (.iload_n 2) := by decide +kernel
theorem d18_5 : ins 18 5 = some (.aload_n 0) := by decide +kernel
theorem d18_6 : ins 18 6 = some (.getfield 31) := by decide +kernel
theorem d18_9 : ins 18 9 = some (.if_icmp .ge 20) := by decide +kernel
theorem d18_12 : ins 18 12 = some (.iload_n 1) := by decide +kernel
theorem d18_13 : ins 18 13 = some (.aload_n 0) := by decide +kernel
theorem d18_14 : ins 18 14 = some (.getfield 24) := by decide +kernel
theorem d18_17 : ins 18 17 = some (.iload_n 2) := by decide +kernel
theorem d18_18 : ins 18 18 = some (.iaload) := by decide +kernel
theorem d18_19 : ins 18 19 = some (.invokestatic 58) := by decide +kernel
theorem d18_22 : ins 18 22 = some (.istore_n 1) := by decide +kernel
theorem d18_23 : ins 18 23 = some (.iinc 2 1) := by decide +kernel
theorem d18_26 : ins 18 26 = some (.goto (-22)) := by decide +kernel
theorem d18_29 : ins 18 29 = some (.iload_n 1) := by decide +kernel
theorem d18_30 : ins 18 30 = some (.ireturn) := by decide +kernel
set_option maxRecDepth 10000 in
theorem b18_0 {Q : Option Value → mm → Prop} (ρ : rm) (τ : Int64)  (hB : BM ρ)  : G 18 0 (some (.ref 2) :: []) [] (toM ρ τ) Q = G 18 4 (some (.ref 2) :: some (vI 0) :: some (vI 0) :: []) [] (toM ρ τ) Q := by
  refine (j_iconst d18_0).trans ?_
  refine (g_istore_n d18_1 (by decide) rfl rfl).trans ?_
  refine (j_iconst d18_2).trans ?_
  refine (g_istore_n d18_3 (by decide) rfl rfl).trans ?_
  rfl
set_option maxRecDepth 10000 in
theorem b18_4 {Q : Option Value → mm → Prop} (ρ : rm) (τ : Int64) (l1 : Int) (l2 : Int) (t : List (Option Value)) (hB : BM ρ) (h_l1 : SM l1) (h_l2 : SM l2) : G 18 4 (some (.ref 2) :: some (vI l1) :: some (vI l2) :: t) [] (toM ρ τ) Q = (if (ρ 2 4) ≤ l2 then Q (some (vI l1)) (toM ρ τ) else (if 0 ≤ l2 ∧ l2 < 10 then G 184 0 [some (vI l1), some (vI (ρ 31 l2))] [] (toM ρ τ) (fun v μ2 => G 18 22 (some (.ref 2) :: some (vI l1) :: some (vI l2) :: t) (v.toList ++ []) μ2 Q) else False)) := by
  refine (g_iload_n d18_4 rfl).trans ?_
  refine (g_aload_n d18_5 rfl rfl).trans ?_
  refine (j_getI (v := ρ 2 4) d18_6 f1_31 sh_2 (by decide) rfl rfl).trans ?_
  have q1 := hB 2 4 (by decide)
  refine j_icmp_ge (tgt := 29) d18_9 (by decide) (by omega) (by omega) (fun q2 => ?_) (fun q2 => ?_)
  ·
    refine (g_iload_n d18_29 rfl).trans ?_
    exact g_iret d18_30 rfl rfl
  ·
    refine (g_iload_n d18_12 rfl).trans ?_
    refine (g_aload_n d18_13 rfl rfl).trans ?_
    refine (g_getR (q := 31) d18_14 f1_24 sh_2 (by decide) rfl).trans ?_
    refine (g_iload_n d18_17 rfl).trans ?_
    refine j_iaload (v := ρ 31 l2) d18_18 sh_31 (by omega) rfl (fun q3 => ?_)
    have q4 := hB 31 l2 (by omega)
    exact g_cS d18_19 k1_58 rfl rfl rfl
set_option maxRecDepth 10000 in
theorem b18_22 {Q : Option Value → mm → Prop} (ρ : rm) (τ : Int64) (l1 : Int) (l2 : Int) (t : List (Option Value)) (r : Int) (hB : BM ρ) (h_l1 : SM l1) (h_l2 : SM l2) (h_r : SM r) : G 18 22 (some (.ref 2) :: some (vI l1) :: some (vI l2) :: t) ((some (vI r)).toList ++ []) (toM ρ τ) Q = G 18 4 (some (.ref 2) :: some (vI r) :: some (vI (l2 + 1)) :: t) [] (toM ρ τ) Q := by
  refine (g_istore_n d18_22 (by decide) rfl rfl).trans ?_
  refine (j_iinc d18_23 rfl (by decide) rfl rfl).trans ?_
  refine (g_goto (tgt := 4) d18_26 (by decide)).trans ?_
  rfl
theorem d19_0 : ins 19 0 = some (.aload_n 0) := by decide +kernel
theorem d19_1 : ins 19 1 = some (.invokevirtual 63) := by decide +kernel
theorem d19_4 : ins 19 4 = some (.istore_n 2) := by decide +kernel
theorem d19_5 : ins 19 5 = some (.iload_n 1) := by decide +kernel
theorem d19_6 : ins 19 6 = some (.iload_n 2) := by decide +kernel
theorem d19_7 : ins 19 7 = some (.if_icmp .lt 5) := by decide +kernel
theorem d19_10 : ins 19 10 = some (.iconst (-1)) := by decide +kernel
theorem d19_11 : ins 19 11 = some (.ireturn) := by decide +kernel
theorem d19_12 : ins 19 12 = some (.iconst (-1)) := by decide +kernel
theorem d19_13 : ins 19 13 = some (.istore_n 3) := by decide +kernel
theorem d19_14 : ins 19 14 = some (.iconst 0) := by decide +kernel
theorem d19_15 : ins 19 15 = some (.istore 4) := by decide +kernel
theorem d19_17 : ins 19 17 = some (.iload 4) := by decide +kernel
theorem d19_19 : ins 19 19 = some (.iload_n 1) := by decide +kernel
theorem d19_20 : ins 19 20 = some (.if_icmp .gt 19) := by decide +kernel
theorem d19_23 : ins 19 23 = some (.aload_n 0) := by decide +kernel
theorem d19_24 : ins 19 24 = some (.iload_n 3) := by decide +kernel
theorem d19_25 : ins 19 25 = some (.iload_n 2) := by decide +kernel
theorem d19_26 : ins 19 26 = some (.iload 4) := by decide +kernel
theorem d19_28 : ins 19 28 = some (.isub) := by decide +kernel
theorem d19_29 : ins 19 29 = some (.invokevirtual 67) := by decide +kernel
theorem d19_32 : ins 19 32 = some (.istore_n 3) := by decide +kernel
theorem d19_33 : ins 19 33 = some (.iinc 4 1) := by decide +kernel
theorem d19_36 : ins 19 36 = some (.goto (-19)) := by decide +kernel
theorem d19_39 : ins 19 39 = some (.iload_n 3) := by decide +kernel
theorem d19_40 : ins 19 40 = some (.ireturn) := by decide +kernel
set_option maxRecDepth 10000 in
theorem b19_0 {Q : Option Value → mm → Prop} (ρ : rm) (τ : Int64) (a1 : Int) (hB : BM ρ) (h_a1 : SB a1) : G 19 0 (some (.ref 2) :: some (vI a1) :: []) [] (toM ρ τ) Q = G 18 0 [some (.ref 2)] [] (toM ρ τ) (fun v μ2 => G 19 4 (some (.ref 2) :: some (vI a1) :: []) (v.toList ++ []) μ2 Q) := by
  refine (g_aload_n d19_0 rfl rfl).trans ?_
  exact g_cV d19_1 k1_63 rfl rfl rfl
set_option maxRecDepth 10000 in
theorem b19_4 {Q : Option Value → mm → Prop} (ρ : rm) (τ : Int64) (l1 : Int) (t : List (Option Value)) (r : Int) (hB : BM ρ) (h_l1 : SB l1) (h_r : SM r) : G 19 4 (some (.ref 2) :: some (vI l1) :: t) ((some (vI r)).toList ++ []) (toM ρ τ) Q = (if l1 < r then G 19 17 (some (.ref 2) :: some (vI l1) :: some (vI r) :: some (vI (-1)) :: some (vI 0) :: t.tail.tail.tail) [] (toM ρ τ) Q else Q (some (vI (-1))) (toM ρ τ)) := by
  refine (g_istore_n d19_4 (by decide) rfl rfl).trans ?_
  refine (g_iload_n d19_5 rfl).trans ?_
  refine (g_iload_n d19_6 rfl).trans ?_
  refine j_icmp_lt (tgt := 12) d19_7 (by decide) (by omega) (by omega) (fun q1 => ?_) (fun q1 => ?_)
  ·
    refine (j_iconst d19_12).trans ?_
    refine (g_istore_n d19_13 (by decide) rfl rfl).trans ?_
    refine (j_iconst d19_14).trans ?_
    refine (g_istore d19_15 (by decide) rfl rfl).trans ?_
    rfl
  ·
    refine (j_iconst d19_10).trans ?_
    exact g_iret d19_11 rfl rfl
set_option maxRecDepth 10000 in
theorem b19_17 {Q : Option Value → mm → Prop} (ρ : rm) (τ : Int64) (l1 : Int) (l2 : Int) (l3 : Int) (l4 : Int) (t : List (Option Value)) (hB : BM ρ) (h_l1 : SB l1) (h_l2 : SM l2) (h_l3 : SM l3) (h_l4 : SM l4) : G 19 17 (some (.ref 2) :: some (vI l1) :: some (vI l2) :: some (vI l3) :: some (vI l4) :: t) [] (toM ρ τ) Q = (if l1 < l4 then Q (some (vI l3)) (toM ρ τ) else G 20 0 [some (.ref 2), some (vI l3), some (vI (l2 - l4))] [] (toM ρ τ) (fun v μ2 => G 19 32 (some (.ref 2) :: some (vI l1) :: some (vI l2) :: some (vI l3) :: some (vI l4) :: t) (v.toList ++ []) μ2 Q)) := by
  refine (g_iload d19_17 rfl).trans ?_
  refine (g_iload_n d19_19 rfl).trans ?_
  refine j_icmp_gt (tgt := 39) d19_20 (by decide) (by omega) (by omega) (fun q1 => ?_) (fun q1 => ?_)
  ·
    refine (g_iload_n d19_39 rfl).trans ?_
    exact g_iret d19_40 rfl rfl
  ·
    refine (g_aload_n d19_23 rfl rfl).trans ?_
    refine (g_iload_n d19_24 rfl).trans ?_
    refine (g_iload_n d19_25 rfl).trans ?_
    refine (g_iload d19_26 rfl).trans ?_
    refine (j_isub d19_28).trans ?_
    exact g_cV d19_29 k1_67 rfl rfl rfl
set_option maxRecDepth 10000 in
theorem b19_32 {Q : Option Value → mm → Prop} (ρ : rm) (τ : Int64) (l1 : Int) (l2 : Int) (l3 : Int) (l4 : Int) (t : List (Option Value)) (r : Int) (hB : BM ρ) (h_l1 : SB l1) (h_l2 : SM l2) (h_l3 : SM l3) (h_l4 : SM l4) (h_r : SM r) : G 19 32 (some (.ref 2) :: some (vI l1) :: some (vI l2) :: some (vI l3) :: some (vI l4) :: t) ((some (vI r)).toList ++ []) (toM ρ τ) Q = G 19 17 (some (.ref 2) :: some (vI l1) :: some (vI l2) :: some (vI r) :: some (vI (l4 + 1)) :: t) [] (toM ρ τ) Q := by
  refine (g_istore_n d19_32 (by decide) rfl rfl).trans ?_
  refine (j_iinc d19_33 rfl (by decide) rfl rfl).trans ?_
  refine (g_goto (tgt := 17) d19_36 (by decide)).trans ?_
  rfl
theorem d20_0 : ins 20 0 = some (.iconst 0) := by decide +kernel
theorem d20_1 : ins 20 1 = some (.istore_n 3) := by decide +kernel
theorem d20_2 : ins 20 2 = some (.iload_n 3) := by decide +kernel
theorem d20_3 : ins 20 3 = some (.aload_n 0) := by decide +kernel
theorem d20_4 : ins 20 4 = some (.getfield 31) := by decide +kernel
theorem d20_7 : ins 20 7 = some (.if_icmp .ge 38) := by decide +kernel
theorem d20_10 : ins 20 10 = some (.aload_n 0) := by decide +kernel
theorem d20_11 : ins 20 11 = some (.getfield 24) := by decide +kernel
theorem d20_14 : ins 20 14 = some (.iload_n 3) := by decide +kernel
theorem d20_15 : ins 20 15 = some (.iaload) := by decide +kernel
theorem d20_16 : ins 20 16 = some (.iload_n 2) := by decide +kernel
theorem d20_17 : ins 20 17 = some (.if_icmp .ne 22) := by decide +kernel
theorem d20_20 : ins 20 20 = some (.aload_n 0) := by decide +kernel
theorem d20_21 : ins 20 21 = some (.iload_n 1) := by decide +kernel
theorem d20_22 : ins 20 22 = some (.invokevirtual 70) := by decide +kernel
theorem d20_25 : ins 20 25 = some (.ifCond .eq 12) := by decide +kernel
theorem d20_28 : ins 20 28 = some (.aload_n 0) := by decide +kernel
theorem d20_29 : ins 20 29 = some (.iload_n 1) := by decide +kernel
theorem d20_30 : ins 20 30 = some (.iload_n 3) := by decide +kernel
theorem d20_31 : ins 20 31 = some (.invokevirtual 55) := by decide +kernel
theorem d20_34 : ins 20 34 = some (.ifCond .eq 5) := by decide +kernel
theorem d20_37 : ins 20 37 = some (.iload_n 3) := by decide +kernel
theorem d20_38 : ins 20 38 = some (.ireturn) := by decide +kernel
theorem d20_39 : ins 20 39 = some (.iinc 3 1) := by decide +kernel
theorem d20_42 : ins 20 42 = some (.goto (-40)) := by decide +kernel
theorem d20_45 : ins 20 45 = some (.iconst (-1)) := by decide +kernel
theorem d20_46 : ins 20 46 = some (.ireturn) := by decide +kernel
set_option maxRecDepth 10000 in
theorem b20_0 {Q : Option Value → mm → Prop} (ρ : rm) (τ : Int64) (a1 : Int) (a2 : Int) (hB : BM ρ) (h_a1 : SM a1) (h_a2 : SM a2) : G 20 0 (some (.ref 2) :: some (vI a1) :: some (vI a2) :: []) [] (toM ρ τ) Q = G 20 2 (some (.ref 2) :: some (vI a1) :: some (vI a2) :: some (vI 0) :: []) [] (toM ρ τ) Q := by
  refine (j_iconst d20_0).trans ?_
  refine (g_istore_n d20_1 (by decide) rfl rfl).trans ?_
  rfl
set_option maxRecDepth 10000 in
theorem b20_2 {Q : Option Value → mm → Prop} (ρ : rm) (τ : Int64) (l1 : Int) (l2 : Int) (l3 : Int) (t : List (Option Value)) (hB : BM ρ) (h_l1 : SM l1) (h_l2 : SM l2) (h_l3 : SM l3) : G 20 2 (some (.ref 2) :: some (vI l1) :: some (vI l2) :: some (vI l3) :: t) [] (toM ρ τ) Q = (if (ρ 2 4) ≤ l3 then Q (some (vI (-1))) (toM ρ τ) else (if 0 ≤ l3 ∧ l3 < 10 then (if (ρ 31 l3) = l2 then G 11 0 [some (.ref 2), some (vI l1)] [] (toM ρ τ) (fun v μ2 => G 20 25 (some (.ref 2) :: some (vI l1) :: some (vI l2) :: some (vI l3) :: t) (v.toList ++ []) μ2 Q) else G 20 2 (some (.ref 2) :: some (vI l1) :: some (vI l2) :: some (vI (l3 + 1)) :: t) [] (toM ρ τ) Q) else False)) := by
  refine (g_iload_n d20_2 rfl).trans ?_
  refine (g_aload_n d20_3 rfl rfl).trans ?_
  refine (j_getI (v := ρ 2 4) d20_4 f1_31 sh_2 (by decide) rfl rfl).trans ?_
  have q1 := hB 2 4 (by decide)
  refine j_icmp_ge (tgt := 45) d20_7 (by decide) (by omega) (by omega) (fun q2 => ?_) (fun q2 => ?_)
  ·
    refine (j_iconst d20_45).trans ?_
    exact g_iret d20_46 rfl rfl
  ·
    refine (g_aload_n d20_10 rfl rfl).trans ?_
    refine (g_getR (q := 31) d20_11 f1_24 sh_2 (by decide) rfl).trans ?_
    refine (g_iload_n d20_14 rfl).trans ?_
    refine j_iaload (v := ρ 31 l3) d20_15 sh_31 (by omega) rfl (fun q3 => ?_)
    have q4 := hB 31 l3 (by omega)
    refine (g_iload_n d20_16 rfl).trans ?_
    refine j_icmp_ne (tgt := 39) d20_17 (by decide) (by omega) (by omega) (fun q5 => ?_) (fun q5 => ?_)
    ·
      refine (g_aload_n d20_20 rfl rfl).trans ?_
      refine (g_iload_n d20_21 rfl).trans ?_
      exact g_cV d20_22 k1_70 rfl rfl rfl
    ·
      refine (j_iinc d20_39 rfl (by decide) rfl rfl).trans ?_
      refine (g_goto (tgt := 2) d20_42 (by decide)).trans ?_
      rfl
set_option maxRecDepth 10000 in
theorem b20_25 {Q : Option Value → mm → Prop} (ρ : rm) (τ : Int64) (l1 : Int) (l2 : Int) (l3 : Int) (t : List (Option Value)) (r : Int) (hB : BM ρ) (h_l1 : SM l1) (h_l2 : SM l2) (h_l3 : SM l3) (h_r : SM r) : G 20 25 (some (.ref 2) :: some (vI l1) :: some (vI l2) :: some (vI l3) :: t) ((some (vI r)).toList ++ []) (toM ρ τ) Q = (if r = 0 then Q (some (vI l3)) (toM ρ τ) else G 16 0 [some (.ref 2), some (vI l1), some (vI l3)] [] (toM ρ τ) (fun v μ2 => G 20 34 (some (.ref 2) :: some (vI l1) :: some (vI l2) :: some (vI l3) :: t) (v.toList ++ []) μ2 Q)) := by
  refine j_if_eq (tgt := 37) d20_25 (by decide) (by omega) (fun q1 => ?_) (fun q1 => ?_)
  ·
    refine (g_iload_n d20_37 rfl).trans ?_
    exact g_iret d20_38 rfl rfl
  ·
    refine (g_aload_n d20_28 rfl rfl).trans ?_
    refine (g_iload_n d20_29 rfl).trans ?_
    refine (g_iload_n d20_30 rfl).trans ?_
    exact g_cV d20_31 k1_55 rfl rfl rfl
set_option maxRecDepth 10000 in
theorem b20_34 {Q : Option Value → mm → Prop} (ρ : rm) (τ : Int64) (l1 : Int) (l2 : Int) (l3 : Int) (t : List (Option Value)) (r : Int) (hB : BM ρ) (h_l1 : SM l1) (h_l2 : SM l2) (h_l3 : SM l3) (h_r : SM r) : G 20 34 (some (.ref 2) :: some (vI l1) :: some (vI l2) :: some (vI l3) :: t) ((some (vI r)).toList ++ []) (toM ρ τ) Q = (if r = 0 then G 20 2 (some (.ref 2) :: some (vI l1) :: some (vI l2) :: some (vI (l3 + 1)) :: t) [] (toM ρ τ) Q else Q (some (vI l3)) (toM ρ τ)) := by
  refine j_if_eq (tgt := 39) d20_34 (by decide) (by omega) (fun q1 => ?_) (fun q1 => ?_)
  ·
    refine (j_iinc d20_39 rfl (by decide) rfl rfl).trans ?_
    refine (g_goto (tgt := 2) d20_42 (by decide)).trans ?_
    rfl
  ·
    refine (g_iload_n d20_37 rfl).trans ?_
    exact g_iret d20_38 rfl rfl
theorem d21_0 : ins 21 0 = some (.iconst 0) := by decide +kernel
theorem d21_1 : ins 21 1 = some (.istore_n 2) := by decide +kernel
theorem d21_2 : ins 21 2 = some (.iconst 0) := by decide +kernel
theorem d21_3 : ins 21 3 = some (.istore_n 3) := by decide +kernel
theorem d21_4 : ins 21 4 = some (.iload_n 3) := by decide +kernel
theorem d21_5 : ins 21 5 = some (.aload_n 0) := by decide +kernel
theorem d21_6 : ins 21 6 = some (.getfield 31) := by decide +kernel
theorem d21_9 : ins 21 9 = some (.if_icmp .ge 39) := by decide +kernel
theorem d21_12 : ins 21 12 = some (.iload_n 2) := by decide +kernel
theorem d21_13 : ins 21 13 = some (.aload_n 0) := by decide +kernel
theorem d21_14 : ins 21 14 = some (.getfield 27) := by decide +kernel
theorem d21_17 : ins 21 17 = some (.getfield 74) := by decide +kernel
theorem d21_20 : ins 21 20 = some (.iload_n 1) := by decide +kernel
theorem d21_21 : ins 21 21 = some (.iaload) := by decide +kernel
theorem d21_22 : ins 21 22 = some (.aload_n 0) := by decide +kernel
theorem d21_23 : ins 21 23 = some (.getfield 27) := by decide +kernel
theorem d21_26 : ins 21 26 = some (.getfield 74) := by decide +kernel
theorem d21_29 : ins 21 29 = some (.aload_n 0) := by decide +kernel
theorem d21_30 : ins 21 30 = some (.getfield 9) := by decide +kernel
theorem d21_33 : ins 21 33 = some (.iload_n 3) := by decide +kernel
theorem d21_34 : ins 21 34 = some (.iaload) := by decide +kernel
theorem d21_35 : ins 21 35 = some (.iaload) := by decide +kernel
theorem d21_36 : ins 21 36 = some (.isub) := by decide +kernel
theorem d21_37 : ins 21 37 = some (.invokestatic 77) := by decide +kernel
theorem d21_40 : ins 21 40 = some (.iadd) := by decide +kernel
theorem d21_41 : ins 21 41 = some (.istore_n 2) := by decide +kernel
theorem d21_42 : ins 21 42 = some (.iinc 3 1) := by decide +kernel
theorem d21_45 : ins 21 45 = some (.goto (-41)) := by decide +kernel
theorem d21_48 : ins 21 48 = some (.iload_n 2) := by decide +kernel
theorem d21_49 : ins 21 49 = some (.ireturn) := by decide +kernel
set_option maxRecDepth 10000 in
theorem b21_0 {Q : Option Value → mm → Prop} (ρ : rm) (τ : Int64) (a1 : Int) (hB : BM ρ) (h_a1 : SM a1) : G 21 0 (some (.ref 2) :: some (vI a1) :: []) [] (toM ρ τ) Q = G 21 4 (some (.ref 2) :: some (vI a1) :: some (vI 0) :: some (vI 0) :: []) [] (toM ρ τ) Q := by
  refine (j_iconst d21_0).trans ?_
  refine (g_istore_n d21_1 (by decide) rfl rfl).trans ?_
  refine (j_iconst d21_2).trans ?_
  refine (g_istore_n d21_3 (by decide) rfl rfl).trans ?_
  rfl
set_option maxRecDepth 10000 in
theorem b21_4 {Q : Option Value → mm → Prop} (ρ : rm) (τ : Int64) (l1 : Int) (l2 : Int) (l3 : Int) (t : List (Option Value)) (hB : BM ρ) (h_l1 : SM l1) (h_l2 : SM l2) (h_l3 : SM l3) : G 21 4 (some (.ref 2) :: some (vI l1) :: some (vI l2) :: some (vI l3) :: t) [] (toM ρ τ) Q = (if (ρ 2 4) ≤ l3 then Q (some (vI l2)) (toM ρ τ) else (if 0 ≤ l1 ∧ l1 < 10 then (if 0 ≤ l3 ∧ l3 < 10 then (if 0 ≤ (ρ 27 l3) ∧ (ρ 27 l3) < 10 then G 183 0 [some (vI ((ρ 10 l1) - (ρ 10 (ρ 27 l3))))] [] (toM ρ τ) (fun v μ2 => G 21 40 (some (.ref 2) :: some (vI l1) :: some (vI l2) :: some (vI l3) :: t) (v.toList ++ [vI l2]) μ2 Q) else False) else False) else False)) := by
  refine (g_iload_n d21_4 rfl).trans ?_
  refine (g_aload_n d21_5 rfl rfl).trans ?_
  refine (j_getI (v := ρ 2 4) d21_6 f1_31 sh_2 (by decide) rfl rfl).trans ?_
  have q1 := hB 2 4 (by decide)
  refine j_icmp_ge (tgt := 48) d21_9 (by decide) (by omega) (by omega) (fun q2 => ?_) (fun q2 => ?_)
  ·
    refine (g_iload_n d21_48 rfl).trans ?_
    exact g_iret d21_49 rfl rfl
  ·
    refine (g_iload_n d21_12 rfl).trans ?_
    refine (g_aload_n d21_13 rfl rfl).trans ?_
    refine (g_getR (q := 1) d21_14 f1_27 sh_2 (by decide) rfl).trans ?_
    refine (g_getR (q := 10) d21_17 f1_74 sh_1 (by decide) rfl).trans ?_
    refine (g_iload_n d21_20 rfl).trans ?_
    refine j_iaload (v := ρ 10 l1) d21_21 sh_10 (by omega) rfl (fun q3 => ?_)
    have q4 := hB 10 l1 (by omega)
    refine (g_aload_n d21_22 rfl rfl).trans ?_
    refine (g_getR (q := 1) d21_23 f1_27 sh_2 (by decide) rfl).trans ?_
    refine (g_getR (q := 10) d21_26 f1_74 sh_1 (by decide) rfl).trans ?_
    refine (g_aload_n d21_29 rfl rfl).trans ?_
    refine (g_getR (q := 27) d21_30 f1_9 sh_2 (by decide) rfl).trans ?_
    refine (g_iload_n d21_33 rfl).trans ?_
    refine j_iaload (v := ρ 27 l3) d21_34 sh_27 (by omega) rfl (fun q5 => ?_)
    have q6 := hB 27 l3 (by omega)
    refine j_iaload (v := ρ 10 (ρ 27 l3)) d21_35 sh_10 (by omega) rfl (fun q7 => ?_)
    have q8 := hB 10 (ρ 27 l3) (by omega)
    refine (j_isub d21_36).trans ?_
    exact g_cS d21_37 k1_77 rfl rfl rfl
set_option maxRecDepth 10000 in
theorem b21_40 {Q : Option Value → mm → Prop} (ρ : rm) (τ : Int64) (l1 : Int) (l2 : Int) (l3 : Int) (t : List (Option Value)) (s0 : Int) (r : Int) (hB : BM ρ) (h_l1 : SM l1) (h_l2 : SM l2) (h_l3 : SM l3) (h_s0 : SM s0) (h_r : SM r) : G 21 40 (some (.ref 2) :: some (vI l1) :: some (vI l2) :: some (vI l3) :: t) ((some (vI r)).toList ++ [vI s0]) (toM ρ τ) Q = G 21 4 (some (.ref 2) :: some (vI l1) :: some (vI (s0 + r)) :: some (vI (l3 + 1)) :: t) [] (toM ρ τ) Q := by
  refine (j_iadd d21_40).trans ?_
  refine (g_istore_n d21_41 (by decide) rfl rfl).trans ?_
  refine (j_iinc d21_42 rfl (by decide) rfl rfl).trans ?_
  refine (g_goto (tgt := 4) d21_45 (by decide)).trans ?_
  rfl
theorem d22_0 : ins 22 0 = some (.iconst 0) := by decide +kernel
theorem d22_1 : ins 22 1 = some (.istore_n 1) := by decide +kernel
theorem d22_2 : ins 22 2 = some (.iconst 1) := by decide +kernel
theorem d22_3 : ins 22 3 = some (.istore_n 2) := by decide +kernel
theorem d22_4 : ins 22 4 = some (.iload_n 2) := by decide +kernel
theorem d22_5 : ins 22 5 = some (.aload_n 0) := by decide +kernel
theorem d22_6 : ins 22 6 = some (.getfield 27) := by decide +kernel
theorem d22_9 : ins 22 9 = some (.getfield 80) := by decide +kernel
theorem d22_12 : ins 22 12 = some (.if_icmp .ge 24) := by decide +kernel
theorem d22_15 : ins 22 15 = some (.aload_n 0) := by decide +kernel
theorem d22_16 : ins 22 16 = some (.iload_n 2) := by decide +kernel
theorem d22_17 : ins 22 17 = some (.invokevirtual 81) := by decide +kernel
theorem d22_20 : ins 22 20 = some (.aload_n 0) := by decide +kernel
theorem d22_21 : ins 22 21 = some (.iload_n 1) := by decide +kernel
theorem d22_22 : ins 22 22 = some (.invokevirtual 81) := by decide +kernel
theorem d22_25 : ins 22 25 = some (.if_icmp .ge 5) := by decide +kernel
theorem d22_28 : ins 22 28 = some (.iload_n 2) := by decide +kernel
theorem d22_29 : ins 22 29 = some (.istore_n 1) := by decide +kernel
theorem d22_30 : ins 22 30 = some (.iinc 2 1) := by decide +kernel
theorem d22_33 : ins 22 33 = some (.goto (-29)) := by decide +kernel
theorem d22_36 : ins 22 36 = some (.iload_n 1) := by decide +kernel
theorem d22_37 : ins 22 37 = some (.ireturn) := by decide +kernel
set_option maxRecDepth 10000 in
theorem b22_0 {Q : Option Value → mm → Prop} (ρ : rm) (τ : Int64)  (hB : BM ρ)  : G 22 0 (some (.ref 2) :: []) [] (toM ρ τ) Q = G 22 4 (some (.ref 2) :: some (vI 0) :: some (vI 1) :: []) [] (toM ρ τ) Q := by
  refine (j_iconst d22_0).trans ?_
  refine (g_istore_n d22_1 (by decide) rfl rfl).trans ?_
  refine (j_iconst d22_2).trans ?_
  refine (g_istore_n d22_3 (by decide) rfl rfl).trans ?_
  rfl
set_option maxRecDepth 10000 in
theorem b22_4 {Q : Option Value → mm → Prop} (ρ : rm) (τ : Int64) (l1 : Int) (l2 : Int) (t : List (Option Value)) (hB : BM ρ) (h_l1 : SM l1) (h_l2 : SM l2) : G 22 4 (some (.ref 2) :: some (vI l1) :: some (vI l2) :: t) [] (toM ρ τ) Q = (if (ρ 1 1) ≤ l2 then Q (some (vI l1)) (toM ρ τ) else G 21 0 [some (.ref 2), some (vI l2)] [] (toM ρ τ) (fun v μ2 => G 22 20 (some (.ref 2) :: some (vI l1) :: some (vI l2) :: t) (v.toList ++ []) μ2 Q)) := by
  refine (g_iload_n d22_4 rfl).trans ?_
  refine (g_aload_n d22_5 rfl rfl).trans ?_
  refine (g_getR (q := 1) d22_6 f1_27 sh_2 (by decide) rfl).trans ?_
  refine (j_getI (v := ρ 1 1) d22_9 f1_80 sh_1 (by decide) rfl rfl).trans ?_
  have q1 := hB 1 1 (by decide)
  refine j_icmp_ge (tgt := 36) d22_12 (by decide) (by omega) (by omega) (fun q2 => ?_) (fun q2 => ?_)
  ·
    refine (g_iload_n d22_36 rfl).trans ?_
    exact g_iret d22_37 rfl rfl
  ·
    refine (g_aload_n d22_15 rfl rfl).trans ?_
    refine (g_iload_n d22_16 rfl).trans ?_
    exact g_cV d22_17 k1_81 rfl rfl rfl
set_option maxRecDepth 10000 in
theorem b22_20 {Q : Option Value → mm → Prop} (ρ : rm) (τ : Int64) (l1 : Int) (l2 : Int) (t : List (Option Value)) (r : Int) (hB : BM ρ) (h_l1 : SM l1) (h_l2 : SM l2) (h_r : SM r) : G 22 20 (some (.ref 2) :: some (vI l1) :: some (vI l2) :: t) ((some (vI r)).toList ++ []) (toM ρ τ) Q = G 21 0 [some (.ref 2), some (vI l1)] [] (toM ρ τ) (fun v μ2 => G 22 25 (some (.ref 2) :: some (vI l1) :: some (vI l2) :: t) (v.toList ++ [vI r]) μ2 Q) := by
  refine (g_aload_n d22_20 rfl rfl).trans ?_
  refine (g_iload_n d22_21 rfl).trans ?_
  exact g_cV d22_22 k1_81 rfl rfl rfl
set_option maxRecDepth 10000 in
theorem b22_25 {Q : Option Value → mm → Prop} (ρ : rm) (τ : Int64) (l1 : Int) (l2 : Int) (t : List (Option Value)) (s0 : Int) (r : Int) (hB : BM ρ) (h_l1 : SM l1) (h_l2 : SM l2) (h_s0 : SM s0) (h_r : SM r) : G 22 25 (some (.ref 2) :: some (vI l1) :: some (vI l2) :: t) ((some (vI r)).toList ++ [vI s0]) (toM ρ τ) Q = (if r ≤ s0 then G 22 4 (some (.ref 2) :: some (vI l1) :: some (vI (l2 + 1)) :: t) [] (toM ρ τ) Q else G 22 4 (some (.ref 2) :: some (vI l2) :: some (vI (l2 + 1)) :: t) [] (toM ρ τ) Q) := by
  refine j_icmp_ge (tgt := 30) d22_25 (by decide) (by omega) (by omega) (fun q1 => ?_) (fun q1 => ?_)
  ·
    refine (j_iinc d22_30 rfl (by decide) rfl rfl).trans ?_
    refine (g_goto (tgt := 4) d22_33 (by decide)).trans ?_
    rfl
  ·
    refine (g_iload_n d22_28 rfl).trans ?_
    refine (g_istore_n d22_29 (by decide) rfl rfl).trans ?_
    refine (j_iinc d22_30 rfl (by decide) rfl rfl).trans ?_
    refine (g_goto (tgt := 4) d22_33 (by decide)).trans ?_
    rfl
