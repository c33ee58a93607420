/-! blocks of the small machine (wip/gen/gen_blocks.py) -/
theorem d24_0 : ins 24 0 = some (.aload_n 0) := by decide +kernel
theorem d24_1 : ins 24 1 = some (.iload_n 1) := by decide +kernel
theorem d24_2 : ins 24 2 = some (.putfield 42) := by decide +kernel
theorem d24_5 : ins 24 5 = some (.aload_n 0) := by decide +kernel
theorem d24_6 : ins 24 6 = some (.iconst 0) := by decide +kernel
theorem d24_7 : ins 24 7 = some (.putfield 46) := by decide +kernel
theorem d24_10 : ins 24 10 = some (.iconst 0) := by decide +kernel
theorem d24_11 : ins 24 11 = some (.istore_n 2) := by decide +kernel
theorem d24_12 : ins 24 12 = some (.iload_n 2) := by decide +kernel
theorem d24_13 : ins 24 13 = some (.bipush 10) := by decide +kernel
theorem d24_15 : ins 24 15 = some (.if_icmp .ge 31) := by decide +kernel
theorem d24_18 : ins 24 18 = some (.aload_n 0) := by decide +kernel
theorem d24_19 : ins 24 19 = some (.getfield 15) := by decide +kernel
theorem d24_22 : ins 24 22 = some (.iload_n 2) := by decide +kernel
theorem d24_23 : ins 24 23 = some (.iload_n 2) := by decide +kernel
theorem d24_24 : ins 24 24 = some (.ifCond .ne 7) := by decide +kernel
theorem d24_27 : ins 24 27 = some (.iconst 0) := by decide +kernel
theorem d24_28 : ins 24 28 = some (.goto 4) := by decide +kernel
theorem d24_31 : ins 24 31 = some (.iconst 1) := by decide +kernel
theorem d24_32 : ins 24 32 = some (.iastore) := by decide +kernel
theorem d24_33 : ins 24 33 = some (.aload_n 0) := by decide +kernel
theorem d24_34 : ins 24 34 = some (.getfield 18) := by decide +kernel
theorem d24_37 : ins 24 37 = some (.iload_n 2) := by decide +kernel
theorem d24_38 : ins 24 38 = some (.iconst 1) := by decide +kernel
theorem d24_39 : ins 24 39 = some (.iastore) := by decide +kernel
theorem d24_40 : ins 24 40 = some (.iinc 2 1) := by decide +kernel
theorem d24_43 : ins 24 43 = some (.goto (-31)) := by decide +kernel
theorem d24_46 : ins 24 46 = some (.return_) := by decide +kernel
set_option maxRecDepth 10000 in
theorem b24_0 {Q : Option Value → mm → Prop} (ρ : rm) (τ : Int64) (a1 : Int) (hB : BM ρ) (h_a1 : SM a1) : G 24 0 (some (.ref 1) :: some (vI a1) :: []) [] (toM ρ τ) Q = G 24 12 (some (.ref 1) :: some (vI a1) :: some (vI 0) :: []) [] (toM (rup (rup ρ 1 1 a1) 1 2 0) τ) Q := by
  refine (g_aload_n d24_0 rfl rfl).trans ?_
  refine (g_iload_n d24_1 rfl).trans ?_
  refine (j_putI d24_2 f2_42 sh_1 (by decide) rfl).trans ?_
  refine (g_aload_n d24_5 rfl rfl).trans ?_
  refine (j_iconst d24_6).trans ?_
  refine (j_putI d24_7 f2_46 sh_1 (by decide) rfl).trans ?_
  refine (j_iconst d24_10).trans ?_
  refine (g_istore_n d24_11 (by decide) rfl rfl).trans ?_
  rfl
set_option maxRecDepth 10000 in
theorem b24_12 {Q : Option Value → mm → Prop} (ρ : rm) (τ : Int64) (l1 : Int) (l2 : Int) (t : List (Option Value)) (hB : BM ρ) (h_l1 : SM l1) (h_l2 : SM l2) : G 24 12 (some (.ref 1) :: some (vI l1) :: some (vI l2) :: t) [] (toM ρ τ) Q = (if 10 ≤ l2 then Q none (toM ρ τ) else (if l2 = 0 then (if 0 ≤ l2 ∧ l2 < 10 then (if 0 ≤ l2 ∧ l2 < 10 then G 24 12 (some (.ref 1) :: some (vI l1) :: some (vI (l2 + 1)) :: t) [] (toM (rup (rup ρ 11 l2 0) 12 l2 1) τ) Q else False) else False) else (if 0 ≤ l2 ∧ l2 < 10 then (if 0 ≤ l2 ∧ l2 < 10 then G 24 12 (some (.ref 1) :: some (vI l1) :: some (vI (l2 + 1)) :: t) [] (toM (rup (rup ρ 11 l2 1) 12 l2 1) τ) Q else False) else False))) := by
  refine (g_iload_n d24_12 rfl).trans ?_
  refine (j_bipush d24_13 (by decide)).trans ?_
  refine j_icmp_ge (tgt := 46) d24_15 (by decide) (by omega) (by omega) (fun q1 => ?_) (fun q1 => ?_)
  ·
    exact g_ret d24_46 rfl
  ·
    refine (g_aload_n d24_18 rfl rfl).trans ?_
    refine (g_getR (q := 11) d24_19 f2_15 sh_1 (by decide) rfl).trans ?_
    refine (g_iload_n d24_22 rfl).trans ?_
    refine (g_iload_n d24_23 rfl).trans ?_
    refine j_if_ne (tgt := 31) d24_24 (by decide) (by omega) (fun q2 => ?_) (fun q2 => ?_)
    ·
      refine (j_iconst d24_27).trans ?_
      refine (g_goto (tgt := 32) d24_28 (by decide)).trans ?_
      refine j_iastore d24_32 sh_11 (by omega) (fun q3 => ?_)
      refine (g_aload_n d24_33 rfl rfl).trans ?_
      refine (g_getR (q := 12) d24_34 f2_18 sh_1 (by decide) rfl).trans ?_
      refine (g_iload_n d24_37 rfl).trans ?_
      refine (j_iconst d24_38).trans ?_
      refine j_iastore d24_39 sh_12 (by omega) (fun q4 => ?_)
      refine (j_iinc d24_40 rfl (by decide) rfl rfl).trans ?_
      refine (g_goto (tgt := 12) d24_43 (by decide)).trans ?_
      rfl
    ·
      refine (j_iconst d24_31).trans ?_
      refine j_iastore d24_32 sh_11 (by omega) (fun q5 => ?_)
      refine (g_aload_n d24_33 rfl rfl).trans ?_
      refine (g_getR (q := 12) d24_34 f2_18 sh_1 (by decide) rfl).trans ?_
      refine (g_iload_n d24_37 rfl).trans ?_
      refine (j_iconst d24_38).trans ?_
      refine j_iastore d24_39 sh_12 (by omega) (fun q6 => ?_)
      refine (j_iinc d24_40 rfl (by decide) rfl rfl).trans ?_
      refine (g_goto (tgt := 12) d24_43 (by decide)).trans ?_
      rfl
theorem d25_0 : ins 25 0 = some (.aload_n 0) := by decide +kernel
theorem d25_1 : ins 25 1 = some (.iload_n 1) := by decide +kernel
theorem d25_2 : ins 25 2 = some (.invokevirtual 49) := by decide +kernel
theorem d25_5 : ins 25 5 = some (.ifCond .eq 10) := by decide +kernel
theorem d25_8 : ins 25 8 = some (.aload_n 0) := by decide +kernel
theorem d25_9 : ins 25 9 = some (.getfield 15) := by decide +kernel
theorem d25_12 : ins 25 12 = some (.iload_n 1) := by decide +kernel
theorem d25_13 : ins 25 13 = some (.iload_n 2) := by decide +kernel
theorem d25_14 : ins 25 14 = some (.iastore) := by decide +kernel
theorem d25_15 : ins 25 15 = some (.return_) := by decide +kernel
set_option maxRecDepth 10000 in
theorem b25_0 {Q : Option Value → mm → Prop} (ρ : rm) (τ : Int64) (a1 : Int) (a2 : Int) (hB : BM ρ) (h_a1 : SM a1) (h_a2 : SM a2) : G 25 0 (some (.ref 1) :: some (vI a1) :: some (vI a2) :: []) [] (toM ρ τ) Q = G 32 0 [some (.ref 1), some (vI a1)] [] (toM ρ τ) (fun v μ2 => G 25 5 (some (.ref 1) :: some (vI a1) :: some (vI a2) :: []) (v.toList ++ []) μ2 Q) := by
  refine (g_aload_n d25_0 rfl rfl).trans ?_
  refine (g_iload_n d25_1 rfl).trans ?_
  exact g_cV d25_2 k2_49 rfl rfl rfl
set_option maxRecDepth 10000 in
theorem b25_5 {Q : Option Value → mm → Prop} (ρ : rm) (τ : Int64) (l1 : Int) (l2 : Int) (t : List (Option Value)) (r : Int) (hB : BM ρ) (h_l1 : SM l1) (h_l2 : SM l2) (h_r : SM r) : G 25 5 (some (.ref 1) :: some (vI l1) :: some (vI l2) :: t) ((some (vI r)).toList ++ []) (toM ρ τ) Q = (if r = 0 then Q none (toM ρ τ) else (if 0 ≤ l1 ∧ l1 < 10 then Q none (toM (rup ρ 11 l1 l2) τ) else False)) := by
  refine j_if_eq (tgt := 15) d25_5 (by decide) (by omega) (fun q1 => ?_) (fun q1 => ?_)
  ·
    exact g_ret d25_15 rfl
  ·
    refine (g_aload_n d25_8 rfl rfl).trans ?_
    refine (g_getR (q := 11) d25_9 f2_15 sh_1 (by decide) rfl).trans ?_
    refine (g_iload_n d25_12 rfl).trans ?_
    refine (g_iload_n d25_13 rfl).trans ?_
    refine j_iastore d25_14 sh_11 (by omega) (fun q2 => ?_)
    exact g_ret d25_15 rfl
theorem d26_0 : ins 26 0 = some (.aload_n 0) := by decide +kernel
theorem d26_1 : ins 26 1 = some (.iload_n 1) := by decide +kernel
theorem d26_2 : ins 26 2 = some (.invokevirtual 49) := by decide +kernel
theorem d26_5 : ins 26 5 = some (.ifCond .eq 10) := by decide +kernel
theorem d26_8 : ins 26 8 = some (.aload_n 0) := by decide +kernel
theorem d26_9 : ins 26 9 = some (.getfield 18) := by decide +kernel
theorem d26_12 : ins 26 12 = some (.iload_n 1) := by decide +kernel
theorem d26_13 : ins 26 13 = some (.iload_n 2) := by decide +kernel
theorem d26_14 : ins 26 14 = some (.iastore) := by decide +kernel
theorem d26_15 : ins 26 15 = some (.return_) := by decide +kernel
set_option maxRecDepth 10000 in
theorem b26_0 {Q : Option Value → mm → Prop} (ρ : rm) (τ : Int64) (a1 : Int) (a2 : Int) (hB : BM ρ) (h_a1 : SM a1) (h_a2 : SM a2) : G 26 0 (some (.ref 1) :: some (vI a1) :: some (vI a2) :: []) [] (toM ρ τ) Q = G 32 0 [some (.ref 1), some (vI a1)] [] (toM ρ τ) (fun v μ2 => G 26 5 (some (.ref 1) :: some (vI a1) :: some (vI a2) :: []) (v.toList ++ []) μ2 Q) := by
  refine (g_aload_n d26_0 rfl rfl).trans ?_
  refine (g_iload_n d26_1 rfl).trans ?_
  exact g_cV d26_2 k2_49 rfl rfl rfl
set_option maxRecDepth 10000 in
theorem b26_5 {Q : Option Value → mm → Prop} (ρ : rm) (τ : Int64) (l1 : Int) (l2 : Int) (t : List (Option Value)) (r : Int) (hB : BM ρ) (h_l1 : SM l1) (h_l2 : SM l2) (h_r : SM r) : G 26 5 (some (.ref 1) :: some (vI l1) :: some (vI l2) :: t) ((some (vI r)).toList ++ []) (toM ρ τ) Q = (if r = 0 then Q none (toM ρ τ) else (if 0 ≤ l1 ∧ l1 < 10 then Q none (toM (rup ρ 12 l1 l2) τ) else False)) := by
  refine j_if_eq (tgt := 15) d26_5 (by decide) (by omega) (fun q1 => ?_) (fun q1 => ?_)
  ·
    exact g_ret d26_15 rfl
  ·
    refine (g_aload_n d26_8 rfl rfl).trans ?_
    refine (g_getR (q := 12) d26_9 f2_18 sh_1 (by decide) rfl).trans ?_
    refine (g_iload_n d26_12 rfl).trans ?_
    refine (g_iload_n d26_13 rfl).trans ?_
    refine j_iastore d26_14 sh_12 (by omega) (fun q2 => ?_)
    exact g_ret d26_15 rfl
theorem d27_0 : ins 27 0 = some (.aload_n 0) := by decide +kernel
theorem d27_1 : ins 27 1 = some (.getfield 46) := by decide +kernel
theorem d27_4 : ins 27 4 = some (.bipush 8) := by decide +kernel
theorem d27_6 : ins 27 6 = some (.if_icmp .ge 43) := by decide +kernel
theorem d27_9 : ins 27 9 = some (.aload_n 0) := by decide +kernel
theorem d27_10 : ins 27 10 = some (.getfield 21) := by decide +kernel
theorem d27_13 : ins 27 13 = some (.aload_n 0) := by decide +kernel
theorem d27_14 : ins 27 14 = some (.getfield 46) := by decide +kernel
theorem d27_17 : ins 27 17 = some (.iload_n 1) := by decide +kernel
theorem d27_18 : ins 27 18 = some (.iastore) := by decide +kernel
theorem d27_19 : ins 27 19 = some (.aload_n 0) := by decide +kernel
theorem d27_20 : ins 27 20 = some (.getfield 24) := by decide +kernel
theorem d27_23 : ins 27 23 = some (.aload_n 0) := by decide +kernel
theorem d27_24 : ins 27 24 = some (.getfield 46) := by decide +kernel
theorem d27_27 : ins 27 27 = some (.iload_n 2) := by decide +kernel
theorem d27_28 : ins 27 28 = some (.iastore) := by decide +kernel
theorem d27_29 : ins 27 29 = some (.aload_n 0) := by decide +kernel
theorem d27_30 : ins 27 30 = some (.getfield 27) := by decide +kernel
theorem d27_33 : ins 27 33 = some (.aload_n 0) := by decide +kernel
theorem d27_34 : ins 27 34 = some (.getfield 46) := by decide +kernel
theorem d27_37 : ins 27 37 = some (.iload_n 3) := by decide +kernel
theorem d27_38 : ins 27 38 = some (.iastore) := by decide +kernel
theorem d27_39 : ins 27 39 = some (.aload_n 0) := by decide +kernel
theorem d27_40 : ins 27 40 = some (.dup) := by decide +kernel
theorem d27_41 : ins 27 41 = some (.getfield 46) := by decide +kernel
theorem d27_44 : ins 27 44 = some (.iconst 1) := by decide +kernel
theorem d27_45 : ins 27 45 = some (.iadd) := by decide +kernel
theorem d27_46 : ins 27 46 = some (.putfield 46) := by decide +kernel
theorem d27_49 : ins 27 49 = some (.return_) := by decide +kernel
set_option maxRecDepth 10000 in
theorem b27_0 {Q : Option Value → mm → Prop} (ρ : rm) (τ : Int64) (a1 : Int) (a2 : Int) (a3 : Int) (hB : BM ρ) (h_a1 : SM a1) (h_a2 : SM a2) (h_a3 : SM a3) : G 27 0 (some (.ref 1) :: some (vI a1) :: some (vI a2) :: some (vI a3) :: []) [] (toM ρ τ) Q = (if 8 ≤ (ρ 1 2) then Q none (toM ρ τ) else (if 0 ≤ (ρ 1 2) ∧ (ρ 1 2) < 8 then (if 0 ≤ (ρ 1 2) ∧ (ρ 1 2) < 8 then (if 0 ≤ (ρ 1 2) ∧ (ρ 1 2) < 8 then Q none (toM (rup (rup (rup (rup ρ 13 (ρ 1 2) a1) 14 (ρ 1 2) a2) 15 (ρ 1 2) a3) 1 2 ((ρ 1 2) + 1)) τ) else False) else False) else False)) := by
  refine (g_aload_n d27_0 rfl rfl).trans ?_
  refine (j_getI (v := ρ 1 2) d27_1 f2_46 sh_1 (by decide) rfl rfl).trans ?_
  have q1 := hB 1 2 (by decide)
  refine (j_bipush d27_4 (by decide)).trans ?_
  refine j_icmp_ge (tgt := 49) d27_6 (by decide) (by omega) (by omega) (fun q2 => ?_) (fun q2 => ?_)
  ·
    exact g_ret d27_49 rfl
  ·
    refine (g_aload_n d27_9 rfl rfl).trans ?_
    refine (g_getR (q := 13) d27_10 f2_21 sh_1 (by decide) rfl).trans ?_
    refine (g_aload_n d27_13 rfl rfl).trans ?_
    refine (j_getI (v := ρ 1 2) d27_14 f2_46 sh_1 (by decide) rfl rfl).trans ?_
    refine (g_iload_n d27_17 rfl).trans ?_
    refine j_iastore d27_18 sh_13 (by omega) (fun q3 => ?_)
    refine (g_aload_n d27_19 rfl rfl).trans ?_
    refine (g_getR (q := 14) d27_20 f2_24 sh_1 (by decide) rfl).trans ?_
    refine (g_aload_n d27_23 rfl rfl).trans ?_
    refine (j_getI (v := ρ 1 2) d27_24 f2_46 sh_1 (by decide) rfl (by simp [rup])).trans ?_
    refine (g_iload_n d27_27 rfl).trans ?_
    refine j_iastore d27_28 sh_14 (by omega) (fun q4 => ?_)
    refine (g_aload_n d27_29 rfl rfl).trans ?_
    refine (g_getR (q := 15) d27_30 f2_27 sh_1 (by decide) rfl).trans ?_
    refine (g_aload_n d27_33 rfl rfl).trans ?_
    refine (j_getI (v := ρ 1 2) d27_34 f2_46 sh_1 (by decide) rfl (by simp [rup])).trans ?_
    refine (g_iload_n d27_37 rfl).trans ?_
    refine j_iastore d27_38 sh_15 (by omega) (fun q5 => ?_)
    refine (g_aload_n d27_39 rfl rfl).trans ?_
    refine (g_dupR d27_40).trans ?_
    refine (j_getI (v := ρ 1 2) d27_41 f2_46 sh_1 (by decide) rfl (by simp [rup])).trans ?_
    refine (j_iconst d27_44).trans ?_
    refine (j_iadd d27_45).trans ?_
    refine (j_putI d27_46 f2_46 sh_1 (by decide) rfl).trans ?_
    exact g_ret d27_49 rfl
theorem d28_0 : ins 28 0 = some (.iconst 0) := by decide +kernel
theorem d28_1 : ins 28 1 = some (.istore_n 1) := by decide +kernel
theorem d28_2 : ins 28 2 = some (.iconst 0) := by decide +kernel
theorem d28_3 : ins 28 3 = some (.istore_n 2) := by decide +kernel
theorem d28_4 : ins 28 4 = some (.iload_n 2) := by decide +kernel
theorem d28_5 : ins 28 5 = some (.aload_n 0) := by decide +kernel
theorem d28_6 : ins 28 6 = some (.getfield 42) := by decide +kernel
theorem d28_9 : ins 28 9 = some (.if_icmp .ge 25) := by decide +kernel
theorem d28_12 : ins 28 12 = some (.iload_n 1) := by decide +kernel
theorem d28_13 : ins 28 13 = some (.aload_n 0) := by decide +kernel
theorem d28_14 : ins 28 14 = some (.getfield 15) := by decide +kernel
theorem d28_17 : ins 28 17 = some (.iload_n 2) := by decide +kernel
theorem d28_18 : ins 28 18 = some (.iaload) := by decide +kernel
theorem d28_19 : ins 28 19 = some (.iadd) := by decide +kernel
theorem d28_20 : ins 28 20 = some (.istore_n 1) := by decide +kernel
theorem d28_21 : ins 28 21 = some (.aload_n 0) := by decide +kernel
theorem d28_22 : ins 28 22 = some (.getfield 9) := by decide +kernel
theorem d28_25 : ins 28 25 = some (.iload_n 2) := by decide +kernel
theorem d28_26 : ins 28 26 = some (.iload_n 1) := by decide +kernel
theorem d28_27 : ins 28 27 = some (.iastore) := by decide +kernel
theorem d28_28 : ins 28 28 = some (.iinc 2 1) := by decide +kernel
theorem d28_31 : ins 28 31 = some (.goto (-27)) := by decide +kernel
theorem d28_34 : ins 28 34 = some (.aload_n 0) := by decide +kernel
theorem d28_35 : ins 28 35 = some (.invokevirtual 53) := by decide +kernel
theorem d28_38 : ins 28 38 = some (.aload_n 0) := by decide +kernel
theorem d28_39 : ins 28 39 = some (.invokevirtual 56) := by decide +kernel
theorem d28_42 : ins 28 42 = some (.return_) := by decide +kernel
set_option maxRecDepth 10000 in
theorem b28_0 {Q : Option Value → mm → Prop} (ρ : rm) (τ : Int64)  (hB : BM ρ)  : G 28 0 (some (.ref 1) :: []) [] (toM ρ τ) Q = G 28 4 (some (.ref 1) :: some (vI 0) :: some (vI 0) :: []) [] (toM ρ τ) Q := by
  refine (j_iconst d28_0).trans ?_
  refine (g_istore_n d28_1 (by decide) rfl rfl).trans ?_
  refine (j_iconst d28_2).trans ?_
  refine (g_istore_n d28_3 (by decide) rfl rfl).trans ?_
  rfl
set_option maxRecDepth 10000 in
theorem b28_4 {Q : Option Value → mm → Prop} (ρ : rm) (τ : Int64) (l1 : Int) (l2 : Int) (t : List (Option Value)) (hB : BM ρ) (h_l1 : SM l1) (h_l2 : SM l2) : G 28 4 (some (.ref 1) :: some (vI l1) :: some (vI l2) :: t) [] (toM ρ τ) Q = (if (ρ 1 1) ≤ l2 then G 29 0 [some (.ref 1)] [] (toM ρ τ) (fun v μ2 => G 28 38 (some (.ref 1) :: some (vI l1) :: some (vI l2) :: t) (v.toList ++ []) μ2 Q) else (if 0 ≤ l2 ∧ l2 < 10 then (if 0 ≤ l2 ∧ l2 < 10 then G 28 4 (some (.ref 1) :: some (vI (l1 + (ρ 11 l2))) :: some (vI (l2 + 1)) :: t) [] (toM (rup ρ 10 l2 (l1 + (ρ 11 l2))) τ) Q else False) else False)) := by
  refine (g_iload_n d28_4 rfl).trans ?_
  refine (g_aload_n d28_5 rfl rfl).trans ?_
  refine (j_getI (v := ρ 1 1) d28_6 f2_42 sh_1 (by decide) rfl rfl).trans ?_
  have q1 := hB 1 1 (by decide)
  refine j_icmp_ge (tgt := 34) d28_9 (by decide) (by omega) (by omega) (fun q2 => ?_) (fun q2 => ?_)
  ·
    refine (g_aload_n d28_34 rfl rfl).trans ?_
    exact g_cV d28_35 k2_53 rfl rfl rfl
  ·
    refine (g_iload_n d28_12 rfl).trans ?_
    refine (g_aload_n d28_13 rfl rfl).trans ?_
    refine (g_getR (q := 11) d28_14 f2_15 sh_1 (by decide) rfl).trans ?_
    refine (g_iload_n d28_17 rfl).trans ?_
    refine j_iaload (v := ρ 11 l2) d28_18 sh_11 (by omega) rfl (fun q3 => ?_)
    have q4 := hB 11 l2 (by omega)
    refine (j_iadd d28_19).trans ?_
    refine (g_istore_n d28_20 (by decide) rfl rfl).trans ?_
    refine (g_aload_n d28_21 rfl rfl).trans ?_
    refine (g_getR (q := 10) d28_22 f2_9 sh_1 (by decide) rfl).trans ?_
    refine (g_iload_n d28_25 rfl).trans ?_
    refine (g_iload_n d28_26 rfl).trans ?_
    refine j_iastore d28_27 sh_10 (by omega) (fun q5 => ?_)
    refine (j_iinc d28_28 rfl (by decide) rfl rfl).trans ?_
    refine (g_goto (tgt := 4) d28_31 (by decide)).trans ?_
    rfl
set_option maxRecDepth 10000 in
theorem b28_38 {Q : Option Value → mm → Prop} (ρ : rm) (τ : Int64) (l1 : Int) (l2 : Int) (t : List (Option Value)) (hB : BM ρ) (h_l1 : SM l1) (h_l2 : SM l2) : G 28 38 (some (.ref 1) :: some (vI l1) :: some (vI l2) :: t) ((none : Option Value).toList ++ []) (toM ρ τ) Q = G 31 0 [some (.ref 1)] [] (toM ρ τ) (fun v μ2 => G 28 42 (some (.ref 1) :: some (vI l1) :: some (vI l2) :: t) (v.toList ++ []) μ2 Q) := by
  refine (g_aload_n d28_38 rfl rfl).trans ?_
  exact g_cV d28_39 k2_56 rfl rfl rfl
set_option maxRecDepth 10000 in
theorem b28_42 {Q : Option Value → mm → Prop} (ρ : rm) (τ : Int64) (l1 : Int) (l2 : Int) (t : List (Option Value)) (hB : BM ρ) (h_l1 : SM l1) (h_l2 : SM l2) : G 28 42 (some (.ref 1) :: some (vI l1) :: some (vI l2) :: t) ((none : Option Value).toList ++ []) (toM ρ τ) Q = Q none (toM ρ τ) := by
  exact g_ret d28_42 rfl
theorem d29_0 : ins 29 0 = some (.iconst 0) := by decide +kernel
theorem d29_1 : ins 29 1 = some (.istore_n 1) := by decide +kernel
theorem d29_2 : ins 29 2 = some (.iload_n 1) := by decide +kernel
theorem d29_3 : ins 29 3 = some (.aload_n 0) := by decide +kernel
theorem d29_4 : ins 29 4 = some (.getfield 42) := by decide +kernel
theorem d29_7 : ins 29 7 = some (.if_icmp .ge 44) := by decide +kernel
theorem d29_10 : ins 29 10 = some (.iconst 0) := by decide +kernel
theorem d29_11 : ins 29 11 = some (.istore_n 2) := by decide +kernel
theorem d29_12 : ins 29 12 = some (.iload_n 2) := by decide +kernel
theorem d29_13 : ins 29 13 = some (.aload_n 0) := by decide +kernel
theorem d29_14 : ins 29 14 = some (.getfield 42) := by decide +kernel
theorem d29_17 : ins 29 17 = some (.if_icmp .ge 28) := by decide +kernel
theorem d29_20 : ins 29 20 = some (.aload_n 0) := by decide +kernel
theorem d29_21 : ins 29 21 = some (.getfield 32) := by decide +kernel
theorem d29_24 : ins 29 24 = some (.iload_n 1) := by decide +kernel
theorem d29_25 : ins 29 25 = some (.aaload) := by decide +kernel
theorem d29_26 : ins 29 26 = some (.iload_n 2) := by decide +kernel
theorem d29_27 : ins 29 27 = some (.iload_n 1) := by decide +kernel
theorem d29_28 : ins 29 28 = some (.iload_n 2) := by decide +kernel
theorem d29_29 : ins 29 29 = some (.if_icmp .ne 7) := by decide +kernel
theorem d29_32 : ins 29 32 = some (.iconst 0) := by decide +kernel
theorem d29_33 : ins 29 33 = some (.goto 5) := by decide +kernel
theorem d29_36 : ins 29 36 = some (.ldc 59) := by decide +kernel
theorem d29_38 : ins 29 38 = some (.iastore) := by decide +kernel
theorem d29_39 : ins 29 39 = some (.iinc 2 1) := by decide +kernel
theorem d29_42 : ins 29 42 = some (.goto (-30)) := by decide +kernel
theorem d29_45 : ins 29 45 = some (.iinc 1 1) := by decide +kernel
theorem d29_48 : ins 29 48 = some (.goto (-46)) := by decide +kernel
theorem d29_51 : ins 29 51 = some (.iconst 0) := by decide +kernel
theorem d29_52 : ins 29 52 = some (.istore_n 1) := by decide +kernel
theorem d29_53 : ins 29 53 = some (.iload_n 1) := by decide +kernel
theorem d29_54 : ins 29 54 = some (.iconst 1) := by decide +kernel
theorem d29_55 : ins 29 55 = some (.iadd) := by decide +kernel
theorem d29_56 : ins 29 56 = some (.aload_n 0) := by decide +kernel
theorem d29_57 : ins 29 57 = some (.getfield 42) := by decide +kernel
theorem d29_60 : ins 29 60 = some (.if_icmp .ge 23) := by decide +kernel
theorem d29_63 : ins 29 63 = some (.aload_n 0) := by decide +kernel
theorem d29_64 : ins 29 64 = some (.iload_n 1) := by decide +kernel
theorem d29_65 : ins 29 65 = some (.iload_n 1) := by decide +kernel
theorem d29_66 : ins 29 66 = some (.iconst 1) := by decide +kernel
theorem d29_67 : ins 29 67 = some (.iadd) := by decide +kernel
theorem d29_68 : ins 29 68 = some (.aload_n 0) := by decide +kernel
theorem d29_69 : ins 29 69 = some (.getfield 18) := by decide +kernel
theorem d29_72 : ins 29 72 = some (.iload_n 1) := by decide +kernel
theorem d29_73 : ins 29 73 = some (.iaload) := by decide +kernel
theorem d29_74 : ins 29 74 = some (.invokevirtual 60) := by decide +kernel
theorem d29_77 : ins 29 77 = some (.iinc 1 1) := by decide +kernel
theorem d29_80 : ins 29 80 = some (.goto (-27)) := by decide +kernel
theorem d29_83 : ins 29 83 = some (.iconst 0) := by decide +kernel
theorem d29_84 : ins 29 84 = some (.istore_n 1) := by decide +kernel
theorem d29_85 : ins 29 85 = some (.iload_n 1) := by decide +kernel
theorem d29_86 : ins 29 86 = some (.aload_n 0) := by decide +kernel
theorem d29_87 : ins 29 87 = some (.getfield 46) := by decide +kernel
theorem d29_90 : ins 29 90 = some (.if_icmp .ge 31) := by decide +kernel
theorem d29_93 : ins 29 93 = some (.aload_n 0) := by decide +kernel
theorem d29_94 : ins 29 94 = some (.aload_n 0) := by decide +kernel
theorem d29_95 : ins 29 95 = some (.getfield 21) := by decide +kernel
theorem d29_98 : ins 29 98 = some (.iload_n 1) := by decide +kernel
theorem d29_99 : ins 29 99 = some (.iaload) := by decide +kernel
theorem d29_100 : ins 29 100 = some (.aload_n 0) := by decide +kernel
theorem d29_101 : ins 29 101 = some (.getfield 24) := by decide +kernel
theorem d29_104 : ins 29 104 = some (.iload_n 1) := by decide +kernel
theorem d29_105 : ins 29 105 = some (.iaload) := by decide +kernel
theorem d29_106 : ins 29 106 = some (.aload_n 0) := by decide +kernel
theorem d29_107 : ins 29 107 = some (.getfield 27) := by decide +kernel
theorem d29_110 : ins 29 110 = some (.iload_n 1) := by decide +kernel
theorem d29_111 : ins 29 111 = some (.iaload) := by decide +kernel
theorem d29_112 : ins 29 112 = some (.invokevirtual 60) := by decide +kernel
theorem d29_115 : ins 29 115 = some (.iinc 1 1) := by decide +kernel
theorem d29_118 : ins 29 118 = some (.goto (-33)) := by decide +kernel
theorem d29_121 : ins 29 121 = some (.return_) := by decide +kernel
set_option maxRecDepth 10000 in
theorem b29_0 {Q : Option Value → mm → Prop} (ρ : rm) (τ : Int64)  (hB : BM ρ)  : G 29 0 (some (.ref 1) :: []) [] (toM ρ τ) Q = G 29 2 (some (.ref 1) :: some (vI 0) :: []) [] (toM ρ τ) Q := by
  refine (j_iconst d29_0).trans ?_
  refine (g_istore_n d29_1 (by decide) rfl rfl).trans ?_
  rfl
set_option maxRecDepth 10000 in
theorem b29_2 {Q : Option Value → mm → Prop} (ρ : rm) (τ : Int64) (l1 : Int) (t : List (Option Value)) (hB : BM ρ) (h_l1 : SM l1) : G 29 2 (some (.ref 1) :: some (vI l1) :: t) [] (toM ρ τ) Q = (if (ρ 1 1) ≤ l1 then G 29 53 (some (.ref 1) :: some (vI 0) :: t) [] (toM ρ τ) Q else G 29 12 (some (.ref 1) :: some (vI l1) :: some (vI 0) :: t.tail) [] (toM ρ τ) Q) := by
  refine (g_iload_n d29_2 rfl).trans ?_
  refine (g_aload_n d29_3 rfl rfl).trans ?_
  refine (j_getI (v := ρ 1 1) d29_4 f2_42 sh_1 (by decide) rfl rfl).trans ?_
  have q1 := hB 1 1 (by decide)
  refine j_icmp_ge (tgt := 51) d29_7 (by decide) (by omega) (by omega) (fun q2 => ?_) (fun q2 => ?_)
  ·
    refine (j_iconst d29_51).trans ?_
    refine (g_istore_n d29_52 (by decide) rfl rfl).trans ?_
    rfl
  ·
    refine (j_iconst d29_10).trans ?_
    refine (g_istore_n d29_11 (by decide) rfl rfl).trans ?_
    rfl
set_option maxRecDepth 10000 in
theorem b29_53 {Q : Option Value → mm → Prop} (ρ : rm) (τ : Int64) (l1 : Int) (t : List (Option Value)) (hB : BM ρ) (h_l1 : SM l1) : G 29 53 (some (.ref 1) :: some (vI l1) :: t) [] (toM ρ τ) Q = (if (ρ 1 1) ≤ (l1 + 1) then G 29 85 (some (.ref 1) :: some (vI 0) :: t) [] (toM ρ τ) Q else (if 0 ≤ l1 ∧ l1 < 10 then G 30 0 [some (.ref 1), some (vI l1), some (vI (l1 + 1)), some (vI (ρ 12 l1))] [] (toM ρ τ) (fun v μ2 => G 29 77 (some (.ref 1) :: some (vI l1) :: t) (v.toList ++ []) μ2 Q) else False)) := by
  refine (g_iload_n d29_53 rfl).trans ?_
  refine (j_iconst d29_54).trans ?_
  refine (j_iadd d29_55).trans ?_
  refine (g_aload_n d29_56 rfl rfl).trans ?_
  refine (j_getI (v := ρ 1 1) d29_57 f2_42 sh_1 (by decide) rfl rfl).trans ?_
  have q1 := hB 1 1 (by decide)
  refine j_icmp_ge (tgt := 83) d29_60 (by decide) (by omega) (by omega) (fun q2 => ?_) (fun q2 => ?_)
  ·
    refine (j_iconst d29_83).trans ?_
    refine (g_istore_n d29_84 (by decide) rfl rfl).trans ?_
    rfl
  ·
    refine (g_aload_n d29_63 rfl rfl).trans ?_
    refine (g_iload_n d29_64 rfl).trans ?_
    refine (g_iload_n d29_65 rfl).trans ?_
    refine (j_iconst d29_66).trans ?_
    refine (j_iadd d29_67).trans ?_
    refine (g_aload_n d29_68 rfl rfl).trans ?_
    refine (g_getR (q := 12) d29_69 f2_18 sh_1 (by decide) rfl).trans ?_
    refine (g_iload_n d29_72 rfl).trans ?_
    refine j_iaload (v := ρ 12 l1) d29_73 sh_12 (by omega) rfl (fun q3 => ?_)
    have q4 := hB 12 l1 (by omega)
    exact g_cV d29_74 k2_60 rfl rfl rfl
set_option maxRecDepth 10000 in
theorem b29_12 {Q : Option Value → mm → Prop} (ρ : rm) (τ : Int64) (l1 : Int) (l2 : Int) (t : List (Option Value)) (hB : BM ρ) (h_l1 : SM l1) (h_l2 : SM l2) : G 29 12 (some (.ref 1) :: some (vI l1) :: some (vI l2) :: t) [] (toM ρ τ) Q = (if (ρ 1 1) ≤ l2 then G 29 2 (some (.ref 1) :: some (vI (l1 + 1)) :: some (vI l2) :: t) [] (toM ρ τ) Q else (if 0 ≤ l1 ∧ l1 < 10 then (if l1 = l2 then (if 0 ≤ l2 ∧ l2 < 10 then G 29 12 (some (.ref 1) :: some (vI l1) :: some (vI (l2 + 1)) :: t) [] (toM (rup ρ (17 + l1.toNat) l2 0) τ) Q else False) else (if 0 ≤ l2 ∧ l2 < 10 then G 29 12 (some (.ref 1) :: some (vI l1) :: some (vI (l2 + 1)) :: t) [] (toM (rup ρ (17 + l1.toNat) l2 1000000) τ) Q else False)) else False)) := by
  refine (g_iload_n d29_12 rfl).trans ?_
  refine (g_aload_n d29_13 rfl rfl).trans ?_
  refine (j_getI (v := ρ 1 1) d29_14 f2_42 sh_1 (by decide) rfl rfl).trans ?_
  have q1 := hB 1 1 (by decide)
  refine j_icmp_ge (tgt := 45) d29_17 (by decide) (by omega) (by omega) (fun q2 => ?_) (fun q2 => ?_)
  ·
    refine (j_iinc d29_45 rfl (by decide) rfl rfl).trans ?_
    refine (g_goto (tgt := 2) d29_48 (by decide)).trans ?_
    rfl
  ·
    refine (g_aload_n d29_20 rfl rfl).trans ?_
    refine (g_getR (q := 16) d29_21 f2_32 sh_1 (by decide) rfl).trans ?_
    refine (g_iload_n d29_24 rfl).trans ?_
    refine j_aaload d29_25 (by omega) (fun q3 => ?_)
    refine (g_iload_n d29_26 rfl).trans ?_
    refine (g_iload_n d29_27 rfl).trans ?_
    refine (g_iload_n d29_28 rfl).trans ?_
    refine j_icmp_ne (tgt := 36) d29_29 (by decide) (by omega) (by omega) (fun q4 => ?_) (fun q4 => ?_)
    ·
      refine (j_iconst d29_32).trans ?_
      refine (g_goto (tgt := 38) d29_33 (by decide)).trans ?_
      refine j_iastore d29_38 (shp_row (by omega)) (by omega) (fun q5 => ?_)
      refine (j_iinc d29_39 rfl (by decide) rfl rfl).trans ?_
      refine (g_goto (tgt := 12) d29_42 (by decide)).trans ?_
      rfl
    ·
      refine (j_ldc (n := 1000000) d29_36 cs2_59 (by decide)).trans ?_
      refine j_iastore d29_38 (shp_row (by omega)) (by omega) (fun q6 => ?_)
      refine (j_iinc d29_39 rfl (by decide) rfl rfl).trans ?_
      refine (g_goto (tgt := 12) d29_42 (by decide)).trans ?_
      rfl
set_option maxRecDepth 10000 in
theorem b29_85 {Q : Option Value → mm → Prop} (ρ : rm) (τ : Int64) (l1 : Int) (t : List (Option Value)) (hB : BM ρ) (h_l1 : SM l1) : G 29 85 (some (.ref 1) :: some (vI l1) :: t) [] (toM ρ τ) Q = (if (ρ 1 2) ≤ l1 then Q none (toM ρ τ) else (if 0 ≤ l1 ∧ l1 < 8 then (if 0 ≤ l1 ∧ l1 < 8 then (if 0 ≤ l1 ∧ l1 < 8 then G 30 0 [some (.ref 1), some (vI (ρ 13 l1)), some (vI (ρ 14 l1)), some (vI (ρ 15 l1))] [] (toM ρ τ) (fun v μ2 => G 29 115 (some (.ref 1) :: some (vI l1) :: t) (v.toList ++ []) μ2 Q) else False) else False) else False)) := by
  refine (g_iload_n d29_85 rfl).trans ?_
  refine (g_aload_n d29_86 rfl rfl).trans ?_
  refine (j_getI (v := ρ 1 2) d29_87 f2_46 sh_1 (by decide) rfl rfl).trans ?_
  have q1 := hB 1 2 (by decide)
  refine j_icmp_ge (tgt := 121) d29_90 (by decide) (by omega) (by omega) (fun q2 => ?_) (fun q2 => ?_)
  ·
    exact g_ret d29_121 rfl
  ·
    refine (g_aload_n d29_93 rfl rfl).trans ?_
    refine (g_aload_n d29_94 rfl rfl).trans ?_
    refine (g_getR (q := 13) d29_95 f2_21 sh_1 (by decide) rfl).trans ?_
    refine (g_iload_n d29_98 rfl).trans ?_
    refine j_iaload (v := ρ 13 l1) d29_99 sh_13 (by omega) rfl (fun q3 => ?_)
    have q4 := hB 13 l1 (by omega)
    refine (g_aload_n d29_100 rfl rfl).trans ?_
    refine (g_getR (q := 14) d29_101 f2_24 sh_1 (by decide) rfl).trans ?_
    refine (g_iload_n d29_104 rfl).trans ?_
    refine j_iaload (v := ρ 14 l1) d29_105 sh_14 (by omega) rfl (fun q5 => ?_)
    have q6 := hB 14 l1 (by omega)
    refine (g_aload_n d29_106 rfl rfl).trans ?_
    refine (g_getR (q := 15) d29_107 f2_27 sh_1 (by decide) rfl).trans ?_
    refine (g_iload_n d29_110 rfl).trans ?_
    refine j_iaload (v := ρ 15 l1) d29_111 sh_15 (by omega) rfl (fun q7 => ?_)
    have q8 := hB 15 l1 (by omega)
    exact g_cV d29_112 k2_60 rfl rfl rfl
set_option maxRecDepth 10000 in
theorem b29_77 {Q : Option Value → mm → Prop} (ρ : rm) (τ : Int64) (l1 : Int) (t : List (Option Value)) (hB : BM ρ) (h_l1 : SM l1) : G 29 77 (some (.ref 1) :: some (vI l1) :: t) ((none : Option Value).toList ++ []) (toM ρ τ) Q = G 29 53 (some (.ref 1) :: some (vI (l1 + 1)) :: t) [] (toM ρ τ) Q := by
  refine (j_iinc d29_77 rfl (by decide) rfl rfl).trans ?_
  refine (g_goto (tgt := 53) d29_80 (by decide)).trans ?_
  rfl
set_option maxRecDepth 10000 in
theorem b29_115 {Q : Option Value → mm → Prop} (ρ : rm) (τ : Int64) (l1 : Int) (t : List (Option Value)) (hB : BM ρ) (h_l1 : SM l1) : G 29 115 (some (.ref 1) :: some (vI l1) :: t) ((none : Option Value).toList ++ []) (toM ρ τ) Q = G 29 85 (some (.ref 1) :: some (vI (l1 + 1)) :: t) [] (toM ρ τ) Q := by
  refine (j_iinc d29_115 rfl (by decide) rfl rfl).trans ?_
  refine (g_goto (tgt := 85) d29_118 (by decide)).trans ?_
  rfl
theorem d30_0 : ins 30 0 = some (.aload_n 0) := by decide +kernel
theorem d30_1 : ins 30 1 = some (.iload_n 1) := by decide +kernel
theorem d30_2 : ins 30 2 = some (.invokevirtual 49) := by decide +kernel
theorem d30_5 : ins 30 5 = some (.ifCond .eq 41) := by decide +kernel
theorem d30_8 : ins 30 8 = some (.aload_n 0) := by decide +kernel
theorem d30_9 : ins 30 9 = some (.iload_n 2) := by decide +kernel
theorem d30_10 : ins 30 10 = some (.invokevirtual 49) := by decide +kernel
theorem d30_13 : ins 30 13 = some (.ifCond .eq 33) := by decide +kernel
theorem d30_16 : ins 30 16 = some (.iload_n 3) := by decide +kernel
theorem d30_17 : ins 30 17 = some (.aload_n 0) := by decide +kernel
theorem d30_18 : ins 30 18 = some (.getfield 32) := by decide +kernel
theorem d30_21 : ins 30 21 = some (.iload_n 1) := by decide +kernel
theorem d30_22 : ins 30 22 = some (.aaload) := by decide +kernel
theorem d30_23 : ins 30 23 = some (.iload_n 2) := by decide +kernel
theorem d30_24 : ins 30 24 = some (.iaload) := by decide +kernel
theorem d30_25 : ins 30 25 = some (.if_icmp .ge 21) := by decide +kernel
theorem d30_28 : ins 30 28 = some (.aload_n 0) := by decide +kernel
theorem d30_29 : ins 30 29 = some (.getfield 32) := by decide +kernel
theorem d30_32 : ins 30 32 = some (.iload_n 1) := by decide +kernel
theorem d30_33 : ins 30 33 = some (.aaload) := by decide +kernel
theorem d30_34 : ins 30 34 = some (.iload_n 2) := by decide +kernel
theorem d30_35 : ins 30 35 = some (.iload_n 3) := by decide +kernel
theorem d30_36 : ins 30 36 = some (.iastore) := by decide +kernel
theorem d30_37 : ins 30 37 = some (.aload_n 0) := by decide +kernel
theorem d30_38 : ins 30 38 = some (.getfield 32) := by decide +kernel
theorem d30_41 : ins 30 41 = some (.iload_n 2) := by decide +kernel
theorem d30_42 : ins 30 42 = some (.aaload) := by decide +kernel
theorem d30_43 : ins 30 43 = some (.iload_n 1) := by decide +kernel
theorem d30_44 : ins 30 44 = some (.iload_n 3) := by decide +kernel
theorem d30_45 : ins 30 45 = some (.iastore) := by decide +kernel
theorem d30_46 : ins 30 46 = some (.return_) := by decide +kernel
set_option maxRecDepth 10000 in
theorem b30_0 {Q : Option Value → mm → Prop} (ρ : rm) (τ : Int64) (a1 : Int) (a2 : Int) (a3 : Int) (hB : BM ρ) (h_a1 : SM a1) (h_a2 : SM a2) (h_a3 : SM a3) : G 30 0 (some (.ref 1) :: some (vI a1) :: some (vI a2) :: some (vI a3) :: []) [] (toM ρ τ) Q = G 32 0 [some (.ref 1), some (vI a1)] [] (toM ρ τ) (fun v μ2 => G 30 5 (some (.ref 1) :: some (vI a1) :: some (vI a2) :: some (vI a3) :: []) (v.toList ++ []) μ2 Q) := by
  refine (g_aload_n d30_0 rfl rfl).trans ?_
  refine (g_iload_n d30_1 rfl).trans ?_
  exact g_cV d30_2 k2_49 rfl rfl rfl
set_option maxRecDepth 10000 in
theorem b30_5 {Q : Option Value → mm → Prop} (ρ : rm) (τ : Int64) (l1 : Int) (l2 : Int) (l3 : Int) (t : List (Option Value)) (r : Int) (hB : BM ρ) (h_l1 : SM l1) (h_l2 : SM l2) (h_l3 : SM l3) (h_r : SM r) : G 30 5 (some (.ref 1) :: some (vI l1) :: some (vI l2) :: some (vI l3) :: t) ((some (vI r)).toList ++ []) (toM ρ τ) Q = (if r = 0 then Q none (toM ρ τ) else G 32 0 [some (.ref 1), some (vI l2)] [] (toM ρ τ) (fun v μ2 => G 30 13 (some (.ref 1) :: some (vI l1) :: some (vI l2) :: some (vI l3) :: t) (v.toList ++ []) μ2 Q)) := by
  refine j_if_eq (tgt := 46) d30_5 (by decide) (by omega) (fun q1 => ?_) (fun q1 => ?_)
  ·
    exact g_ret d30_46 rfl
  ·
    refine (g_aload_n d30_8 rfl rfl).trans ?_
    refine (g_iload_n d30_9 rfl).trans ?_
    exact g_cV d30_10 k2_49 rfl rfl rfl
set_option maxRecDepth 10000 in
theorem b30_13 {Q : Option Value → mm → Prop} (ρ : rm) (τ : Int64) (l1 : Int) (l2 : Int) (l3 : Int) (t : List (Option Value)) (r : Int) (hB : BM ρ) (h_l1 : SM l1) (h_l2 : SM l2) (h_l3 : SM l3) (h_r : SM r) : G 30 13 (some (.ref 1) :: some (vI l1) :: some (vI l2) :: some (vI l3) :: t) ((some (vI r)).toList ++ []) (toM ρ τ) Q = (if r = 0 then Q none (toM ρ τ) else (if 0 ≤ l1 ∧ l1 < 10 then (if 0 ≤ l2 ∧ l2 < 10 then (if (ρ (17 + l1.toNat) l2) ≤ l3 then Q none (toM ρ τ) else (if 0 ≤ l1 ∧ l1 < 10 then (if 0 ≤ l2 ∧ l2 < 10 then (if 0 ≤ l2 ∧ l2 < 10 then (if 0 ≤ l1 ∧ l1 < 10 then Q none (toM (rup (rup ρ (17 + l1.toNat) l2 l3) (17 + l2.toNat) l1 l3) τ) else False) else False) else False) else False)) else False) else False)) := by
  refine j_if_eq (tgt := 46) d30_13 (by decide) (by omega) (fun q1 => ?_) (fun q1 => ?_)
  ·
    exact g_ret d30_46 rfl
  ·
    refine (g_iload_n d30_16 rfl).trans ?_
    refine (g_aload_n d30_17 rfl rfl).trans ?_
    refine (g_getR (q := 16) d30_18 f2_32 sh_1 (by decide) rfl).trans ?_
    refine (g_iload_n d30_21 rfl).trans ?_
    refine j_aaload d30_22 (by omega) (fun q2 => ?_)
    refine (g_iload_n d30_23 rfl).trans ?_
    refine j_iaload (v := ρ (17 + l1.toNat) l2) d30_24 (shp_row (by omega)) (by omega) rfl (fun q3 => ?_)
    have q4 := hB (17 + l1.toNat) l2 (by omega)
    refine j_icmp_ge (tgt := 46) d30_25 (by decide) (by omega) (by omega) (fun q5 => ?_) (fun q5 => ?_)
    ·
      exact g_ret d30_46 rfl
    ·
      refine (g_aload_n d30_28 rfl rfl).trans ?_
      refine (g_getR (q := 16) d30_29 f2_32 sh_1 (by decide) rfl).trans ?_
      refine (g_iload_n d30_32 rfl).trans ?_
      refine j_aaload d30_33 (by omega) (fun q6 => ?_)
      refine (g_iload_n d30_34 rfl).trans ?_
      refine (g_iload_n d30_35 rfl).trans ?_
      refine j_iastore d30_36 (shp_row (by omega)) (by omega) (fun q7 => ?_)
      refine (g_aload_n d30_37 rfl rfl).trans ?_
      refine (g_getR (q := 16) d30_38 f2_32 sh_1 (by decide) rfl).trans ?_
      refine (g_iload_n d30_41 rfl).trans ?_
      refine j_aaload d30_42 (by omega) (fun q8 => ?_)
      refine (g_iload_n d30_43 rfl).trans ?_
      refine (g_iload_n d30_44 rfl).trans ?_
      refine j_iastore d30_45 (shp_row (by omega)) (by omega) (fun q9 => ?_)
      exact g_ret d30_46 rfl
theorem d31_0 : ins 31 0 = some (.iconst 0) := by decide +kernel
theorem d31_1 : ins 31 1 = some (.istore_n 1) := by decide +kernel
theorem d31_2 : ins 31 2 = some (.iload_n 1) := by decide +kernel
theorem d31_3 : ins 31 3 = some (.aload_n 0) := by decide +kernel
theorem d31_4 : ins 31 4 = some (.getfield 42) := by decide +kernel
theorem d31_7 : ins 31 7 = some (.if_icmp .ge 77) := by decide +kernel
theorem d31_10 : ins 31 10 = some (.iconst 0) := by decide +kernel
theorem d31_11 : ins 31 11 = some (.istore_n 2) := by decide +kernel
theorem d31_12 : ins 31 12 = some (.iload_n 2) := by decide +kernel
theorem d31_13 : ins 31 13 = some (.aload_n 0) := by decide +kernel
theorem d31_14 : ins 31 14 = some (.getfield 42) := by decide +kernel
theorem d31_17 : ins 31 17 = some (.if_icmp .ge 61) := by decide +kernel
theorem d31_20 : ins 31 20 = some (.iconst 0) := by decide +kernel
theorem d31_21 : ins 31 21 = some (.istore_n 3) := by decide +kernel
theorem d31_22 : ins 31 22 = some (.iload_n 3) := by decide +kernel
theorem d31_23 : ins 31 23 = some (.aload_n 0) := by decide +kernel
theorem d31_24 : ins 31 24 = some (.getfield 42) := by decide +kernel
theorem d31_27 : ins 31 27 = some (.if_icmp .ge 45) := by decide +kernel
theorem d31_30 : ins 31 30 = some (.aload_n 0) := by decide +kernel
theorem d31_31 : ins 31 31 = some (.getfield 32) := by decide +kernel
theorem d31_34 : ins 31 34 = some (.iload_n 2) := by decide +kernel
theorem d31_35 : ins 31 35 = some (.aaload) := by decide +kernel
theorem d31_36 : ins 31 36 = some (.iload_n 3) := by decide +kernel
theorem d31_37 : ins 31 37 = some (.aload_n 0) := by decide +kernel
theorem d31_38 : ins 31 38 = some (.getfield 32) := by decide +kernel
theorem d31_41 : ins 31 41 = some (.iload_n 2) := by decide +kernel
theorem d31_42 : ins 31 42 = some (.aaload) := by decide +kernel
theorem d31_43 : ins 31 43 = some (.iload_n 3) := by decide +kernel
theorem d31_44 : ins 31 44 = some (.iaload) := by decide +kernel
theorem d31_45 : ins 31 45 = some (.aload_n 0) := by decide +kernel
theorem d31_46 : ins 31 46 = some (.getfield 32) := by decide +kernel
theorem d31_49 : ins 31 49 = some (.iload_n 2) := by decide +kernel
theorem d31_50 : ins 31 50 = some (.aaload) := by decide +kernel
theorem d31_51 : ins 31 51 = some (.iload_n 1) := by decide +kernel
theorem d31_52 : ins 31 52 = some (.iaload) := by decide +kernel
theorem d31_53 : ins 31 53 = some (.aload_n 0) := by decide +kernel
theorem d31_54 : ins 31 54 = some (.getfield 32) := by decide +kernel
theorem d31_57 : ins 31 57 = some (.iload_n 1) := by decide +kernel
theorem d31_58 : ins 31 58 = some (.aaload) := by decide +kernel
theorem d31_59 : ins 31 59 = some (.iload_n 3) := by decide +kernel
theorem d31_60 : ins 31 60 = some (.iaload) := by decide +kernel
theorem d31_61 : ins 31 61 = some (.iadd) := by decide +kernel
theorem d31_62 : ins 31 62 = some (.invokestatic 64) := by decide +kernel
theorem d31_65 : ins 31 65 = some (.iastore) := by decide +kernel
theorem d31_66 : ins 31 66 = some (.iinc 3 1) := by decide +kernel
theorem d31_69 : ins 31 69 = some (.goto (-47)) := by decide +kernel
theorem d31_72 : ins 31 72 = some (.iinc 2 1) := by decide +kernel
theorem d31_75 : ins 31 75 = some (.goto (-63)) := by decide +kernel
theorem d31_78 : ins 31 78 = some (.iinc 1 1) := by decide +kernel
theorem d31_81 : ins 31 81 = some (.goto (-79)) := by decide +kernel
theorem d31_84 : ins 31 84 = some (.return_) := by decide +kernel
set_option maxRecDepth 10000 in
theorem b31_0 {Q : Option Value → mm → Prop} (ρ : rm) (τ : Int64)  (hB : BM ρ)  : G 31 0 (some (.ref 1) :: []) [] (toM ρ τ) Q = G 31 2 (some (.ref 1) :: some (vI 0) :: []) [] (toM ρ τ) Q := by
  refine (j_iconst d31_0).trans ?_
  refine (g_istore_n d31_1 (by decide) rfl rfl).trans ?_
  rfl
set_option maxRecDepth 10000 in
theorem b31_2 {Q : Option Value → mm → Prop} (ρ : rm) (τ : Int64) (l1 : Int) (t : List (Option Value)) (hB : BM ρ) (h_l1 : SM l1) : G 31 2 (some (.ref 1) :: some (vI l1) :: t) [] (toM ρ τ) Q = (if (ρ 1 1) ≤ l1 then Q none (toM ρ τ) else G 31 12 (some (.ref 1) :: some (vI l1) :: some (vI 0) :: t.tail) [] (toM ρ τ) Q) := by
  refine (g_iload_n d31_2 rfl).trans ?_
  refine (g_aload_n d31_3 rfl rfl).trans ?_
  refine (j_getI (v := ρ 1 1) d31_4 f2_42 sh_1 (by decide) rfl rfl).trans ?_
  have q1 := hB 1 1 (by decide)
  refine j_icmp_ge (tgt := 84) d31_7 (by decide) (by omega) (by omega) (fun q2 => ?_) (fun q2 => ?_)
  ·
    exact g_ret d31_84 rfl
  ·
    refine (j_iconst d31_10).trans ?_
    refine (g_istore_n d31_11 (by decide) rfl rfl).trans ?_
    rfl
set_option maxRecDepth 10000 in
theorem b31_12 {Q : Option Value → mm → Prop} (ρ : rm) (τ : Int64) (l1 : Int) (l2 : Int) (t : List (Option Value)) (hB : BM ρ) (h_l1 : SM l1) (h_l2 : SM l2) : G 31 12 (some (.ref 1) :: some (vI l1) :: some (vI l2) :: t) [] (toM ρ τ) Q = (if (ρ 1 1) ≤ l2 then G 31 2 (some (.ref 1) :: some (vI (l1 + 1)) :: some (vI l2) :: t) [] (toM ρ τ) Q else G 31 22 (some (.ref 1) :: some (vI l1) :: some (vI l2) :: some (vI 0) :: t.tail) [] (toM ρ τ) Q) := by
  refine (g_iload_n d31_12 rfl).trans ?_
  refine (g_aload_n d31_13 rfl rfl).trans ?_
  refine (j_getI (v := ρ 1 1) d31_14 f2_42 sh_1 (by decide) rfl rfl).trans ?_
  have q1 := hB 1 1 (by decide)
  refine j_icmp_ge (tgt := 78) d31_17 (by decide) (by omega) (by omega) (fun q2 => ?_) (fun q2 => ?_)
  ·
    refine (j_iinc d31_78 rfl (by decide) rfl rfl).trans ?_
    refine (g_goto (tgt := 2) d31_81 (by decide)).trans ?_
    rfl
  ·
    refine (j_iconst d31_20).trans ?_
    refine (g_istore_n d31_21 (by decide) rfl rfl).trans ?_
    rfl
set_option maxRecDepth 10000 in
theorem b31_22 {Q : Option Value → mm → Prop} (ρ : rm) (τ : Int64) (l1 : Int) (l2 : Int) (l3 : Int) (t : List (Option Value)) (hB : BM ρ) (h_l1 : SM l1) (h_l2 : SM l2) (h_l3 : SM l3) : G 31 22 (some (.ref 1) :: some (vI l1) :: some (vI l2) :: some (vI l3) :: t) [] (toM ρ τ) Q = (if (ρ 1 1) ≤ l3 then G 31 12 (some (.ref 1) :: some (vI l1) :: some (vI (l2 + 1)) :: some (vI l3) :: t) [] (toM ρ τ) Q else (if 0 ≤ l2 ∧ l2 < 10 then (if 0 ≤ l2 ∧ l2 < 10 then (if 0 ≤ l3 ∧ l3 < 10 then (if 0 ≤ l2 ∧ l2 < 10 then (if 0 ≤ l1 ∧ l1 < 10 then (if 0 ≤ l1 ∧ l1 < 10 then (if 0 ≤ l3 ∧ l3 < 10 then G 185 0 [some (vI (ρ (17 + l2.toNat) l3)), some (vI ((ρ (17 + l2.toNat) l1) + (ρ (17 + l1.toNat) l3)))] [] (toM ρ τ) (fun v μ2 => G 31 65 (some (.ref 1) :: some (vI l1) :: some (vI l2) :: some (vI l3) :: t) (v.toList ++ [vI l3, .ref (17 + l2.toNat)]) μ2 Q) else False) else False) else False) else False) else False) else False) else False)) := by
  refine (g_iload_n d31_22 rfl).trans ?_
  refine (g_aload_n d31_23 rfl rfl).trans ?_
  refine (j_getI (v := ρ 1 1) d31_24 f2_42 sh_1 (by decide) rfl rfl).trans ?_
  have q1 := hB 1 1 (by decide)
  refine j_icmp_ge (tgt := 72) d31_27 (by decide) (by omega) (by omega) (fun q2 => ?_) (fun q2 => ?_)
  ·
    refine (j_iinc d31_72 rfl (by decide) rfl rfl).trans ?_
    refine (g_goto (tgt := 12) d31_75 (by decide)).trans ?_
    rfl
  ·
    refine (g_aload_n d31_30 rfl rfl).trans ?_
    refine (g_getR (q := 16) d31_31 f2_32 sh_1 (by decide) rfl).trans ?_
    refine (g_iload_n d31_34 rfl).trans ?_
    refine j_aaload d31_35 (by omega) (fun q3 => ?_)
    refine (g_iload_n d31_36 rfl).trans ?_
    refine (g_aload_n d31_37 rfl rfl).trans ?_
    refine (g_getR (q := 16) d31_38 f2_32 sh_1 (by decide) rfl).trans ?_
    refine (g_iload_n d31_41 rfl).trans ?_
    refine j_aaload d31_42 (by omega) (fun q4 => ?_)
    refine (g_iload_n d31_43 rfl).trans ?_
    refine j_iaload (v := ρ (17 + l2.toNat) l3) d31_44 (shp_row (by omega)) (by omega) rfl (fun q5 => ?_)
    have q6 := hB (17 + l2.toNat) l3 (by omega)
    refine (g_aload_n d31_45 rfl rfl).trans ?_
    refine (g_getR (q := 16) d31_46 f2_32 sh_1 (by decide) rfl).trans ?_
    refine (g_iload_n d31_49 rfl).trans ?_
    refine j_aaload d31_50 (by omega) (fun q7 => ?_)
    refine (g_iload_n d31_51 rfl).trans ?_
    refine j_iaload (v := ρ (17 + l2.toNat) l1) d31_52 (shp_row (by omega)) (by omega) rfl (fun q8 => ?_)
    have q9 := hB (17 + l2.toNat) l1 (by omega)
    refine (g_aload_n d31_53 rfl rfl).trans ?_
    refine (g_getR (q := 16) d31_54 f2_32 sh_1 (by decide) rfl).trans ?_
    refine (g_iload_n d31_57 rfl).trans ?_
    refine j_aaload d31_58 (by omega) (fun q10 => ?_)
    refine (g_iload_n d31_59 rfl).trans ?_
    refine j_iaload (v := ρ (17 + l1.toNat) l3) d31_60 (shp_row (by omega)) (by omega) rfl (fun q11 => ?_)
    have q12 := hB (17 + l1.toNat) l3 (by omega)
    refine (j_iadd d31_61).trans ?_
    exact g_cS d31_62 k2_64 rfl rfl rfl
set_option maxRecDepth 10000 in
theorem b31_65 {Q : Option Value → mm → Prop} (ρ : rm) (τ : Int64) (l1 : Int) (l2 : Int) (l3 : Int) (t : List (Option Value)) (s0 : Int) (s1 : Int) (r : Int) (hB : BM ρ) (h_l1 : SM l1) (h_l2 : SM l2) (h_l3 : SM l3) (h_s0 : SM s0) (h_s1 : 0 ≤ s1 ∧ s1 < 10) (h_r : SM r) : G 31 65 (some (.ref 1) :: some (vI l1) :: some (vI l2) :: some (vI l3) :: t) ((some (vI r)).toList ++ [vI s0, .ref (17 + s1.toNat)]) (toM ρ τ) Q = (if 0 ≤ s0 ∧ s0 < 10 then G 31 22 (some (.ref 1) :: some (vI l1) :: some (vI l2) :: some (vI (l3 + 1)) :: t) [] (toM (rup ρ (17 + s1.toNat) s0 r) τ) Q else False) := by
  refine j_iastore d31_65 (shp_row (by omega)) (by omega) (fun q1 => ?_)
  refine (j_iinc d31_66 rfl (by decide) rfl rfl).trans ?_
  refine (g_goto (tgt := 22) d31_69 (by decide)).trans ?_
  rfl
theorem d32_0 : ins 32 0 = some (.iload_n 1) := by decide +kernel
theorem d32_1 : ins 32 1 = some (.ifCond .lt 15) := by decide +kernel
theorem d32_4 : ins 32 4 = some (.iload_n 1) := by decide +kernel
theorem d32_5 : ins 32 5 = some (.aload_n 0) := by decide +kernel
theorem d32_6 : ins 32 6 = some (.getfield 42) := by decide +kernel
theorem d32_9 : ins 32 9 = some (.if_icmp .ge 7) := by decide +kernel
theorem d32_12 : ins 32 12 = some (.iconst 1) := by decide +kernel
theorem d32_13 : ins 32 13 = some (.goto 4) := by decide +kernel
theorem d32_16 : ins 32 16 = some (.iconst 0) := by decide +kernel
theorem d32_17 : ins 32 17 = some (.ireturn) := by decide +kernel
set_option maxRecDepth 10000 in
theorem b32_0 {Q : Option Value → mm → Prop} (ρ : rm) (τ : Int64) (a1 : Int) (hB : BM ρ) (h_a1 : SB a1) : G 32 0 (some (.ref 1) :: some (vI a1) :: []) [] (toM ρ τ) Q = (if a1 < 0 then Q (some (vI 0)) (toM ρ τ) else (if (ρ 1 1) ≤ a1 then Q (some (vI 0)) (toM ρ τ) else Q (some (vI 1)) (toM ρ τ))) := by
  refine (g_iload_n d32_0 rfl).trans ?_
  refine j_if_lt (tgt := 16) d32_1 (by decide) (by omega) (fun q1 => ?_) (fun q1 => ?_)
  ·
    refine (j_iconst d32_16).trans ?_
    exact g_iret d32_17 rfl rfl
  ·
    refine (g_iload_n d32_4 rfl).trans ?_
    refine (g_aload_n d32_5 rfl rfl).trans ?_
    refine (j_getI (v := ρ 1 1) d32_6 f2_42 sh_1 (by decide) rfl rfl).trans ?_
    have q2 := hB 1 1 (by decide)
    refine j_icmp_ge (tgt := 16) d32_9 (by decide) (by omega) (by omega) (fun q3 => ?_) (fun q3 => ?_)
    ·
      refine (j_iconst d32_16).trans ?_
      exact g_iret d32_17 rfl rfl
    ·
      refine (j_iconst d32_12).trans ?_
      refine (g_goto (tgt := 17) d32_13 (by decide)).trans ?_
      exact g_iret d32_17 rfl rfl
theorem d33_0 : ins 33 0 = some (.aload_n 0) := by decide +kernel
theorem d33_1 : ins 33 1 = some (.getfield 32) := by decide +kernel
theorem d33_4 : ins 33 4 = some (.iload_n 1) := by decide +kernel
theorem d33_5 : ins 33 5 = some (.aaload) := by decide +kernel
theorem d33_6 : ins 33 6 = some (.iload_n 2) := by decide +kernel
theorem d33_7 : ins 33 7 = some (.iaload) := by decide +kernel
theorem d33_8 : ins 33 8 = some (.ireturn) := by decide +kernel
set_option maxRecDepth 10000 in
theorem b33_0 {Q : Option Value → mm → Prop} (ρ : rm) (τ : Int64) (a1 : Int) (a2 : Int) (hB : BM ρ) (h_a1 : SM a1) (h_a2 : SM a2) : G 33 0 (some (.ref 1) :: some (vI a1) :: some (vI a2) :: []) [] (toM ρ τ) Q = (if 0 ≤ a1 ∧ a1 < 10 then (if 0 ≤ a2 ∧ a2 < 10 then Q (some (vI (ρ (17 + a1.toNat) a2))) (toM ρ τ) else False) else False) := by
  refine (g_aload_n d33_0 rfl rfl).trans ?_
  refine (g_getR (q := 16) d33_1 f2_32 sh_1 (by decide) rfl).trans ?_
  refine (g_iload_n d33_4 rfl).trans ?_
  refine j_aaload d33_5 (by omega) (fun q1 => ?_)
  refine (g_iload_n d33_6 rfl).trans ?_
  refine j_iaload (v := ρ (17 + a1.toNat) a2) d33_7 (shp_row (by omega)) (by omega) rfl (fun q2 => ?_)
  have q3 := hB (17 + a1.toNat) a2 (by omega)
  exact g_iret d33_8 rfl rfl
theorem d34_0 : ins 34 0 = some (.iload_n 2) := by decide +kernel
theorem d34_1 : ins 34 1 = some (.aload_n 0) := by decide +kernel
theorem d34_2 : ins 34 2 = some (.getfield 9) := by decide +kernel
theorem d34_5 : ins 34 5 = some (.iload_n 1) := by decide +kernel
theorem d34_6 : ins 34 6 = some (.iaload) := by decide +kernel
theorem d34_7 : ins 34 7 = some (.isub) := by decide +kernel
theorem d34_8 : ins 34 8 = some (.sipush 1440) := by decide +kernel
theorem d34_11 : ins 34 11 = some (.invokestatic 70) := by decide +kernel
theorem d34_14 : ins 34 14 = some (.ireturn) := by decide +kernel
set_option maxRecDepth 10000 in
theorem b34_0 {Q : Option Value → mm → Prop} (ρ : rm) (τ : Int64) (a1 : Int) (a2 : Int) (hB : BM ρ) (h_a1 : SM a1) (h_a2 : SM a2) : G 34 0 (some (.ref 1) :: some (vI a1) :: some (vI a2) :: []) [] (toM ρ τ) Q = (if 0 ≤ a1 ∧ a1 < 10 then G 182 0 [some (vI (a2 - (ρ 10 a1))), some (vI 1440)] [] (toM ρ τ) (fun v μ2 => G 34 14 (some (.ref 1) :: some (vI a1) :: some (vI a2) :: []) (v.toList ++ []) μ2 Q) else False) := by
  refine (g_iload_n d34_0 rfl).trans ?_
  refine (g_aload_n d34_1 rfl rfl).trans ?_
  refine (g_getR (q := 10) d34_2 f2_9 sh_1 (by decide) rfl).trans ?_
  refine (g_iload_n d34_5 rfl).trans ?_
  refine j_iaload (v := ρ 10 a1) d34_6 sh_10 (by omega) rfl (fun q1 => ?_)
  have q2 := hB 10 a1 (by omega)
  refine (j_isub d34_7).trans ?_
  refine (j_sipush d34_8 (by decide)).trans ?_
  exact g_cS d34_11 k2_70 rfl rfl rfl
set_option maxRecDepth 10000 in
theorem b34_14 {Q : Option Value → mm → Prop} (ρ : rm) (τ : Int64) (l1 : Int) (l2 : Int) (t : List (Option Value)) (r : Int) (hB : BM ρ) (h_l1 : SM l1) (h_l2 : SM l2) (h_r : SM r) : G 34 14 (some (.ref 1) :: some (vI l1) :: some (vI l2) :: t) ((some (vI r)).toList ++ []) (toM ρ τ) Q = Q (some (vI r)) (toM ρ τ) := by
  exact g_iret d34_14 rfl rfl
theorem d35_0 : ins 35 0 = some (.iload_n 2) := by decide +kernel
theorem d35_1 : ins 35 1 = some (.aload_n 0) := by decide +kernel
theorem d35_2 : ins 35 2 = some (.getfield 9) := by decide +kernel
theorem d35_5 : ins 35 5 = some (.iload_n 1) := by decide +kernel
theorem d35_6 : ins 35 6 = some (.iaload) := by decide +kernel
theorem d35_7 : ins 35 7 = some (.isub) := by decide +kernel
theorem d35_8 : ins 35 8 = some (.sipush 1440) := by decide +kernel
theorem d35_11 : ins 35 11 = some (.invokestatic 73) := by decide +kernel
theorem d35_14 : ins 35 14 = some (.ireturn) := by decide +kernel
set_option maxRecDepth 10000 in
theorem b35_0 {Q : Option Value → mm → Prop} (ρ : rm) (τ : Int64) (a1 : Int) (a2 : Int) (hB : BM ρ) (h_a1 : SM a1) (h_a2 : SM a2) : G 35 0 (some (.ref 1) :: some (vI a1) :: some (vI a2) :: []) [] (toM ρ τ) Q = (if 0 ≤ a1 ∧ a1 < 10 then G 181 0 [some (vI (a2 - (ρ 10 a1))), some (vI 1440)] [] (toM ρ τ) (fun v μ2 => G 35 14 (some (.ref 1) :: some (vI a1) :: some (vI a2) :: []) (v.toList ++ []) μ2 Q) else False) := by
  refine (g_iload_n d35_0 rfl).trans ?_
  refine (g_aload_n d35_1 rfl rfl).trans ?_
  refine (g_getR (q := 10) d35_2 f2_9 sh_1 (by decide) rfl).trans ?_
  refine (g_iload_n d35_5 rfl).trans ?_
  refine j_iaload (v := ρ 10 a1) d35_6 sh_10 (by omega) rfl (fun q1 => ?_)
  have q2 := hB 10 a1 (by omega)
  refine (j_isub d35_7).trans ?_
  refine (j_sipush d35_8 (by decide)).trans ?_
  exact g_cS d35_11 k2_73 rfl rfl rfl
set_option maxRecDepth 10000 in
theorem b35_14 {Q : Option Value → mm → Prop} (ρ : rm) (τ : Int64) (l1 : Int) (l2 : Int) (t : List (Option Value)) (r : Int) (hB : BM ρ) (h_l1 : SM l1) (h_l2 : SM l2) (h_r : SM r) : G 35 14 (some (.ref 1) :: some (vI l1) :: some (vI l2) :: t) ((some (vI r)).toList ++ []) (toM ρ τ) Q = Q (some (vI r)) (toM ρ τ) := by
  exact g_iret d35_14 rfl rfl
theorem d36_0 : ins 36 0 = some (.aload_n 0) := by decide +kernel
theorem d36_1 : ins 36 1 = some (.getfield 9) := by decide +kernel
theorem d36_4 : ins 36 4 = some (.iload_n 1) := by decide +kernel
theorem d36_5 : ins 36 5 = some (.iaload) := by decide +kernel
theorem d36_6 : ins 36 6 = some (.iload_n 2) := by decide +kernel
theorem d36_7 : ins 36 7 = some (.iadd) := by decide +kernel
theorem d36_8 : ins 36 8 = some (.ireturn) := by decide +kernel
set_option maxRecDepth 10000 in
theorem b36_0 {Q : Option Value → mm → Prop} (ρ : rm) (τ : Int64) (a1 : Int) (a2 : Int) (hB : BM ρ) (h_a1 : SM a1) (h_a2 : SM a2) : G 36 0 (some (.ref 1) :: some (vI a1) :: some (vI a2) :: []) [] (toM ρ τ) Q = (if 0 ≤ a1 ∧ a1 < 10 then Q (some (vI ((ρ 10 a1) + a2))) (toM ρ τ) else False) := by
  refine (g_aload_n d36_0 rfl rfl).trans ?_
  refine (g_getR (q := 10) d36_1 f2_9 sh_1 (by decide) rfl).trans ?_
  refine (g_iload_n d36_4 rfl).trans ?_
  refine j_iaload (v := ρ 10 a1) d36_5 sh_10 (by omega) rfl (fun q1 => ?_)
  have q2 := hB 10 a1 (by omega)
  refine (g_iload_n d36_6 rfl).trans ?_
  refine (j_iadd d36_7).trans ?_
  exact g_iret d36_8 rfl rfl
theorem d37_0 : ins 37 0 = some (.aload_n 0) := by decide +kernel
theorem d37_1 : ins 37 1 = some (.getfield 32) := by decide +kernel
theorem d37_4 : ins 37 4 = some (.iload_n 1) := by decide +kernel
theorem d37_5 : ins 37 5 = some (.aaload) := by decide +kernel
theorem d37_6 : ins 37 6 = some (.iload_n 2) := by decide +kernel
theorem d37_7 : ins 37 7 = some (.iaload) := by decide +kernel
theorem d37_8 : ins 37 8 = some (.aload_n 0) := by decide +kernel
theorem d37_9 : ins 37 9 = some (.getfield 9) := by decide +kernel
theorem d37_12 : ins 37 12 = some (.iload_n 2) := by decide +kernel
theorem d37_13 : ins 37 13 = some (.iaload) := by decide +kernel
theorem d37_14 : ins 37 14 = some (.aload_n 0) := by decide +kernel
theorem d37_15 : ins 37 15 = some (.getfield 9) := by decide +kernel
theorem d37_18 : ins 37 18 = some (.iload_n 1) := by decide +kernel
theorem d37_19 : ins 37 19 = some (.iaload) := by decide +kernel
theorem d37_20 : ins 37 20 = some (.isub) := by decide +kernel
theorem d37_21 : ins 37 21 = some (.isub) := by decide +kernel
theorem d37_22 : ins 37 22 = some (.ireturn) := by decide +kernel
set_option maxRecDepth 10000 in
theorem b37_0 {Q : Option Value → mm → Prop} (ρ : rm) (τ : Int64) (a1 : Int) (a2 : Int) (hB : BM ρ) (h_a1 : SM a1) (h_a2 : SM a2) : G 37 0 (some (.ref 1) :: some (vI a1) :: some (vI a2) :: []) [] (toM ρ τ) Q = (if 0 ≤ a1 ∧ a1 < 10 then (if 0 ≤ a2 ∧ a2 < 10 then (if 0 ≤ a2 ∧ a2 < 10 then (if 0 ≤ a1 ∧ a1 < 10 then Q (some (vI ((ρ (17 + a1.toNat) a2) - ((ρ 10 a2) - (ρ 10 a1))))) (toM ρ τ) else False) else False) else False) else False) := by
  refine (g_aload_n d37_0 rfl rfl).trans ?_
  refine (g_getR (q := 16) d37_1 f2_32 sh_1 (by decide) rfl).trans ?_
  refine (g_iload_n d37_4 rfl).trans ?_
  refine j_aaload d37_5 (by omega) (fun q1 => ?_)
  refine (g_iload_n d37_6 rfl).trans ?_
  refine j_iaload (v := ρ (17 + a1.toNat) a2) d37_7 (shp_row (by omega)) (by omega) rfl (fun q2 => ?_)
  have q3 := hB (17 + a1.toNat) a2 (by omega)
  refine (g_aload_n d37_8 rfl rfl).trans ?_
  refine (g_getR (q := 10) d37_9 f2_9 sh_1 (by decide) rfl).trans ?_
  refine (g_iload_n d37_12 rfl).trans ?_
  refine j_iaload (v := ρ 10 a2) d37_13 sh_10 (by omega) rfl (fun q4 => ?_)
  have q5 := hB 10 a2 (by omega)
  refine (g_aload_n d37_14 rfl rfl).trans ?_
  refine (g_getR (q := 10) d37_15 f2_9 sh_1 (by decide) rfl).trans ?_
  refine (g_iload_n d37_18 rfl).trans ?_
  refine j_iaload (v := ρ 10 a1) d37_19 sh_10 (by omega) rfl (fun q6 => ?_)
  have q7 := hB 10 a1 (by omega)
  refine (j_isub d37_20).trans ?_
  refine (j_isub d37_21).trans ?_
  exact g_iret d37_22 rfl rfl
theorem d38_0 : ins 38 0 = some (.iconst 0) := by decide +kernel
theorem d38_1 : ins 38 1 = some (.istore_n 1) := by decide +kernel
theorem d38_2 : ins 38 2 = some (.iconst 0) := by decide +kernel
theorem d38_3 : ins 38 3 = some (.istore_n 2) := by decide +kernel
theorem d38_4 : ins 38 4 = some (.iload_n 2) := by decide +kernel
theorem d38_5 : ins 38 5 = some (.aload_n 0) := by decide +kernel
theorem d38_6 : ins 38 6 = some (.getfield 42) := by decide +kernel
theorem d38_9 : ins 38 9 = some (.if_icmp .ge 37) := by decide +kernel
theorem d38_12 : ins 38 12 = some (.iconst 0) := by decide +kernel
theorem d38_13 : ins 38 13 = some (.istore_n 3) := by decide +kernel
theorem d38_14 : ins 38 14 = some (.iload_n 3) := by decide +kernel
theorem d38_15 : ins 38 15 = some (.aload_n 0) := by decide +kernel
theorem d38_16 : ins 38 16 = some (.getfield 42) := by decide +kernel
theorem d38_19 : ins 38 19 = some (.if_icmp .ge 21) := by decide +kernel
theorem d38_22 : ins 38 22 = some (.aload_n 0) := by decide +kernel
theorem d38_23 : ins 38 23 = some (.iload_n 2) := by decide +kernel
theorem d38_24 : ins 38 24 = some (.iload_n 3) := by decide +kernel
theorem d38_25 : ins 38 25 = some (.invokevirtual 76) := by decide +kernel
theorem d38_28 : ins 38 28 = some (.ifCond .ge 6) := by decide +kernel
theorem d38_31 : ins 38 31 = some (.iinc 1 1) := by decide +kernel
theorem d38_34 : ins 38 34 = some (.iinc 3 1) := by decide +kernel
theorem d38_37 : ins 38 37 = some (.goto (-23)) := by decide +kernel
theorem d38_40 : ins 38 40 = some (.iinc 2 1) := by decide +kernel
theorem d38_43 : ins 38 43 = some (.goto (-39)) := by decide +kernel
theorem d38_46 : ins 38 46 = some (.iload_n 1) := by decide +kernel
theorem d38_47 : ins 38 47 = some (.ireturn) := by decide +kernel
set_option maxRecDepth 10000 in
theorem b38_0 {Q : Option Value → mm → Prop} (ρ : rm) (τ : Int64)  (hB : BM ρ)  : G 38 0 (some (.ref 1) :: []) [] (toM ρ τ) Q = G 38 4 (some (.ref 1) :: some (vI 0) :: some (vI 0) :: []) [] (toM ρ τ) Q := by
  refine (j_iconst d38_0).trans ?_
  refine (g_istore_n d38_1 (by decide) rfl rfl).trans ?_
  refine (j_iconst d38_2).trans ?_
  refine (g_istore_n d38_3 (by decide) rfl rfl).trans ?_
  rfl
set_option maxRecDepth 10000 in
theorem b38_4 {Q : Option Value → mm → Prop} (ρ : rm) (τ : Int64) (l1 : Int) (l2 : Int) (t : List (Option Value)) (hB : BM ρ) (h_l1 : SM l1) (h_l2 : SM l2) : G 38 4 (some (.ref 1) :: some (vI l1) :: some (vI l2) :: t) [] (toM ρ τ) Q = (if (ρ 1 1) ≤ l2 then Q (some (vI l1)) (toM ρ τ) else G 38 14 (some (.ref 1) :: some (vI l1) :: some (vI l2) :: some (vI 0) :: t.tail) [] (toM ρ τ) Q) := by
  refine (g_iload_n d38_4 rfl).trans ?_
  refine (g_aload_n d38_5 rfl rfl).trans ?_
  refine (j_getI (v := ρ 1 1) d38_6 f2_42 sh_1 (by decide) rfl rfl).trans ?_
  have q1 := hB 1 1 (by decide)
  refine j_icmp_ge (tgt := 46) d38_9 (by decide) (by omega) (by omega) (fun q2 => ?_) (fun q2 => ?_)
  ·
    refine (g_iload_n d38_46 rfl).trans ?_
    exact g_iret d38_47 rfl rfl
  ·
    refine (j_iconst d38_12).trans ?_
    refine (g_istore_n d38_13 (by decide) rfl rfl).trans ?_
    rfl
set_option maxRecDepth 10000 in
theorem b38_14 {Q : Option Value → mm → Prop} (ρ : rm) (τ : Int64) (l1 : Int) (l2 : Int) (l3 : Int) (t : List (Option Value)) (hB : BM ρ) (h_l1 : SM l1) (h_l2 : SM l2) (h_l3 : SM l3) : G 38 14 (some (.ref 1) :: some (vI l1) :: some (vI l2) :: some (vI l3) :: t) [] (toM ρ τ) Q = (if (ρ 1 1) ≤ l3 then G 38 4 (some (.ref 1) :: some (vI l1) :: some (vI (l2 + 1)) :: some (vI l3) :: t) [] (toM ρ τ) Q else G 37 0 [some (.ref 1), some (vI l2), some (vI l3)] [] (toM ρ τ) (fun v μ2 => G 38 28 (some (.ref 1) :: some (vI l1) :: some (vI l2) :: some (vI l3) :: t) (v.toList ++ []) μ2 Q)) := by
  refine (g_iload_n d38_14 rfl).trans ?_
  refine (g_aload_n d38_15 rfl rfl).trans ?_
  refine (j_getI (v := ρ 1 1) d38_16 f2_42 sh_1 (by decide) rfl rfl).trans ?_
  have q1 := hB 1 1 (by decide)
  refine j_icmp_ge (tgt := 40) d38_19 (by decide) (by omega) (by omega) (fun q2 => ?_) (fun q2 => ?_)
  ·
    refine (j_iinc d38_40 rfl (by decide) rfl rfl).trans ?_
    refine (g_goto (tgt := 4) d38_43 (by decide)).trans ?_
    rfl
  ·
    refine (g_aload_n d38_22 rfl rfl).trans ?_
    refine (g_iload_n d38_23 rfl).trans ?_
    refine (g_iload_n d38_24 rfl).trans ?_
    exact g_cV d38_25 k2_76 rfl rfl rfl
set_option maxRecDepth 10000 in
theorem b38_28 {Q : Option Value → mm → Prop} (ρ : rm) (τ : Int64) (l1 : Int) (l2 : Int) (l3 : Int) (t : List (Option Value)) (r : Int) (hB : BM ρ) (h_l1 : SM l1) (h_l2 : SM l2) (h_l3 : SM l3) (h_r : SM r) : G 38 28 (some (.ref 1) :: some (vI l1) :: some (vI l2) :: some (vI l3) :: t) ((some (vI r)).toList ++ []) (toM ρ τ) Q = (if 0 ≤ r then G 38 14 (some (.ref 1) :: some (vI l1) :: some (vI l2) :: some (vI (l3 + 1)) :: t) [] (toM ρ τ) Q else G 38 14 (some (.ref 1) :: some (vI (l1 + 1)) :: some (vI l2) :: some (vI (l3 + 1)) :: t) [] (toM ρ τ) Q) := by
  refine j_if_ge (tgt := 34) d38_28 (by decide) (by omega) (fun q1 => ?_) (fun q1 => ?_)
  ·
    refine (j_iinc d38_34 rfl (by decide) rfl rfl).trans ?_
    refine (g_goto (tgt := 14) d38_37 (by decide)).trans ?_
    rfl
  ·
    refine (j_iinc d38_31 rfl (by decide) rfl rfl).trans ?_
    refine (j_iinc d38_34 rfl (by decide) rfl rfl).trans ?_
    refine (g_goto (tgt := 14) d38_37 (by decide)).trans ?_
    rfl
theorem d39_0 : ins 39 0 = some (.iconst 0) := by decide +kernel
theorem d39_1 : ins 39 1 = some (.istore_n 1) := by decide +kernel
theorem d39_2 : ins 39 2 = some (.iconst (-1)) := by decide +kernel
theorem d39_3 : ins 39 3 = some (.istore_n 2) := by decide +kernel
theorem d39_4 : ins 39 4 = some (.iconst 0) := by decide +kernel
theorem d39_5 : ins 39 5 = some (.istore_n 3) := by decide +kernel
theorem d39_6 : ins 39 6 = some (.iload_n 3) := by decide +kernel
theorem d39_7 : ins 39 7 = some (.aload_n 0) := by decide +kernel
theorem d39_8 : ins 39 8 = some (.getfield 42) := by decide +kernel
theorem d39_11 : ins 39 11 = some (.if_icmp .ge 54) := by decide +kernel
theorem d39_14 : ins 39 14 = some (.iconst 0) := by decide +kernel
theorem d39_15 : ins 39 15 = some (.istore 4) := by decide +kernel
theorem d39_17 : ins 39 17 = some (.iload 4) := by decide +kernel
theorem d39_19 : ins 39 19 = some (.aload_n 0) := by decide +kernel
theorem d39_20 : ins 39 20 = some (.getfield 42) := by decide +kernel
theorem d39_23 : ins 39 23 = some (.if_icmp .ge 36) := by decide +kernel
theorem d39_26 : ins 39 26 = some (.aload_n 0) := by decide +kernel
theorem d39_27 : ins 39 27 = some (.iload_n 3) := by decide +kernel
theorem d39_28 : ins 39 28 = some (.iload 4) := by decide +kernel
theorem d39_30 : ins 39 30 = some (.invokevirtual 76) := by decide +kernel
theorem d39_33 : ins 39 33 = some (.iload_n 1) := by decide +kernel
theorem d39_34 : ins 39 34 = some (.if_icmp .ge 19) := by decide +kernel
theorem d39_37 : ins 39 37 = some (.aload_n 0) := by decide +kernel
theorem d39_38 : ins 39 38 = some (.iload_n 3) := by decide +kernel
theorem d39_39 : ins 39 39 = some (.iload 4) := by decide +kernel
theorem d39_41 : ins 39 41 = some (.invokevirtual 76) := by decide +kernel
theorem d39_44 : ins 39 44 = some (.istore_n 1) := by decide +kernel
theorem d39_45 : ins 39 45 = some (.bipush 20) := by decide +kernel
theorem d39_47 : ins 39 47 = some (.iload_n 3) := by decide +kernel
theorem d39_48 : ins 39 48 = some (.imul) := by decide +kernel
theorem d39_49 : ins 39 49 = some (.iload 4) := by decide +kernel
theorem d39_51 : ins 39 51 = some (.iadd) := by decide +kernel
theorem d39_52 : ins 39 52 = some (.istore_n 2) := by decide +kernel
theorem d39_53 : ins 39 53 = some (.iinc 4 1) := by decide +kernel
theorem d39_56 : ins 39 56 = some (.goto (-39)) := by decide +kernel
theorem d39_59 : ins 39 59 = some (.iinc 3 1) := by decide +kernel
theorem d39_62 : ins 39 62 = some (.goto (-56)) := by decide +kernel
theorem d39_65 : ins 39 65 = some (.iload_n 2) := by decide +kernel
theorem d39_66 : ins 39 66 = some (.ireturn) := by decide +kernel
set_option maxRecDepth 10000 in
theorem b39_0 {Q : Option Value → mm → Prop} (ρ : rm) (τ : Int64)  (hB : BM ρ)  : G 39 0 (some (.ref 1) :: []) [] (toM ρ τ) Q = G 39 6 (some (.ref 1) :: some (vI 0) :: some (vI (-1)) :: some (vI 0) :: []) [] (toM ρ τ) Q := by
  refine (j_iconst d39_0).trans ?_
  refine (g_istore_n d39_1 (by decide) rfl rfl).trans ?_
  refine (j_iconst d39_2).trans ?_
  refine (g_istore_n d39_3 (by decide) rfl rfl).trans ?_
  refine (j_iconst d39_4).trans ?_
  refine (g_istore_n d39_5 (by decide) rfl rfl).trans ?_
  rfl
set_option maxRecDepth 10000 in
theorem b39_6 {Q : Option Value → mm → Prop} (ρ : rm) (τ : Int64) (l1 : Int) (l2 : Int) (l3 : Int) (t : List (Option Value)) (hB : BM ρ) (h_l1 : SM l1) (h_l2 : SM l2) (h_l3 : SM l3) : G 39 6 (some (.ref 1) :: some (vI l1) :: some (vI l2) :: some (vI l3) :: t) [] (toM ρ τ) Q = (if (ρ 1 1) ≤ l3 then Q (some (vI l2)) (toM ρ τ) else G 39 17 (some (.ref 1) :: some (vI l1) :: some (vI l2) :: some (vI l3) :: some (vI 0) :: t.tail) [] (toM ρ τ) Q) := by
  refine (g_iload_n d39_6 rfl).trans ?_
  refine (g_aload_n d39_7 rfl rfl).trans ?_
  refine (j_getI (v := ρ 1 1) d39_8 f2_42 sh_1 (by decide) rfl rfl).trans ?_
  have q1 := hB 1 1 (by decide)
  refine j_icmp_ge (tgt := 65) d39_11 (by decide) (by omega) (by omega) (fun q2 => ?_) (fun q2 => ?_)
  ·
    refine (g_iload_n d39_65 rfl).trans ?_
    exact g_iret d39_66 rfl rfl
  ·
    refine (j_iconst d39_14).trans ?_
    refine (g_istore d39_15 (by decide) rfl rfl).trans ?_
    rfl
set_option maxRecDepth 10000 in
theorem b39_17 {Q : Option Value → mm → Prop} (ρ : rm) (τ : Int64) (l1 : Int) (l2 : Int) (l3 : Int) (l4 : Int) (t : List (Option Value)) (hB : BM ρ) (h_l1 : SM l1) (h_l2 : SM l2) (h_l3 : SM l3) (h_l4 : SM l4) : G 39 17 (some (.ref 1) :: some (vI l1) :: some (vI l2) :: some (vI l3) :: some (vI l4) :: t) [] (toM ρ τ) Q = (if (ρ 1 1) ≤ l4 then G 39 6 (some (.ref 1) :: some (vI l1) :: some (vI l2) :: some (vI (l3 + 1)) :: some (vI l4) :: t) [] (toM ρ τ) Q else G 37 0 [some (.ref 1), some (vI l3), some (vI l4)] [] (toM ρ τ) (fun v μ2 => G 39 33 (some (.ref 1) :: some (vI l1) :: some (vI l2) :: some (vI l3) :: some (vI l4) :: t) (v.toList ++ []) μ2 Q)) := by
  refine (g_iload d39_17 rfl).trans ?_
  refine (g_aload_n d39_19 rfl rfl).trans ?_
  refine (j_getI (v := ρ 1 1) d39_20 f2_42 sh_1 (by decide) rfl rfl).trans ?_
  have q1 := hB 1 1 (by decide)
  refine j_icmp_ge (tgt := 59) d39_23 (by decide) (by omega) (by omega) (fun q2 => ?_) (fun q2 => ?_)
  ·
    refine (j_iinc d39_59 rfl (by decide) rfl rfl).trans ?_
    refine (g_goto (tgt := 6) d39_62 (by decide)).trans ?_
    rfl
  ·
    refine (g_aload_n d39_26 rfl rfl).trans ?_
    refine (g_iload_n d39_27 rfl).trans ?_
    refine (g_iload d39_28 rfl).trans ?_
    exact g_cV d39_30 k2_76 rfl rfl rfl
set_option maxRecDepth 10000 in
theorem b39_33 {Q : Option Value → mm → Prop} (ρ : rm) (τ : Int64) (l1 : Int) (l2 : Int) (l3 : Int) (l4 : Int) (t : List (Option Value)) (r : Int) (hB : BM ρ) (h_l1 : SM l1) (h_l2 : SM l2) (h_l3 : SM l3) (h_l4 : SM l4) (h_r : SM r) : G 39 33 (some (.ref 1) :: some (vI l1) :: some (vI l2) :: some (vI l3) :: some (vI l4) :: t) ((some (vI r)).toList ++ []) (toM ρ τ) Q = (if l1 ≤ r then G 39 17 (some (.ref 1) :: some (vI l1) :: some (vI l2) :: some (vI l3) :: some (vI (l4 + 1)) :: t) [] (toM ρ τ) Q else G 37 0 [some (.ref 1), some (vI l3), some (vI l4)] [] (toM ρ τ) (fun v μ2 => G 39 44 (some (.ref 1) :: some (vI l1) :: some (vI l2) :: some (vI l3) :: some (vI l4) :: t) (v.toList ++ []) μ2 Q)) := by
  refine (g_iload_n d39_33 rfl).trans ?_
  refine j_icmp_ge (tgt := 53) d39_34 (by decide) (by omega) (by omega) (fun q1 => ?_) (fun q1 => ?_)
  ·
    refine (j_iinc d39_53 rfl (by decide) rfl rfl).trans ?_
    refine (g_goto (tgt := 17) d39_56 (by decide)).trans ?_
    rfl
  ·
    refine (g_aload_n d39_37 rfl rfl).trans ?_
    refine (g_iload_n d39_38 rfl).trans ?_
    refine (g_iload d39_39 rfl).trans ?_
    exact g_cV d39_41 k2_76 rfl rfl rfl
set_option maxRecDepth 10000 in
theorem b39_44 {Q : Option Value → mm → Prop} (ρ : rm) (τ : Int64) (l1 : Int) (l2 : Int) (l3 : Int) (l4 : Int) (t : List (Option Value)) (r : Int) (hB : BM ρ) (h_l1 : SM l1) (h_l2 : SM l2) (h_l3 : SM l3) (h_l4 : SM l4) (h_r : SM r) : G 39 44 (some (.ref 1) :: some (vI l1) :: some (vI l2) :: some (vI l3) :: some (vI l4) :: t) ((some (vI r)).toList ++ []) (toM ρ τ) Q = G 39 17 (some (.ref 1) :: some (vI r) :: some (vI ((20 * l3) + l4)) :: some (vI l3) :: some (vI (l4 + 1)) :: t) [] (toM ρ τ) Q := by
  refine (g_istore_n d39_44 (by decide) rfl rfl).trans ?_
  refine (j_bipush d39_45 (by decide)).trans ?_
  refine (g_iload_n d39_47 rfl).trans ?_
  refine (j_imul d39_48).trans ?_
  refine (g_iload d39_49 rfl).trans ?_
  refine (j_iadd d39_51).trans ?_
  refine (g_istore_n d39_52 (by decide) rfl rfl).trans ?_
  refine (j_iinc d39_53 rfl (by decide) rfl rfl).trans ?_
  refine (g_goto (tgt := 17) d39_56 (by decide)).trans ?_
  rfl
