/-! can one follow (wip/gen/run_spec7.py) -/
set_option maxRecDepth 10000 in
theorem s16 {Q : Option Value → mm → Prop} (ρ : rm) (τ : Int64) (a1 : Int) (a2 : Int) (hT : TI ρ) (h_a1 : 0 ≤ a1 ∧ a1 < 10) (h_a2 : 0 ≤ a2 ∧ a2 < 10) : G 16 0 (some (.ref 2) :: some (vI a1) :: some (vI a2) :: []) [] (toM ρ τ) Q = (if (ρ 10 (ρ 27 a1) + (ρ 28 a1)) < (ρ 10 (ρ 27 a2) + (ρ 28 a2)) then (if ((ρ 10 (ρ 27 a2) + (ρ 28 a2)) - (((ρ 10 (ρ 27 a1) + (ρ 28 a1)) + (ρ 29 a1)) + (ρ (17 + (ρ 27 a1).toNat) (ρ 27 a2)))) < 0 then Q (some (vI 0)) (toM ρ τ) else Q (some (vI 1)) (toM ρ τ)) else (if (ρ 10 (ρ 27 a1) + (ρ 28 a1)) = (ρ 10 (ρ 27 a2) + (ρ 28 a2)) then (if a2 ≤ a1 then Q (some (vI 0)) (toM ρ τ) else (if ((ρ 10 (ρ 27 a2) + (ρ 28 a2)) - (((ρ 10 (ρ 27 a1) + (ρ 28 a1)) + (ρ 29 a1)) + (ρ (17 + (ρ 27 a1).toNat) (ρ 27 a2)))) < 0 then Q (some (vI 0)) (toM ρ τ) else Q (some (vI 1)) (toM ρ τ))) else Q (some (vI 0)) (toM ρ τ))) := by
  refine (g_aload_n d16_0 rfl rfl).trans ?_
  refine (g_iload_n d16_1 rfl).trans ?_
  refine (g_iload_n d16_2 rfl).trans ?_
  refine (g_cV d16_3 k1_48 rfl rfl rfl).trans ?_
  show G 14 0 (some (.ref 2) :: some (vI a1) :: some (vI a2) :: []) [] (toM ρ τ) _ = _
  refine (g_aload_n d14_0 rfl rfl).trans ?_
  refine (g_iload_n d14_1 rfl).trans ?_
  refine (g_cV d14_2 k1_41 rfl rfl rfl).trans ?_
  show G 12 0 (some (.ref 2) :: some (vI a1) :: []) [] (toM ρ τ) _ = _
  refine (g_aload_n d12_0 rfl rfl).trans ?_
  refine (g_getR (q := 1) d12_1 f1_27 sh_2 (by decide) rfl).trans ?_
  refine (g_aload_n d12_4 rfl rfl).trans ?_
  refine (g_getR (q := 27) d12_5 f1_9 sh_2 (by decide) rfl).trans ?_
  refine (g_iload_n d12_8 rfl).trans ?_
  refine (j_ialoadB (v := ρ 27 a1) d12_9 sh_27 (by omega) (by decide) rfl).trans ?_
  have q1 : 0 ≤ ρ 27 a1 ∧ ρ 27 a1 ≤ 9 := hT.2 27 a1
  refine (g_aload_n d12_10 rfl rfl).trans ?_
  refine (g_getR (q := 28) d12_11 f1_15 sh_2 (by decide) rfl).trans ?_
  refine (g_iload_n d12_14 rfl).trans ?_
  refine (j_ialoadB (v := ρ 28 a1) d12_15 sh_28 (by omega) (by decide) rfl).trans ?_
  have q2 : 0 ≤ ρ 28 a1 ∧ ρ 28 a1 ≤ 1439 := hT.2 28 a1
  refine (g_cV d12_16 k1_35 rfl rfl rfl).trans ?_
  show G 36 0 [some (.ref 1), some (vI (ρ 27 a1)), some (vI (ρ 28 a1))] [] (toM ρ τ) _ = _
  refine (c_true hT.1 (by omega) (by omega)).trans ?_
  show G 12 19 (some (.ref 2) :: some (vI a1) :: []) [vI (ρ 10 (ρ 27 a1) + (ρ 28 a1))] (toM ρ τ) _ = _
  have q3 := hT.1 10 (ρ 27 a1) (by decide)
  refine (g_iret d12_19 rfl rfl).trans ?_
  show G 14 5 (some (.ref 2) :: some (vI a1) :: some (vI a2) :: []) [vI (ρ 10 (ρ 27 a1) + (ρ 28 a1))] (toM ρ τ) _ = _
  refine (g_aload_n d14_5 rfl rfl).trans ?_
  refine (g_iload_n d14_6 rfl).trans ?_
  refine (g_cV d14_7 k1_41 rfl rfl rfl).trans ?_
  show G 12 0 (some (.ref 2) :: some (vI a2) :: []) [] (toM ρ τ) _ = _
  refine (g_aload_n d12_0 rfl rfl).trans ?_
  refine (g_getR (q := 1) d12_1 f1_27 sh_2 (by decide) rfl).trans ?_
  refine (g_aload_n d12_4 rfl rfl).trans ?_
  refine (g_getR (q := 27) d12_5 f1_9 sh_2 (by decide) rfl).trans ?_
  refine (g_iload_n d12_8 rfl).trans ?_
  refine (j_ialoadB (v := ρ 27 a2) d12_9 sh_27 (by omega) (by decide) rfl).trans ?_
  have q4 : 0 ≤ ρ 27 a2 ∧ ρ 27 a2 ≤ 9 := hT.2 27 a2
  refine (g_aload_n d12_10 rfl rfl).trans ?_
  refine (g_getR (q := 28) d12_11 f1_15 sh_2 (by decide) rfl).trans ?_
  refine (g_iload_n d12_14 rfl).trans ?_
  refine (j_ialoadB (v := ρ 28 a2) d12_15 sh_28 (by omega) (by decide) rfl).trans ?_
  have q5 : 0 ≤ ρ 28 a2 ∧ ρ 28 a2 ≤ 1439 := hT.2 28 a2
  refine (g_cV d12_16 k1_35 rfl rfl rfl).trans ?_
  show G 36 0 [some (.ref 1), some (vI (ρ 27 a2)), some (vI (ρ 28 a2))] [] (toM ρ τ) _ = _
  refine (c_true hT.1 (by omega) (by omega)).trans ?_
  show G 12 19 (some (.ref 2) :: some (vI a2) :: []) [vI (ρ 10 (ρ 27 a2) + (ρ 28 a2))] (toM ρ τ) _ = _
  have q6 := hT.1 10 (ρ 27 a2) (by decide)
  refine (g_iret d12_19 rfl rfl).trans ?_
  show G 14 10 (some (.ref 2) :: some (vI a1) :: some (vI a2) :: []) [vI (ρ 10 (ρ 27 a2) + (ρ 28 a2)), vI (ρ 10 (ρ 27 a1) + (ρ 28 a1))] (toM ρ τ) _ = _
  refine j_icmp_lt (tgt := 31) d14_10 (by decide) (by omega) (by omega) (fun q7 => ?_) (fun q7 => ?_)
  ·
    refine (j_iconst d14_31).trans ?_
    refine (g_goto (tgt := 36) d14_32 (by decide)).trans ?_
    refine (g_iret d14_36 rfl rfl).trans ?_
    show G 16 6 (some (.ref 2) :: some (vI a1) :: some (vI a2) :: []) [vI 1] (toM ρ τ) _ = _
    refine ((g_if_eq (tgt := 22) d16_6 (by decide)).trans (if_neg (by decide))).trans ?_
    refine (g_aload_n d16_9 rfl rfl).trans ?_
    refine (g_iload_n d16_10 rfl).trans ?_
    refine (g_iload_n d16_11 rfl).trans ?_
    refine (g_cV d16_12 k1_52 rfl rfl rfl).trans ?_
    show G 15 0 (some (.ref 2) :: some (vI a1) :: some (vI a2) :: []) [] (toM ρ τ) _ = _
    refine (g_aload_n d15_0 rfl rfl).trans ?_
    refine (g_iload_n d15_1 rfl).trans ?_
    refine (g_cV d15_2 k1_41 rfl rfl rfl).trans ?_
    show G 12 0 (some (.ref 2) :: some (vI a2) :: []) [] (toM ρ τ) _ = _
    refine (g_aload_n d12_0 rfl rfl).trans ?_
    refine (g_getR (q := 1) d12_1 f1_27 sh_2 (by decide) rfl).trans ?_
    refine (g_aload_n d12_4 rfl rfl).trans ?_
    refine (g_getR (q := 27) d12_5 f1_9 sh_2 (by decide) rfl).trans ?_
    refine (g_iload_n d12_8 rfl).trans ?_
    refine (j_ialoadB (v := ρ 27 a2) d12_9 sh_27 (by omega) (by decide) rfl).trans ?_
    refine (g_aload_n d12_10 rfl rfl).trans ?_
    refine (g_getR (q := 28) d12_11 f1_15 sh_2 (by decide) rfl).trans ?_
    refine (g_iload_n d12_14 rfl).trans ?_
    refine (j_ialoadB (v := ρ 28 a2) d12_15 sh_28 (by omega) (by decide) rfl).trans ?_
    refine (g_cV d12_16 k1_35 rfl rfl rfl).trans ?_
    show G 36 0 [some (.ref 1), some (vI (ρ 27 a2)), some (vI (ρ 28 a2))] [] (toM ρ τ) _ = _
    refine (c_true hT.1 (by omega) (by omega)).trans ?_
    show G 12 19 (some (.ref 2) :: some (vI a2) :: []) [vI (ρ 10 (ρ 27 a2) + (ρ 28 a2))] (toM ρ τ) _ = _
    have q8 := hT.1 10 (ρ 27 a2) (by decide)
    refine (g_iret d12_19 rfl rfl).trans ?_
    show G 15 5 (some (.ref 2) :: some (vI a1) :: some (vI a2) :: []) [vI (ρ 10 (ρ 27 a2) + (ρ 28 a2))] (toM ρ τ) _ = _
    refine (g_aload_n d15_5 rfl rfl).trans ?_
    refine (g_iload_n d15_6 rfl).trans ?_
    refine (g_cV d15_7 k1_41 rfl rfl rfl).trans ?_
    show G 12 0 (some (.ref 2) :: some (vI a1) :: []) [] (toM ρ τ) _ = _
    refine (g_aload_n d12_0 rfl rfl).trans ?_
    refine (g_getR (q := 1) d12_1 f1_27 sh_2 (by decide) rfl).trans ?_
    refine (g_aload_n d12_4 rfl rfl).trans ?_
    refine (g_getR (q := 27) d12_5 f1_9 sh_2 (by decide) rfl).trans ?_
    refine (g_iload_n d12_8 rfl).trans ?_
    refine (j_ialoadB (v := ρ 27 a1) d12_9 sh_27 (by omega) (by decide) rfl).trans ?_
    refine (g_aload_n d12_10 rfl rfl).trans ?_
    refine (g_getR (q := 28) d12_11 f1_15 sh_2 (by decide) rfl).trans ?_
    refine (g_iload_n d12_14 rfl).trans ?_
    refine (j_ialoadB (v := ρ 28 a1) d12_15 sh_28 (by omega) (by decide) rfl).trans ?_
    refine (g_cV d12_16 k1_35 rfl rfl rfl).trans ?_
    show G 36 0 [some (.ref 1), some (vI (ρ 27 a1)), some (vI (ρ 28 a1))] [] (toM ρ τ) _ = _
    refine (c_true hT.1 (by omega) (by omega)).trans ?_
    show G 12 19 (some (.ref 2) :: some (vI a1) :: []) [vI (ρ 10 (ρ 27 a1) + (ρ 28 a1))] (toM ρ τ) _ = _
    have q9 := hT.1 10 (ρ 27 a1) (by decide)
    refine (g_iret d12_19 rfl rfl).trans ?_
    show G 15 10 (some (.ref 2) :: some (vI a1) :: some (vI a2) :: []) [vI (ρ 10 (ρ 27 a1) + (ρ 28 a1)), vI (ρ 10 (ρ 27 a2) + (ρ 28 a2))] (toM ρ τ) _ = _
    refine (g_aload_n d15_10 rfl rfl).trans ?_
    refine (g_getR (q := 29) d15_11 f1_18 sh_2 (by decide) rfl).trans ?_
    refine (g_iload_n d15_14 rfl).trans ?_
    refine (j_ialoadB (v := ρ 29 a1) d15_15 sh_29 (by omega) (by decide) rfl).trans ?_
    have q10 : 0 ≤ ρ 29 a1 ∧ ρ 29 a1 ≤ 99 := hT.2 29 a1
    refine (j_iadd d15_16).trans ?_
    refine (g_aload_n d15_17 rfl rfl).trans ?_
    refine (g_getR (q := 1) d15_18 f1_27 sh_2 (by decide) rfl).trans ?_
    refine (g_aload_n d15_21 rfl rfl).trans ?_
    refine (g_getR (q := 27) d15_22 f1_9 sh_2 (by decide) rfl).trans ?_
    refine (g_iload_n d15_25 rfl).trans ?_
    refine (j_ialoadB (v := ρ 27 a1) d15_26 sh_27 (by omega) (by decide) rfl).trans ?_
    refine (g_aload_n d15_27 rfl rfl).trans ?_
    refine (g_getR (q := 27) d15_28 f1_9 sh_2 (by decide) rfl).trans ?_
    refine (g_iload_n d15_31 rfl).trans ?_
    refine (j_ialoadB (v := ρ 27 a2) d15_32 sh_27 (by omega) (by decide) rfl).trans ?_
    refine (g_cV d15_33 k1_45 rfl rfl rfl).trans ?_
    show G 33 0 [some (.ref 1), some (vI (ρ 27 a1)), some (vI (ρ 27 a2))] [] (toM ρ τ) _ = _
    refine (c_dist hT.1 (by omega) (by omega)).trans ?_
    show G 15 36 (some (.ref 2) :: some (vI a1) :: some (vI a2) :: []) [vI (ρ (17 + (ρ 27 a1).toNat) (ρ 27 a2)), vI ((ρ 10 (ρ 27 a1) + (ρ 28 a1)) + (ρ 29 a1)), vI (ρ 10 (ρ 27 a2) + (ρ 28 a2))] (toM ρ τ) _ = _
    have q11 := TI.row hT (k := 17 + (ρ 27 a1).toNat) (by omega) (ρ 27 a2)
    refine (j_iadd d15_36).trans ?_
    refine (j_isub d15_37).trans ?_
    refine (g_iret d15_38 rfl rfl).trans ?_
    show G 16 15 (some (.ref 2) :: some (vI a1) :: some (vI a2) :: []) [vI ((ρ 10 (ρ 27 a2) + (ρ 28 a2)) - (((ρ 10 (ρ 27 a1) + (ρ 28 a1)) + (ρ 29 a1)) + (ρ (17 + (ρ 27 a1).toNat) (ρ 27 a2))))] (toM ρ τ) _ = _
    refine j_if_lt (tgt := 22) d16_15 (by decide) (by omega) (fun q12 => ?_) (fun q12 => ?_)
    ·
      refine (j_iconst d16_22).trans ?_
      exact g_iret d16_23 rfl rfl
    ·
      refine (j_iconst d16_18).trans ?_
      refine (g_goto (tgt := 23) d16_19 (by decide)).trans ?_
      exact g_iret d16_23 rfl rfl
  ·
    refine (g_aload_n d14_13 rfl rfl).trans ?_
    refine (g_iload_n d14_14 rfl).trans ?_
    refine (g_cV d14_15 k1_41 rfl rfl rfl).trans ?_
    show G 12 0 (some (.ref 2) :: some (vI a1) :: []) [] (toM ρ τ) _ = _
    refine (g_aload_n d12_0 rfl rfl).trans ?_
    refine (g_getR (q := 1) d12_1 f1_27 sh_2 (by decide) rfl).trans ?_
    refine (g_aload_n d12_4 rfl rfl).trans ?_
    refine (g_getR (q := 27) d12_5 f1_9 sh_2 (by decide) rfl).trans ?_
    refine (g_iload_n d12_8 rfl).trans ?_
    refine (j_ialoadB (v := ρ 27 a1) d12_9 sh_27 (by omega) (by decide) rfl).trans ?_
    refine (g_aload_n d12_10 rfl rfl).trans ?_
    refine (g_getR (q := 28) d12_11 f1_15 sh_2 (by decide) rfl).trans ?_
    refine (g_iload_n d12_14 rfl).trans ?_
    refine (j_ialoadB (v := ρ 28 a1) d12_15 sh_28 (by omega) (by decide) rfl).trans ?_
    refine (g_cV d12_16 k1_35 rfl rfl rfl).trans ?_
    show G 36 0 [some (.ref 1), some (vI (ρ 27 a1)), some (vI (ρ 28 a1))] [] (toM ρ τ) _ = _
    refine (c_true hT.1 (by omega) (by omega)).trans ?_
    show G 12 19 (some (.ref 2) :: some (vI a1) :: []) [vI (ρ 10 (ρ 27 a1) + (ρ 28 a1))] (toM ρ τ) _ = _
    have q13 := hT.1 10 (ρ 27 a1) (by decide)
    refine (g_iret d12_19 rfl rfl).trans ?_
    show G 14 18 (some (.ref 2) :: some (vI a1) :: some (vI a2) :: []) [vI (ρ 10 (ρ 27 a1) + (ρ 28 a1))] (toM ρ τ) _ = _
    refine (g_aload_n d14_18 rfl rfl).trans ?_
    refine (g_iload_n d14_19 rfl).trans ?_
    refine (g_cV d14_20 k1_41 rfl rfl rfl).trans ?_
    show G 12 0 (some (.ref 2) :: some (vI a2) :: []) [] (toM ρ τ) _ = _
    refine (g_aload_n d12_0 rfl rfl).trans ?_
    refine (g_getR (q := 1) d12_1 f1_27 sh_2 (by decide) rfl).trans ?_
    refine (g_aload_n d12_4 rfl rfl).trans ?_
    refine (g_getR (q := 27) d12_5 f1_9 sh_2 (by decide) rfl).trans ?_
    refine (g_iload_n d12_8 rfl).trans ?_
    refine (j_ialoadB (v := ρ 27 a2) d12_9 sh_27 (by omega) (by decide) rfl).trans ?_
    refine (g_aload_n d12_10 rfl rfl).trans ?_
    refine (g_getR (q := 28) d12_11 f1_15 sh_2 (by decide) rfl).trans ?_
    refine (g_iload_n d12_14 rfl).trans ?_
    refine (j_ialoadB (v := ρ 28 a2) d12_15 sh_28 (by omega) (by decide) rfl).trans ?_
    refine (g_cV d12_16 k1_35 rfl rfl rfl).trans ?_
    show G 36 0 [some (.ref 1), some (vI (ρ 27 a2)), some (vI (ρ 28 a2))] [] (toM ρ τ) _ = _
    refine (c_true hT.1 (by omega) (by omega)).trans ?_
    show G 12 19 (some (.ref 2) :: some (vI a2) :: []) [vI (ρ 10 (ρ 27 a2) + (ρ 28 a2))] (toM ρ τ) _ = _
    have q14 := hT.1 10 (ρ 27 a2) (by decide)
    refine (g_iret d12_19 rfl rfl).trans ?_
    show G 14 23 (some (.ref 2) :: some (vI a1) :: some (vI a2) :: []) [vI (ρ 10 (ρ 27 a2) + (ρ 28 a2)), vI (ρ 10 (ρ 27 a1) + (ρ 28 a1))] (toM ρ τ) _ = _
    refine j_icmp_ne (tgt := 35) d14_23 (by decide) (by omega) (by omega) (fun q15 => ?_) (fun q15 => ?_)
    ·
      refine (g_iload_n d14_26 rfl).trans ?_
      refine (g_iload_n d14_27 rfl).trans ?_
      refine j_icmp_ge (tgt := 35) d14_28 (by decide) (by omega) (by omega) (fun q16 => ?_) (fun q16 => ?_)
      ·
        refine (j_iconst d14_35).trans ?_
        refine (g_iret d14_36 rfl rfl).trans ?_
        show G 16 6 (some (.ref 2) :: some (vI a1) :: some (vI a2) :: []) [vI 0] (toM ρ τ) _ = _
        refine ((g_if_eq (tgt := 22) d16_6 (by decide)).trans (if_pos (by decide))).trans ?_
        refine (j_iconst d16_22).trans ?_
        exact g_iret d16_23 rfl rfl
      ·
        refine (j_iconst d14_31).trans ?_
        refine (g_goto (tgt := 36) d14_32 (by decide)).trans ?_
        refine (g_iret d14_36 rfl rfl).trans ?_
        show G 16 6 (some (.ref 2) :: some (vI a1) :: some (vI a2) :: []) [vI 1] (toM ρ τ) _ = _
        refine ((g_if_eq (tgt := 22) d16_6 (by decide)).trans (if_neg (by decide))).trans ?_
        refine (g_aload_n d16_9 rfl rfl).trans ?_
        refine (g_iload_n d16_10 rfl).trans ?_
        refine (g_iload_n d16_11 rfl).trans ?_
        refine (g_cV d16_12 k1_52 rfl rfl rfl).trans ?_
        show G 15 0 (some (.ref 2) :: some (vI a1) :: some (vI a2) :: []) [] (toM ρ τ) _ = _
        refine (g_aload_n d15_0 rfl rfl).trans ?_
        refine (g_iload_n d15_1 rfl).trans ?_
        refine (g_cV d15_2 k1_41 rfl rfl rfl).trans ?_
        show G 12 0 (some (.ref 2) :: some (vI a2) :: []) [] (toM ρ τ) _ = _
        refine (g_aload_n d12_0 rfl rfl).trans ?_
        refine (g_getR (q := 1) d12_1 f1_27 sh_2 (by decide) rfl).trans ?_
        refine (g_aload_n d12_4 rfl rfl).trans ?_
        refine (g_getR (q := 27) d12_5 f1_9 sh_2 (by decide) rfl).trans ?_
        refine (g_iload_n d12_8 rfl).trans ?_
        refine (j_ialoadB (v := ρ 27 a2) d12_9 sh_27 (by omega) (by decide) rfl).trans ?_
        refine (g_aload_n d12_10 rfl rfl).trans ?_
        refine (g_getR (q := 28) d12_11 f1_15 sh_2 (by decide) rfl).trans ?_
        refine (g_iload_n d12_14 rfl).trans ?_
        refine (j_ialoadB (v := ρ 28 a2) d12_15 sh_28 (by omega) (by decide) rfl).trans ?_
        refine (g_cV d12_16 k1_35 rfl rfl rfl).trans ?_
        show G 36 0 [some (.ref 1), some (vI (ρ 27 a2)), some (vI (ρ 28 a2))] [] (toM ρ τ) _ = _
        refine (c_true hT.1 (by omega) (by omega)).trans ?_
        show G 12 19 (some (.ref 2) :: some (vI a2) :: []) [vI (ρ 10 (ρ 27 a2) + (ρ 28 a2))] (toM ρ τ) _ = _
        have q17 := hT.1 10 (ρ 27 a2) (by decide)
        refine (g_iret d12_19 rfl rfl).trans ?_
        show G 15 5 (some (.ref 2) :: some (vI a1) :: some (vI a2) :: []) [vI (ρ 10 (ρ 27 a2) + (ρ 28 a2))] (toM ρ τ) _ = _
        refine (g_aload_n d15_5 rfl rfl).trans ?_
        refine (g_iload_n d15_6 rfl).trans ?_
        refine (g_cV d15_7 k1_41 rfl rfl rfl).trans ?_
        show G 12 0 (some (.ref 2) :: some (vI a1) :: []) [] (toM ρ τ) _ = _
        refine (g_aload_n d12_0 rfl rfl).trans ?_
        refine (g_getR (q := 1) d12_1 f1_27 sh_2 (by decide) rfl).trans ?_
        refine (g_aload_n d12_4 rfl rfl).trans ?_
        refine (g_getR (q := 27) d12_5 f1_9 sh_2 (by decide) rfl).trans ?_
        refine (g_iload_n d12_8 rfl).trans ?_
        refine (j_ialoadB (v := ρ 27 a1) d12_9 sh_27 (by omega) (by decide) rfl).trans ?_
        refine (g_aload_n d12_10 rfl rfl).trans ?_
        refine (g_getR (q := 28) d12_11 f1_15 sh_2 (by decide) rfl).trans ?_
        refine (g_iload_n d12_14 rfl).trans ?_
        refine (j_ialoadB (v := ρ 28 a1) d12_15 sh_28 (by omega) (by decide) rfl).trans ?_
        refine (g_cV d12_16 k1_35 rfl rfl rfl).trans ?_
        show G 36 0 [some (.ref 1), some (vI (ρ 27 a1)), some (vI (ρ 28 a1))] [] (toM ρ τ) _ = _
        refine (c_true hT.1 (by omega) (by omega)).trans ?_
        show G 12 19 (some (.ref 2) :: some (vI a1) :: []) [vI (ρ 10 (ρ 27 a1) + (ρ 28 a1))] (toM ρ τ) _ = _
        have q18 := hT.1 10 (ρ 27 a1) (by decide)
        refine (g_iret d12_19 rfl rfl).trans ?_
        show G 15 10 (some (.ref 2) :: some (vI a1) :: some (vI a2) :: []) [vI (ρ 10 (ρ 27 a1) + (ρ 28 a1)), vI (ρ 10 (ρ 27 a2) + (ρ 28 a2))] (toM ρ τ) _ = _
        refine (g_aload_n d15_10 rfl rfl).trans ?_
        refine (g_getR (q := 29) d15_11 f1_18 sh_2 (by decide) rfl).trans ?_
        refine (g_iload_n d15_14 rfl).trans ?_
        refine (j_ialoadB (v := ρ 29 a1) d15_15 sh_29 (by omega) (by decide) rfl).trans ?_
        have q19 : 0 ≤ ρ 29 a1 ∧ ρ 29 a1 ≤ 99 := hT.2 29 a1
        refine (j_iadd d15_16).trans ?_
        refine (g_aload_n d15_17 rfl rfl).trans ?_
        refine (g_getR (q := 1) d15_18 f1_27 sh_2 (by decide) rfl).trans ?_
        refine (g_aload_n d15_21 rfl rfl).trans ?_
        refine (g_getR (q := 27) d15_22 f1_9 sh_2 (by decide) rfl).trans ?_
        refine (g_iload_n d15_25 rfl).trans ?_
        refine (j_ialoadB (v := ρ 27 a1) d15_26 sh_27 (by omega) (by decide) rfl).trans ?_
        refine (g_aload_n d15_27 rfl rfl).trans ?_
        refine (g_getR (q := 27) d15_28 f1_9 sh_2 (by decide) rfl).trans ?_
        refine (g_iload_n d15_31 rfl).trans ?_
        refine (j_ialoadB (v := ρ 27 a2) d15_32 sh_27 (by omega) (by decide) rfl).trans ?_
        refine (g_cV d15_33 k1_45 rfl rfl rfl).trans ?_
        show G 33 0 [some (.ref 1), some (vI (ρ 27 a1)), some (vI (ρ 27 a2))] [] (toM ρ τ) _ = _
        refine (c_dist hT.1 (by omega) (by omega)).trans ?_
        show G 15 36 (some (.ref 2) :: some (vI a1) :: some (vI a2) :: []) [vI (ρ (17 + (ρ 27 a1).toNat) (ρ 27 a2)), vI ((ρ 10 (ρ 27 a1) + (ρ 28 a1)) + (ρ 29 a1)), vI (ρ 10 (ρ 27 a2) + (ρ 28 a2))] (toM ρ τ) _ = _
        have q20 := TI.row hT (k := 17 + (ρ 27 a1).toNat) (by omega) (ρ 27 a2)
        refine (j_iadd d15_36).trans ?_
        refine (j_isub d15_37).trans ?_
        refine (g_iret d15_38 rfl rfl).trans ?_
        show G 16 15 (some (.ref 2) :: some (vI a1) :: some (vI a2) :: []) [vI ((ρ 10 (ρ 27 a2) + (ρ 28 a2)) - (((ρ 10 (ρ 27 a1) + (ρ 28 a1)) + (ρ 29 a1)) + (ρ (17 + (ρ 27 a1).toNat) (ρ 27 a2))))] (toM ρ τ) _ = _
        refine j_if_lt (tgt := 22) d16_15 (by decide) (by omega) (fun q21 => ?_) (fun q21 => ?_)
        ·
          refine (j_iconst d16_22).trans ?_
          exact g_iret d16_23 rfl rfl
        ·
          refine (j_iconst d16_18).trans ?_
          refine (g_goto (tgt := 23) d16_19 (by decide)).trans ?_
          exact g_iret d16_23 rfl rfl
    ·
      refine (j_iconst d14_35).trans ?_
      refine (g_iret d14_36 rfl rfl).trans ?_
      show G 16 6 (some (.ref 2) :: some (vI a1) :: some (vI a2) :: []) [vI 0] (toM ρ τ) _ = _
      refine ((g_if_eq (tgt := 22) d16_6 (by decide)).trans (if_pos (by decide))).trans ?_
      refine (j_iconst d16_22).trans ?_
      exact g_iret d16_23 rfl rfl
set_option maxRecDepth 10000 in
theorem s156 {Q : Option Value → mm → Prop} (ρ : rm) (τ : Int64) (a1 : Int) (a2 : Int) (hT : TI ρ) (h_a1 : 0 ≤ a1 ∧ a1 < 10) (h_a2 : 0 ≤ a2 ∧ a2 < 10) : G 156 0 (some (.ref 51) :: some (vI a1) :: some (vI a2) :: []) [] (toM ρ τ) Q = (if ((ρ 55 ((3 * a1) + 1)) + (oS ρ (ρ 55 (3 * a1)))) < ((ρ 55 ((3 * a2) + 1)) + (oS ρ (ρ 55 (3 * a2)))) then (if (((((ρ 55 ((3 * a2) + 1)) + (oS ρ (ρ 55 (3 * a2)))) - ((ρ 55 ((3 * a1) + 1)) + (oS ρ (ρ 55 (3 * a1))))) - (ρ 55 ((3 * a1) + 2))) - (ρ 57 ((10 * (ρ 55 (3 * a1))) + (ρ 55 (3 * a2))))) < 0 then Q (some (vI 0)) (toM ρ τ) else Q (some (vI 1)) (toM ρ τ)) else (if ((ρ 55 ((3 * a1) + 1)) + (oS ρ (ρ 55 (3 * a1)))) = ((ρ 55 ((3 * a2) + 1)) + (oS ρ (ρ 55 (3 * a2)))) then (if a2 ≤ a1 then Q (some (vI 0)) (toM ρ τ) else (if (((((ρ 55 ((3 * a2) + 1)) + (oS ρ (ρ 55 (3 * a2)))) - ((ρ 55 ((3 * a1) + 1)) + (oS ρ (ρ 55 (3 * a1))))) - (ρ 55 ((3 * a1) + 2))) - (ρ 57 ((10 * (ρ 55 (3 * a1))) + (ρ 55 (3 * a2))))) < 0 then Q (some (vI 0)) (toM ρ τ) else Q (some (vI 1)) (toM ρ τ))) else Q (some (vI 0)) (toM ρ τ))) := by
  refine (g_aload_n d156_0 rfl rfl).trans ?_
  refine (g_iload_n d156_1 rfl).trans ?_
  refine (g_iload_n d156_2 rfl).trans ?_
  refine (g_cV d156_3 k10_221 rfl rfl rfl).trans ?_
  show G 153 0 (some (.ref 51) :: some (vI a1) :: some (vI a2) :: []) [] (toM ρ τ) _ = _
  refine (g_aload_n d153_0 rfl rfl).trans ?_
  refine (g_iload_n d153_1 rfl).trans ?_
  refine (g_cV d153_2 k10_218 rfl rfl rfl).trans ?_
  show G 146 0 (some (.ref 51) :: some (vI a1) :: []) [] (toM ρ τ) _ = _
  refine (g_aload_n d146_0 rfl rfl).trans ?_
  refine (g_getR (q := 55) d146_1 f10_23 sh_51 (by decide) rfl).trans ?_
  refine (j_iconst d146_4).trans ?_
  refine (g_iload_n d146_5 rfl).trans ?_
  refine (j_imul d146_6).trans ?_
  refine (j_iconst d146_7).trans ?_
  refine (j_iadd d146_8).trans ?_
  refine (j_ialoadB (v := ρ 55 ((3 * a1) + 1)) d146_9 sh_55 (by omega) (by decide) rfl).trans ?_
  have q1 := hT.1 55 ((3 * a1) + 1) (by decide)
  refine (g_aload_n d146_10 rfl rfl).trans ?_
  refine (g_aload_n d146_11 rfl rfl).trans ?_
  refine (g_getR (q := 55) d146_12 f10_23 sh_51 (by decide) rfl).trans ?_
  refine (j_iconst d146_15).trans ?_
  refine (g_iload_n d146_16 rfl).trans ?_
  refine (j_imul d146_17).trans ?_
  refine (j_ialoadB (v := ρ 55 (3 * a1)) d146_18 sh_55 (by omega) (by decide) rfl).trans ?_
  have q2 := T55a hT a1
  refine (g_cV d146_19 k10_199 rfl rfl rfl).trans ?_
  show G 137 0 [some (.ref 51), some (vI (ρ 55 (3 * a1)))] [] (toM ρ τ) _ = _
  refine (m_offOf hT.1 (by omega)).trans ?_
  show G 146 22 (some (.ref 51) :: some (vI a1) :: []) [vI (oS ρ (ρ 55 (3 * a1))), vI (ρ 55 ((3 * a1) + 1))] (toM ρ τ) _ = _
  have q3 := oS_rg hT (h := ρ 55 (3 * a1)) (by omega)
  refine (j_iadd d146_22).trans ?_
  refine (g_iret d146_23 rfl rfl).trans ?_
  show G 153 5 (some (.ref 51) :: some (vI a1) :: some (vI a2) :: []) [vI ((ρ 55 ((3 * a1) + 1)) + (oS ρ (ρ 55 (3 * a1))))] (toM ρ τ) _ = _
  refine (g_aload_n d153_5 rfl rfl).trans ?_
  refine (g_iload_n d153_6 rfl).trans ?_
  refine (g_cV d153_7 k10_218 rfl rfl rfl).trans ?_
  show G 146 0 (some (.ref 51) :: some (vI a2) :: []) [] (toM ρ τ) _ = _
  refine (g_aload_n d146_0 rfl rfl).trans ?_
  refine (g_getR (q := 55) d146_1 f10_23 sh_51 (by decide) rfl).trans ?_
  refine (j_iconst d146_4).trans ?_
  refine (g_iload_n d146_5 rfl).trans ?_
  refine (j_imul d146_6).trans ?_
  refine (j_iconst d146_7).trans ?_
  refine (j_iadd d146_8).trans ?_
  refine (j_ialoadB (v := ρ 55 ((3 * a2) + 1)) d146_9 sh_55 (by omega) (by decide) rfl).trans ?_
  have q4 := hT.1 55 ((3 * a2) + 1) (by decide)
  refine (g_aload_n d146_10 rfl rfl).trans ?_
  refine (g_aload_n d146_11 rfl rfl).trans ?_
  refine (g_getR (q := 55) d146_12 f10_23 sh_51 (by decide) rfl).trans ?_
  refine (j_iconst d146_15).trans ?_
  refine (g_iload_n d146_16 rfl).trans ?_
  refine (j_imul d146_17).trans ?_
  refine (j_ialoadB (v := ρ 55 (3 * a2)) d146_18 sh_55 (by omega) (by decide) rfl).trans ?_
  have q5 := T55a hT a2
  refine (g_cV d146_19 k10_199 rfl rfl rfl).trans ?_
  show G 137 0 [some (.ref 51), some (vI (ρ 55 (3 * a2)))] [] (toM ρ τ) _ = _
  refine (m_offOf hT.1 (by omega)).trans ?_
  show G 146 22 (some (.ref 51) :: some (vI a2) :: []) [vI (oS ρ (ρ 55 (3 * a2))), vI (ρ 55 ((3 * a2) + 1))] (toM ρ τ) _ = _
  have q6 := oS_rg hT (h := ρ 55 (3 * a2)) (by omega)
  refine (j_iadd d146_22).trans ?_
  refine (g_iret d146_23 rfl rfl).trans ?_
  show G 153 10 (some (.ref 51) :: some (vI a1) :: some (vI a2) :: []) [vI ((ρ 55 ((3 * a2) + 1)) + (oS ρ (ρ 55 (3 * a2)))), vI ((ρ 55 ((3 * a1) + 1)) + (oS ρ (ρ 55 (3 * a1))))] (toM ρ τ) _ = _
  refine j_icmp_lt (tgt := 31) d153_10 (by decide) (by omega) (by omega) (fun q7 => ?_) (fun q7 => ?_)
  ·
    refine (j_iconst d153_31).trans ?_
    refine (g_goto (tgt := 36) d153_32 (by decide)).trans ?_
    refine (g_iret d153_36 rfl rfl).trans ?_
    show G 156 6 (some (.ref 51) :: some (vI a1) :: some (vI a2) :: []) [vI 1] (toM ρ τ) _ = _
    refine ((g_if_eq (tgt := 22) d156_6 (by decide)).trans (if_neg (by decide))).trans ?_
    refine (g_aload_n d156_9 rfl rfl).trans ?_
    refine (g_iload_n d156_10 rfl).trans ?_
    refine (g_iload_n d156_11 rfl).trans ?_
    refine (g_cV d156_12 k10_225 rfl rfl rfl).trans ?_
    show G 155 0 (some (.ref 51) :: some (vI a1) :: some (vI a2) :: []) [] (toM ρ τ) _ = _
    refine (g_aload_n d155_0 rfl rfl).trans ?_
    refine (g_iload_n d155_1 rfl).trans ?_
    refine (g_cV d155_2 k10_218 rfl rfl rfl).trans ?_
    show G 146 0 (some (.ref 51) :: some (vI a2) :: []) [] (toM ρ τ) _ = _
    refine (g_aload_n d146_0 rfl rfl).trans ?_
    refine (g_getR (q := 55) d146_1 f10_23 sh_51 (by decide) rfl).trans ?_
    refine (j_iconst d146_4).trans ?_
    refine (g_iload_n d146_5 rfl).trans ?_
    refine (j_imul d146_6).trans ?_
    refine (j_iconst d146_7).trans ?_
    refine (j_iadd d146_8).trans ?_
    refine (j_ialoadB (v := ρ 55 ((3 * a2) + 1)) d146_9 sh_55 (by omega) (by decide) rfl).trans ?_
    refine (g_aload_n d146_10 rfl rfl).trans ?_
    refine (g_aload_n d146_11 rfl rfl).trans ?_
    refine (g_getR (q := 55) d146_12 f10_23 sh_51 (by decide) rfl).trans ?_
    refine (j_iconst d146_15).trans ?_
    refine (g_iload_n d146_16 rfl).trans ?_
    refine (j_imul d146_17).trans ?_
    refine (j_ialoadB (v := ρ 55 (3 * a2)) d146_18 sh_55 (by omega) (by decide) rfl).trans ?_
    refine (g_cV d146_19 k10_199 rfl rfl rfl).trans ?_
    show G 137 0 [some (.ref 51), some (vI (ρ 55 (3 * a2)))] [] (toM ρ τ) _ = _
    refine (m_offOf hT.1 (by omega)).trans ?_
    show G 146 22 (some (.ref 51) :: some (vI a2) :: []) [vI (oS ρ (ρ 55 (3 * a2))), vI (ρ 55 ((3 * a2) + 1))] (toM ρ τ) _ = _
    have q8 := oS_rg hT (h := ρ 55 (3 * a2)) (by omega)
    refine (j_iadd d146_22).trans ?_
    refine (g_iret d146_23 rfl rfl).trans ?_
    show G 155 5 (some (.ref 51) :: some (vI a1) :: some (vI a2) :: []) [vI ((ρ 55 ((3 * a2) + 1)) + (oS ρ (ρ 55 (3 * a2))))] (toM ρ τ) _ = _
    refine (g_aload_n d155_5 rfl rfl).trans ?_
    refine (g_iload_n d155_6 rfl).trans ?_
    refine (g_cV d155_7 k10_218 rfl rfl rfl).trans ?_
    show G 146 0 (some (.ref 51) :: some (vI a1) :: []) [] (toM ρ τ) _ = _
    refine (g_aload_n d146_0 rfl rfl).trans ?_
    refine (g_getR (q := 55) d146_1 f10_23 sh_51 (by decide) rfl).trans ?_
    refine (j_iconst d146_4).trans ?_
    refine (g_iload_n d146_5 rfl).trans ?_
    refine (j_imul d146_6).trans ?_
    refine (j_iconst d146_7).trans ?_
    refine (j_iadd d146_8).trans ?_
    refine (j_ialoadB (v := ρ 55 ((3 * a1) + 1)) d146_9 sh_55 (by omega) (by decide) rfl).trans ?_
    refine (g_aload_n d146_10 rfl rfl).trans ?_
    refine (g_aload_n d146_11 rfl rfl).trans ?_
    refine (g_getR (q := 55) d146_12 f10_23 sh_51 (by decide) rfl).trans ?_
    refine (j_iconst d146_15).trans ?_
    refine (g_iload_n d146_16 rfl).trans ?_
    refine (j_imul d146_17).trans ?_
    refine (j_ialoadB (v := ρ 55 (3 * a1)) d146_18 sh_55 (by omega) (by decide) rfl).trans ?_
    refine (g_cV d146_19 k10_199 rfl rfl rfl).trans ?_
    show G 137 0 [some (.ref 51), some (vI (ρ 55 (3 * a1)))] [] (toM ρ τ) _ = _
    refine (m_offOf hT.1 (by omega)).trans ?_
    show G 146 22 (some (.ref 51) :: some (vI a1) :: []) [vI (oS ρ (ρ 55 (3 * a1))), vI (ρ 55 ((3 * a1) + 1))] (toM ρ τ) _ = _
    have q9 := oS_rg hT (h := ρ 55 (3 * a1)) (by omega)
    refine (j_iadd d146_22).trans ?_
    refine (g_iret d146_23 rfl rfl).trans ?_
    show G 155 10 (some (.ref 51) :: some (vI a1) :: some (vI a2) :: []) [vI ((ρ 55 ((3 * a1) + 1)) + (oS ρ (ρ 55 (3 * a1)))), vI ((ρ 55 ((3 * a2) + 1)) + (oS ρ (ρ 55 (3 * a2))))] (toM ρ τ) _ = _
    refine (j_isub d155_10).trans ?_
    refine (g_aload_n d155_11 rfl rfl).trans ?_
    refine (g_getR (q := 55) d155_12 f10_23 sh_51 (by decide) rfl).trans ?_
    refine (j_iconst d155_15).trans ?_
    refine (g_iload_n d155_16 rfl).trans ?_
    refine (j_imul d155_17).trans ?_
    refine (j_iconst d155_18).trans ?_
    refine (j_iadd d155_19).trans ?_
    refine (j_ialoadB (v := ρ 55 ((3 * a1) + 2)) d155_20 sh_55 (by omega) (by decide) rfl).trans ?_
    have q10 := hT.1 55 ((3 * a1) + 2) (by decide)
    refine (j_isub d155_21).trans ?_
    refine (g_aload_n d155_22 rfl rfl).trans ?_
    refine (g_getR (q := 57) d155_23 f10_29 sh_51 (by decide) rfl).trans ?_
    refine (j_bipush d155_26 (by decide)).trans ?_
    refine (g_aload_n d155_28 rfl rfl).trans ?_
    refine (g_getR (q := 55) d155_29 f10_23 sh_51 (by decide) rfl).trans ?_
    refine (j_iconst d155_32).trans ?_
    refine (g_iload_n d155_33 rfl).trans ?_
    refine (j_imul d155_34).trans ?_
    refine (j_ialoadB (v := ρ 55 (3 * a1)) d155_35 sh_55 (by omega) (by decide) rfl).trans ?_
    refine (j_imul d155_36).trans ?_
    refine (g_aload_n d155_37 rfl rfl).trans ?_
    refine (g_getR (q := 55) d155_38 f10_23 sh_51 (by decide) rfl).trans ?_
    refine (j_iconst d155_41).trans ?_
    refine (g_iload_n d155_42 rfl).trans ?_
    refine (j_imul d155_43).trans ?_
    refine (j_ialoadB (v := ρ 55 (3 * a2)) d155_44 sh_55 (by omega) (by decide) rfl).trans ?_
    refine (j_iadd d155_45).trans ?_
    refine (j_ialoadB (v := ρ 57 ((10 * (ρ 55 (3 * a1))) + (ρ 55 (3 * a2)))) d155_46 sh_57 (by omega) (by decide) rfl).trans ?_
    have q11 : 0 ≤ ρ 57 ((10 * (ρ 55 (3 * a1))) + (ρ 55 (3 * a2))) ∧ ρ 57 ((10 * (ρ 55 (3 * a1))) + (ρ 55 (3 * a2))) ≤ 100000 := hT.2 57 ((10 * (ρ 55 (3 * a1))) + (ρ 55 (3 * a2)))
    refine (j_isub d155_47).trans ?_
    refine (g_iret d155_48 rfl rfl).trans ?_
    show G 156 15 (some (.ref 51) :: some (vI a1) :: some (vI a2) :: []) [vI (((((ρ 55 ((3 * a2) + 1)) + (oS ρ (ρ 55 (3 * a2)))) - ((ρ 55 ((3 * a1) + 1)) + (oS ρ (ρ 55 (3 * a1))))) - (ρ 55 ((3 * a1) + 2))) - (ρ 57 ((10 * (ρ 55 (3 * a1))) + (ρ 55 (3 * a2)))))] (toM ρ τ) _ = _
    refine j_if_lt (tgt := 22) d156_15 (by decide) (by omega) (fun q12 => ?_) (fun q12 => ?_)
    ·
      refine (j_iconst d156_22).trans ?_
      exact g_iret d156_23 rfl rfl
    ·
      refine (j_iconst d156_18).trans ?_
      refine (g_goto (tgt := 23) d156_19 (by decide)).trans ?_
      exact g_iret d156_23 rfl rfl
  ·
    refine (g_aload_n d153_13 rfl rfl).trans ?_
    refine (g_iload_n d153_14 rfl).trans ?_
    refine (g_cV d153_15 k10_218 rfl rfl rfl).trans ?_
    show G 146 0 (some (.ref 51) :: some (vI a1) :: []) [] (toM ρ τ) _ = _
    refine (g_aload_n d146_0 rfl rfl).trans ?_
    refine (g_getR (q := 55) d146_1 f10_23 sh_51 (by decide) rfl).trans ?_
    refine (j_iconst d146_4).trans ?_
    refine (g_iload_n d146_5 rfl).trans ?_
    refine (j_imul d146_6).trans ?_
    refine (j_iconst d146_7).trans ?_
    refine (j_iadd d146_8).trans ?_
    refine (j_ialoadB (v := ρ 55 ((3 * a1) + 1)) d146_9 sh_55 (by omega) (by decide) rfl).trans ?_
    refine (g_aload_n d146_10 rfl rfl).trans ?_
    refine (g_aload_n d146_11 rfl rfl).trans ?_
    refine (g_getR (q := 55) d146_12 f10_23 sh_51 (by decide) rfl).trans ?_
    refine (j_iconst d146_15).trans ?_
    refine (g_iload_n d146_16 rfl).trans ?_
    refine (j_imul d146_17).trans ?_
    refine (j_ialoadB (v := ρ 55 (3 * a1)) d146_18 sh_55 (by omega) (by decide) rfl).trans ?_
    refine (g_cV d146_19 k10_199 rfl rfl rfl).trans ?_
    show G 137 0 [some (.ref 51), some (vI (ρ 55 (3 * a1)))] [] (toM ρ τ) _ = _
    refine (m_offOf hT.1 (by omega)).trans ?_
    show G 146 22 (some (.ref 51) :: some (vI a1) :: []) [vI (oS ρ (ρ 55 (3 * a1))), vI (ρ 55 ((3 * a1) + 1))] (toM ρ τ) _ = _
    have q13 := oS_rg hT (h := ρ 55 (3 * a1)) (by omega)
    refine (j_iadd d146_22).trans ?_
    refine (g_iret d146_23 rfl rfl).trans ?_
    show G 153 18 (some (.ref 51) :: some (vI a1) :: some (vI a2) :: []) [vI ((ρ 55 ((3 * a1) + 1)) + (oS ρ (ρ 55 (3 * a1))))] (toM ρ τ) _ = _
    refine (g_aload_n d153_18 rfl rfl).trans ?_
    refine (g_iload_n d153_19 rfl).trans ?_
    refine (g_cV d153_20 k10_218 rfl rfl rfl).trans ?_
    show G 146 0 (some (.ref 51) :: some (vI a2) :: []) [] (toM ρ τ) _ = _
    refine (g_aload_n d146_0 rfl rfl).trans ?_
    refine (g_getR (q := 55) d146_1 f10_23 sh_51 (by decide) rfl).trans ?_
    refine (j_iconst d146_4).trans ?_
    refine (g_iload_n d146_5 rfl).trans ?_
    refine (j_imul d146_6).trans ?_
    refine (j_iconst d146_7).trans ?_
    refine (j_iadd d146_8).trans ?_
    refine (j_ialoadB (v := ρ 55 ((3 * a2) + 1)) d146_9 sh_55 (by omega) (by decide) rfl).trans ?_
    refine (g_aload_n d146_10 rfl rfl).trans ?_
    refine (g_aload_n d146_11 rfl rfl).trans ?_
    refine (g_getR (q := 55) d146_12 f10_23 sh_51 (by decide) rfl).trans ?_
    refine (j_iconst d146_15).trans ?_
    refine (g_iload_n d146_16 rfl).trans ?_
    refine (j_imul d146_17).trans ?_
    refine (j_ialoadB (v := ρ 55 (3 * a2)) d146_18 sh_55 (by omega) (by decide) rfl).trans ?_
    refine (g_cV d146_19 k10_199 rfl rfl rfl).trans ?_
    show G 137 0 [some (.ref 51), some (vI (ρ 55 (3 * a2)))] [] (toM ρ τ) _ = _
    refine (m_offOf hT.1 (by omega)).trans ?_
    show G 146 22 (some (.ref 51) :: some (vI a2) :: []) [vI (oS ρ (ρ 55 (3 * a2))), vI (ρ 55 ((3 * a2) + 1))] (toM ρ τ) _ = _
    have q14 := oS_rg hT (h := ρ 55 (3 * a2)) (by omega)
    refine (j_iadd d146_22).trans ?_
    refine (g_iret d146_23 rfl rfl).trans ?_
    show G 153 23 (some (.ref 51) :: some (vI a1) :: some (vI a2) :: []) [vI ((ρ 55 ((3 * a2) + 1)) + (oS ρ (ρ 55 (3 * a2)))), vI ((ρ 55 ((3 * a1) + 1)) + (oS ρ (ρ 55 (3 * a1))))] (toM ρ τ) _ = _
    refine j_icmp_ne (tgt := 35) d153_23 (by decide) (by omega) (by omega) (fun q15 => ?_) (fun q15 => ?_)
    ·
      refine (g_iload_n d153_26 rfl).trans ?_
      refine (g_iload_n d153_27 rfl).trans ?_
      refine j_icmp_ge (tgt := 35) d153_28 (by decide) (by omega) (by omega) (fun q16 => ?_) (fun q16 => ?_)
      ·
        refine (j_iconst d153_35).trans ?_
        refine (g_iret d153_36 rfl rfl).trans ?_
        show G 156 6 (some (.ref 51) :: some (vI a1) :: some (vI a2) :: []) [vI 0] (toM ρ τ) _ = _
        refine ((g_if_eq (tgt := 22) d156_6 (by decide)).trans (if_pos (by decide))).trans ?_
        refine (j_iconst d156_22).trans ?_
        exact g_iret d156_23 rfl rfl
      ·
        refine (j_iconst d153_31).trans ?_
        refine (g_goto (tgt := 36) d153_32 (by decide)).trans ?_
        refine (g_iret d153_36 rfl rfl).trans ?_
        show G 156 6 (some (.ref 51) :: some (vI a1) :: some (vI a2) :: []) [vI 1] (toM ρ τ) _ = _
        refine ((g_if_eq (tgt := 22) d156_6 (by decide)).trans (if_neg (by decide))).trans ?_
        refine (g_aload_n d156_9 rfl rfl).trans ?_
        refine (g_iload_n d156_10 rfl).trans ?_
        refine (g_iload_n d156_11 rfl).trans ?_
        refine (g_cV d156_12 k10_225 rfl rfl rfl).trans ?_
        show G 155 0 (some (.ref 51) :: some (vI a1) :: some (vI a2) :: []) [] (toM ρ τ) _ = _
        refine (g_aload_n d155_0 rfl rfl).trans ?_
        refine (g_iload_n d155_1 rfl).trans ?_
        refine (g_cV d155_2 k10_218 rfl rfl rfl).trans ?_
        show G 146 0 (some (.ref 51) :: some (vI a2) :: []) [] (toM ρ τ) _ = _
        refine (g_aload_n d146_0 rfl rfl).trans ?_
        refine (g_getR (q := 55) d146_1 f10_23 sh_51 (by decide) rfl).trans ?_
        refine (j_iconst d146_4).trans ?_
        refine (g_iload_n d146_5 rfl).trans ?_
        refine (j_imul d146_6).trans ?_
        refine (j_iconst d146_7).trans ?_
        refine (j_iadd d146_8).trans ?_
        refine (j_ialoadB (v := ρ 55 ((3 * a2) + 1)) d146_9 sh_55 (by omega) (by decide) rfl).trans ?_
        refine (g_aload_n d146_10 rfl rfl).trans ?_
        refine (g_aload_n d146_11 rfl rfl).trans ?_
        refine (g_getR (q := 55) d146_12 f10_23 sh_51 (by decide) rfl).trans ?_
        refine (j_iconst d146_15).trans ?_
        refine (g_iload_n d146_16 rfl).trans ?_
        refine (j_imul d146_17).trans ?_
        refine (j_ialoadB (v := ρ 55 (3 * a2)) d146_18 sh_55 (by omega) (by decide) rfl).trans ?_
        refine (g_cV d146_19 k10_199 rfl rfl rfl).trans ?_
        show G 137 0 [some (.ref 51), some (vI (ρ 55 (3 * a2)))] [] (toM ρ τ) _ = _
        refine (m_offOf hT.1 (by omega)).trans ?_
        show G 146 22 (some (.ref 51) :: some (vI a2) :: []) [vI (oS ρ (ρ 55 (3 * a2))), vI (ρ 55 ((3 * a2) + 1))] (toM ρ τ) _ = _
        have q17 := oS_rg hT (h := ρ 55 (3 * a2)) (by omega)
        refine (j_iadd d146_22).trans ?_
        refine (g_iret d146_23 rfl rfl).trans ?_
        show G 155 5 (some (.ref 51) :: some (vI a1) :: some (vI a2) :: []) [vI ((ρ 55 ((3 * a2) + 1)) + (oS ρ (ρ 55 (3 * a2))))] (toM ρ τ) _ = _
        refine (g_aload_n d155_5 rfl rfl).trans ?_
        refine (g_iload_n d155_6 rfl).trans ?_
        refine (g_cV d155_7 k10_218 rfl rfl rfl).trans ?_
        show G 146 0 (some (.ref 51) :: some (vI a1) :: []) [] (toM ρ τ) _ = _
        refine (g_aload_n d146_0 rfl rfl).trans ?_
        refine (g_getR (q := 55) d146_1 f10_23 sh_51 (by decide) rfl).trans ?_
        refine (j_iconst d146_4).trans ?_
        refine (g_iload_n d146_5 rfl).trans ?_
        refine (j_imul d146_6).trans ?_
        refine (j_iconst d146_7).trans ?_
        refine (j_iadd d146_8).trans ?_
        refine (j_ialoadB (v := ρ 55 ((3 * a1) + 1)) d146_9 sh_55 (by omega) (by decide) rfl).trans ?_
        refine (g_aload_n d146_10 rfl rfl).trans ?_
        refine (g_aload_n d146_11 rfl rfl).trans ?_
        refine (g_getR (q := 55) d146_12 f10_23 sh_51 (by decide) rfl).trans ?_
        refine (j_iconst d146_15).trans ?_
        refine (g_iload_n d146_16 rfl).trans ?_
        refine (j_imul d146_17).trans ?_
        refine (j_ialoadB (v := ρ 55 (3 * a1)) d146_18 sh_55 (by omega) (by decide) rfl).trans ?_
        refine (g_cV d146_19 k10_199 rfl rfl rfl).trans ?_
        show G 137 0 [some (.ref 51), some (vI (ρ 55 (3 * a1)))] [] (toM ρ τ) _ = _
        refine (m_offOf hT.1 (by omega)).trans ?_
        show G 146 22 (some (.ref 51) :: some (vI a1) :: []) [vI (oS ρ (ρ 55 (3 * a1))), vI (ρ 55 ((3 * a1) + 1))] (toM ρ τ) _ = _
        have q18 := oS_rg hT (h := ρ 55 (3 * a1)) (by omega)
        refine (j_iadd d146_22).trans ?_
        refine (g_iret d146_23 rfl rfl).trans ?_
        show G 155 10 (some (.ref 51) :: some (vI a1) :: some (vI a2) :: []) [vI ((ρ 55 ((3 * a1) + 1)) + (oS ρ (ρ 55 (3 * a1)))), vI ((ρ 55 ((3 * a2) + 1)) + (oS ρ (ρ 55 (3 * a2))))] (toM ρ τ) _ = _
        refine (j_isub d155_10).trans ?_
        refine (g_aload_n d155_11 rfl rfl).trans ?_
        refine (g_getR (q := 55) d155_12 f10_23 sh_51 (by decide) rfl).trans ?_
        refine (j_iconst d155_15).trans ?_
        refine (g_iload_n d155_16 rfl).trans ?_
        refine (j_imul d155_17).trans ?_
        refine (j_iconst d155_18).trans ?_
        refine (j_iadd d155_19).trans ?_
        refine (j_ialoadB (v := ρ 55 ((3 * a1) + 2)) d155_20 sh_55 (by omega) (by decide) rfl).trans ?_
        have q19 := hT.1 55 ((3 * a1) + 2) (by decide)
        refine (j_isub d155_21).trans ?_
        refine (g_aload_n d155_22 rfl rfl).trans ?_
        refine (g_getR (q := 57) d155_23 f10_29 sh_51 (by decide) rfl).trans ?_
        refine (j_bipush d155_26 (by decide)).trans ?_
        refine (g_aload_n d155_28 rfl rfl).trans ?_
        refine (g_getR (q := 55) d155_29 f10_23 sh_51 (by decide) rfl).trans ?_
        refine (j_iconst d155_32).trans ?_
        refine (g_iload_n d155_33 rfl).trans ?_
        refine (j_imul d155_34).trans ?_
        refine (j_ialoadB (v := ρ 55 (3 * a1)) d155_35 sh_55 (by omega) (by decide) rfl).trans ?_
        refine (j_imul d155_36).trans ?_
        refine (g_aload_n d155_37 rfl rfl).trans ?_
        refine (g_getR (q := 55) d155_38 f10_23 sh_51 (by decide) rfl).trans ?_
        refine (j_iconst d155_41).trans ?_
        refine (g_iload_n d155_42 rfl).trans ?_
        refine (j_imul d155_43).trans ?_
        refine (j_ialoadB (v := ρ 55 (3 * a2)) d155_44 sh_55 (by omega) (by decide) rfl).trans ?_
        refine (j_iadd d155_45).trans ?_
        refine (j_ialoadB (v := ρ 57 ((10 * (ρ 55 (3 * a1))) + (ρ 55 (3 * a2)))) d155_46 sh_57 (by omega) (by decide) rfl).trans ?_
        have q20 : 0 ≤ ρ 57 ((10 * (ρ 55 (3 * a1))) + (ρ 55 (3 * a2))) ∧ ρ 57 ((10 * (ρ 55 (3 * a1))) + (ρ 55 (3 * a2))) ≤ 100000 := hT.2 57 ((10 * (ρ 55 (3 * a1))) + (ρ 55 (3 * a2)))
        refine (j_isub d155_47).trans ?_
        refine (g_iret d155_48 rfl rfl).trans ?_
        show G 156 15 (some (.ref 51) :: some (vI a1) :: some (vI a2) :: []) [vI (((((ρ 55 ((3 * a2) + 1)) + (oS ρ (ρ 55 (3 * a2)))) - ((ρ 55 ((3 * a1) + 1)) + (oS ρ (ρ 55 (3 * a1))))) - (ρ 55 ((3 * a1) + 2))) - (ρ 57 ((10 * (ρ 55 (3 * a1))) + (ρ 55 (3 * a2)))))] (toM ρ τ) _ = _
        refine j_if_lt (tgt := 22) d156_15 (by decide) (by omega) (fun q21 => ?_) (fun q21 => ?_)
        ·
          refine (j_iconst d156_22).trans ?_
          exact g_iret d156_23 rfl rfl
        ·
          refine (j_iconst d156_18).trans ?_
          refine (g_goto (tgt := 23) d156_19 (by decide)).trans ?_
          exact g_iret d156_23 rfl rfl
    ·
      refine (j_iconst d153_35).trans ?_
      refine (g_iret d153_36 rfl rfl).trans ?_
      show G 156 6 (some (.ref 51) :: some (vI a1) :: some (vI a2) :: []) [vI 0] (toM ρ τ) _ = _
      refine ((g_if_eq (tgt := 22) d156_6 (by decide)).trans (if_pos (by decide))).trans ?_
      refine (j_iconst d156_22).trans ?_
      exact g_iret d156_23 rfl rfl
abbrev cnC (ρ : rm) (i j : Int) : Prop := (ρ 10 (ρ 27 i) + ρ 28 i < ρ 10 (ρ 27 j) + ρ 28 j ∨ ρ 10 (ρ 27 i) + ρ 28 i = ρ 10 (ρ 27 j) + ρ 28 j ∧ i < j) ∧ 0 ≤ (ρ 10 (ρ 27 j) + ρ 28 j) - (((ρ 10 (ρ 27 i) + ρ 28 i) + ρ 29 i) + ρ (17 + (ρ 27 i).toNat) (ρ 27 j))
abbrev cnM (ρ : rm) (i j : Int) : Prop := (ρ 55 (3 * i + 1) + oS ρ (ρ 55 (3 * i)) < ρ 55 (3 * j + 1) + oS ρ (ρ 55 (3 * j)) ∨ ρ 55 (3 * i + 1) + oS ρ (ρ 55 (3 * i)) = ρ 55 (3 * j + 1) + oS ρ (ρ 55 (3 * j)) ∧ i < j) ∧ 0 ≤ (((ρ 55 (3 * j + 1) + oS ρ (ρ 55 (3 * j))) - (ρ 55 (3 * i + 1) + oS ρ (ρ 55 (3 * i)))) - ρ 55 (3 * i + 2)) - ρ 57 (10 * ρ 55 (3 * i) + ρ 55 (3 * j))
theorem c_can {Q : Option Value → mm → Prop} {ρ : rm} {τ : Int64} (hT : TI ρ) {i j : Int} (hi : 0 ≤ i ∧ i < 10) (hj : 0 ≤ j ∧ j < 10) : G 16 0 [some (.ref 2), some (vI i), some (vI j)] [] (toM ρ τ) Q = Q (some (vI (tv (cnC ρ i j)))) (toM ρ τ) := by
  rw [s16 ρ τ i j hT hi hj]
  (repeat' split) <;> first | rw [tv_t (by omega)] | rw [tv_f (by omega)]
theorem m_can {Q : Option Value → mm → Prop} {ρ : rm} {τ : Int64} (hT : TI ρ) {i j : Int} (hi : 0 ≤ i ∧ i < 10) (hj : 0 ≤ j ∧ j < 10) : G 156 0 [some (.ref 51), some (vI i), some (vI j)] [] (toM ρ τ) Q = Q (some (vI (tv (cnM ρ i j)))) (toM ρ τ) := by
  rw [s156 ρ τ i j hT hi hj]
  (repeat' split) <;> first | rw [tv_t (by omega)] | rw [tv_f (by omega)]
set_option maxRecDepth 10000 in
theorem s17 {Q : Option Value → mm → Prop} (ρ : rm) (τ : Int64) (a1 : Int) (hT : TI ρ) (h_a1 : -1 ≤ a1 ∧ a1 < 10) : G 17 0 (some (.ref 2) :: some (vI a1) :: []) [] (toM ρ τ) Q = G 17 7 (some (.ref 2) :: some (vI a1) :: some (vI ((ρ 2 4) - 1)) :: []) [] (toM ρ τ) Q := by
  refine (g_aload_n d17_0 rfl rfl).trans ?_
  refine (j_getI (v := ρ 2 4) d17_1 f1_31 sh_2 (by decide) rfl rfl).trans ?_
  have q1 : 0 ≤ ρ 2 4 ∧ ρ 2 4 ≤ 10 := hT.2 2 4
  refine (j_iconst d17_4).trans ?_
  refine (j_isub d17_5).trans ?_
  refine (g_istore_n d17_6 (by decide) rfl rfl).trans ?_
  rfl
set_option maxRecDepth 10000 in
theorem s17_7 {Q : Option Value → mm → Prop} (ρ : rm) (τ : Int64) (l1 : Int) (l2 : Int) (t : List (Option Value)) (hT : TI ρ) (h_l1 : -1 ≤ l1 ∧ l1 < 10) (h_l2 : -1 ≤ l2 ∧ l2 < 10) : G 17 7 (some (.ref 2) :: some (vI l1) :: some (vI l2) :: t) [] (toM ρ τ) Q = (if l2 < 0 then Q none (toM ρ τ) else G 17 26 (some (.ref 2) :: some (vI l1) :: some (vI l2) :: some (vI (ρ 30 l2)) :: some (vI 0) :: some (vI (l2 + 1)) :: t.tail.tail.tail) [] (toM ρ τ) Q) := by
  refine (g_iload_n d17_7 rfl).trans ?_
  refine j_if_lt (tgt := 122) d17_8 (by decide) (by omega) (fun q1 => ?_) (fun q1 => ?_)
  ·
    exact g_ret d17_122 rfl
  ·
    refine (g_aload_n d17_11 rfl rfl).trans ?_
    refine (g_getR (q := 30) d17_12 f1_21 sh_2 (by decide) rfl).trans ?_
    refine (g_iload_n d17_15 rfl).trans ?_
    refine (j_ialoadB (v := ρ 30 l2) d17_16 sh_30 (by omega) (by decide) rfl).trans ?_
    have q2 : 0 ≤ ρ 30 l2 ∧ ρ 30 l2 ≤ 9 := hT.2 30 l2
    refine (g_istore_n d17_17 (by decide) rfl rfl).trans ?_
    refine (j_iconst d17_18).trans ?_
    refine (g_istore d17_19 (by decide) rfl rfl).trans ?_
    refine (g_iload_n d17_21 rfl).trans ?_
    refine (j_iconst d17_22).trans ?_
    refine (j_iadd d17_23).trans ?_
    refine (g_istore d17_24 (by decide) rfl rfl).trans ?_
    rfl
set_option maxRecDepth 10000 in
theorem s17_26 {Q : Option Value → mm → Prop} (ρ : rm) (τ : Int64) (l1 : Int) (l2 : Int) (l3 : Int) (l4 : Int) (l5 : Int) (t : List (Option Value)) (hT : TI ρ) (h_l1 : -1 ≤ l1 ∧ l1 < 10) (h_l2 : 0 ≤ l2 ∧ l2 < 10) (h_l3 : 0 ≤ l3 ∧ l3 < 10) (h_l4 : 0 ≤ l4 ∧ l4 ≤ 10) (h_l5 : 0 ≤ l5 ∧ l5 ≤ 10) : G 17 26 (some (.ref 2) :: some (vI l1) :: some (vI l2) :: some (vI l3) :: some (vI l4) :: some (vI l5) :: t) [] (toM ρ τ) Q = (if (ρ 2 4) ≤ l5 then (if l1 = (-1) then (if 0 < l4 then G 17 7 (some (.ref 2) :: some (vI l1) :: some (vI (l2 + (-1))) :: some (vI l3) :: some (vI l4) :: some (vI 1) :: t) [] (toM (rup ρ 31 l3 (l4 + 1)) τ) Q else G 17 7 (some (.ref 2) :: some (vI l1) :: some (vI (l2 + (-1))) :: some (vI l3) :: some (vI l4) :: some (vI 1) :: t) [] (toM (rup ρ 31 l3 (l4 + 1)) τ) Q) else (if l1 = l3 then (if 0 < l4 then G 17 7 (some (.ref 2) :: some (vI l1) :: some (vI (l2 + (-1))) :: some (vI l3) :: some (vI l4) :: some (vI 1) :: t) [] (toM (rup ρ 31 l3 (l4 + 1)) τ) Q else G 17 7 (some (.ref 2) :: some (vI l1) :: some (vI (l2 + (-1))) :: some (vI l3) :: some (vI l4) :: some (vI 1) :: t) [] (toM (rup ρ 31 l3 (l4 + 1)) τ) Q) else (if 0 < l4 then G 17 7 (some (.ref 2) :: some (vI l1) :: some (vI (l2 + (-1))) :: some (vI l3) :: some (vI l4) :: some (vI 0) :: t) [] (toM (rup ρ 31 l3 (l4 + 1)) τ) Q else G 17 7 (some (.ref 2) :: some (vI l1) :: some (vI (l2 + (-1))) :: some (vI l3) :: some (vI l4) :: some (vI 0) :: t) [] (toM (rup ρ 31 l3 0) τ) Q))) else (if cnC ρ l3 (ρ 30 l5) then G 17 26 (some (.ref 2) :: some (vI l1) :: some (vI l2) :: some (vI l3) :: some (vI (max l4 (ρ 31 (ρ 30 l5)))) :: some (vI (l5 + 1)) :: t) [] (toM ρ τ) Q else G 17 26 (some (.ref 2) :: some (vI l1) :: some (vI l2) :: some (vI l3) :: some (vI l4) :: some (vI (l5 + 1)) :: t) [] (toM ρ τ) Q)) := by
  refine (g_iload d17_26 rfl).trans ?_
  refine (g_aload_n d17_28 rfl rfl).trans ?_
  refine (j_getI (v := ρ 2 4) d17_29 f1_31 sh_2 (by decide) rfl rfl).trans ?_
  have q1 : 0 ≤ ρ 2 4 ∧ ρ 2 4 ≤ 10 := hT.2 2 4
  refine j_icmp_ge (tgt := 75) d17_32 (by decide) (by omega) (by omega) (fun q2 => ?_) (fun q2 => ?_)
  ·
    refine (g_iload_n d17_75 rfl).trans ?_
    refine (j_iconst d17_76).trans ?_
    refine j_icmp_eq (tgt := 85) d17_77 (by decide) (by omega) (by omega) (fun q3 => ?_) (fun q3 => ?_)
    ·
      refine (j_iconst d17_85).trans ?_
      refine (g_goto (tgt := 90) d17_86 (by decide)).trans ?_
      refine (g_istore d17_90 (by decide) rfl rfl).trans ?_
      refine (g_aload_n d17_92 rfl rfl).trans ?_
      refine (g_getR (q := 31) d17_93 f1_24 sh_2 (by decide) rfl).trans ?_
      refine (g_iload_n d17_96 rfl).trans ?_
      refine (g_iload d17_97 rfl).trans ?_
      refine j_if_gt (tgt := 107) d17_99 (by decide) (by omega) (fun q4 => ?_) (fun q4 => ?_)
      ·
        refine (g_iload d17_107 rfl).trans ?_
        refine (j_iconst d17_109).trans ?_
        refine (j_iadd d17_110).trans ?_
        refine (g_goto (tgt := 115) d17_111 (by decide)).trans ?_
        refine (j_iastoreB d17_115 sh_31 (by omega) (by decide)).trans ?_
        refine (j_iinc d17_116 rfl (by decide) rfl rfl).trans ?_
        refine (g_goto (tgt := 7) d17_119 (by decide)).trans ?_
        rfl
      ·
        refine (g_iload d17_102 rfl).trans ?_
        refine ((g_if_eq (tgt := 114) d17_104 (by decide)).trans (if_neg (by decide))).trans ?_
        refine (g_iload d17_107 rfl).trans ?_
        refine (j_iconst d17_109).trans ?_
        refine (j_iadd d17_110).trans ?_
        refine (g_goto (tgt := 115) d17_111 (by decide)).trans ?_
        refine (j_iastoreB d17_115 sh_31 (by omega) (by decide)).trans ?_
        refine (j_iinc d17_116 rfl (by decide) rfl rfl).trans ?_
        refine (g_goto (tgt := 7) d17_119 (by decide)).trans ?_
        rfl
    ·
      refine (g_iload_n d17_80 rfl).trans ?_
      refine (g_iload_n d17_81 rfl).trans ?_
      refine j_icmp_ne (tgt := 89) d17_82 (by decide) (by omega) (by omega) (fun q5 => ?_) (fun q5 => ?_)
      ·
        refine (j_iconst d17_85).trans ?_
        refine (g_goto (tgt := 90) d17_86 (by decide)).trans ?_
        refine (g_istore d17_90 (by decide) rfl rfl).trans ?_
        refine (g_aload_n d17_92 rfl rfl).trans ?_
        refine (g_getR (q := 31) d17_93 f1_24 sh_2 (by decide) rfl).trans ?_
        refine (g_iload_n d17_96 rfl).trans ?_
        refine (g_iload d17_97 rfl).trans ?_
        refine j_if_gt (tgt := 107) d17_99 (by decide) (by omega) (fun q6 => ?_) (fun q6 => ?_)
        ·
          refine (g_iload d17_107 rfl).trans ?_
          refine (j_iconst d17_109).trans ?_
          refine (j_iadd d17_110).trans ?_
          refine (g_goto (tgt := 115) d17_111 (by decide)).trans ?_
          refine (j_iastoreB d17_115 sh_31 (by omega) (by decide)).trans ?_
          refine (j_iinc d17_116 rfl (by decide) rfl rfl).trans ?_
          refine (g_goto (tgt := 7) d17_119 (by decide)).trans ?_
          rfl
        ·
          refine (g_iload d17_102 rfl).trans ?_
          refine ((g_if_eq (tgt := 114) d17_104 (by decide)).trans (if_neg (by decide))).trans ?_
          refine (g_iload d17_107 rfl).trans ?_
          refine (j_iconst d17_109).trans ?_
          refine (j_iadd d17_110).trans ?_
          refine (g_goto (tgt := 115) d17_111 (by decide)).trans ?_
          refine (j_iastoreB d17_115 sh_31 (by omega) (by decide)).trans ?_
          refine (j_iinc d17_116 rfl (by decide) rfl rfl).trans ?_
          refine (g_goto (tgt := 7) d17_119 (by decide)).trans ?_
          rfl
      ·
        refine (j_iconst d17_89).trans ?_
        refine (g_istore d17_90 (by decide) rfl rfl).trans ?_
        refine (g_aload_n d17_92 rfl rfl).trans ?_
        refine (g_getR (q := 31) d17_93 f1_24 sh_2 (by decide) rfl).trans ?_
        refine (g_iload_n d17_96 rfl).trans ?_
        refine (g_iload d17_97 rfl).trans ?_
        refine j_if_gt (tgt := 107) d17_99 (by decide) (by omega) (fun q7 => ?_) (fun q7 => ?_)
        ·
          refine (g_iload d17_107 rfl).trans ?_
          refine (j_iconst d17_109).trans ?_
          refine (j_iadd d17_110).trans ?_
          refine (g_goto (tgt := 115) d17_111 (by decide)).trans ?_
          refine (j_iastoreB d17_115 sh_31 (by omega) (by decide)).trans ?_
          refine (j_iinc d17_116 rfl (by decide) rfl rfl).trans ?_
          refine (g_goto (tgt := 7) d17_119 (by decide)).trans ?_
          rfl
        ·
          refine (g_iload d17_102 rfl).trans ?_
          refine ((g_if_eq (tgt := 114) d17_104 (by decide)).trans (if_pos (by decide))).trans ?_
          refine (j_iconst d17_114).trans ?_
          refine (j_iastoreB d17_115 sh_31 (by omega) (by decide)).trans ?_
          refine (j_iinc d17_116 rfl (by decide) rfl rfl).trans ?_
          refine (g_goto (tgt := 7) d17_119 (by decide)).trans ?_
          rfl
  ·
    refine (g_aload_n d17_35 rfl rfl).trans ?_
    refine (g_iload_n d17_36 rfl).trans ?_
    refine (g_aload_n d17_37 rfl rfl).trans ?_
    refine (g_getR (q := 30) d17_38 f1_21 sh_2 (by decide) rfl).trans ?_
    refine (g_iload d17_41 rfl).trans ?_
    refine (j_ialoadB (v := ρ 30 l5) d17_43 sh_30 (by omega) (by decide) rfl).trans ?_
    have q8 : 0 ≤ ρ 30 l5 ∧ ρ 30 l5 ≤ 9 := hT.2 30 l5
    refine (g_cV d17_44 k1_55 rfl rfl rfl).trans ?_
    show G 16 0 [some (.ref 2), some (vI l3), some (vI (ρ 30 l5))] [] (toM ρ τ) _ = _
    refine (c_can hT (by omega) (by omega)).trans ?_
    show G 17 47 (some (.ref 2) :: some (vI l1) :: some (vI l2) :: some (vI l3) :: some (vI l4) :: some (vI l5) :: t) [vI (tv (cnC ρ l3 (ρ 30 l5)))] (toM ρ τ) _ = _
    refine j_ifT_eq (tgt := 69) d17_47 (by decide) (fun q9 => ?_) (fun q9 => ?_)
    ·
      refine (g_iload d17_50 rfl).trans ?_
      refine (g_aload_n d17_52 rfl rfl).trans ?_
      refine (g_getR (q := 31) d17_53 f1_24 sh_2 (by decide) rfl).trans ?_
      refine (g_aload_n d17_56 rfl rfl).trans ?_
      refine (g_getR (q := 30) d17_57 f1_21 sh_2 (by decide) rfl).trans ?_
      refine (g_iload d17_60 rfl).trans ?_
      refine (j_ialoadB (v := ρ 30 l5) d17_62 sh_30 (by omega) (by decide) rfl).trans ?_
      refine (j_ialoadB (v := ρ 31 (ρ 30 l5)) d17_63 sh_31 (by omega) (by decide) rfl).trans ?_
      have q10 : 0 ≤ ρ 31 (ρ 30 l5) ∧ ρ 31 (ρ 30 l5) ≤ 10 := hT.2 31 (ρ 30 l5)
      refine (g_cS d17_64 k1_58 rfl rfl rfl).trans ?_
      show G 184 0 [some (vI l4), some (vI (ρ 31 (ρ 30 l5)))] [] (toM ρ τ) _ = _
      refine (c_max hT.1 (by omega) (by omega)).trans ?_
      show G 17 67 (some (.ref 2) :: some (vI l1) :: some (vI l2) :: some (vI l3) :: some (vI l4) :: some (vI l5) :: t) [vI (max l4 (ρ 31 (ρ 30 l5)))] (toM ρ τ) _ = _
      refine (g_istore d17_67 (by decide) rfl rfl).trans ?_
      refine (j_iinc d17_69 rfl (by decide) rfl rfl).trans ?_
      refine (g_goto (tgt := 26) d17_72 (by decide)).trans ?_
      rfl
    ·
      refine (j_iinc d17_69 rfl (by decide) rfl rfl).trans ?_
      refine (g_goto (tgt := 26) d17_72 (by decide)).trans ?_
      rfl
set_option maxRecDepth 10000 in
theorem s18 {Q : Option Value → mm → Prop} (ρ : rm) (τ : Int64)  (hT : TI ρ)  : G 18 0 (some (.ref 2) :: []) [] (toM ρ τ) Q = G 18 4 (some (.ref 2) :: some (vI 0) :: some (vI 0) :: []) [] (toM ρ τ) Q := by
  refine (j_iconst d18_0).trans ?_
  refine (g_istore_n d18_1 (by decide) rfl rfl).trans ?_
  refine (j_iconst d18_2).trans ?_
  refine (g_istore_n d18_3 (by decide) rfl rfl).trans ?_
  rfl
set_option maxRecDepth 10000 in
theorem s18_4 {Q : Option Value → mm → Prop} (ρ : rm) (τ : Int64) (l1 : Int) (l2 : Int) (t : List (Option Value)) (hT : TI ρ) (h_l1 : SM l1) (h_l2 : 0 ≤ l2 ∧ l2 ≤ 10) : G 18 4 (some (.ref 2) :: some (vI l1) :: some (vI l2) :: t) [] (toM ρ τ) Q = (if (ρ 2 4) ≤ l2 then Q (some (vI l1)) (toM ρ τ) else G 18 4 (some (.ref 2) :: some (vI (max l1 (ρ 31 l2))) :: some (vI (l2 + 1)) :: t) [] (toM ρ τ) Q) := by
  refine (g_iload_n d18_4 rfl).trans ?_
  refine (g_aload_n d18_5 rfl rfl).trans ?_
  refine (j_getI (v := ρ 2 4) d18_6 f1_31 sh_2 (by decide) rfl rfl).trans ?_
  have q1 : 0 ≤ ρ 2 4 ∧ ρ 2 4 ≤ 10 := hT.2 2 4
  refine j_icmp_ge (tgt := 29) d18_9 (by decide) (by omega) (by omega) (fun q2 => ?_) (fun q2 => ?_)
  ·
    refine (g_iload_n d18_29 rfl).trans ?_
    exact g_iret d18_30 rfl rfl
  ·
    refine (g_iload_n d18_12 rfl).trans ?_
    refine (g_aload_n d18_13 rfl rfl).trans ?_
    refine (g_getR (q := 31) d18_14 f1_24 sh_2 (by decide) rfl).trans ?_
    refine (g_iload_n d18_17 rfl).trans ?_
    refine (j_ialoadB (v := ρ 31 l2) d18_18 sh_31 (by omega) (by decide) rfl).trans ?_
    have q3 : 0 ≤ ρ 31 l2 ∧ ρ 31 l2 ≤ 10 := hT.2 31 l2
    refine (g_cS d18_19 k1_58 rfl rfl rfl).trans ?_
    show G 184 0 [some (vI l1), some (vI (ρ 31 l2))] [] (toM ρ τ) _ = _
    refine (c_max hT.1 (by omega) (by omega)).trans ?_
    show G 18 22 (some (.ref 2) :: some (vI l1) :: some (vI l2) :: t) [vI (max l1 (ρ 31 l2))] (toM ρ τ) _ = _
    refine (g_istore_n d18_22 (by decide) rfl rfl).trans ?_
    refine (j_iinc d18_23 rfl (by decide) rfl rfl).trans ?_
    refine (g_goto (tgt := 4) d18_26 (by decide)).trans ?_
    rfl
set_option maxRecDepth 10000 in
theorem s19 {Q : Option Value → mm → Prop} (ρ : rm) (τ : Int64) (a1 : Int) (hT : TI ρ) (h_a1 : SB a1) : G 19 0 (some (.ref 2) :: some (vI a1) :: []) [] (toM ρ τ) Q = G 18 0 [some (.ref 2)] [] (toM ρ τ) (fun v μ2 => G 19 4 (some (.ref 2) :: some (vI a1) :: []) (v.toList ++ []) μ2 Q) := by
  refine (g_aload_n d19_0 rfl rfl).trans ?_
  exact g_cV d19_1 k1_63 rfl rfl rfl
set_option maxRecDepth 10000 in
theorem s19_4 {Q : Option Value → mm → Prop} (ρ : rm) (τ : Int64) (l1 : Int) (t : List (Option Value)) (r : Int) (hT : TI ρ) (h_l1 : SB l1) (h_r : SM r) : G 19 4 (some (.ref 2) :: some (vI l1) :: t) ((some (vI r)).toList ++ []) (toM ρ τ) Q = (if l1 < r then G 19 17 (some (.ref 2) :: some (vI l1) :: some (vI r) :: some (vI (-1)) :: some (vI 0) :: t.tail.tail.tail) [] (toM ρ τ) Q else Q (some (vI (-1))) (toM ρ τ)) := by
  refine (g_istore_n d19_4 (by decide) rfl rfl).trans ?_
  refine (g_iload_n d19_5 rfl).trans ?_
  refine (g_iload_n d19_6 rfl).trans ?_
  refine j_icmp_lt (tgt := 12) d19_7 (by decide) (by omega) (by omega) (fun q1 => ?_) (fun q1 => ?_)
  ·
    refine (j_iconst d19_12).trans ?_
    refine (g_istore_n d19_13 (by decide) rfl rfl).trans ?_
    refine (j_iconst d19_14).trans ?_
    refine (g_istore d19_15 (by decide) rfl rfl).trans ?_
    rfl
  ·
    refine (j_iconst d19_10).trans ?_
    exact g_iret d19_11 rfl rfl
set_option maxRecDepth 10000 in
theorem s19_17 {Q : Option Value → mm → Prop} (ρ : rm) (τ : Int64) (l1 : Int) (l2 : Int) (l3 : Int) (l4 : Int) (t : List (Option Value)) (hT : TI ρ) (h_l1 : 0 ≤ l1 ∧ l1 < 10) (h_l2 : SM l2) (h_l3 : -1 ≤ l3 ∧ l3 < 10) (h_l4 : 0 ≤ l4 ∧ l4 ≤ 10) : G 19 17 (some (.ref 2) :: some (vI l1) :: some (vI l2) :: some (vI l3) :: some (vI l4) :: t) [] (toM ρ τ) Q = (if l1 < l4 then Q (some (vI l3)) (toM ρ τ) else G 20 0 [some (.ref 2), some (vI l3), some (vI (l2 - l4))] [] (toM ρ τ) (fun v μ2 => G 19 32 (some (.ref 2) :: some (vI l1) :: some (vI l2) :: some (vI l3) :: some (vI l4) :: t) (v.toList ++ []) μ2 Q)) := by
  refine (g_iload d19_17 rfl).trans ?_
  refine (g_iload_n d19_19 rfl).trans ?_
  refine j_icmp_gt (tgt := 39) d19_20 (by decide) (by omega) (by omega) (fun q1 => ?_) (fun q1 => ?_)
  ·
    refine (g_iload_n d19_39 rfl).trans ?_
    exact g_iret d19_40 rfl rfl
  ·
    refine (g_aload_n d19_23 rfl rfl).trans ?_
    refine (g_iload_n d19_24 rfl).trans ?_
    refine (g_iload_n d19_25 rfl).trans ?_
    refine (g_iload d19_26 rfl).trans ?_
    refine (j_isub d19_28).trans ?_
    exact g_cV d19_29 k1_67 rfl rfl rfl
set_option maxRecDepth 10000 in
theorem s19_32 {Q : Option Value → mm → Prop} (ρ : rm) (τ : Int64) (l1 : Int) (l2 : Int) (l3 : Int) (l4 : Int) (t : List (Option Value)) (r : Int) (hT : TI ρ) (h_l1 : SB l1) (h_l2 : SM l2) (h_l3 : SM l3) (h_l4 : SM l4) (h_r : SM r) : G 19 32 (some (.ref 2) :: some (vI l1) :: some (vI l2) :: some (vI l3) :: some (vI l4) :: t) ((some (vI r)).toList ++ []) (toM ρ τ) Q = G 19 17 (some (.ref 2) :: some (vI l1) :: some (vI l2) :: some (vI r) :: some (vI (l4 + 1)) :: t) [] (toM ρ τ) Q := by
  refine (g_istore_n d19_32 (by decide) rfl rfl).trans ?_
  refine (j_iinc d19_33 rfl (by decide) rfl rfl).trans ?_
  refine (g_goto (tgt := 17) d19_36 (by decide)).trans ?_
  rfl
set_option maxRecDepth 10000 in
theorem s20 {Q : Option Value → mm → Prop} (ρ : rm) (τ : Int64) (a1 : Int) (a2 : Int) (hT : TI ρ) (h_a1 : -1 ≤ a1 ∧ a1 < 10) (h_a2 : SM a2) : G 20 0 (some (.ref 2) :: some (vI a1) :: some (vI a2) :: []) [] (toM ρ τ) Q = G 20 2 (some (.ref 2) :: some (vI a1) :: some (vI a2) :: some (vI 0) :: []) [] (toM ρ τ) Q := by
  refine (j_iconst d20_0).trans ?_
  refine (g_istore_n d20_1 (by decide) rfl rfl).trans ?_
  rfl
set_option maxRecDepth 10000 in
theorem s20_2 {Q : Option Value → mm → Prop} (ρ : rm) (τ : Int64) (l1 : Int) (l2 : Int) (l3 : Int) (t : List (Option Value)) (hT : TI ρ) (h_l1 : -1 ≤ l1 ∧ l1 < 10) (h_l2 : SM l2) (h_l3 : 0 ≤ l3 ∧ l3 ≤ 10) : G 20 2 (some (.ref 2) :: some (vI l1) :: some (vI l2) :: some (vI l3) :: t) [] (toM ρ τ) Q = (if (ρ 2 4) ≤ l3 then Q (some (vI (-1))) (toM ρ τ) else (if (ρ 31 l3) = l2 then (if 0 ≤ l1 ∧ l1 < ρ 2 4 then (if cnC ρ l1 l3 then Q (some (vI l3)) (toM ρ τ) else G 20 2 (some (.ref 2) :: some (vI l1) :: some (vI l2) :: some (vI (l3 + 1)) :: t) [] (toM ρ τ) Q) else Q (some (vI l3)) (toM ρ τ)) else G 20 2 (some (.ref 2) :: some (vI l1) :: some (vI l2) :: some (vI (l3 + 1)) :: t) [] (toM ρ τ) Q)) := by
  refine (g_iload_n d20_2 rfl).trans ?_
  refine (g_aload_n d20_3 rfl rfl).trans ?_
  refine (j_getI (v := ρ 2 4) d20_4 f1_31 sh_2 (by decide) rfl rfl).trans ?_
  have q1 : 0 ≤ ρ 2 4 ∧ ρ 2 4 ≤ 10 := hT.2 2 4
  refine j_icmp_ge (tgt := 45) d20_7 (by decide) (by omega) (by omega) (fun q2 => ?_) (fun q2 => ?_)
  ·
    refine (j_iconst d20_45).trans ?_
    exact g_iret d20_46 rfl rfl
  ·
    refine (g_aload_n d20_10 rfl rfl).trans ?_
    refine (g_getR (q := 31) d20_11 f1_24 sh_2 (by decide) rfl).trans ?_
    refine (g_iload_n d20_14 rfl).trans ?_
    refine (j_ialoadB (v := ρ 31 l3) d20_15 sh_31 (by omega) (by decide) rfl).trans ?_
    have q3 : 0 ≤ ρ 31 l3 ∧ ρ 31 l3 ≤ 10 := hT.2 31 l3
    refine (g_iload_n d20_16 rfl).trans ?_
    refine j_icmp_ne (tgt := 39) d20_17 (by decide) (by omega) (by omega) (fun q4 => ?_) (fun q4 => ?_)
    ·
      refine (g_aload_n d20_20 rfl rfl).trans ?_
      refine (g_iload_n d20_21 rfl).trans ?_
      refine (g_cV d20_22 k1_70 rfl rfl rfl).trans ?_
      show G 11 0 [some (.ref 2), some (vI l1)] [] (toM ρ τ) _ = _
      refine (c_dhas hT (by omega)).trans ?_
      show G 20 25 (some (.ref 2) :: some (vI l1) :: some (vI l2) :: some (vI l3) :: t) [vI (tv (0 ≤ l1 ∧ l1 < ρ 2 4))] (toM ρ τ) _ = _
      have q5 := (show 0 ≤ ρ 2 4 ∧ ρ 2 4 ≤ 10 from hT.2 2 4)
      refine j_ifT_eq (tgt := 37) d20_25 (by decide) (fun q6 => ?_) (fun q6 => ?_)
      ·
        refine (g_aload_n d20_28 rfl rfl).trans ?_
        refine (g_iload_n d20_29 rfl).trans ?_
        refine (g_iload_n d20_30 rfl).trans ?_
        refine (g_cV d20_31 k1_55 rfl rfl rfl).trans ?_
        show G 16 0 [some (.ref 2), some (vI l1), some (vI l3)] [] (toM ρ τ) _ = _
        refine (c_can hT (by omega) (by omega)).trans ?_
        show G 20 34 (some (.ref 2) :: some (vI l1) :: some (vI l2) :: some (vI l3) :: t) [vI (tv (cnC ρ l1 l3))] (toM ρ τ) _ = _
        refine j_ifT_eq (tgt := 39) d20_34 (by decide) (fun q7 => ?_) (fun q7 => ?_)
        ·
          refine (g_iload_n d20_37 rfl).trans ?_
          exact g_iret d20_38 rfl rfl
        ·
          refine (j_iinc d20_39 rfl (by decide) rfl rfl).trans ?_
          refine (g_goto (tgt := 2) d20_42 (by decide)).trans ?_
          rfl
      ·
        refine (g_iload_n d20_37 rfl).trans ?_
        exact g_iret d20_38 rfl rfl
    ·
      refine (j_iinc d20_39 rfl (by decide) rfl rfl).trans ?_
      refine (g_goto (tgt := 2) d20_42 (by decide)).trans ?_
      rfl
set_option maxRecDepth 10000 in
theorem s158 {Q : Option Value → mm → Prop} (ρ : rm) (τ : Int64) (a1 : Int) (hT : TI ρ) (h_a1 : -1 ≤ a1 ∧ a1 < 10) : G 158 0 (some (.ref 51) :: some (vI a1) :: []) [] (toM ρ τ) Q = G 158 2 (some (.ref 51) :: some (vI a1) :: some (vI 0) :: []) [] (toM ρ τ) Q := by
  refine (j_iconst d158_0).trans ?_
  refine (g_istore_n d158_1 (by decide) rfl rfl).trans ?_
  rfl
set_option maxRecDepth 10000 in
theorem s158_2 {Q : Option Value → mm → Prop} (ρ : rm) (τ : Int64) (l1 : Int) (l2 : Int) (t : List (Option Value)) (hT : TI ρ) (h_l1 : -1 ≤ l1 ∧ l1 < 10) (h_l2 : 0 ≤ l2 ∧ l2 ≤ 10) : G 158 2 (some (.ref 51) :: some (vI l1) :: some (vI l2) :: t) [] (toM ρ τ) Q = (if (ρ 51 5) ≤ l2 then G 158 39 (some (.ref 51) :: some (vI l1) :: some (vI 0) :: t) [] (toM ρ τ) Q else (if l1 = (-1) then G 158 2 (some (.ref 51) :: some (vI l1) :: some (vI (l2 + 1)) :: t) [] (toM (rup ρ 65 l2 1) τ) Q else (if l2 = l1 then G 158 2 (some (.ref 51) :: some (vI l1) :: some (vI (l2 + 1)) :: t) [] (toM (rup ρ 65 l2 1) τ) Q else G 158 2 (some (.ref 51) :: some (vI l1) :: some (vI (l2 + 1)) :: t) [] (toM (rup ρ 65 l2 (-1)) τ) Q))) := by
  refine (g_iload_n d158_2 rfl).trans ?_
  refine (g_aload_n d158_3 rfl rfl).trans ?_
  refine (j_getI (v := ρ 51 5) d158_4 f10_73 sh_51 (by decide) rfl rfl).trans ?_
  have q1 : 0 ≤ ρ 51 5 ∧ ρ 51 5 ≤ 10 := hT.2 51 5
  refine j_icmp_ge (tgt := 37) d158_7 (by decide) (by omega) (by omega) (fun q2 => ?_) (fun q2 => ?_)
  ·
    refine (j_iconst d158_37).trans ?_
    refine (g_istore_n d158_38 (by decide) rfl rfl).trans ?_
    rfl
  ·
    refine (g_aload_n d158_10 rfl rfl).trans ?_
    refine (g_getR (q := 65) d158_11 f10_54 sh_51 (by decide) rfl).trans ?_
    refine (g_iload_n d158_14 rfl).trans ?_
    refine (g_iload_n d158_15 rfl).trans ?_
    refine (j_iconst d158_16).trans ?_
    refine j_icmp_eq (tgt := 25) d158_17 (by decide) (by omega) (by omega) (fun q3 => ?_) (fun q3 => ?_)
    ·
      refine (j_iconst d158_25).trans ?_
      refine (g_goto (tgt := 30) d158_26 (by decide)).trans ?_
      refine (j_iastoreB d158_30 sh_65 (by omega) (by decide)).trans ?_
      refine (j_iinc d158_31 rfl (by decide) rfl rfl).trans ?_
      refine (g_goto (tgt := 2) d158_34 (by decide)).trans ?_
      rfl
    ·
      refine (g_iload_n d158_20 rfl).trans ?_
      refine (g_iload_n d158_21 rfl).trans ?_
      refine j_icmp_ne (tgt := 29) d158_22 (by decide) (by omega) (by omega) (fun q4 => ?_) (fun q4 => ?_)
      ·
        refine (j_iconst d158_25).trans ?_
        refine (g_goto (tgt := 30) d158_26 (by decide)).trans ?_
        refine (j_iastoreB d158_30 sh_65 (by omega) (by decide)).trans ?_
        refine (j_iinc d158_31 rfl (by decide) rfl rfl).trans ?_
        refine (g_goto (tgt := 2) d158_34 (by decide)).trans ?_
        rfl
      ·
        refine (j_iconst d158_29).trans ?_
        refine (j_iastoreB d158_30 sh_65 (by omega) (by decide)).trans ?_
        refine (j_iinc d158_31 rfl (by decide) rfl rfl).trans ?_
        refine (g_goto (tgt := 2) d158_34 (by decide)).trans ?_
        rfl
set_option maxRecDepth 10000 in
theorem s158_39 {Q : Option Value → mm → Prop} (ρ : rm) (τ : Int64) (l1 : Int) (l2 : Int) (t : List (Option Value)) (hT : TI ρ) (h_l1 : -1 ≤ l1 ∧ l1 < 10) (h_l2 : 0 ≤ l2 ∧ l2 ≤ 10) : G 158 39 (some (.ref 51) :: some (vI l1) :: some (vI l2) :: t) [] (toM ρ τ) Q = (if (ρ 51 5) ≤ l2 then Q none (toM ρ τ) else G 158 49 (some (.ref 51) :: some (vI l1) :: some (vI l2) :: some (vI 0) :: t.tail) [] (toM ρ τ) Q) := by
  refine (g_iload_n d158_39 rfl).trans ?_
  refine (g_aload_n d158_40 rfl rfl).trans ?_
  refine (j_getI (v := ρ 51 5) d158_41 f10_73 sh_51 (by decide) rfl rfl).trans ?_
  have q1 : 0 ≤ ρ 51 5 ∧ ρ 51 5 ≤ 10 := hT.2 51 5
  refine j_icmp_ge (tgt := 145) d158_44 (by decide) (by omega) (by omega) (fun q2 => ?_) (fun q2 => ?_)
  ·
    exact g_ret d158_145 rfl
  ·
    refine (j_iconst d158_47).trans ?_
    refine (g_istore_n d158_48 (by decide) rfl rfl).trans ?_
    rfl
set_option maxRecDepth 10000 in
theorem s158_49 {Q : Option Value → mm → Prop} (ρ : rm) (τ : Int64) (l1 : Int) (l2 : Int) (l3 : Int) (t : List (Option Value)) (hT : TI ρ) (h_l1 : -1 ≤ l1 ∧ l1 < 10) (h_l2 : 0 ≤ l2 ∧ l2 < 10) (h_l3 : 0 ≤ l3 ∧ l3 ≤ 10) : G 158 49 (some (.ref 51) :: some (vI l1) :: some (vI l2) :: some (vI l3) :: t) [] (toM ρ τ) Q = (if (ρ 51 5) ≤ l3 then G 158 39 (some (.ref 51) :: some (vI l1) :: some (vI (l2 + 1)) :: some (vI l3) :: t) [] (toM ρ τ) Q else G 158 60 (some (.ref 51) :: some (vI l1) :: some (vI l2) :: some (vI l3) :: some (vI 0) :: t.tail) [] (toM ρ τ) Q) := by
  refine (g_iload_n d158_49 rfl).trans ?_
  refine (g_aload_n d158_50 rfl rfl).trans ?_
  refine (j_getI (v := ρ 51 5) d158_51 f10_73 sh_51 (by decide) rfl rfl).trans ?_
  have q1 : 0 ≤ ρ 51 5 ∧ ρ 51 5 ≤ 10 := hT.2 51 5
  refine j_icmp_ge (tgt := 139) d158_54 (by decide) (by omega) (by omega) (fun q2 => ?_) (fun q2 => ?_)
  ·
    refine (j_iinc d158_139 rfl (by decide) rfl rfl).trans ?_
    refine (g_goto (tgt := 39) d158_142 (by decide)).trans ?_
    rfl
  ·
    refine (j_iconst d158_57).trans ?_
    refine (g_istore d158_58 (by decide) rfl rfl).trans ?_
    rfl
set_option maxRecDepth 10000 in
theorem s158_60 {Q : Option Value → mm → Prop} (ρ : rm) (τ : Int64) (l1 : Int) (l2 : Int) (l3 : Int) (l4 : Int) (t : List (Option Value)) (hT : TI ρ) (h_l1 : -1 ≤ l1 ∧ l1 < 10) (h_l2 : 0 ≤ l2 ∧ l2 < 10) (h_l3 : 0 ≤ l3 ∧ l3 < 10) (h_l4 : 0 ≤ l4 ∧ l4 ≤ 10) : G 158 60 (some (.ref 51) :: some (vI l1) :: some (vI l2) :: some (vI l3) :: some (vI l4) :: t) [] (toM ρ τ) Q = (if (ρ 51 5) ≤ l4 then G 158 49 (some (.ref 51) :: some (vI l1) :: some (vI l2) :: some (vI (l3 + 1)) :: some (vI l4) :: t) [] (toM ρ τ) Q else (if l3 = l1 then G 158 60 (some (.ref 51) :: some (vI l1) :: some (vI l2) :: some (vI l3) :: some (vI (l4 + 1)) :: t) [] (toM ρ τ) Q else (if (ρ 65 l4) ≤ 0 then G 158 60 (some (.ref 51) :: some (vI l1) :: some (vI l2) :: some (vI l3) :: some (vI (l4 + 1)) :: t) [] (toM ρ τ) Q else (if cnM ρ l3 l4 then (if ((ρ 65 l4) + 1) ≤ (ρ 65 l3) then G 158 60 (some (.ref 51) :: some (vI l1) :: some (vI l2) :: some (vI l3) :: some (vI (l4 + 1)) :: t) [] (toM ρ τ) Q else G 158 60 (some (.ref 51) :: some (vI l1) :: some (vI l2) :: some (vI l3) :: some (vI (l4 + 1)) :: t) [] (toM (rup ρ 65 l3 ((ρ 65 l4) + 1)) τ) Q) else G 158 60 (some (.ref 51) :: some (vI l1) :: some (vI l2) :: some (vI l3) :: some (vI (l4 + 1)) :: t) [] (toM ρ τ) Q)))) := by
  refine (g_iload d158_60 rfl).trans ?_
  refine (g_aload_n d158_62 rfl rfl).trans ?_
  refine (j_getI (v := ρ 51 5) d158_63 f10_73 sh_51 (by decide) rfl rfl).trans ?_
  have q1 : 0 ≤ ρ 51 5 ∧ ρ 51 5 ≤ 10 := hT.2 51 5
  refine j_icmp_ge (tgt := 133) d158_66 (by decide) (by omega) (by omega) (fun q2 => ?_) (fun q2 => ?_)
  ·
    refine (j_iinc d158_133 rfl (by decide) rfl rfl).trans ?_
    refine (g_goto (tgt := 49) d158_136 (by decide)).trans ?_
    rfl
  ·
    refine (g_iload_n d158_69 rfl).trans ?_
    refine (g_iload_n d158_70 rfl).trans ?_
    refine j_icmp_eq (tgt := 127) d158_71 (by decide) (by omega) (by omega) (fun q3 => ?_) (fun q3 => ?_)
    ·
      refine (j_iinc d158_127 rfl (by decide) rfl rfl).trans ?_
      refine (g_goto (tgt := 60) d158_130 (by decide)).trans ?_
      rfl
    ·
      refine (g_aload_n d158_74 rfl rfl).trans ?_
      refine (g_getR (q := 65) d158_75 f10_54 sh_51 (by decide) rfl).trans ?_
      refine (g_iload d158_78 rfl).trans ?_
      refine (j_ialoadB (v := ρ 65 l4) d158_80 sh_65 (by omega) (by decide) rfl).trans ?_
      have q4 : (-1) ≤ ρ 65 l4 ∧ ρ 65 l4 ≤ 10 := hT.2 65 l4
      refine j_if_le (tgt := 127) d158_81 (by decide) (by omega) (fun q5 => ?_) (fun q5 => ?_)
      ·
        refine (j_iinc d158_127 rfl (by decide) rfl rfl).trans ?_
        refine (g_goto (tgt := 60) d158_130 (by decide)).trans ?_
        rfl
      ·
        refine (g_aload_n d158_84 rfl rfl).trans ?_
        refine (g_iload_n d158_85 rfl).trans ?_
        refine (g_iload d158_86 rfl).trans ?_
        refine (g_cV d158_88 k10_228 rfl rfl rfl).trans ?_
        show G 156 0 [some (.ref 51), some (vI l3), some (vI l4)] [] (toM ρ τ) _ = _
        refine (m_can hT (by omega) (by omega)).trans ?_
        show G 158 91 (some (.ref 51) :: some (vI l1) :: some (vI l2) :: some (vI l3) :: some (vI l4) :: t) [vI (tv (cnM ρ l3 l4))] (toM ρ τ) _ = _
        refine j_ifT_eq (tgt := 127) d158_91 (by decide) (fun q6 => ?_) (fun q6 => ?_)
        ·
          refine (g_aload_n d158_94 rfl rfl).trans ?_
          refine (g_getR (q := 65) d158_95 f10_54 sh_51 (by decide) rfl).trans ?_
          refine (g_iload d158_98 rfl).trans ?_
          refine (j_ialoadB (v := ρ 65 l4) d158_100 sh_65 (by omega) (by decide) rfl).trans ?_
          refine (j_iconst d158_101).trans ?_
          refine (j_iadd d158_102).trans ?_
          refine (g_aload_n d158_103 rfl rfl).trans ?_
          refine (g_getR (q := 65) d158_104 f10_54 sh_51 (by decide) rfl).trans ?_
          refine (g_iload_n d158_107 rfl).trans ?_
          refine (j_ialoadB (v := ρ 65 l3) d158_108 sh_65 (by omega) (by decide) rfl).trans ?_
          have q7 : (-1) ≤ ρ 65 l3 ∧ ρ 65 l3 ≤ 10 := hT.2 65 l3
          refine j_icmp_le (tgt := 127) d158_109 (by decide) (by omega) (by omega) (fun q8 => ?_) (fun q8 => ?_)
          ·
            refine (j_iinc d158_127 rfl (by decide) rfl rfl).trans ?_
            refine (g_goto (tgt := 60) d158_130 (by decide)).trans ?_
            rfl
          ·
            refine (g_aload_n d158_112 rfl rfl).trans ?_
            refine (g_getR (q := 65) d158_113 f10_54 sh_51 (by decide) rfl).trans ?_
            refine (g_iload_n d158_116 rfl).trans ?_
            refine (g_aload_n d158_117 rfl rfl).trans ?_
            refine (g_getR (q := 65) d158_118 f10_54 sh_51 (by decide) rfl).trans ?_
            refine (g_iload d158_121 rfl).trans ?_
            refine (j_ialoadB (v := ρ 65 l4) d158_123 sh_65 (by omega) (by decide) rfl).trans ?_
            refine (j_iconst d158_124).trans ?_
            refine (j_iadd d158_125).trans ?_
            refine (j_iastoreB d158_126 sh_65 (by omega) (by decide)).trans ?_
            refine (j_iinc d158_127 rfl (by decide) rfl rfl).trans ?_
            refine (g_goto (tgt := 60) d158_130 (by decide)).trans ?_
            rfl
        ·
          refine (j_iinc d158_127 rfl (by decide) rfl rfl).trans ?_
          refine (g_goto (tgt := 60) d158_130 (by decide)).trans ?_
          rfl
set_option maxRecDepth 10000 in
theorem s159 {Q : Option Value → mm → Prop} (ρ : rm) (τ : Int64) (a1 : Int) (a2 : Int) (hT : TI ρ) (h_a1 : SB a1) (h_a2 : SB a2) : G 159 0 (some (.ref 51) :: some (vI a1) :: some (vI a2) :: []) [] (toM ρ τ) Q = (if a1 = (-1) then (if (-1) ≤ a2 then G 158 0 [some (.ref 51), some (vI a1)] [] (toM ρ τ) (fun v μ2 => G 159 29 (some (.ref 51) :: some (vI a1) :: some (vI a2) :: []) (v.toList ++ []) μ2 Q) else Q (some (vI (-3))) (toM ρ τ)) else (if 0 ≤ a1 ∧ a1 ≤ ρ 51 5 - 1 then (if (-1) ≤ a2 then G 158 0 [some (.ref 51), some (vI a1)] [] (toM ρ τ) (fun v μ2 => G 159 29 (some (.ref 51) :: some (vI a1) :: some (vI a2) :: []) (v.toList ++ []) μ2 Q) else Q (some (vI (-3))) (toM ρ τ)) else Q (some (vI (-2))) (toM ρ τ))) := by
  refine (g_iload_n d159_0 rfl).trans ?_
  refine (j_iconst d159_1).trans ?_
  refine j_icmp_eq (tgt := 16) d159_2 (by decide) (by omega) (by omega) (fun q1 => ?_) (fun q1 => ?_)
  ·
    refine (g_iload_n d159_16 rfl).trans ?_
    refine (j_iconst d159_17).trans ?_
    refine j_icmp_ge (tgt := 24) d159_18 (by decide) (by omega) (by omega) (fun q2 => ?_) (fun q2 => ?_)
    ·
      refine (g_aload_n d159_24 rfl rfl).trans ?_
      refine (g_iload_n d159_25 rfl).trans ?_
      exact g_cV d159_26 k10_231 rfl rfl rfl
    ·
      refine (j_bipush d159_21 (by decide)).trans ?_
      exact g_iret d159_23 rfl rfl
  ·
    refine (g_aload_n d159_5 rfl rfl).trans ?_
    refine (g_iload_n d159_6 rfl).trans ?_
    refine (g_cV d159_7 k10_215 rfl rfl rfl).trans ?_
    show G 120 0 [some (.ref 51), some (vI a1)] [] (toM ρ τ) _ = _
    refine (m_isDeed hT.1 (by omega)).trans ?_
    show G 159 10 (some (.ref 51) :: some (vI a1) :: some (vI a2) :: []) [vI (tv (0 ≤ a1 ∧ a1 ≤ ρ 51 5 - 1))] (toM ρ τ) _ = _
    have q3 := (show 0 ≤ ρ 51 5 ∧ ρ 51 5 ≤ 10 from hT.2 51 5)
    refine j_ifT_ne (tgt := 16) d159_10 (by decide) (fun q4 => ?_) (fun q4 => ?_)
    ·
      refine (g_iload_n d159_16 rfl).trans ?_
      refine (j_iconst d159_17).trans ?_
      refine j_icmp_ge (tgt := 24) d159_18 (by decide) (by omega) (by omega) (fun q5 => ?_) (fun q5 => ?_)
      ·
        refine (g_aload_n d159_24 rfl rfl).trans ?_
        refine (g_iload_n d159_25 rfl).trans ?_
        exact g_cV d159_26 k10_231 rfl rfl rfl
      ·
        refine (j_bipush d159_21 (by decide)).trans ?_
        exact g_iret d159_23 rfl rfl
    ·
      refine (j_bipush d159_13 (by decide)).trans ?_
      exact g_iret d159_15 rfl rfl
set_option maxRecDepth 10000 in
theorem s159_29 {Q : Option Value → mm → Prop} (ρ : rm) (τ : Int64) (l1 : Int) (l2 : Int) (t : List (Option Value)) (hT : TI ρ) (h_l1 : SB l1) (h_l2 : SB l2) : G 159 29 (some (.ref 51) :: some (vI l1) :: some (vI l2) :: t) ((none : Option Value).toList ++ []) (toM ρ τ) Q = G 159 34 (some (.ref 51) :: some (vI l1) :: some (vI l2) :: some (vI 0) :: some (vI 0) :: t.tail.tail) [] (toM ρ τ) Q := by
  refine (j_iconst d159_29).trans ?_
  refine (g_istore_n d159_30 (by decide) rfl rfl).trans ?_
  refine (j_iconst d159_31).trans ?_
  refine (g_istore d159_32 (by decide) rfl rfl).trans ?_
  rfl
set_option maxRecDepth 10000 in
theorem s159_34 {Q : Option Value → mm → Prop} (ρ : rm) (τ : Int64) (l1 : Int) (l2 : Int) (l3 : Int) (l4 : Int) (t : List (Option Value)) (hT : TI ρ) (h_l1 : -1 ≤ l1 ∧ l1 < 10) (h_l2 : SB l2) (h_l3 : SM l3) (h_l4 : 0 ≤ l4 ∧ l4 ≤ 10) : G 159 34 (some (.ref 51) :: some (vI l1) :: some (vI l2) :: some (vI l3) :: some (vI l4) :: t) [] (toM ρ τ) Q = (if (ρ 51 5) ≤ l4 then (if l2 = (-1) then (if l2 = (-1) then Q (some (vI l3)) (toM ρ τ) else Q (some (vI (-1))) (toM ρ τ)) else (if l2 < l3 then G 159 99 (some (.ref 51) :: some (vI l1) :: some (vI l2) :: some (vI l3) :: some (vI (-1)) :: some (vI 0) :: t.tail) [] (toM ρ τ) Q else (if l2 = (-1) then Q (some (vI l3)) (toM ρ τ) else Q (some (vI (-1))) (toM ρ τ)))) else (if (ρ 65 l4) ≤ l3 then G 159 34 (some (.ref 51) :: some (vI l1) :: some (vI l2) :: some (vI l3) :: some (vI (l4 + 1)) :: t) [] (toM ρ τ) Q else G 159 34 (some (.ref 51) :: some (vI l1) :: some (vI l2) :: some (vI (ρ 65 l4)) :: some (vI (l4 + 1)) :: t) [] (toM ρ τ) Q)) := by
  refine (g_iload d159_34 rfl).trans ?_
  refine (g_aload_n d159_36 rfl rfl).trans ?_
  refine (j_getI (v := ρ 51 5) d159_37 f10_73 sh_51 (by decide) rfl rfl).trans ?_
  have q1 : 0 ≤ ρ 51 5 ∧ ρ 51 5 ≤ 10 := hT.2 51 5
  refine j_icmp_ge (tgt := 72) d159_40 (by decide) (by omega) (by omega) (fun q2 => ?_) (fun q2 => ?_)
  ·
    refine (g_iload_n d159_72 rfl).trans ?_
    refine (j_iconst d159_73).trans ?_
    refine j_icmp_eq (tgt := 82) d159_74 (by decide) (by omega) (by omega) (fun q3 => ?_) (fun q3 => ?_)
    ·
      refine (g_iload_n d159_82 rfl).trans ?_
      refine (j_iconst d159_83).trans ?_
      refine j_icmp_ne (tgt := 91) d159_84 (by decide) (by omega) (by omega) (fun q4 => ?_) (fun q4 => ?_)
      ·
        refine (g_iload_n d159_87 rfl).trans ?_
        refine (g_goto (tgt := 92) d159_88 (by decide)).trans ?_
        exact g_iret d159_92 rfl rfl
      ·
        refine (j_iconst d159_91).trans ?_
        exact g_iret d159_92 rfl rfl
    ·
      refine (g_iload_n d159_77 rfl).trans ?_
      refine (g_iload_n d159_78 rfl).trans ?_
      refine j_icmp_lt (tgt := 93) d159_79 (by decide) (by omega) (by omega) (fun q5 => ?_) (fun q5 => ?_)
      ·
        refine (j_iconst d159_93).trans ?_
        refine (g_istore d159_94 (by decide) rfl rfl).trans ?_
        refine (j_iconst d159_96).trans ?_
        refine (g_istore d159_97 (by decide) rfl rfl).trans ?_
        rfl
      ·
        refine (g_iload_n d159_82 rfl).trans ?_
        refine (j_iconst d159_83).trans ?_
        refine j_icmp_ne (tgt := 91) d159_84 (by decide) (by omega) (by omega) (fun q6 => ?_) (fun q6 => ?_)
        ·
          refine (g_iload_n d159_87 rfl).trans ?_
          refine (g_goto (tgt := 92) d159_88 (by decide)).trans ?_
          exact g_iret d159_92 rfl rfl
        ·
          refine (j_iconst d159_91).trans ?_
          exact g_iret d159_92 rfl rfl
  ·
    refine (g_aload_n d159_43 rfl rfl).trans ?_
    refine (g_getR (q := 65) d159_44 f10_54 sh_51 (by decide) rfl).trans ?_
    refine (g_iload d159_47 rfl).trans ?_
    refine (j_ialoadB (v := ρ 65 l4) d159_49 sh_65 (by omega) (by decide) rfl).trans ?_
    have q7 : (-1) ≤ ρ 65 l4 ∧ ρ 65 l4 ≤ 10 := hT.2 65 l4
    refine (g_iload_n d159_50 rfl).trans ?_
    refine j_icmp_le (tgt := 64) d159_51 (by decide) (by omega) (by omega) (fun q8 => ?_) (fun q8 => ?_)
    ·
      refine (g_iload_n d159_64 rfl).trans ?_
      refine (g_istore_n d159_65 (by decide) rfl rfl).trans ?_
      refine (j_iinc d159_66 rfl (by decide) rfl rfl).trans ?_
      refine (g_goto (tgt := 34) d159_69 (by decide)).trans ?_
      rfl
    ·
      refine (g_aload_n d159_54 rfl rfl).trans ?_
      refine (g_getR (q := 65) d159_55 f10_54 sh_51 (by decide) rfl).trans ?_
      refine (g_iload d159_58 rfl).trans ?_
      refine (j_ialoadB (v := ρ 65 l4) d159_60 sh_65 (by omega) (by decide) rfl).trans ?_
      refine (g_goto (tgt := 65) d159_61 (by decide)).trans ?_
      refine (g_istore_n d159_65 (by decide) rfl rfl).trans ?_
      refine (j_iinc d159_66 rfl (by decide) rfl rfl).trans ?_
      refine (g_goto (tgt := 34) d159_69 (by decide)).trans ?_
      rfl
set_option maxRecDepth 10000 in
theorem s159_99 {Q : Option Value → mm → Prop} (ρ : rm) (τ : Int64) (l1 : Int) (l2 : Int) (l3 : Int) (l4 : Int) (l5 : Int) (t : List (Option Value)) (hT : TI ρ) (h_l1 : -1 ≤ l1 ∧ l1 < 10) (h_l2 : 0 ≤ l2 ∧ l2 < 10) (h_l3 : SM l3) (h_l4 : -1 ≤ l4 ∧ l4 < 10) (h_l5 : 0 ≤ l5 ∧ l5 ≤ 10) : G 159 99 (some (.ref 51) :: some (vI l1) :: some (vI l2) :: some (vI l3) :: some (vI l4) :: some (vI l5) :: t) [] (toM ρ τ) Q = (if l2 < l5 then Q (some (vI l4)) (toM ρ τ) else G 159 116 (some (.ref 51) :: some (vI l1) :: some (vI l2) :: some (vI l3) :: some (vI l4) :: some (vI l5) :: some (vI (-1)) :: some (vI ((ρ 51 5) - 1)) :: t.tail.tail) [] (toM ρ τ) Q) := by
  refine (g_iload d159_99 rfl).trans ?_
  refine (g_iload_n d159_101 rfl).trans ?_
  refine j_icmp_gt (tgt := 177) d159_102 (by decide) (by omega) (by omega) (fun q1 => ?_) (fun q1 => ?_)
  ·
    refine (g_iload d159_177 rfl).trans ?_
    exact g_iret d159_179 rfl rfl
  ·
    refine (j_iconst d159_105).trans ?_
    refine (g_istore d159_106 (by decide) rfl rfl).trans ?_
    refine (g_aload_n d159_108 rfl rfl).trans ?_
    refine (j_getI (v := ρ 51 5) d159_109 f10_73 sh_51 (by decide) rfl rfl).trans ?_
    have q2 : 0 ≤ ρ 51 5 ∧ ρ 51 5 ≤ 10 := hT.2 51 5
    refine (j_iconst d159_112).trans ?_
    refine (j_isub d159_113).trans ?_
    refine (g_istore d159_114 (by decide) rfl rfl).trans ?_
    rfl
set_option maxRecDepth 10000 in
theorem s159_116 {Q : Option Value → mm → Prop} (ρ : rm) (τ : Int64) (l1 : Int) (l2 : Int) (l3 : Int) (l4 : Int) (l5 : Int) (l6 : Int) (l7 : Int) (t : List (Option Value)) (hT : TI ρ) (h_l1 : -1 ≤ l1 ∧ l1 < 10) (h_l2 : 0 ≤ l2 ∧ l2 < 10) (h_l3 : SM l3) (h_l4 : -1 ≤ l4 ∧ l4 < 10) (h_l5 : 0 ≤ l5 ∧ l5 < 10) (h_l6 : -1 ≤ l6 ∧ l6 < 10) (h_l7 : -1 ≤ l7 ∧ l7 < 10) : G 159 116 (some (.ref 51) :: some (vI l1) :: some (vI l2) :: some (vI l3) :: some (vI l4) :: some (vI l5) :: some (vI l6) :: some (vI l7) :: t) [] (toM ρ τ) Q = (if l7 < 0 then G 159 99 (some (.ref 51) :: some (vI l1) :: some (vI l2) :: some (vI l3) :: some (vI l6) :: some (vI (l5 + 1)) :: some (vI l6) :: some (vI l7) :: t) [] (toM ρ τ) Q else (if (ρ 65 l7) = (l3 - l5) then (if l4 = (-1) then G 159 116 (some (.ref 51) :: some (vI l1) :: some (vI l2) :: some (vI l3) :: some (vI l4) :: some (vI l5) :: some (vI l7) :: some (vI (l7 + (-1))) :: t) [] (toM ρ τ) Q else (if cnM ρ l4 l7 then G 159 116 (some (.ref 51) :: some (vI l1) :: some (vI l2) :: some (vI l3) :: some (vI l4) :: some (vI l5) :: some (vI l7) :: some (vI (l7 + (-1))) :: t) [] (toM ρ τ) Q else G 159 116 (some (.ref 51) :: some (vI l1) :: some (vI l2) :: some (vI l3) :: some (vI l4) :: some (vI l5) :: some (vI l6) :: some (vI (l7 + (-1))) :: t) [] (toM ρ τ) Q)) else G 159 116 (some (.ref 51) :: some (vI l1) :: some (vI l2) :: some (vI l3) :: some (vI l4) :: some (vI l5) :: some (vI l6) :: some (vI (l7 + (-1))) :: t) [] (toM ρ τ) Q)) := by
  refine (g_iload d159_116 rfl).trans ?_
  refine j_if_lt (tgt := 167) d159_118 (by decide) (by omega) (fun q1 => ?_) (fun q1 => ?_)
  ·
    refine (g_iload d159_167 rfl).trans ?_
    refine (g_istore d159_169 (by decide) rfl rfl).trans ?_
    refine (j_iinc d159_171 rfl (by decide) rfl rfl).trans ?_
    refine (g_goto (tgt := 99) d159_174 (by decide)).trans ?_
    rfl
  ·
    refine (g_aload_n d159_121 rfl rfl).trans ?_
    refine (g_getR (q := 65) d159_122 f10_54 sh_51 (by decide) rfl).trans ?_
    refine (g_iload d159_125 rfl).trans ?_
    refine (j_ialoadB (v := ρ 65 l7) d159_127 sh_65 (by omega) (by decide) rfl).trans ?_
    have q2 : (-1) ≤ ρ 65 l7 ∧ ρ 65 l7 ≤ 10 := hT.2 65 l7
    refine (g_iload_n d159_128 rfl).trans ?_
    refine (g_iload d159_129 rfl).trans ?_
    refine (j_isub d159_131).trans ?_
    refine j_icmp_ne (tgt := 157) d159_132 (by decide) (by omega) (by omega) (fun q3 => ?_) (fun q3 => ?_)
    ·
      refine (g_iload d159_135 rfl).trans ?_
      refine (j_iconst d159_137).trans ?_
      refine j_icmp_eq (tgt := 152) d159_138 (by decide) (by omega) (by omega) (fun q4 => ?_) (fun q4 => ?_)
      ·
        refine (g_iload d159_152 rfl).trans ?_
        refine (g_goto (tgt := 159) d159_154 (by decide)).trans ?_
        refine (g_istore d159_159 (by decide) rfl rfl).trans ?_
        refine (j_iinc d159_161 rfl (by decide) rfl rfl).trans ?_
        refine (g_goto (tgt := 116) d159_164 (by decide)).trans ?_
        rfl
      ·
        refine (g_aload_n d159_141 rfl rfl).trans ?_
        refine (g_iload d159_142 rfl).trans ?_
        refine (g_iload d159_144 rfl).trans ?_
        refine (g_cV d159_146 k10_228 rfl rfl rfl).trans ?_
        show G 156 0 [some (.ref 51), some (vI l4), some (vI l7)] [] (toM ρ τ) _ = _
        refine (m_can hT (by omega) (by omega)).trans ?_
        show G 159 149 (some (.ref 51) :: some (vI l1) :: some (vI l2) :: some (vI l3) :: some (vI l4) :: some (vI l5) :: some (vI l6) :: some (vI l7) :: t) [vI (tv (cnM ρ l4 l7))] (toM ρ τ) _ = _
        refine j_ifT_eq (tgt := 157) d159_149 (by decide) (fun q5 => ?_) (fun q5 => ?_)
        ·
          refine (g_iload d159_152 rfl).trans ?_
          refine (g_goto (tgt := 159) d159_154 (by decide)).trans ?_
          refine (g_istore d159_159 (by decide) rfl rfl).trans ?_
          refine (j_iinc d159_161 rfl (by decide) rfl rfl).trans ?_
          refine (g_goto (tgt := 116) d159_164 (by decide)).trans ?_
          rfl
        ·
          refine (g_iload d159_157 rfl).trans ?_
          refine (g_istore d159_159 (by decide) rfl rfl).trans ?_
          refine (j_iinc d159_161 rfl (by decide) rfl rfl).trans ?_
          refine (g_goto (tgt := 116) d159_164 (by decide)).trans ?_
          rfl
    ·
      refine (g_iload d159_157 rfl).trans ?_
      refine (g_istore d159_159 (by decide) rfl rfl).trans ?_
      refine (j_iinc d159_161 rfl (by decide) rfl rfl).trans ?_
      refine (g_goto (tgt := 116) d159_164 (by decide)).trans ?_
      rfl
